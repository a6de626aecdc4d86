section
-- ===== PART A: goes FIRST, ahead of the names: the tables' words, and 'selects' of the private methods out of them =====
/-- a private method of a class that the tables say can be made, by its rows of tables_1 -/
def lw_okq (q : MethodName × Nat) : Prop := (q.1.cls ≠ "java/lang/invoke/MethodHandle" ∧ q.1.cls ≠ "java/lang/invoke/VarHandle") ∧ Cond.instantiable q.1.cls q.2 ∈ tables_1 ∧ Cond.privateMethod q.1 ∈ tables_1 ∧ Cond.instanceMethod q.1 ∈ tables_1
theorem lw_p0 : lw_okq (⟨"FleetFloor", "isOpen", "()Z"⟩, 9) := ⟨⟨by decide +kernel, by decide +kernel⟩, List.mem_of_getElem? (i := 27) (by decide +kernel), List.mem_of_getElem? (i := 118) (by decide +kernel), List.mem_of_getElem? (i := 119) (by decide +kernel)⟩
theorem lw_p1 : lw_okq (⟨"FleetFloor", "vehicleNumbered", "(I)LFleetFloor$Vehicle;"⟩, 9) := ⟨⟨by decide +kernel, by decide +kernel⟩, List.mem_of_getElem? (i := 27) (by decide +kernel), List.mem_of_getElem? (i := 177) (by decide +kernel), List.mem_of_getElem? (i := 178) (by decide +kernel)⟩
theorem lw_p2 : lw_okq (⟨"java/util/ArrayList", "fastRemove", "([Ljava/lang/Object;I)V"⟩, 3) := ⟨⟨by decide +kernel, by decide +kernel⟩, List.mem_of_getElem? (i := 52) (by decide +kernel), List.mem_of_getElem? (i := 198) (by decide +kernel), List.mem_of_getElem? (i := 199) (by decide +kernel)⟩
theorem lw_p3 : lw_okq (⟨"java/util/ArrayList", "add", "(Ljava/lang/Object;[Ljava/lang/Object;I)V"⟩, 3) := ⟨⟨by decide +kernel, by decide +kernel⟩, List.mem_of_getElem? (i := 52) (by decide +kernel), List.mem_of_getElem? (i := 221) (by decide +kernel), List.mem_of_getElem? (i := 222) (by decide +kernel)⟩
theorem lw_p4 : lw_okq (⟨"java/util/ArrayList", "grow", "()[Ljava/lang/Object;"⟩, 3) := ⟨⟨by decide +kernel, by decide +kernel⟩, List.mem_of_getElem? (i := 52) (by decide +kernel), List.mem_of_getElem? (i := 225) (by decide +kernel), List.mem_of_getElem? (i := 226) (by decide +kernel)⟩
theorem lw_p5 : lw_okq (⟨"java/util/ArrayList", "grow", "(I)[Ljava/lang/Object;"⟩, 3) := ⟨⟨by decide +kernel, by decide +kernel⟩, List.mem_of_getElem? (i := 52) (by decide +kernel), List.mem_of_getElem? (i := 229) (by decide +kernel), List.mem_of_getElem? (i := 230) (by decide +kernel)⟩
theorem lw_p6 : lw_okq (⟨"java/lang/Throwable", "fillInStackTrace", "(I)Ljava/lang/Throwable;"⟩, 6) := ⟨⟨by decide +kernel, by decide +kernel⟩, List.mem_of_getElem? (i := 355) (by decide +kernel), List.mem_of_getElem? (i := 353) (by decide +kernel), List.mem_of_getElem? (i := 354) (by decide +kernel)⟩
theorem lw_p7 : lw_okq (⟨"FleetFloor$FloorMap", "countOf", "(I)I"⟩, 1) := ⟨⟨by decide +kernel, by decide +kernel⟩, List.mem_of_getElem? (i := 35) (by decide +kernel), List.mem_of_getElem? (i := 389) (by decide +kernel), List.mem_of_getElem? (i := 390) (by decide +kernel)⟩
theorem lw_p8 : lw_okq (⟨"FleetFloor$FloorMap", "isJoined", "()Z"⟩, 1) := ⟨⟨by decide +kernel, by decide +kernel⟩, List.mem_of_getElem? (i := 35) (by decide +kernel), List.mem_of_getElem? (i := 393) (by decide +kernel), List.mem_of_getElem? (i := 394) (by decide +kernel)⟩
theorem lw_p9 : lw_okq (⟨"FleetFloor", "isStation", "(I)Z"⟩, 9) := ⟨⟨by decide +kernel, by decide +kernel⟩, List.mem_of_getElem? (i := 27) (by decide +kernel), List.mem_of_getElem? (i := 578) (by decide +kernel), List.mem_of_getElem? (i := 579) (by decide +kernel)⟩
theorem lw_p10 : lw_okq (⟨"FleetFloor", "makeMoves", "()I"⟩, 9) := ⟨⟨by decide +kernel, by decide +kernel⟩, List.mem_of_getElem? (i := 27) (by decide +kernel), List.mem_of_getElem? (i := 614) (by decide +kernel), List.mem_of_getElem? (i := 615) (by decide +kernel)⟩
theorem lw_p11 : lw_okq (⟨"FleetFloor", "noteFinish", "(LFleetFloor$Vehicle;)V"⟩, 9) := ⟨⟨by decide +kernel, by decide +kernel⟩, List.mem_of_getElem? (i := 27) (by decide +kernel), List.mem_of_getElem? (i := 622) (by decide +kernel), List.mem_of_getElem? (i := 623) (by decide +kernel)⟩
theorem lw_p12 : lw_okq (⟨"FleetFloor", "sendDones", "()V"⟩, 9) := ⟨⟨by decide +kernel, by decide +kernel⟩, List.mem_of_getElem? (i := 27) (by decide +kernel), List.mem_of_getElem? (i := 626) (by decide +kernel), List.mem_of_getElem? (i := 627) (by decide +kernel)⟩
theorem lw_p13 : lw_okq (⟨"FleetFloor", "reportsNow", "(LFleetFloor$Vehicle;)Z"⟩, 9) := ⟨⟨by decide +kernel, by decide +kernel⟩, List.mem_of_getElem? (i := 27) (by decide +kernel), List.mem_of_getElem? (i := 630) (by decide +kernel), List.mem_of_getElem? (i := 631) (by decide +kernel)⟩
theorem lw_p14 : lw_okq (⟨"FleetFloor", "makePlans", "()V"⟩, 9) := ⟨⟨by decide +kernel, by decide +kernel⟩, List.mem_of_getElem? (i := 27) (by decide +kernel), List.mem_of_getElem? (i := 653) (by decide +kernel), List.mem_of_getElem? (i := 654) (by decide +kernel)⟩
theorem lw_p15 : lw_okq (⟨"FleetFloor", "lowestIdle", "()LFleetFloor$Vehicle;"⟩, 9) := ⟨⟨by decide +kernel, by decide +kernel⟩, List.mem_of_getElem? (i := 27) (by decide +kernel), List.mem_of_getElem? (i := 657) (by decide +kernel), List.mem_of_getElem? (i := 658) (by decide +kernel)⟩
def lw_privs_1 : List (MethodName × Nat) := [(⟨"FleetFloor", "isOpen", "()Z"⟩, 9), (⟨"FleetFloor", "vehicleNumbered", "(I)LFleetFloor$Vehicle;"⟩, 9), (⟨"java/util/ArrayList", "fastRemove", "([Ljava/lang/Object;I)V"⟩, 3), (⟨"java/util/ArrayList", "add", "(Ljava/lang/Object;[Ljava/lang/Object;I)V"⟩, 3), (⟨"java/util/ArrayList", "grow", "()[Ljava/lang/Object;"⟩, 3), (⟨"java/util/ArrayList", "grow", "(I)[Ljava/lang/Object;"⟩, 3), (⟨"java/lang/Throwable", "fillInStackTrace", "(I)Ljava/lang/Throwable;"⟩, 6), (⟨"FleetFloor$FloorMap", "countOf", "(I)I"⟩, 1), (⟨"FleetFloor$FloorMap", "isJoined", "()Z"⟩, 1), (⟨"FleetFloor", "isStation", "(I)Z"⟩, 9), (⟨"FleetFloor", "makeMoves", "()I"⟩, 9), (⟨"FleetFloor", "noteFinish", "(LFleetFloor$Vehicle;)V"⟩, 9), (⟨"FleetFloor", "sendDones", "()V"⟩, 9), (⟨"FleetFloor", "reportsNow", "(LFleetFloor$Vehicle;)Z"⟩, 9), (⟨"FleetFloor", "makePlans", "()V"⟩, 9), (⟨"FleetFloor", "lowestIdle", "()LFleetFloor$Vehicle;"⟩, 9)]
theorem lw_r1 : ∀ q ∈ lw_privs_1, lw_okq q := List.forall_mem_cons.mpr ⟨lw_p0, List.forall_mem_cons.mpr ⟨lw_p1, List.forall_mem_cons.mpr ⟨lw_p2, List.forall_mem_cons.mpr ⟨lw_p3, List.forall_mem_cons.mpr ⟨lw_p4, List.forall_mem_cons.mpr ⟨lw_p5, List.forall_mem_cons.mpr ⟨lw_p6, List.forall_mem_cons.mpr ⟨lw_p7, List.forall_mem_cons.mpr ⟨lw_p8, List.forall_mem_cons.mpr ⟨lw_p9, List.forall_mem_cons.mpr ⟨lw_p10, List.forall_mem_cons.mpr ⟨lw_p11, List.forall_mem_cons.mpr ⟨lw_p12, List.forall_mem_cons.mpr ⟨lw_p13, List.forall_mem_cons.mpr ⟨lw_p14, List.forall_mem_cons.mpr ⟨lw_p15, fun _ h => absurd h List.not_mem_nil⟩⟩⟩⟩⟩⟩⟩⟩⟩⟩⟩⟩⟩⟩⟩⟩
theorem lw_p16 : lw_okq (⟨"FleetFloor$Planner", "layOut", "(LFleetFloor$Vehicle;I)V"⟩, 13) := ⟨⟨by decide +kernel, by decide +kernel⟩, List.mem_of_getElem? (i := 521) (by decide +kernel), List.mem_of_getElem? (i := 669) (by decide +kernel), List.mem_of_getElem? (i := 670) (by decide +kernel)⟩
theorem lw_p17 : lw_okq (⟨"FleetFloor$Planner", "keepClearOf", "(LFleetFloor$Vehicle;I)V"⟩, 13) := ⟨⟨by decide +kernel, by decide +kernel⟩, List.mem_of_getElem? (i := 521) (by decide +kernel), List.mem_of_getElem? (i := 678) (by decide +kernel), List.mem_of_getElem? (i := 679) (by decide +kernel)⟩
theorem lw_p18 : lw_okq (⟨"FleetFloor$Planner", "spread", "()I"⟩, 13) := ⟨⟨by decide +kernel, by decide +kernel⟩, List.mem_of_getElem? (i := 521) (by decide +kernel), List.mem_of_getElem? (i := 697) (by decide +kernel), List.mem_of_getElem? (i := 698) (by decide +kernel)⟩
theorem lw_p19 : lw_okq (⟨"FleetFloor$Planner", "at", "(II)LFleetFloor$Cells;"⟩, 13) := ⟨⟨by decide +kernel, by decide +kernel⟩, List.mem_of_getElem? (i := 521) (by decide +kernel), List.mem_of_getElem? (i := 701) (by decide +kernel), List.mem_of_getElem? (i := 702) (by decide +kernel)⟩
theorem lw_p20 : lw_okq (⟨"FleetFloor$Planner", "stepOn", "(II)V"⟩, 13) := ⟨⟨by decide +kernel, by decide +kernel⟩, List.mem_of_getElem? (i := 521) (by decide +kernel), List.mem_of_getElem? (i := 709) (by decide +kernel), List.mem_of_getElem? (i := 710) (by decide +kernel)⟩
theorem lw_p21 : lw_okq (⟨"FleetFloor$Planner", "changeLeg", "(II)V"⟩, 13) := ⟨⟨by decide +kernel, by decide +kernel⟩, List.mem_of_getElem? (i := 521) (by decide +kernel), List.mem_of_getElem? (i := 715) (by decide +kernel), List.mem_of_getElem? (i := 716) (by decide +kernel)⟩
theorem lw_p22 : lw_okq (⟨"FleetFloor$Planner", "goalOf", "(I)I"⟩, 13) := ⟨⟨by decide +kernel, by decide +kernel⟩, List.mem_of_getElem? (i := 521) (by decide +kernel), List.mem_of_getElem? (i := 719) (by decide +kernel), List.mem_of_getElem? (i := 720) (by decide +kernel)⟩
theorem lw_p23 : lw_okq (⟨"FleetFloor$Planner", "prune", "()V"⟩, 13) := ⟨⟨by decide +kernel, by decide +kernel⟩, List.mem_of_getElem? (i := 521) (by decide +kernel), List.mem_of_getElem? (i := 724) (by decide +kernel), List.mem_of_getElem? (i := 725) (by decide +kernel)⟩
theorem lw_p24 : lw_okq (⟨"FleetFloor$Planner", "keepThoseBefore", "(II)V"⟩, 13) := ⟨⟨by decide +kernel, by decide +kernel⟩, List.mem_of_getElem? (i := 521) (by decide +kernel), List.mem_of_getElem? (i := 728) (by decide +kernel), List.mem_of_getElem? (i := 729) (by decide +kernel)⟩
theorem lw_p25 : lw_okq (⟨"FleetFloor$Planner", "follow", "()V"⟩, 13) := ⟨⟨by decide +kernel, by decide +kernel⟩, List.mem_of_getElem? (i := 521) (by decide +kernel), List.mem_of_getElem? (i := 732) (by decide +kernel), List.mem_of_getElem? (i := 733) (by decide +kernel)⟩
theorem lw_p26 : lw_okq (⟨"FleetFloor$Planner", "lowestStep", "(III)I"⟩, 13) := ⟨⟨by decide +kernel, by decide +kernel⟩, List.mem_of_getElem? (i := 521) (by decide +kernel), List.mem_of_getElem? (i := 736) (by decide +kernel), List.mem_of_getElem? (i := 737) (by decide +kernel)⟩
theorem lw_p27 : lw_okq (⟨"FleetFloor$Planner", "legAt", "(II)I"⟩, 13) := ⟨⟨by decide +kernel, by decide +kernel⟩, List.mem_of_getElem? (i := 521) (by decide +kernel), List.mem_of_getElem? (i := 743) (by decide +kernel), List.mem_of_getElem? (i := 744) (by decide +kernel)⟩
theorem lw_p28 : lw_okq (⟨"FleetFloor", "grantMoves", "()V"⟩, 9) := ⟨⟨by decide +kernel, by decide +kernel⟩, List.mem_of_getElem? (i := 27) (by decide +kernel), List.mem_of_getElem? (i := 764) (by decide +kernel), List.mem_of_getElem? (i := 765) (by decide +kernel)⟩
theorem lw_p29 : lw_okq (⟨"FleetFloor", "isFree", "(LFleetFloor$Vehicle;LFleetFloor$Move;)Z"⟩, 9) := ⟨⟨by decide +kernel, by decide +kernel⟩, List.mem_of_getElem? (i := 27) (by decide +kernel), List.mem_of_getElem? (i := 768) (by decide +kernel), List.mem_of_getElem? (i := 769) (by decide +kernel)⟩
theorem lw_p30 : lw_okq (⟨"FleetFloorModel", "isGood", "()Z"⟩, 40) := ⟨⟨by decide +kernel, by decide +kernel⟩, List.mem_of_getElem? (i := 777) (by decide +kernel), List.mem_of_getElem? (i := 920) (by decide +kernel), List.mem_of_getElem? (i := 921) (by decide +kernel)⟩
theorem lw_p31 : lw_okq (⟨"FleetFloorModel", "leadsToAll", "(I)Z"⟩, 40) := ⟨⟨by decide +kernel, by decide +kernel⟩, List.mem_of_getElem? (i := 777) (by decide +kernel), List.mem_of_getElem? (i := 924) (by decide +kernel), List.mem_of_getElem? (i := 925) (by decide +kernel)⟩
def lw_privs_2 : List (MethodName × Nat) := [(⟨"FleetFloor$Planner", "layOut", "(LFleetFloor$Vehicle;I)V"⟩, 13), (⟨"FleetFloor$Planner", "keepClearOf", "(LFleetFloor$Vehicle;I)V"⟩, 13), (⟨"FleetFloor$Planner", "spread", "()I"⟩, 13), (⟨"FleetFloor$Planner", "at", "(II)LFleetFloor$Cells;"⟩, 13), (⟨"FleetFloor$Planner", "stepOn", "(II)V"⟩, 13), (⟨"FleetFloor$Planner", "changeLeg", "(II)V"⟩, 13), (⟨"FleetFloor$Planner", "goalOf", "(I)I"⟩, 13), (⟨"FleetFloor$Planner", "prune", "()V"⟩, 13), (⟨"FleetFloor$Planner", "keepThoseBefore", "(II)V"⟩, 13), (⟨"FleetFloor$Planner", "follow", "()V"⟩, 13), (⟨"FleetFloor$Planner", "lowestStep", "(III)I"⟩, 13), (⟨"FleetFloor$Planner", "legAt", "(II)I"⟩, 13), (⟨"FleetFloor", "grantMoves", "()V"⟩, 9), (⟨"FleetFloor", "isFree", "(LFleetFloor$Vehicle;LFleetFloor$Move;)Z"⟩, 9), (⟨"FleetFloorModel", "isGood", "()Z"⟩, 40), (⟨"FleetFloorModel", "leadsToAll", "(I)Z"⟩, 40)]
theorem lw_r2 : ∀ q ∈ lw_privs_2, lw_okq q := List.forall_mem_cons.mpr ⟨lw_p16, List.forall_mem_cons.mpr ⟨lw_p17, List.forall_mem_cons.mpr ⟨lw_p18, List.forall_mem_cons.mpr ⟨lw_p19, List.forall_mem_cons.mpr ⟨lw_p20, List.forall_mem_cons.mpr ⟨lw_p21, List.forall_mem_cons.mpr ⟨lw_p22, List.forall_mem_cons.mpr ⟨lw_p23, List.forall_mem_cons.mpr ⟨lw_p24, List.forall_mem_cons.mpr ⟨lw_p25, List.forall_mem_cons.mpr ⟨lw_p26, List.forall_mem_cons.mpr ⟨lw_p27, List.forall_mem_cons.mpr ⟨lw_p28, List.forall_mem_cons.mpr ⟨lw_p29, List.forall_mem_cons.mpr ⟨lw_p30, List.forall_mem_cons.mpr ⟨lw_p31, fun _ h => absurd h List.not_mem_nil⟩⟩⟩⟩⟩⟩⟩⟩⟩⟩⟩⟩⟩⟩⟩⟩
theorem lw_p32 : lw_okq (⟨"FleetFloorModel", "throwing", "(ZZ)Z"⟩, 40) := ⟨⟨by decide +kernel, by decide +kernel⟩, List.mem_of_getElem? (i := 777) (by decide +kernel), List.mem_of_getElem? (i := 931) (by decide +kernel), List.mem_of_getElem? (i := 932) (by decide +kernel)⟩
theorem lw_p33 : lw_okq (⟨"FleetFloorModel", "isLetter", "(I)Z"⟩, 40) := ⟨⟨by decide +kernel, by decide +kernel⟩, List.mem_of_getElem? (i := 777) (by decide +kernel), List.mem_of_getElem? (i := 947) (by decide +kernel), List.mem_of_getElem? (i := 948) (by decide +kernel)⟩
theorem lw_p34 : lw_okq (⟨"FleetFloorModel", "remove", "(I)V"⟩, 40) := ⟨⟨by decide +kernel, by decide +kernel⟩, List.mem_of_getElem? (i := 777) (by decide +kernel), List.mem_of_getElem? (i := 955) (by decide +kernel), List.mem_of_getElem? (i := 956) (by decide +kernel)⟩
theorem lw_p35 : lw_okq (⟨"FleetFloorModel", "send", "(III)V"⟩, 40) := ⟨⟨by decide +kernel, by decide +kernel⟩, List.mem_of_getElem? (i := 777) (by decide +kernel), List.mem_of_getElem? (i := 967) (by decide +kernel), List.mem_of_getElem? (i := 968) (by decide +kernel)⟩
theorem lw_p36 : lw_okq (⟨"FleetFloorModel", "go", "(I)V"⟩, 40) := ⟨⟨by decide +kernel, by decide +kernel⟩, List.mem_of_getElem? (i := 777) (by decide +kernel), List.mem_of_getElem? (i := 975) (by decide +kernel), List.mem_of_getElem? (i := 976) (by decide +kernel)⟩
theorem lw_p37 : lw_okq (⟨"FleetFloorModel", "placeOf", "(II)I"⟩, 40) := ⟨⟨by decide +kernel, by decide +kernel⟩, List.mem_of_getElem? (i := 777) (by decide +kernel), List.mem_of_getElem? (i := 979) (by decide +kernel), List.mem_of_getElem? (i := 980) (by decide +kernel)⟩
theorem lw_p38 : lw_okq (⟨"FleetFloorModel", "isTurn", "(I)Z"⟩, 40) := ⟨⟨by decide +kernel, by decide +kernel⟩, List.mem_of_getElem? (i := 777) (by decide +kernel), List.mem_of_getElem? (i := 983) (by decide +kernel), List.mem_of_getElem? (i := 984) (by decide +kernel)⟩
theorem lw_p39 : lw_okq (⟨"FleetFloorModel", "planAll", "()V"⟩, 40) := ⟨⟨by decide +kernel, by decide +kernel⟩, List.mem_of_getElem? (i := 777) (by decide +kernel), List.mem_of_getElem? (i := 987) (by decide +kernel), List.mem_of_getElem? (i := 988) (by decide +kernel)⟩
theorem lw_p40 : lw_okq (⟨"FleetFloorModel", "idle", "()I"⟩, 40) := ⟨⟨by decide +kernel, by decide +kernel⟩, List.mem_of_getElem? (i := 777) (by decide +kernel), List.mem_of_getElem? (i := 991) (by decide +kernel), List.mem_of_getElem? (i := 992) (by decide +kernel)⟩
theorem lw_p41 : lw_okq (⟨"FleetFloorModel", "plans", "(II)Z"⟩, 40) := ⟨⟨by decide +kernel, by decide +kernel⟩, List.mem_of_getElem? (i := 777) (by decide +kernel), List.mem_of_getElem? (i := 995) (by decide +kernel), List.mem_of_getElem? (i := 996) (by decide +kernel)⟩
theorem lw_p42 : lw_okq (⟨"FleetFloorModel", "forbidAll", "()V"⟩, 40) := ⟨⟨by decide +kernel, by decide +kernel⟩, List.mem_of_getElem? (i := 777) (by decide +kernel), List.mem_of_getElem? (i := 999) (by decide +kernel), List.mem_of_getElem? (i := 1000) (by decide +kernel)⟩
theorem lw_p43 : lw_okq (⟨"FleetFloorModel", "forbid", "(I)V"⟩, 40) := ⟨⟨by decide +kernel, by decide +kernel⟩, List.mem_of_getElem? (i := 777) (by decide +kernel), List.mem_of_getElem? (i := 1003) (by decide +kernel), List.mem_of_getElem? (i := 1004) (by decide +kernel)⟩
theorem lw_p44 : lw_okq (⟨"FleetFloorModel", "spread", "(I)I"⟩, 40) := ⟨⟨by decide +kernel, by decide +kernel⟩, List.mem_of_getElem? (i := 777) (by decide +kernel), List.mem_of_getElem? (i := 1010) (by decide +kernel), List.mem_of_getElem? (i := 1011) (by decide +kernel)⟩
theorem lw_p45 : lw_okq (⟨"FleetFloorModel", "spreadFrom", "(IIII)V"⟩, 40) := ⟨⟨by decide +kernel, by decide +kernel⟩, List.mem_of_getElem? (i := 777) (by decide +kernel), List.mem_of_getElem? (i := 1017) (by decide +kernel), List.mem_of_getElem? (i := 1018) (by decide +kernel)⟩
theorem lw_p46 : lw_okq (⟨"FleetFloorModel", "goes", "(III)I"⟩, 40) := ⟨⟨by decide +kernel, by decide +kernel⟩, List.mem_of_getElem? (i := 777) (by decide +kernel), List.mem_of_getElem? (i := 1021) (by decide +kernel), List.mem_of_getElem? (i := 1022) (by decide +kernel)⟩
theorem lw_p47 : lw_okq (⟨"FleetFloorModel", "isOthers", "(I)Z"⟩, 40) := ⟨⟨by decide +kernel, by decide +kernel⟩, List.mem_of_getElem? (i := 777) (by decide +kernel), List.mem_of_getElem? (i := 1025) (by decide +kernel), List.mem_of_getElem? (i := 1026) (by decide +kernel)⟩
def lw_privs_3 : List (MethodName × Nat) := [(⟨"FleetFloorModel", "throwing", "(ZZ)Z"⟩, 40), (⟨"FleetFloorModel", "isLetter", "(I)Z"⟩, 40), (⟨"FleetFloorModel", "remove", "(I)V"⟩, 40), (⟨"FleetFloorModel", "send", "(III)V"⟩, 40), (⟨"FleetFloorModel", "go", "(I)V"⟩, 40), (⟨"FleetFloorModel", "placeOf", "(II)I"⟩, 40), (⟨"FleetFloorModel", "isTurn", "(I)Z"⟩, 40), (⟨"FleetFloorModel", "planAll", "()V"⟩, 40), (⟨"FleetFloorModel", "idle", "()I"⟩, 40), (⟨"FleetFloorModel", "plans", "(II)Z"⟩, 40), (⟨"FleetFloorModel", "forbidAll", "()V"⟩, 40), (⟨"FleetFloorModel", "forbid", "(I)V"⟩, 40), (⟨"FleetFloorModel", "spread", "(I)I"⟩, 40), (⟨"FleetFloorModel", "spreadFrom", "(IIII)V"⟩, 40), (⟨"FleetFloorModel", "goes", "(III)I"⟩, 40), (⟨"FleetFloorModel", "isOthers", "(I)Z"⟩, 40)]
theorem lw_r3 : ∀ q ∈ lw_privs_3, lw_okq q := List.forall_mem_cons.mpr ⟨lw_p32, List.forall_mem_cons.mpr ⟨lw_p33, List.forall_mem_cons.mpr ⟨lw_p34, List.forall_mem_cons.mpr ⟨lw_p35, List.forall_mem_cons.mpr ⟨lw_p36, List.forall_mem_cons.mpr ⟨lw_p37, List.forall_mem_cons.mpr ⟨lw_p38, List.forall_mem_cons.mpr ⟨lw_p39, List.forall_mem_cons.mpr ⟨lw_p40, List.forall_mem_cons.mpr ⟨lw_p41, List.forall_mem_cons.mpr ⟨lw_p42, List.forall_mem_cons.mpr ⟨lw_p43, List.forall_mem_cons.mpr ⟨lw_p44, List.forall_mem_cons.mpr ⟨lw_p45, List.forall_mem_cons.mpr ⟨lw_p46, List.forall_mem_cons.mpr ⟨lw_p47, fun _ h => absurd h List.not_mem_nil⟩⟩⟩⟩⟩⟩⟩⟩⟩⟩⟩⟩⟩⟩⟩⟩
theorem lw_p48 : lw_okq (⟨"FleetFloorModel", "doneAt", "(III)I"⟩, 40) := ⟨⟨by decide +kernel, by decide +kernel⟩, List.mem_of_getElem? (i := 777) (by decide +kernel), List.mem_of_getElem? (i := 1029) (by decide +kernel), List.mem_of_getElem? (i := 1030) (by decide +kernel)⟩
theorem lw_p49 : lw_okq (⟨"FleetFloorModel", "narrow", "(II)V"⟩, 40) := ⟨⟨by decide +kernel, by decide +kernel⟩, List.mem_of_getElem? (i := 777) (by decide +kernel), List.mem_of_getElem? (i := 1033) (by decide +kernel), List.mem_of_getElem? (i := 1034) (by decide +kernel)⟩
theorem lw_p50 : lw_okq (⟨"FleetFloorModel", "lowest", "(IIII)I"⟩, 40) := ⟨⟨by decide +kernel, by decide +kernel⟩, List.mem_of_getElem? (i := 777) (by decide +kernel), List.mem_of_getElem? (i := 1037) (by decide +kernel), List.mem_of_getElem? (i := 1038) (by decide +kernel)⟩
theorem lw_p51 : lw_okq (⟨"FleetFloorModel", "take", "(II)V"⟩, 40) := ⟨⟨by decide +kernel, by decide +kernel⟩, List.mem_of_getElem? (i := 777) (by decide +kernel), List.mem_of_getElem? (i := 1042) (by decide +kernel), List.mem_of_getElem? (i := 1043) (by decide +kernel)⟩
theorem lw_p52 : lw_okq (⟨"FleetFloorModel", "grant", "(I)V"⟩, 40) := ⟨⟨by decide +kernel, by decide +kernel⟩, List.mem_of_getElem? (i := 777) (by decide +kernel), List.mem_of_getElem? (i := 1046) (by decide +kernel), List.mem_of_getElem? (i := 1047) (by decide +kernel)⟩
theorem lw_p53 : lw_okq (⟨"FleetFloorModel", "isFree", "(III)Z"⟩, 40) := ⟨⟨by decide +kernel, by decide +kernel⟩, List.mem_of_getElem? (i := 777) (by decide +kernel), List.mem_of_getElem? (i := 1050) (by decide +kernel), List.mem_of_getElem? (i := 1051) (by decide +kernel)⟩
def lw_privs_4 : List (MethodName × Nat) := [(⟨"FleetFloorModel", "doneAt", "(III)I"⟩, 40), (⟨"FleetFloorModel", "narrow", "(II)V"⟩, 40), (⟨"FleetFloorModel", "lowest", "(IIII)I"⟩, 40), (⟨"FleetFloorModel", "take", "(II)V"⟩, 40), (⟨"FleetFloorModel", "grant", "(I)V"⟩, 40), (⟨"FleetFloorModel", "isFree", "(III)Z"⟩, 40)]
theorem lw_r4 : ∀ q ∈ lw_privs_4, lw_okq q := List.forall_mem_cons.mpr ⟨lw_p48, List.forall_mem_cons.mpr ⟨lw_p49, List.forall_mem_cons.mpr ⟨lw_p50, List.forall_mem_cons.mpr ⟨lw_p51, List.forall_mem_cons.mpr ⟨lw_p52, List.forall_mem_cons.mpr ⟨lw_p53, fun _ h => absurd h List.not_mem_nil⟩⟩⟩⟩⟩⟩
def lw_privs : List (MethodName × Nat) := lw_privs_1 ++ (lw_privs_2 ++ (lw_privs_3 ++ (lw_privs_4)))
def lw_tbl : List Cond := k2_sels lw_privs ++ tables_1
theorem lw_privs_ok : ∀ q ∈ lw_privs, lw_okq q := by
  show ∀ q ∈ lw_privs_1 ++ (lw_privs_2 ++ (lw_privs_3 ++ (lw_privs_4))), lw_okq q
  exact List.forall_mem_append.mpr ⟨lw_r1, List.forall_mem_append.mpr ⟨lw_r2, List.forall_mem_append.mpr ⟨lw_r3, lw_r4⟩⟩⟩
end
section
/-- the words that go with every call -/
def bg : List Cond := lw_tbl.filter goodWord
theorem bg_good {w : Cond} (h : w ∈ bg) : (w.onTables && w.keeps) = true ∨ ∃ ty, w = .arrayClass ty := good_of_word (List.mem_filter.mp h).2
theorem bg_m1 (k : Nat) {w : Cond} (h : tables_1_1[k]? = some w) (hg : goodWord w = true) : w ∈ bg := List.mem_filter.mpr ⟨List.mem_append_right _ (show w ∈ tables_1 from (List.mem_append_left _ (List.mem_of_getElem? h))), hg⟩
theorem tb_m1 (k : Nat) {w : Cond} (h : tables_1_1[k]? = some w) : w ∈ lw_tbl := List.mem_append_right _ (show w ∈ tables_1 from (List.mem_append_left _ (List.mem_of_getElem? h)))
theorem bg_m2 (k : Nat) {w : Cond} (h : tables_1_2[k]? = some w) (hg : goodWord w = true) : w ∈ bg := List.mem_filter.mpr ⟨List.mem_append_right _ (show w ∈ tables_1 from (List.mem_append_right _ (List.mem_append_left _ (List.mem_of_getElem? h)))), hg⟩
theorem tb_m2 (k : Nat) {w : Cond} (h : tables_1_2[k]? = some w) : w ∈ lw_tbl := List.mem_append_right _ (show w ∈ tables_1 from (List.mem_append_right _ (List.mem_append_left _ (List.mem_of_getElem? h))))
theorem bg_m3 (k : Nat) {w : Cond} (h : tables_1_3[k]? = some w) (hg : goodWord w = true) : w ∈ bg := List.mem_filter.mpr ⟨List.mem_append_right _ (show w ∈ tables_1 from (List.mem_append_right _ (List.mem_append_right _ (List.mem_append_left _ (List.mem_of_getElem? h))))), hg⟩
theorem tb_m3 (k : Nat) {w : Cond} (h : tables_1_3[k]? = some w) : w ∈ lw_tbl := List.mem_append_right _ (show w ∈ tables_1 from (List.mem_append_right _ (List.mem_append_right _ (List.mem_append_left _ (List.mem_of_getElem? h)))))
theorem bg_m4 (k : Nat) {w : Cond} (h : tables_1_4[k]? = some w) (hg : goodWord w = true) : w ∈ bg := List.mem_filter.mpr ⟨List.mem_append_right _ (show w ∈ tables_1 from (List.mem_append_right _ (List.mem_append_right _ (List.mem_append_right _ (List.mem_append_left _ (List.mem_of_getElem? h)))))), hg⟩
theorem tb_m4 (k : Nat) {w : Cond} (h : tables_1_4[k]? = some w) : w ∈ lw_tbl := List.mem_append_right _ (show w ∈ tables_1 from (List.mem_append_right _ (List.mem_append_right _ (List.mem_append_right _ (List.mem_append_left _ (List.mem_of_getElem? h))))))
theorem bg_m5 (k : Nat) {w : Cond} (h : tables_1_5[k]? = some w) (hg : goodWord w = true) : w ∈ bg := List.mem_filter.mpr ⟨List.mem_append_right _ (show w ∈ tables_1 from (List.mem_append_right _ (List.mem_append_right _ (List.mem_append_right _ (List.mem_append_right _ (List.mem_of_getElem? h)))))), hg⟩
theorem tb_m5 (k : Nat) {w : Cond} (h : tables_1_5[k]? = some w) : w ∈ lw_tbl := List.mem_append_right _ (show w ∈ tables_1 from (List.mem_append_right _ (List.mem_append_right _ (List.mem_append_right _ (List.mem_append_right _ (List.mem_of_getElem? h))))))
theorem bg_s (k : Nat) {w : Cond} (h : (k2_sels lw_privs)[k]? = some w) (hg : goodWord w = true) : w ∈ bg := List.mem_filter.mpr ⟨List.mem_append_left _ (List.mem_of_getElem? h), hg⟩
theorem tw_0 : (Jvm.Cond.initialized "FleetFloorLaw") ∈ bg := bg_m1 0 rfl rfl
theorem tw_1 : (Jvm.Cond.initialized "FleetFloor") ∈ bg := bg_m1 1 rfl rfl
theorem tw_2 : (Jvm.Cond.initialized "FleetFloor$FloorMap") ∈ bg := bg_m1 2 rfl rfl
theorem tw_3 : (Jvm.Cond.initialized "FleetFloor$Air") ∈ bg := bg_m1 3 rfl rfl
theorem tw_4 : (Jvm.Cond.initialized "java/util/AbstractCollection") ∈ bg := bg_m1 4 rfl rfl
theorem tw_5 : (Jvm.Cond.initialized "java/util/AbstractList") ∈ bg := bg_m1 5 rfl rfl
theorem tw_6 : (Jvm.Cond.initialized "java/util/ArrayList") ∈ bg := bg_m1 6 rfl rfl
theorem tw_7 : (Jvm.Cond.initialized "FleetFloorModel") ∈ bg := bg_m1 7 rfl rfl
theorem tw_8 : (Jvm.Cond.initialized "java/lang/Throwable") ∈ bg := bg_m1 8 rfl rfl
theorem tw_9 : (Jvm.Cond.initialized "java/lang/Exception") ∈ bg := bg_m1 9 rfl rfl
theorem tw_10 : (Jvm.Cond.initialized "java/lang/RuntimeException") ∈ bg := bg_m1 10 rfl rfl
theorem tw_11 : (Jvm.Cond.initialized "java/lang/IllegalStateException") ∈ bg := bg_m1 11 rfl rfl
theorem tw_12 : (Jvm.Cond.initialized "FleetFloor$Cells") ∈ bg := bg_m1 12 rfl rfl
theorem tw_13 : (Jvm.Cond.initialized "java/lang/IllegalArgumentException") ∈ bg := bg_m1 13 rfl rfl
theorem tw_14 : (Jvm.Cond.initialized "FleetFloor$Vehicle") ∈ bg := bg_m1 14 rfl rfl
theorem tw_15 : (Jvm.Cond.initialized "FleetFloor$Planner") ∈ bg := bg_m1 15 rfl rfl
theorem tw_16 : (Jvm.Cond.initialized "FleetFloor$Task") ∈ bg := bg_m1 16 rfl rfl
theorem tw_17 : (Jvm.Cond.initialized "jdk/internal/util/ArraysSupport") ∈ bg := bg_m1 17 rfl rfl
theorem tw_18 : (Jvm.Cond.initialized "java/lang/Math") ∈ bg := bg_m1 18 rfl rfl
theorem tw_19 : (Jvm.Cond.initialized "java/util/Arrays") ∈ bg := bg_m1 19 rfl rfl
theorem tw_20 : (Jvm.Cond.initialized "java/lang/System") ∈ bg := bg_m1 20 rfl rfl
theorem tw_21 : (Jvm.Cond.initialized "java/util/Objects") ∈ bg := bg_m1 21 rfl rfl
theorem tw_22 : (Jvm.Cond.initialized "jdk/internal/util/Preconditions") ∈ bg := bg_m1 22 rfl rfl
theorem tw_23 : (Jvm.Cond.initialized "java/lang/Record") ∈ bg := bg_m1 23 rfl rfl
theorem tw_24 : (Jvm.Cond.initialized "FleetFloor$Letter") ∈ bg := bg_m1 24 rfl rfl
theorem tw_25 : (Jvm.Cond.initialized "FleetFloor$Move") ∈ bg := bg_m1 25 rfl rfl
theorem tw_26 : (Jvm.Cond.classLink "FleetFloorLaw" (8 : Nat) "FleetFloor") ∈ bg := bg_m1 26 rfl rfl
theorem tw_27 : (Jvm.Cond.instantiable "FleetFloor" (9 : Nat)) ∈ bg := bg_m1 27 rfl rfl
theorem tw_28 : (Jvm.Cond.methodLink "FleetFloorLaw" (24 : Nat) ({ cls := "FleetFloor", name := "<init>", desc := "()V" } : Jvm.MethodName)) ∈ bg := bg_m1 28 rfl rfl
theorem tw_29 : (Jvm.Cond.instanceMethod ({ cls := "FleetFloor", name := "<init>", desc := "()V" } : Jvm.MethodName)) ∈ bg := bg_m1 29 rfl rfl
theorem tw_30 : (Jvm.Cond.code ({ cls := "FleetFloor", name := "<init>", desc := "()V" } : Jvm.MethodName) prog_1_method_1_code (1 : Nat) (Option.none : Option Jvm.ClassFile.FieldType)) ∈ bg := bg_m1 30 rfl rfl
theorem tw_31 : (Jvm.Cond.methodLink "FleetFloor" (3 : Nat) ({ cls := "java/lang/Object", name := "<init>", desc := "()V" } : Jvm.MethodName)) ∈ bg := bg_m1 31 rfl rfl
theorem tw_32 : (Jvm.Cond.instanceMethod ({ cls := "java/lang/Object", name := "<init>", desc := "()V" } : Jvm.MethodName)) ∈ bg := bg_m1 32 rfl rfl
theorem tw_33 : (Jvm.Cond.code ({ cls := "java/lang/Object", name := "<init>", desc := "()V" } : Jvm.MethodName) object_method_1_code (1 : Nat) (Option.none : Option Jvm.ClassFile.FieldType)) ∈ bg := bg_m1 33 rfl rfl
theorem tw_34 : (Jvm.Cond.classLink "FleetFloor" (9 : Nat) "FleetFloor$FloorMap") ∈ bg := bg_m1 34 rfl rfl
theorem tw_35 : (Jvm.Cond.instantiable "FleetFloor$FloorMap" (1 : Nat)) ∈ bg := bg_m1 35 rfl rfl
theorem tw_36 : (Jvm.Cond.methodLink "FleetFloor" (11 : Nat) ({ cls := "FleetFloor$FloorMap", name := "<init>", desc := "()V" } : Jvm.MethodName)) ∈ bg := bg_m1 36 rfl rfl
theorem tw_37 : (Jvm.Cond.instanceMethod ({ cls := "FleetFloor$FloorMap", name := "<init>", desc := "()V" } : Jvm.MethodName)) ∈ bg := bg_m1 37 rfl rfl
theorem tw_38 : (Jvm.Cond.code ({ cls := "FleetFloor$FloorMap", name := "<init>", desc := "()V" } : Jvm.MethodName) prog_4_method_1_code (1 : Nat) (Option.none : Option Jvm.ClassFile.FieldType)) ∈ bg := bg_m1 38 rfl rfl
theorem tw_39 : (Jvm.Cond.methodLink "FleetFloor$FloorMap" (3 : Nat) ({ cls := "java/lang/Object", name := "<init>", desc := "()V" } : Jvm.MethodName)) ∈ bg := bg_m1 39 rfl rfl
theorem tw_40 : (Jvm.Cond.fieldLink "FleetFloor$FloorMap" (9 : Nat) "FleetFloor$FloorMap" "kinds" "[I") ∈ bg := bg_m1 40 rfl rfl
theorem tw_41 : (Jvm.Cond.laysFinal "FleetFloor$FloorMap" "FleetFloor$FloorMap" "kinds" "[I") ∈ bg := bg_m1 41 rfl rfl
theorem tw_42 : (Jvm.Cond.soleField "FleetFloor$FloorMap" "kinds") ∈ bg := bg_m1 42 rfl rfl
theorem tw_43 : (Jvm.Cond.superclass "FleetFloor$FloorMap" "java/lang/Object") ∈ bg := bg_m1 43 rfl rfl
theorem tw_44 : (Jvm.Cond.arrayClass Jvm.ClassFile.FieldType.int) ∈ bg := bg_m1 44 rfl rfl
theorem tw_45 : (Jvm.Cond.classLink "FleetFloor" (16 : Nat) "FleetFloor$Air") ∈ bg := bg_m1 45 rfl rfl
theorem tw_46 : (Jvm.Cond.instantiable "FleetFloor$Air" (1 : Nat)) ∈ bg := bg_m1 46 rfl rfl
theorem tw_47 : (Jvm.Cond.methodLink "FleetFloor" (18 : Nat) ({ cls := "FleetFloor$Air", name := "<init>", desc := "()V" } : Jvm.MethodName)) ∈ bg := bg_m1 47 rfl rfl
theorem tw_48 : (Jvm.Cond.instanceMethod ({ cls := "FleetFloor$Air", name := "<init>", desc := "()V" } : Jvm.MethodName)) ∈ bg := bg_m1 48 rfl rfl
theorem tw_49 : (Jvm.Cond.code ({ cls := "FleetFloor$Air", name := "<init>", desc := "()V" } : Jvm.MethodName) prog_2_method_1_code (1 : Nat) (Option.none : Option Jvm.ClassFile.FieldType)) ∈ bg := bg_m1 49 rfl rfl
theorem tw_50 : (Jvm.Cond.methodLink "FleetFloor$Air" (3 : Nat) ({ cls := "java/lang/Object", name := "<init>", desc := "()V" } : Jvm.MethodName)) ∈ bg := bg_m1 50 rfl rfl
theorem tw_51 : (Jvm.Cond.classLink "FleetFloor$Air" (9 : Nat) "java/util/ArrayList") ∈ bg := bg_m1 51 rfl rfl
theorem tw_52 : (Jvm.Cond.instantiable "java/util/ArrayList" (3 : Nat)) ∈ bg := bg_m1 52 rfl rfl
theorem tw_53 : (Jvm.Cond.methodLink "FleetFloor$Air" (11 : Nat) ({ cls := "java/util/ArrayList", name := "<init>", desc := "()V" } : Jvm.MethodName)) ∈ bg := bg_m1 53 rfl rfl
theorem tw_54 : (Jvm.Cond.instanceMethod ({ cls := "java/util/ArrayList", name := "<init>", desc := "()V" } : Jvm.MethodName)) ∈ bg := bg_m1 54 rfl rfl
theorem tw_55 : (Jvm.Cond.code ({ cls := "java/util/ArrayList", name := "<init>", desc := "()V" } : Jvm.MethodName) prog_26_method_2_code (1 : Nat) (Option.none : Option Jvm.ClassFile.FieldType)) ∈ bg := bg_m1 55 rfl rfl
theorem tw_56 : (Jvm.Cond.methodLink "java/util/ArrayList" (1 : Nat) ({ cls := "java/util/AbstractList", name := "<init>", desc := "()V" } : Jvm.MethodName)) ∈ bg := bg_m1 56 rfl rfl
theorem tw_57 : (Jvm.Cond.instanceMethod ({ cls := "java/util/AbstractList", name := "<init>", desc := "()V" } : Jvm.MethodName)) ∈ bg := bg_m1 57 rfl rfl
theorem tw_58 : (Jvm.Cond.code ({ cls := "java/util/AbstractList", name := "<init>", desc := "()V" } : Jvm.MethodName) prog_25_method_1_code (1 : Nat) (Option.none : Option Jvm.ClassFile.FieldType)) ∈ bg := bg_m1 58 rfl rfl
theorem tw_59 : (Jvm.Cond.methodLink "java/util/AbstractList" (1 : Nat) ({ cls := "java/util/AbstractCollection", name := "<init>", desc := "()V" } : Jvm.MethodName)) ∈ bg := bg_m1 59 rfl rfl
theorem tw_60 : (Jvm.Cond.instanceMethod ({ cls := "java/util/AbstractCollection", name := "<init>", desc := "()V" } : Jvm.MethodName)) ∈ bg := bg_m1 60 rfl rfl
theorem tw_61 : (Jvm.Cond.code ({ cls := "java/util/AbstractCollection", name := "<init>", desc := "()V" } : Jvm.MethodName) prog_24_method_1_code (1 : Nat) (Option.none : Option Jvm.ClassFile.FieldType)) ∈ bg := bg_m1 61 rfl rfl
theorem tw_62 : (Jvm.Cond.methodLink "java/util/AbstractCollection" (1 : Nat) ({ cls := "java/lang/Object", name := "<init>", desc := "()V" } : Jvm.MethodName)) ∈ bg := bg_m1 62 rfl rfl
theorem tw_63 : (Jvm.Cond.fieldLink "java/util/ArrayList" (39 : Nat) "java/util/ArrayList" "DEFAULTCAPACITY_EMPTY_ELEMENTDATA" "[Ljava/lang/Object;") ∈ bg := bg_m1 63 rfl rfl
theorem tx_64 : (Jvm.Cond.laysStatic "java/util/ArrayList" "DEFAULTCAPACITY_EMPTY_ELEMENTDATA" "[Ljava/lang/Object;") ∈ lw_tbl := tb_m1 64 rfl
theorem tw_65 : (Jvm.Cond.fieldLink "java/util/ArrayList" (9 : Nat) "java/util/ArrayList" "elementData" "[Ljava/lang/Object;") ∈ bg := bg_m1 65 rfl rfl
theorem tw_66 : (Jvm.Cond.fieldLink "java/util/ArrayList" (48 : Nat) "java/util/ArrayList" "size" "I") ∈ bg := bg_m1 66 rfl rfl
theorem tw_67 : (Jvm.Cond.fieldLink "java/util/AbstractList" (7 : Nat) "java/util/AbstractList" "modCount" "I") ∈ bg := bg_m1 67 rfl rfl
theorem tw_68 : (Jvm.Cond.fieldLink "java/util/ArrayList" (63 : Nat) "java/util/ArrayList" "modCount" "I") ∈ bg := bg_m1 68 rfl rfl
theorem tw_69 : (Jvm.Cond.sameField "java/util/ArrayList" "java/util/AbstractList" "modCount" "I") ∈ bg := bg_m1 69 rfl rfl
theorem tw_70 : (Jvm.Cond.lays "java/util/ArrayList" "java/util/ArrayList" "elementData" "[Ljava/lang/Object;") ∈ bg := bg_m1 70 rfl rfl
theorem tw_71 : (Jvm.Cond.soleField "java/util/ArrayList" "elementData") ∈ bg := bg_m1 71 rfl rfl
theorem tw_72 : (Jvm.Cond.lays "java/util/ArrayList" "java/util/ArrayList" "size" "I") ∈ bg := bg_m1 72 rfl rfl
theorem tw_73 : (Jvm.Cond.soleField "java/util/ArrayList" "size") ∈ bg := bg_m1 73 rfl rfl
theorem tw_74 : (Jvm.Cond.lays "java/util/ArrayList" "java/util/AbstractList" "modCount" "I") ∈ bg := bg_m1 74 rfl rfl
theorem tw_75 : (Jvm.Cond.soleField "java/util/AbstractList" "modCount") ∈ bg := bg_m1 75 rfl rfl
theorem tw_76 : (Jvm.Cond.superclass "java/util/ArrayList" "java/util/AbstractList") ∈ bg := bg_m1 76 rfl rfl
theorem tw_77 : (Jvm.Cond.fieldLink "FleetFloor$Air" (12 : Nat) "FleetFloor$Air" "flying" "Ljava/util/ArrayList;") ∈ bg := bg_m1 77 rfl rfl
theorem tw_78 : (Jvm.Cond.laysFinal "FleetFloor$Air" "FleetFloor$Air" "flying" "Ljava/util/ArrayList;") ∈ bg := bg_m1 78 rfl rfl
theorem tw_79 : (Jvm.Cond.soleField "FleetFloor$Air" "flying") ∈ bg := bg_m1 79 rfl rfl
theorem tw_80 : (Jvm.Cond.superclass "FleetFloor$Air" "java/lang/Object") ∈ bg := bg_m1 80 rfl rfl
theorem tw_81 : (Jvm.Cond.classLink "FleetFloor" (23 : Nat) "java/util/ArrayList") ∈ bg := bg_m1 81 rfl rfl
theorem tw_82 : (Jvm.Cond.methodLink "FleetFloor" (25 : Nat) ({ cls := "java/util/ArrayList", name := "<init>", desc := "()V" } : Jvm.MethodName)) ∈ bg := bg_m1 82 rfl rfl
theorem tw_83 : (Jvm.Cond.classLink "FleetFloor" (30 : Nat) "FleetFloor$Vehicle") ∈ bg := bg_m1 83 rfl rfl
theorem tx_84 : (Jvm.Cond.arrayOver (Jvm.ClassFile.FieldType.object "FleetFloor$Vehicle")) ∈ lw_tbl := tb_m1 84 rfl
theorem tw_85 : (Jvm.Cond.fieldLink "FleetFloor" (12 : Nat) "FleetFloor" "map" "LFleetFloor$FloorMap;") ∈ bg := bg_m1 85 rfl rfl
theorem tw_86 : (Jvm.Cond.fieldLink "FleetFloor" (19 : Nat) "FleetFloor" "air" "LFleetFloor$Air;") ∈ bg := bg_m1 86 rfl rfl
theorem tw_87 : (Jvm.Cond.fieldLink "FleetFloor" (26 : Nat) "FleetFloor" "tasks" "Ljava/util/ArrayList;") ∈ bg := bg_m1 87 rfl rfl
theorem tw_88 : (Jvm.Cond.fieldLink "FleetFloor" (32 : Nat) "FleetFloor" "vehicles" "[LFleetFloor$Vehicle;") ∈ bg := bg_m1 88 rfl rfl
theorem tw_89 : (Jvm.Cond.fieldLink "FleetFloor" (36 : Nat) "FleetFloor" "stations" "[I") ∈ bg := bg_m1 89 rfl rfl
theorem tw_90 : (Jvm.Cond.fieldLink "FleetFloor" (40 : Nat) "FleetFloor" "planner" "LFleetFloor$Planner;") ∈ bg := bg_m1 90 rfl rfl
theorem tw_91 : (Jvm.Cond.fieldLink "FleetFloor" (44 : Nat) "FleetFloor" "planned" "I") ∈ bg := bg_m1 91 rfl rfl
theorem tw_92 : (Jvm.Cond.fieldLink "FleetFloor" (48 : Nat) "FleetFloor" "tickToCome" "I") ∈ bg := bg_m1 92 rfl rfl
theorem tw_93 : (Jvm.Cond.fieldLink "FleetFloor" (51 : Nat) "FleetFloor" "planClock" "I") ∈ bg := bg_m1 93 rfl rfl
theorem tw_94 : (Jvm.Cond.laysFinal "FleetFloor" "FleetFloor" "map" "LFleetFloor$FloorMap;") ∈ bg := bg_m1 94 rfl rfl
theorem tw_95 : (Jvm.Cond.soleField "FleetFloor" "map") ∈ bg := bg_m1 95 rfl rfl
theorem tw_96 : (Jvm.Cond.laysFinal "FleetFloor" "FleetFloor" "air" "LFleetFloor$Air;") ∈ bg := bg_m1 96 rfl rfl
theorem tw_97 : (Jvm.Cond.soleField "FleetFloor" "air") ∈ bg := bg_m1 97 rfl rfl
theorem tw_98 : (Jvm.Cond.laysFinal "FleetFloor" "FleetFloor" "tasks" "Ljava/util/ArrayList;") ∈ bg := bg_m1 98 rfl rfl
theorem tw_99 : (Jvm.Cond.soleField "FleetFloor" "tasks") ∈ bg := bg_m1 99 rfl rfl
theorem tw_100 : (Jvm.Cond.lays "FleetFloor" "FleetFloor" "vehicles" "[LFleetFloor$Vehicle;") ∈ bg := bg_m1 100 rfl rfl
theorem tw_101 : (Jvm.Cond.soleField "FleetFloor" "vehicles") ∈ bg := bg_m1 101 rfl rfl
theorem tw_102 : (Jvm.Cond.lays "FleetFloor" "FleetFloor" "stations" "[I") ∈ bg := bg_m1 102 rfl rfl
theorem tw_103 : (Jvm.Cond.soleField "FleetFloor" "stations") ∈ bg := bg_m1 103 rfl rfl
theorem tw_104 : (Jvm.Cond.lays "FleetFloor" "FleetFloor" "planner" "LFleetFloor$Planner;") ∈ bg := bg_m1 104 rfl rfl
theorem tw_105 : (Jvm.Cond.soleField "FleetFloor" "planner") ∈ bg := bg_m1 105 rfl rfl
theorem tw_106 : (Jvm.Cond.lays "FleetFloor" "FleetFloor" "planned" "I") ∈ bg := bg_m1 106 rfl rfl
theorem tw_107 : (Jvm.Cond.soleField "FleetFloor" "planned") ∈ bg := bg_m1 107 rfl rfl
theorem tw_108 : (Jvm.Cond.lays "FleetFloor" "FleetFloor" "tickToCome" "I") ∈ bg := bg_m1 108 rfl rfl
theorem tw_109 : (Jvm.Cond.soleField "FleetFloor" "tickToCome") ∈ bg := bg_m1 109 rfl rfl
theorem tw_110 : (Jvm.Cond.lays "FleetFloor" "FleetFloor" "planClock" "I") ∈ bg := bg_m1 110 rfl rfl
theorem tw_111 : (Jvm.Cond.soleField "FleetFloor" "planClock") ∈ bg := bg_m1 111 rfl rfl
theorem tw_112 : (Jvm.Cond.superclass "FleetFloor" "java/lang/Object") ∈ bg := bg_m1 112 rfl rfl
theorem tw_113 : (Jvm.Cond.methodLink "FleetFloorLaw" (28 : Nat) ({ cls := "FleetFloor", name := "cell", desc := "(II)Z" } : Jvm.MethodName)) ∈ bg := bg_m1 113 rfl rfl
theorem tw_114 : (Jvm.Cond.instanceMethod ({ cls := "FleetFloor", name := "cell", desc := "(II)Z" } : Jvm.MethodName)) ∈ bg := bg_m1 114 rfl rfl
theorem tw_115 : (Jvm.Cond.selects "FleetFloor" ({ cls := "FleetFloor", name := "cell", desc := "(II)Z" } : Jvm.MethodName) ({ cls := "FleetFloor", name := "cell", desc := "(II)Z" } : Jvm.MethodName)) ∈ bg := bg_m1 115 rfl rfl
theorem tw_116 : (Jvm.Cond.code ({ cls := "FleetFloor", name := "cell", desc := "(II)Z" } : Jvm.MethodName) prog_1_method_2_code (3 : Nat) (Option.some Jvm.ClassFile.FieldType.boolean)) ∈ bg := bg_m1 116 rfl rfl
theorem tw_117 : (Jvm.Cond.methodLink "FleetFloor" (54 : Nat) ({ cls := "FleetFloor", name := "isOpen", desc := "()Z" } : Jvm.MethodName)) ∈ bg := bg_m1 117 rfl rfl
theorem tx_118 : (Jvm.Cond.privateMethod ({ cls := "FleetFloor", name := "isOpen", desc := "()Z" } : Jvm.MethodName)) ∈ lw_tbl := tb_m1 118 rfl
theorem tw_119 : (Jvm.Cond.instanceMethod ({ cls := "FleetFloor", name := "isOpen", desc := "()Z" } : Jvm.MethodName)) ∈ bg := bg_m1 119 rfl rfl
theorem tw_120 : (Jvm.Cond.code ({ cls := "FleetFloor", name := "isOpen", desc := "()Z" } : Jvm.MethodName) prog_1_method_15_code (1 : Nat) (Option.some Jvm.ClassFile.FieldType.boolean)) ∈ bg := bg_m1 120 rfl rfl
theorem tw_121 : (Jvm.Cond.methodLink "FleetFloor" (58 : Nat) ({ cls := "FleetFloor$FloorMap", name := "change", desc := "(II)Z" } : Jvm.MethodName)) ∈ bg := bg_m1 121 rfl rfl
theorem tw_122 : (Jvm.Cond.instanceMethod ({ cls := "FleetFloor$FloorMap", name := "change", desc := "(II)Z" } : Jvm.MethodName)) ∈ bg := bg_m1 122 rfl rfl
theorem tw_123 : (Jvm.Cond.selects "FleetFloor$FloorMap" ({ cls := "FleetFloor$FloorMap", name := "change", desc := "(II)Z" } : Jvm.MethodName) ({ cls := "FleetFloor$FloorMap", name := "change", desc := "(II)Z" } : Jvm.MethodName)) ∈ bg := bg_m1 123 rfl rfl
theorem tw_124 : (Jvm.Cond.code ({ cls := "FleetFloor$FloorMap", name := "change", desc := "(II)Z" } : Jvm.MethodName) prog_4_method_2_code (3 : Nat) (Option.some Jvm.ClassFile.FieldType.boolean)) ∈ bg := bg_m1 124 rfl rfl
theorem tw_125 : (Jvm.Cond.methodLink "FleetFloorLaw" (49 : Nat) ({ cls := "FleetFloor", name := "letters", desc := "()I" } : Jvm.MethodName)) ∈ bg := bg_m1 125 rfl rfl
theorem tw_126 : (Jvm.Cond.instanceMethod ({ cls := "FleetFloor", name := "letters", desc := "()I" } : Jvm.MethodName)) ∈ bg := bg_m1 126 rfl rfl
theorem tw_127 : (Jvm.Cond.selects "FleetFloor" ({ cls := "FleetFloor", name := "letters", desc := "()I" } : Jvm.MethodName) ({ cls := "FleetFloor", name := "letters", desc := "()I" } : Jvm.MethodName)) ∈ bg := bg_m1 127 rfl rfl
theorem tw_128 : (Jvm.Cond.code ({ cls := "FleetFloor", name := "letters", desc := "()I" } : Jvm.MethodName) prog_1_method_6_code (1 : Nat) (Option.some Jvm.ClassFile.FieldType.int)) ∈ bg := bg_m1 128 rfl rfl
theorem tw_129 : (Jvm.Cond.methodLink "FleetFloor" (129 : Nat) ({ cls := "FleetFloor$Air", name := "size", desc := "()I" } : Jvm.MethodName)) ∈ bg := bg_m1 129 rfl rfl
theorem tw_130 : (Jvm.Cond.instanceMethod ({ cls := "FleetFloor$Air", name := "size", desc := "()I" } : Jvm.MethodName)) ∈ bg := bg_m1 130 rfl rfl
theorem tw_131 : (Jvm.Cond.selects "FleetFloor$Air" ({ cls := "FleetFloor$Air", name := "size", desc := "()I" } : Jvm.MethodName) ({ cls := "FleetFloor$Air", name := "size", desc := "()I" } : Jvm.MethodName)) ∈ bg := bg_m1 131 rfl rfl
theorem tw_132 : (Jvm.Cond.code ({ cls := "FleetFloor$Air", name := "size", desc := "()I" } : Jvm.MethodName) prog_2_method_2_code (1 : Nat) (Option.some Jvm.ClassFile.FieldType.int)) ∈ bg := bg_m1 132 rfl rfl
theorem tw_133 : (Jvm.Cond.methodLink "FleetFloor$Air" (18 : Nat) ({ cls := "java/util/ArrayList", name := "size", desc := "()I" } : Jvm.MethodName)) ∈ bg := bg_m1 133 rfl rfl
theorem tw_134 : (Jvm.Cond.instanceMethod ({ cls := "java/util/ArrayList", name := "size", desc := "()I" } : Jvm.MethodName)) ∈ bg := bg_m1 134 rfl rfl
theorem tw_135 : (Jvm.Cond.selects "java/util/ArrayList" ({ cls := "java/util/ArrayList", name := "size", desc := "()I" } : Jvm.MethodName) ({ cls := "java/util/ArrayList", name := "size", desc := "()I" } : Jvm.MethodName)) ∈ bg := bg_m1 135 rfl rfl
theorem tw_136 : (Jvm.Cond.code ({ cls := "java/util/ArrayList", name := "size", desc := "()I" } : Jvm.MethodName) prog_26_method_8_code (1 : Nat) (Option.some Jvm.ClassFile.FieldType.int)) ∈ bg := bg_m1 136 rfl rfl
theorem tw_137 : (Jvm.Cond.methodLink "FleetFloorLaw" (53 : Nat) ({ cls := "FleetFloor", name := "letter", desc := "(II)I" } : Jvm.MethodName)) ∈ bg := bg_m1 137 rfl rfl
theorem tw_138 : (Jvm.Cond.instanceMethod ({ cls := "FleetFloor", name := "letter", desc := "(II)I" } : Jvm.MethodName)) ∈ bg := bg_m1 138 rfl rfl
theorem tw_139 : (Jvm.Cond.selects "FleetFloor" ({ cls := "FleetFloor", name := "letter", desc := "(II)I" } : Jvm.MethodName) ({ cls := "FleetFloor", name := "letter", desc := "(II)I" } : Jvm.MethodName)) ∈ bg := bg_m1 139 rfl rfl
theorem tw_140 : (Jvm.Cond.code ({ cls := "FleetFloor", name := "letter", desc := "(II)I" } : Jvm.MethodName) prog_1_method_7_code (4 : Nat) (Option.some Jvm.ClassFile.FieldType.int)) ∈ bg := bg_m1 140 rfl rfl
theorem tw_141 : (Jvm.Cond.methodLink "FleetFloor" (130 : Nat) ({ cls := "FleetFloor$Air", name := "look", desc := "(I)LFleetFloor$Letter;" } : Jvm.MethodName)) ∈ bg := bg_m1 141 rfl rfl
theorem tw_142 : (Jvm.Cond.instanceMethod ({ cls := "FleetFloor$Air", name := "look", desc := "(I)LFleetFloor$Letter;" } : Jvm.MethodName)) ∈ bg := bg_m1 142 rfl rfl
theorem tw_143 : (Jvm.Cond.selects "FleetFloor$Air" ({ cls := "FleetFloor$Air", name := "look", desc := "(I)LFleetFloor$Letter;" } : Jvm.MethodName) ({ cls := "FleetFloor$Air", name := "look", desc := "(I)LFleetFloor$Letter;" } : Jvm.MethodName)) ∈ bg := bg_m1 143 rfl rfl
theorem tw_144 : (Jvm.Cond.code ({ cls := "FleetFloor$Air", name := "look", desc := "(I)LFleetFloor$Letter;" } : Jvm.MethodName) prog_2_method_3_code (2 : Nat) (Option.some (Jvm.ClassFile.FieldType.object "FleetFloor$Letter"))) ∈ bg := bg_m1 144 rfl rfl
theorem tw_145 : (Jvm.Cond.methodLink "FleetFloor$Air" (22 : Nat) ({ cls := "java/util/ArrayList", name := "get", desc := "(I)Ljava/lang/Object;" } : Jvm.MethodName)) ∈ bg := bg_m1 145 rfl rfl
theorem tw_146 : (Jvm.Cond.instanceMethod ({ cls := "java/util/ArrayList", name := "get", desc := "(I)Ljava/lang/Object;" } : Jvm.MethodName)) ∈ bg := bg_m1 146 rfl rfl
theorem tw_147 : (Jvm.Cond.selects "java/util/ArrayList" ({ cls := "java/util/ArrayList", name := "get", desc := "(I)Ljava/lang/Object;" } : Jvm.MethodName) ({ cls := "java/util/ArrayList", name := "get", desc := "(I)Ljava/lang/Object;" } : Jvm.MethodName)) ∈ bg := bg_m1 147 rfl rfl
theorem tw_148 : (Jvm.Cond.code ({ cls := "java/util/ArrayList", name := "get", desc := "(I)Ljava/lang/Object;" } : Jvm.MethodName) prog_26_method_20_code (2 : Nat) (Option.some (Jvm.ClassFile.FieldType.object "java/lang/Object"))) ∈ bg := bg_m1 148 rfl rfl
theorem tw_149 : (Jvm.Cond.methodLink "java/util/ArrayList" (118 : Nat) ({ cls := "java/util/Objects", name := "checkIndex", desc := "(II)I" } : Jvm.MethodName)) ∈ bg := bg_m1 149 rfl rfl
theorem tw_150 : (Jvm.Cond.static ({ cls := "java/util/Objects", name := "checkIndex", desc := "(II)I" } : Jvm.MethodName)) ∈ bg := bg_m1 150 rfl rfl
theorem tw_151 : (Jvm.Cond.code ({ cls := "java/util/Objects", name := "checkIndex", desc := "(II)I" } : Jvm.MethodName) prog_30_method_17_code (2 : Nat) (Option.some Jvm.ClassFile.FieldType.int)) ∈ bg := bg_m1 151 rfl rfl
theorem tw_152 : (Jvm.Cond.methodLink "java/util/Objects" (105 : Nat) ({ cls := "jdk/internal/util/Preconditions", name := "checkIndex", desc := "(IILjava/util/function/BiFunction;)I" } : Jvm.MethodName)) ∈ bg := bg_m1 152 rfl rfl
theorem tw_153 : (Jvm.Cond.static ({ cls := "jdk/internal/util/Preconditions", name := "checkIndex", desc := "(IILjava/util/function/BiFunction;)I" } : Jvm.MethodName)) ∈ bg := bg_m1 153 rfl rfl
theorem tw_154 : (Jvm.Cond.code ({ cls := "jdk/internal/util/Preconditions", name := "checkIndex", desc := "(IILjava/util/function/BiFunction;)I" } : Jvm.MethodName) prog_34_method_11_code (3 : Nat) (Option.some Jvm.ClassFile.FieldType.int)) ∈ bg := bg_m1 154 rfl rfl
theorem tw_155 : (Jvm.Cond.methodLink "java/util/ArrayList" (123 : Nat) ({ cls := "java/util/ArrayList", name := "elementData", desc := "(I)Ljava/lang/Object;" } : Jvm.MethodName)) ∈ bg := bg_m1 155 rfl rfl
theorem tw_156 : (Jvm.Cond.instanceMethod ({ cls := "java/util/ArrayList", name := "elementData", desc := "(I)Ljava/lang/Object;" } : Jvm.MethodName)) ∈ bg := bg_m1 156 rfl rfl
theorem tw_157 : (Jvm.Cond.selects "java/util/ArrayList" ({ cls := "java/util/ArrayList", name := "elementData", desc := "(I)Ljava/lang/Object;" } : Jvm.MethodName) ({ cls := "java/util/ArrayList", name := "elementData", desc := "(I)Ljava/lang/Object;" } : Jvm.MethodName)) ∈ bg := bg_m1 157 rfl rfl
theorem tw_158 : (Jvm.Cond.code ({ cls := "java/util/ArrayList", name := "elementData", desc := "(I)Ljava/lang/Object;" } : Jvm.MethodName) prog_26_method_18_code (2 : Nat) (Option.some (Jvm.ClassFile.FieldType.object "java/lang/Object"))) ∈ bg := bg_m1 158 rfl rfl
theorem tw_159 : (Jvm.Cond.classLink "FleetFloor$Air" (26 : Nat) "FleetFloor$Letter") ∈ bg := bg_m1 159 rfl rfl
theorem tw_160 : (Jvm.Cond.methodLink "FleetFloor" (134 : Nat) ({ cls := "FleetFloor$Letter", name := "kind", desc := "()I" } : Jvm.MethodName)) ∈ bg := bg_m1 160 rfl rfl
theorem tw_161 : (Jvm.Cond.instanceMethod ({ cls := "FleetFloor$Letter", name := "kind", desc := "()I" } : Jvm.MethodName)) ∈ bg := bg_m1 161 rfl rfl
theorem tw_162 : (Jvm.Cond.selects "FleetFloor$Letter" ({ cls := "FleetFloor$Letter", name := "kind", desc := "()I" } : Jvm.MethodName) ({ cls := "FleetFloor$Letter", name := "kind", desc := "()I" } : Jvm.MethodName)) ∈ bg := bg_m1 162 rfl rfl
theorem tw_163 : (Jvm.Cond.code ({ cls := "FleetFloor$Letter", name := "kind", desc := "()I" } : Jvm.MethodName) prog_5_method_5_code (1 : Nat) (Option.some Jvm.ClassFile.FieldType.int)) ∈ bg := bg_m1 163 rfl rfl
theorem tw_164 : (Jvm.Cond.methodLink "FleetFloor" (139 : Nat) ({ cls := "FleetFloor$Letter", name := "owner", desc := "()I" } : Jvm.MethodName)) ∈ bg := bg_m1 164 rfl rfl
theorem tw_165 : (Jvm.Cond.instanceMethod ({ cls := "FleetFloor$Letter", name := "owner", desc := "()I" } : Jvm.MethodName)) ∈ bg := bg_m1 165 rfl rfl
theorem tw_166 : (Jvm.Cond.selects "FleetFloor$Letter" ({ cls := "FleetFloor$Letter", name := "owner", desc := "()I" } : Jvm.MethodName) ({ cls := "FleetFloor$Letter", name := "owner", desc := "()I" } : Jvm.MethodName)) ∈ bg := bg_m1 166 rfl rfl
theorem tw_167 : (Jvm.Cond.code ({ cls := "FleetFloor$Letter", name := "owner", desc := "()I" } : Jvm.MethodName) prog_5_method_6_code (1 : Nat) (Option.some Jvm.ClassFile.FieldType.int)) ∈ bg := bg_m1 167 rfl rfl
theorem tw_168 : (Jvm.Cond.methodLink "FleetFloor" (142 : Nat) ({ cls := "FleetFloor$Letter", name := "number", desc := "()I" } : Jvm.MethodName)) ∈ bg := bg_m1 168 rfl rfl
theorem tw_169 : (Jvm.Cond.instanceMethod ({ cls := "FleetFloor$Letter", name := "number", desc := "()I" } : Jvm.MethodName)) ∈ bg := bg_m1 169 rfl rfl
theorem tw_170 : (Jvm.Cond.selects "FleetFloor$Letter" ({ cls := "FleetFloor$Letter", name := "number", desc := "()I" } : Jvm.MethodName) ({ cls := "FleetFloor$Letter", name := "number", desc := "()I" } : Jvm.MethodName)) ∈ bg := bg_m1 170 rfl rfl
theorem tw_171 : (Jvm.Cond.code ({ cls := "FleetFloor$Letter", name := "number", desc := "()I" } : Jvm.MethodName) prog_5_method_7_code (1 : Nat) (Option.some Jvm.ClassFile.FieldType.int)) ∈ bg := bg_m1 171 rfl rfl
theorem tw_172 : (Jvm.Cond.methodLink "FleetFloorLaw" (57 : Nat) ({ cls := "FleetFloor", name := "deliver", desc := "(I)Z" } : Jvm.MethodName)) ∈ bg := bg_m1 172 rfl rfl
theorem tw_173 : (Jvm.Cond.instanceMethod ({ cls := "FleetFloor", name := "deliver", desc := "(I)Z" } : Jvm.MethodName)) ∈ bg := bg_m1 173 rfl rfl
theorem tw_174 : (Jvm.Cond.selects "FleetFloor" ({ cls := "FleetFloor", name := "deliver", desc := "(I)Z" } : Jvm.MethodName) ({ cls := "FleetFloor", name := "deliver", desc := "(I)Z" } : Jvm.MethodName)) ∈ bg := bg_m1 174 rfl rfl
theorem tw_175 : (Jvm.Cond.code ({ cls := "FleetFloor", name := "deliver", desc := "(I)Z" } : Jvm.MethodName) prog_1_method_8_code (4 : Nat) (Option.some Jvm.ClassFile.FieldType.boolean)) ∈ bg := bg_m1 175 rfl rfl
theorem tw_176 : (Jvm.Cond.methodLink "FleetFloor" (145 : Nat) ({ cls := "FleetFloor", name := "vehicleNumbered", desc := "(I)LFleetFloor$Vehicle;" } : Jvm.MethodName)) ∈ bg := bg_m1 176 rfl rfl
theorem tx_177 : (Jvm.Cond.privateMethod ({ cls := "FleetFloor", name := "vehicleNumbered", desc := "(I)LFleetFloor$Vehicle;" } : Jvm.MethodName)) ∈ lw_tbl := tb_m1 177 rfl
theorem tw_178 : (Jvm.Cond.instanceMethod ({ cls := "FleetFloor", name := "vehicleNumbered", desc := "(I)LFleetFloor$Vehicle;" } : Jvm.MethodName)) ∈ bg := bg_m1 178 rfl rfl
theorem tw_179 : (Jvm.Cond.code ({ cls := "FleetFloor", name := "vehicleNumbered", desc := "(I)LFleetFloor$Vehicle;" } : Jvm.MethodName) prog_1_method_17_code (2 : Nat) (Option.some (Jvm.ClassFile.FieldType.object "FleetFloor$Vehicle"))) ∈ bg := bg_m1 179 rfl rfl
theorem tw_180 : (Jvm.Cond.methodLink "FleetFloor" (149 : Nat) ({ cls := "FleetFloor$Vehicle", name := "take", desc := "(LFleetFloor$Letter;)V" } : Jvm.MethodName)) ∈ bg := bg_m1 180 rfl rfl
theorem tw_181 : (Jvm.Cond.instanceMethod ({ cls := "FleetFloor$Vehicle", name := "take", desc := "(LFleetFloor$Letter;)V" } : Jvm.MethodName)) ∈ bg := bg_m1 181 rfl rfl
theorem tw_182 : (Jvm.Cond.selects "FleetFloor$Vehicle" ({ cls := "FleetFloor$Vehicle", name := "take", desc := "(LFleetFloor$Letter;)V" } : Jvm.MethodName) ({ cls := "FleetFloor$Vehicle", name := "take", desc := "(LFleetFloor$Letter;)V" } : Jvm.MethodName)) ∈ bg := bg_m1 182 rfl rfl
theorem tw_183 : (Jvm.Cond.code ({ cls := "FleetFloor$Vehicle", name := "take", desc := "(LFleetFloor$Letter;)V" } : Jvm.MethodName) prog_9_method_6_code (2 : Nat) (Option.none : Option Jvm.ClassFile.FieldType)) ∈ bg := bg_m1 183 rfl rfl
theorem tw_184 : (Jvm.Cond.methodLink "FleetFloor$Vehicle" (63 : Nat) ({ cls := "FleetFloor$Letter", name := "kind", desc := "()I" } : Jvm.MethodName)) ∈ bg := bg_m1 184 rfl rfl
theorem tw_185 : (Jvm.Cond.methodLink "FleetFloor$Vehicle" (68 : Nat) ({ cls := "FleetFloor$Letter", name := "number", desc := "()I" } : Jvm.MethodName)) ∈ bg := bg_m1 185 rfl rfl
theorem tw_186 : (Jvm.Cond.methodLink "FleetFloor$Vehicle" (70 : Nat) ({ cls := "java/lang/Math", name := "max", desc := "(II)I" } : Jvm.MethodName)) ∈ bg := bg_m1 186 rfl rfl
theorem tw_187 : (Jvm.Cond.static ({ cls := "java/lang/Math", name := "max", desc := "(II)I" } : Jvm.MethodName)) ∈ bg := bg_m1 187 rfl rfl
theorem tw_188 : (Jvm.Cond.code ({ cls := "java/lang/Math", name := "max", desc := "(II)I" } : Jvm.MethodName) prog_18_method_65_code (2 : Nat) (Option.some Jvm.ClassFile.FieldType.int)) ∈ bg := bg_m1 188 rfl rfl
theorem tw_189 : (Jvm.Cond.methodLink "FleetFloor" (153 : Nat) ({ cls := "FleetFloor$Air", name := "remove", desc := "(I)Z" } : Jvm.MethodName)) ∈ bg := bg_m1 189 rfl rfl
theorem tw_190 : (Jvm.Cond.instanceMethod ({ cls := "FleetFloor$Air", name := "remove", desc := "(I)Z" } : Jvm.MethodName)) ∈ bg := bg_m1 190 rfl rfl
theorem tw_191 : (Jvm.Cond.selects "FleetFloor$Air" ({ cls := "FleetFloor$Air", name := "remove", desc := "(I)Z" } : Jvm.MethodName) ({ cls := "FleetFloor$Air", name := "remove", desc := "(I)Z" } : Jvm.MethodName)) ∈ bg := bg_m1 191 rfl rfl
theorem tw_192 : (Jvm.Cond.code ({ cls := "FleetFloor$Air", name := "remove", desc := "(I)Z" } : Jvm.MethodName) prog_2_method_5_code (2 : Nat) (Option.some Jvm.ClassFile.FieldType.boolean)) ∈ bg := bg_m1 192 rfl rfl
theorem tw_193 : (Jvm.Cond.methodLink "FleetFloor$Air" (32 : Nat) ({ cls := "java/util/ArrayList", name := "remove", desc := "(I)Ljava/lang/Object;" } : Jvm.MethodName)) ∈ bg := bg_m1 193 rfl rfl
theorem tw_194 : (Jvm.Cond.instanceMethod ({ cls := "java/util/ArrayList", name := "remove", desc := "(I)Ljava/lang/Object;" } : Jvm.MethodName)) ∈ bg := bg_m1 194 rfl rfl
theorem tw_195 : (Jvm.Cond.selects "java/util/ArrayList" ({ cls := "java/util/ArrayList", name := "remove", desc := "(I)Ljava/lang/Object;" } : Jvm.MethodName) ({ cls := "java/util/ArrayList", name := "remove", desc := "(I)Ljava/lang/Object;" } : Jvm.MethodName)) ∈ bg := bg_m1 195 rfl rfl
theorem tw_196 : (Jvm.Cond.code ({ cls := "java/util/ArrayList", name := "remove", desc := "(I)Ljava/lang/Object;" } : Jvm.MethodName) prog_26_method_29_code (4 : Nat) (Option.some (Jvm.ClassFile.FieldType.object "java/lang/Object"))) ∈ bg := bg_m1 196 rfl rfl
theorem tw_197 : (Jvm.Cond.methodLink "java/util/ArrayList" (144 : Nat) ({ cls := "java/util/ArrayList", name := "fastRemove", desc := "([Ljava/lang/Object;I)V" } : Jvm.MethodName)) ∈ bg := bg_m1 197 rfl rfl
theorem tx_198 : (Jvm.Cond.privateMethod ({ cls := "java/util/ArrayList", name := "fastRemove", desc := "([Ljava/lang/Object;I)V" } : Jvm.MethodName)) ∈ lw_tbl := tb_m1 198 rfl
theorem tw_199 : (Jvm.Cond.instanceMethod ({ cls := "java/util/ArrayList", name := "fastRemove", desc := "([Ljava/lang/Object;I)V" } : Jvm.MethodName)) ∈ bg := bg_m1 199 rfl rfl
theorem tw_200 : (Jvm.Cond.code ({ cls := "java/util/ArrayList", name := "fastRemove", desc := "([Ljava/lang/Object;I)V" } : Jvm.MethodName) prog_26_method_39_code (4 : Nat) (Option.none : Option Jvm.ClassFile.FieldType)) ∈ bg := bg_m1 200 rfl rfl
theorem tw_201 : (Jvm.Cond.methodLink "java/util/ArrayList" (112 : Nat) ({ cls := "java/lang/System", name := "arraycopy", desc := "(Ljava/lang/Object;ILjava/lang/Object;II)V" } : Jvm.MethodName)) ∈ bg := bg_m1 201 rfl rfl
theorem tw_202 : (Jvm.Cond.static ({ cls := "java/lang/System", name := "arraycopy", desc := "(Ljava/lang/Object;ILjava/lang/Object;II)V" } : Jvm.MethodName)) ∈ bg := bg_m1 202 rfl rfl
theorem tw_203 : (Jvm.Cond.native ({ cls := "java/lang/System", name := "arraycopy", desc := "(Ljava/lang/Object;ILjava/lang/Object;II)V" } : Jvm.MethodName)) ∈ bg := bg_m1 203 rfl rfl
theorem tw_204 : (Jvm.Cond.methodLink "FleetFloorLaw" (62 : Nat) ({ cls := "FleetFloor", name := "lose", desc := "(I)Z" } : Jvm.MethodName)) ∈ bg := bg_m1 204 rfl rfl
theorem tw_205 : (Jvm.Cond.instanceMethod ({ cls := "FleetFloor", name := "lose", desc := "(I)Z" } : Jvm.MethodName)) ∈ bg := bg_m1 205 rfl rfl
theorem tw_206 : (Jvm.Cond.selects "FleetFloor" ({ cls := "FleetFloor", name := "lose", desc := "(I)Z" } : Jvm.MethodName) ({ cls := "FleetFloor", name := "lose", desc := "(I)Z" } : Jvm.MethodName)) ∈ bg := bg_m1 206 rfl rfl
theorem tw_207 : (Jvm.Cond.code ({ cls := "FleetFloor", name := "lose", desc := "(I)Z" } : Jvm.MethodName) prog_1_method_9_code (2 : Nat) (Option.some Jvm.ClassFile.FieldType.boolean)) ∈ bg := bg_m1 207 rfl rfl
theorem tw_208 : (Jvm.Cond.methodLink "FleetFloorLaw" (66 : Nat) ({ cls := "FleetFloor", name := "twin", desc := "(I)Z" } : Jvm.MethodName)) ∈ bg := bg_m1 208 rfl rfl
theorem tw_209 : (Jvm.Cond.instanceMethod ({ cls := "FleetFloor", name := "twin", desc := "(I)Z" } : Jvm.MethodName)) ∈ bg := bg_m1 209 rfl rfl
theorem tw_210 : (Jvm.Cond.selects "FleetFloor" ({ cls := "FleetFloor", name := "twin", desc := "(I)Z" } : Jvm.MethodName) ({ cls := "FleetFloor", name := "twin", desc := "(I)Z" } : Jvm.MethodName)) ∈ bg := bg_m1 210 rfl rfl
theorem tw_211 : (Jvm.Cond.code ({ cls := "FleetFloor", name := "twin", desc := "(I)Z" } : Jvm.MethodName) prog_1_method_10_code (3 : Nat) (Option.some Jvm.ClassFile.FieldType.boolean)) ∈ bg := bg_m1 211 rfl rfl
theorem tw_212 : (Jvm.Cond.methodLink "FleetFloor" (156 : Nat) ({ cls := "FleetFloor$Air", name := "send", desc := "(LFleetFloor$Letter;)Z" } : Jvm.MethodName)) ∈ bg := bg_m1 212 rfl rfl
theorem tw_213 : (Jvm.Cond.instanceMethod ({ cls := "FleetFloor$Air", name := "send", desc := "(LFleetFloor$Letter;)Z" } : Jvm.MethodName)) ∈ bg := bg_m1 213 rfl rfl
theorem tw_214 : (Jvm.Cond.selects "FleetFloor$Air" ({ cls := "FleetFloor$Air", name := "send", desc := "(LFleetFloor$Letter;)Z" } : Jvm.MethodName) ({ cls := "FleetFloor$Air", name := "send", desc := "(LFleetFloor$Letter;)Z" } : Jvm.MethodName)) ∈ bg := bg_m1 214 rfl rfl
theorem tw_215 : (Jvm.Cond.code ({ cls := "FleetFloor$Air", name := "send", desc := "(LFleetFloor$Letter;)Z" } : Jvm.MethodName) prog_2_method_4_code (2 : Nat) (Option.some Jvm.ClassFile.FieldType.boolean)) ∈ bg := bg_m1 215 rfl rfl
theorem tw_216 : (Jvm.Cond.methodLink "FleetFloor$Air" (28 : Nat) ({ cls := "java/util/ArrayList", name := "add", desc := "(Ljava/lang/Object;)Z" } : Jvm.MethodName)) ∈ bg := bg_m1 216 rfl rfl
theorem tw_217 : (Jvm.Cond.instanceMethod ({ cls := "java/util/ArrayList", name := "add", desc := "(Ljava/lang/Object;)Z" } : Jvm.MethodName)) ∈ bg := bg_m1 217 rfl rfl
theorem tw_218 : (Jvm.Cond.selects "java/util/ArrayList" ({ cls := "java/util/ArrayList", name := "add", desc := "(Ljava/lang/Object;)Z" } : Jvm.MethodName) ({ cls := "java/util/ArrayList", name := "add", desc := "(Ljava/lang/Object;)Z" } : Jvm.MethodName)) ∈ bg := bg_m1 218 rfl rfl
theorem tw_219 : (Jvm.Cond.code ({ cls := "java/util/ArrayList", name := "add", desc := "(Ljava/lang/Object;)Z" } : Jvm.MethodName) prog_26_method_25_code (2 : Nat) (Option.some Jvm.ClassFile.FieldType.boolean)) ∈ bg := bg_m1 219 rfl rfl
theorem tw_220 : (Jvm.Cond.methodLink "java/util/ArrayList" (131 : Nat) ({ cls := "java/util/ArrayList", name := "add", desc := "(Ljava/lang/Object;[Ljava/lang/Object;I)V" } : Jvm.MethodName)) ∈ bg := bg_m1 220 rfl rfl
theorem tx_221 : (Jvm.Cond.privateMethod ({ cls := "java/util/ArrayList", name := "add", desc := "(Ljava/lang/Object;[Ljava/lang/Object;I)V" } : Jvm.MethodName)) ∈ lw_tbl := tb_m1 221 rfl
theorem tw_222 : (Jvm.Cond.instanceMethod ({ cls := "java/util/ArrayList", name := "add", desc := "(Ljava/lang/Object;[Ljava/lang/Object;I)V" } : Jvm.MethodName)) ∈ bg := bg_m1 222 rfl rfl
theorem tw_223 : (Jvm.Cond.code ({ cls := "java/util/ArrayList", name := "add", desc := "(Ljava/lang/Object;[Ljava/lang/Object;I)V" } : Jvm.MethodName) prog_26_method_24_code (4 : Nat) (Option.none : Option Jvm.ClassFile.FieldType)) ∈ bg := bg_m1 223 rfl rfl
theorem tw_224 : (Jvm.Cond.methodLink "java/util/ArrayList" (129 : Nat) ({ cls := "java/util/ArrayList", name := "grow", desc := "()[Ljava/lang/Object;" } : Jvm.MethodName)) ∈ bg := bg_m1 224 rfl rfl
theorem tx_225 : (Jvm.Cond.privateMethod ({ cls := "java/util/ArrayList", name := "grow", desc := "()[Ljava/lang/Object;" } : Jvm.MethodName)) ∈ lw_tbl := tb_m1 225 rfl
theorem tw_226 : (Jvm.Cond.instanceMethod ({ cls := "java/util/ArrayList", name := "grow", desc := "()[Ljava/lang/Object;" } : Jvm.MethodName)) ∈ bg := bg_m1 226 rfl rfl
theorem tw_227 : (Jvm.Cond.code ({ cls := "java/util/ArrayList", name := "grow", desc := "()[Ljava/lang/Object;" } : Jvm.MethodName) prog_26_method_7_code (1 : Nat) (Option.some (Jvm.ClassFile.FieldType.array (Jvm.ClassFile.FieldType.object "java/lang/Object")))) ∈ bg := bg_m1 227 rfl rfl
theorem tw_228 : (Jvm.Cond.methodLink "java/util/ArrayList" (69 : Nat) ({ cls := "java/util/ArrayList", name := "grow", desc := "(I)[Ljava/lang/Object;" } : Jvm.MethodName)) ∈ bg := bg_m1 228 rfl rfl
theorem tx_229 : (Jvm.Cond.privateMethod ({ cls := "java/util/ArrayList", name := "grow", desc := "(I)[Ljava/lang/Object;" } : Jvm.MethodName)) ∈ lw_tbl := tb_m1 229 rfl
theorem tw_230 : (Jvm.Cond.instanceMethod ({ cls := "java/util/ArrayList", name := "grow", desc := "(I)[Ljava/lang/Object;" } : Jvm.MethodName)) ∈ bg := bg_m1 230 rfl rfl
theorem tw_231 : (Jvm.Cond.code ({ cls := "java/util/ArrayList", name := "grow", desc := "(I)[Ljava/lang/Object;" } : Jvm.MethodName) prog_26_method_6_code (4 : Nat) (Option.some (Jvm.ClassFile.FieldType.array (Jvm.ClassFile.FieldType.object "java/lang/Object")))) ∈ bg := bg_m1 231 rfl rfl
theorem tw_232 : (Jvm.Cond.methodLink "java/util/ArrayList" (73 : Nat) ({ cls := "jdk/internal/util/ArraysSupport", name := "newLength", desc := "(III)I" } : Jvm.MethodName)) ∈ bg := bg_m1 232 rfl rfl
theorem tw_233 : (Jvm.Cond.static ({ cls := "jdk/internal/util/ArraysSupport", name := "newLength", desc := "(III)I" } : Jvm.MethodName)) ∈ bg := bg_m1 233 rfl rfl
theorem tw_234 : (Jvm.Cond.code ({ cls := "jdk/internal/util/ArraysSupport", name := "newLength", desc := "(III)I" } : Jvm.MethodName) prog_33_method_27_code (4 : Nat) (Option.some Jvm.ClassFile.FieldType.int)) ∈ bg := bg_m1 234 rfl rfl
theorem tw_235 : (Jvm.Cond.methodLink "jdk/internal/util/ArraysSupport" (194 : Nat) ({ cls := "java/lang/Math", name := "max", desc := "(II)I" } : Jvm.MethodName)) ∈ bg := bg_m1 235 rfl rfl
theorem tw_236 : (Jvm.Cond.constant "jdk/internal/util/ArraysSupport" (200 : Nat) (2147483639 : Int32)) ∈ bg := bg_m1 236 rfl rfl
theorem tw_237 : (Jvm.Cond.methodLink "jdk/internal/util/ArraysSupport" (201 : Nat) ({ cls := "jdk/internal/util/ArraysSupport", name := "hugeLength", desc := "(II)I" } : Jvm.MethodName)) ∈ bg := bg_m1 237 rfl rfl
theorem tw_238 : (Jvm.Cond.static ({ cls := "jdk/internal/util/ArraysSupport", name := "hugeLength", desc := "(II)I" } : Jvm.MethodName)) ∈ bg := bg_m1 238 rfl rfl
theorem tw_239 : (Jvm.Cond.code ({ cls := "jdk/internal/util/ArraysSupport", name := "hugeLength", desc := "(II)I" } : Jvm.MethodName) prog_33_method_28_code (3 : Nat) (Option.some Jvm.ClassFile.FieldType.int)) ∈ bg := bg_m1 239 rfl rfl
theorem tw_240 : (Jvm.Cond.methodLink "java/util/ArrayList" (66 : Nat) ({ cls := "java/util/Arrays", name := "copyOf", desc := "([Ljava/lang/Object;I)[Ljava/lang/Object;" } : Jvm.MethodName)) ∈ bg := bg_m2 0 rfl rfl
theorem tw_241 : (Jvm.Cond.static ({ cls := "java/util/Arrays", name := "copyOf", desc := "([Ljava/lang/Object;I)[Ljava/lang/Object;" } : Jvm.MethodName)) ∈ bg := bg_m2 1 rfl rfl
theorem tw_242 : (Jvm.Cond.code ({ cls := "java/util/Arrays", name := "copyOf", desc := "([Ljava/lang/Object;I)[Ljava/lang/Object;" } : Jvm.MethodName) prog_27_method_119_code (2 : Nat) (Option.some (Jvm.ClassFile.FieldType.array (Jvm.ClassFile.FieldType.object "java/lang/Object")))) ∈ bg := bg_m2 2 rfl rfl
theorem tw_243 : (Jvm.Cond.methodLink "java/util/Arrays" (86 : Nat) ({ cls := "java/lang/Object", name := "getClass", desc := "()Ljava/lang/Class;" } : Jvm.MethodName)) ∈ bg := bg_m2 3 rfl rfl
theorem tw_244 : (Jvm.Cond.instanceMethod ({ cls := "java/lang/Object", name := "getClass", desc := "()Ljava/lang/Class;" } : Jvm.MethodName)) ∈ bg := bg_m2 4 rfl rfl
theorem tw_245 : (Jvm.Cond.sameMethod "java/lang/Object" "java/lang/Object" "getClass" "()Ljava/lang/Class;") ∈ bg := bg_m2 5 rfl rfl
theorem tw_246 : (Jvm.Cond.selects "FleetFloor" ({ cls := "java/lang/Object", name := "getClass", desc := "()Ljava/lang/Class;" } : Jvm.MethodName) ({ cls := "java/lang/Object", name := "getClass", desc := "()Ljava/lang/Class;" } : Jvm.MethodName)) ∈ bg := bg_m2 6 rfl rfl
theorem tw_247 : (Jvm.Cond.selects "FleetFloor$Air" ({ cls := "java/lang/Object", name := "getClass", desc := "()Ljava/lang/Class;" } : Jvm.MethodName) ({ cls := "java/lang/Object", name := "getClass", desc := "()Ljava/lang/Class;" } : Jvm.MethodName)) ∈ bg := bg_m2 7 rfl rfl
theorem tw_248 : (Jvm.Cond.selects "FleetFloor$Cells" ({ cls := "java/lang/Object", name := "getClass", desc := "()Ljava/lang/Class;" } : Jvm.MethodName) ({ cls := "java/lang/Object", name := "getClass", desc := "()Ljava/lang/Class;" } : Jvm.MethodName)) ∈ bg := bg_m2 8 rfl rfl
theorem tw_249 : (Jvm.Cond.selects "FleetFloor$FloorMap" ({ cls := "java/lang/Object", name := "getClass", desc := "()Ljava/lang/Class;" } : Jvm.MethodName) ({ cls := "java/lang/Object", name := "getClass", desc := "()Ljava/lang/Class;" } : Jvm.MethodName)) ∈ bg := bg_m2 9 rfl rfl
theorem tw_250 : (Jvm.Cond.selects "FleetFloor$Letter" ({ cls := "java/lang/Object", name := "getClass", desc := "()Ljava/lang/Class;" } : Jvm.MethodName) ({ cls := "java/lang/Object", name := "getClass", desc := "()Ljava/lang/Class;" } : Jvm.MethodName)) ∈ bg := bg_m2 10 rfl rfl
theorem tw_251 : (Jvm.Cond.selects "FleetFloor$Move" ({ cls := "java/lang/Object", name := "getClass", desc := "()Ljava/lang/Class;" } : Jvm.MethodName) ({ cls := "java/lang/Object", name := "getClass", desc := "()Ljava/lang/Class;" } : Jvm.MethodName)) ∈ bg := bg_m2 11 rfl rfl
theorem tw_252 : (Jvm.Cond.selects "FleetFloor$Planner" ({ cls := "java/lang/Object", name := "getClass", desc := "()Ljava/lang/Class;" } : Jvm.MethodName) ({ cls := "java/lang/Object", name := "getClass", desc := "()Ljava/lang/Class;" } : Jvm.MethodName)) ∈ bg := bg_m2 12 rfl rfl
theorem tw_253 : (Jvm.Cond.selects "FleetFloor$Task" ({ cls := "java/lang/Object", name := "getClass", desc := "()Ljava/lang/Class;" } : Jvm.MethodName) ({ cls := "java/lang/Object", name := "getClass", desc := "()Ljava/lang/Class;" } : Jvm.MethodName)) ∈ bg := bg_m2 13 rfl rfl
theorem tw_254 : (Jvm.Cond.selects "FleetFloor$Vehicle" ({ cls := "java/lang/Object", name := "getClass", desc := "()Ljava/lang/Class;" } : Jvm.MethodName) ({ cls := "java/lang/Object", name := "getClass", desc := "()Ljava/lang/Class;" } : Jvm.MethodName)) ∈ bg := bg_m2 14 rfl rfl
theorem tw_255 : (Jvm.Cond.selects "FleetFloorModel" ({ cls := "java/lang/Object", name := "getClass", desc := "()Ljava/lang/Class;" } : Jvm.MethodName) ({ cls := "java/lang/Object", name := "getClass", desc := "()Ljava/lang/Class;" } : Jvm.MethodName)) ∈ bg := bg_m2 15 rfl rfl
theorem tw_256 : (Jvm.Cond.selects "java/lang/IllegalArgumentException" ({ cls := "java/lang/Object", name := "getClass", desc := "()Ljava/lang/Class;" } : Jvm.MethodName) ({ cls := "java/lang/Object", name := "getClass", desc := "()Ljava/lang/Class;" } : Jvm.MethodName)) ∈ bg := bg_m2 16 rfl rfl
theorem tw_257 : (Jvm.Cond.selects "java/lang/IllegalStateException" ({ cls := "java/lang/Object", name := "getClass", desc := "()Ljava/lang/Class;" } : Jvm.MethodName) ({ cls := "java/lang/Object", name := "getClass", desc := "()Ljava/lang/Class;" } : Jvm.MethodName)) ∈ bg := bg_m2 17 rfl rfl
theorem tw_258 : (Jvm.Cond.selects "java/util/ArrayList" ({ cls := "java/lang/Object", name := "getClass", desc := "()Ljava/lang/Class;" } : Jvm.MethodName) ({ cls := "java/lang/Object", name := "getClass", desc := "()Ljava/lang/Class;" } : Jvm.MethodName)) ∈ bg := bg_m2 18 rfl rfl
theorem tw_259 : (Jvm.Cond.native ({ cls := "java/lang/Object", name := "getClass", desc := "()Ljava/lang/Class;" } : Jvm.MethodName)) ∈ bg := bg_m2 19 rfl rfl
theorem tw_260 : (Jvm.Cond.methodLink "java/util/Arrays" (300 : Nat) ({ cls := "java/util/Arrays", name := "copyOf", desc := "([Ljava/lang/Object;ILjava/lang/Class;)[Ljava/lang/Object;" } : Jvm.MethodName)) ∈ bg := bg_m2 20 rfl rfl
theorem tw_261 : (Jvm.Cond.static ({ cls := "java/util/Arrays", name := "copyOf", desc := "([Ljava/lang/Object;ILjava/lang/Class;)[Ljava/lang/Object;" } : Jvm.MethodName)) ∈ bg := bg_m2 21 rfl rfl
theorem tw_262 : (Jvm.Cond.code ({ cls := "java/util/Arrays", name := "copyOf", desc := "([Ljava/lang/Object;ILjava/lang/Class;)[Ljava/lang/Object;" } : Jvm.MethodName) prog_27_method_120_code (4 : Nat) (Option.some (Jvm.ClassFile.FieldType.array (Jvm.ClassFile.FieldType.object "java/lang/Object")))) ∈ bg := bg_m2 22 rfl rfl
theorem tw_263 : (Jvm.Cond.classLink "java/util/Arrays" (110 : Nat) "[Ljava/lang/Object;") ∈ bg := bg_m2 23 rfl rfl
theorem tx_264 : (Jvm.Cond.arrayOver (Jvm.ClassFile.FieldType.object "java/lang/Object")) ∈ lw_tbl := tb_m2 24 rfl
theorem tw_265 : (Jvm.Cond.classLink "java/util/Arrays" (2 : Nat) "java/lang/Object") ∈ bg := bg_m2 25 rfl rfl
theorem tw_266 : (Jvm.Cond.methodLink "java/util/Arrays" (304 : Nat) ({ cls := "java/lang/Math", name := "min", desc := "(II)I" } : Jvm.MethodName)) ∈ bg := bg_m2 26 rfl rfl
theorem tw_267 : (Jvm.Cond.static ({ cls := "java/lang/Math", name := "min", desc := "(II)I" } : Jvm.MethodName)) ∈ bg := bg_m2 27 rfl rfl
theorem tw_268 : (Jvm.Cond.code ({ cls := "java/lang/Math", name := "min", desc := "(II)I" } : Jvm.MethodName) prog_18_method_69_code (2 : Nat) (Option.some Jvm.ClassFile.FieldType.int)) ∈ bg := bg_m2 28 rfl rfl
theorem tw_269 : (Jvm.Cond.methodLink "java/util/Arrays" (150 : Nat) ({ cls := "java/lang/System", name := "arraycopy", desc := "(Ljava/lang/Object;ILjava/lang/Object;II)V" } : Jvm.MethodName)) ∈ bg := bg_m2 29 rfl rfl
theorem tw_270 : (Jvm.Cond.methodLink "java/util/ArrayList" (79 : Nat) ({ cls := "java/lang/Math", name := "max", desc := "(II)I" } : Jvm.MethodName)) ∈ bg := bg_m2 30 rfl rfl
theorem tw_271 : (Jvm.Cond.classLink "java/util/ArrayList" (7 : Nat) "java/lang/Object") ∈ bg := bg_m2 31 rfl rfl
theorem tw_272 : (Jvm.Cond.methodLink "FleetFloorLaw" (70 : Nat) ({ cls := "FleetFloor", name := "vehicle", desc := "(II)I" } : Jvm.MethodName)) ∈ bg := bg_m2 32 rfl rfl
theorem tw_273 : (Jvm.Cond.instanceMethod ({ cls := "FleetFloor", name := "vehicle", desc := "(II)I" } : Jvm.MethodName)) ∈ bg := bg_m2 33 rfl rfl
theorem tw_274 : (Jvm.Cond.selects "FleetFloor" ({ cls := "FleetFloor", name := "vehicle", desc := "(II)I" } : Jvm.MethodName) ({ cls := "FleetFloor", name := "vehicle", desc := "(II)I" } : Jvm.MethodName)) ∈ bg := bg_m2 34 rfl rfl
theorem tw_275 : (Jvm.Cond.code ({ cls := "FleetFloor", name := "vehicle", desc := "(II)I" } : Jvm.MethodName) prog_1_method_11_code (4 : Nat) (Option.some Jvm.ClassFile.FieldType.int)) ∈ bg := bg_m2 35 rfl rfl
theorem tw_276 : (Jvm.Cond.methodLink "FleetFloor" (163 : Nat) ({ cls := "FleetFloor$Vehicle", name := "placeAfter", desc := "(I)I" } : Jvm.MethodName)) ∈ bg := bg_m2 36 rfl rfl
theorem tw_277 : (Jvm.Cond.instanceMethod ({ cls := "FleetFloor$Vehicle", name := "placeAfter", desc := "(I)I" } : Jvm.MethodName)) ∈ bg := bg_m2 37 rfl rfl
theorem tw_278 : (Jvm.Cond.selects "FleetFloor$Vehicle" ({ cls := "FleetFloor$Vehicle", name := "placeAfter", desc := "(I)I" } : Jvm.MethodName) ({ cls := "FleetFloor$Vehicle", name := "placeAfter", desc := "(I)I" } : Jvm.MethodName)) ∈ bg := bg_m2 38 rfl rfl
theorem tw_279 : (Jvm.Cond.code ({ cls := "FleetFloor$Vehicle", name := "placeAfter", desc := "(I)I" } : Jvm.MethodName) prog_9_method_4_code (2 : Nat) (Option.some Jvm.ClassFile.FieldType.int)) ∈ bg := bg_m2 39 rfl rfl
theorem tw_280 : (Jvm.Cond.methodLink "FleetFloor$Vehicle" (47 : Nat) ({ cls := "java/util/ArrayList", name := "size", desc := "()I" } : Jvm.MethodName)) ∈ bg := bg_m2 40 rfl rfl
theorem tw_281 : (Jvm.Cond.methodLink "FleetFloor$Vehicle" (51 : Nat) ({ cls := "java/util/ArrayList", name := "get", desc := "(I)Ljava/lang/Object;" } : Jvm.MethodName)) ∈ bg := bg_m2 41 rfl rfl
theorem tw_282 : (Jvm.Cond.classLink "FleetFloor$Vehicle" (55 : Nat) "FleetFloor$Move") ∈ bg := bg_m2 42 rfl rfl
theorem tw_283 : (Jvm.Cond.methodLink "FleetFloor$Vehicle" (57 : Nat) ({ cls := "FleetFloor$Move", name := "place", desc := "()I" } : Jvm.MethodName)) ∈ bg := bg_m2 43 rfl rfl
theorem tw_284 : (Jvm.Cond.instanceMethod ({ cls := "FleetFloor$Move", name := "place", desc := "()I" } : Jvm.MethodName)) ∈ bg := bg_m2 44 rfl rfl
theorem tw_285 : (Jvm.Cond.selects "FleetFloor$Move" ({ cls := "FleetFloor$Move", name := "place", desc := "()I" } : Jvm.MethodName) ({ cls := "FleetFloor$Move", name := "place", desc := "()I" } : Jvm.MethodName)) ∈ bg := bg_m2 45 rfl rfl
theorem tw_286 : (Jvm.Cond.code ({ cls := "FleetFloor$Move", name := "place", desc := "()I" } : Jvm.MethodName) prog_6_method_5_code (1 : Nat) (Option.some Jvm.ClassFile.FieldType.int)) ∈ bg := bg_m2 46 rfl rfl
theorem tw_287 : (Jvm.Cond.methodLink "FleetFloor" (96 : Nat) ({ cls := "java/util/ArrayList", name := "size", desc := "()I" } : Jvm.MethodName)) ∈ bg := bg_m2 47 rfl rfl
theorem tw_288 : (Jvm.Cond.methodLink "FleetFloorLaw" (74 : Nat) ({ cls := "FleetFloor", name := "move", desc := "(III)I" } : Jvm.MethodName)) ∈ bg := bg_m2 48 rfl rfl
theorem tw_289 : (Jvm.Cond.instanceMethod ({ cls := "FleetFloor", name := "move", desc := "(III)I" } : Jvm.MethodName)) ∈ bg := bg_m2 49 rfl rfl
theorem tw_290 : (Jvm.Cond.selects "FleetFloor" ({ cls := "FleetFloor", name := "move", desc := "(III)I" } : Jvm.MethodName) ({ cls := "FleetFloor", name := "move", desc := "(III)I" } : Jvm.MethodName)) ∈ bg := bg_m2 50 rfl rfl
theorem tw_291 : (Jvm.Cond.code ({ cls := "FleetFloor", name := "move", desc := "(III)I" } : Jvm.MethodName) prog_1_method_12_code (6 : Nat) (Option.some Jvm.ClassFile.FieldType.int)) ∈ bg := bg_m2 51 rfl rfl
theorem tw_292 : (Jvm.Cond.methodLink "FleetFloor" (182 : Nat) ({ cls := "java/util/ArrayList", name := "get", desc := "(I)Ljava/lang/Object;" } : Jvm.MethodName)) ∈ bg := bg_m2 52 rfl rfl
theorem tw_293 : (Jvm.Cond.classLink "FleetFloor" (186 : Nat) "FleetFloor$Move") ∈ bg := bg_m2 53 rfl rfl
theorem tw_294 : (Jvm.Cond.methodLink "FleetFloor" (188 : Nat) ({ cls := "FleetFloor$Move", name := "place", desc := "()I" } : Jvm.MethodName)) ∈ bg := bg_m2 54 rfl rfl
theorem tw_295 : (Jvm.Cond.methodLink "FleetFloor" (191 : Nat) ({ cls := "FleetFloor$Move", name := "time", desc := "()I" } : Jvm.MethodName)) ∈ bg := bg_m2 55 rfl rfl
theorem tw_296 : (Jvm.Cond.instanceMethod ({ cls := "FleetFloor$Move", name := "time", desc := "()I" } : Jvm.MethodName)) ∈ bg := bg_m2 56 rfl rfl
theorem tw_297 : (Jvm.Cond.selects "FleetFloor$Move" ({ cls := "FleetFloor$Move", name := "time", desc := "()I" } : Jvm.MethodName) ({ cls := "FleetFloor$Move", name := "time", desc := "()I" } : Jvm.MethodName)) ∈ bg := bg_m2 57 rfl rfl
theorem tw_298 : (Jvm.Cond.code ({ cls := "FleetFloor$Move", name := "time", desc := "()I" } : Jvm.MethodName) prog_6_method_6_code (1 : Nat) (Option.some Jvm.ClassFile.FieldType.int)) ∈ bg := bg_m2 58 rfl rfl
theorem tw_299 : (Jvm.Cond.methodLink "FleetFloorLaw" (79 : Nat) ({ cls := "FleetFloor", name := "taskOf", desc := "(II)I" } : Jvm.MethodName)) ∈ bg := bg_m2 59 rfl rfl
theorem tw_300 : (Jvm.Cond.instanceMethod ({ cls := "FleetFloor", name := "taskOf", desc := "(II)I" } : Jvm.MethodName)) ∈ bg := bg_m2 60 rfl rfl
theorem tw_301 : (Jvm.Cond.selects "FleetFloor" ({ cls := "FleetFloor", name := "taskOf", desc := "(II)I" } : Jvm.MethodName) ({ cls := "FleetFloor", name := "taskOf", desc := "(II)I" } : Jvm.MethodName)) ∈ bg := bg_m2 61 rfl rfl
theorem tw_302 : (Jvm.Cond.code ({ cls := "FleetFloor", name := "taskOf", desc := "(II)I" } : Jvm.MethodName) prog_1_method_13_code (4 : Nat) (Option.some Jvm.ClassFile.FieldType.int)) ∈ bg := bg_m2 62 rfl rfl
theorem tw_303 : (Jvm.Cond.classLink "FleetFloor" (108 : Nat) "FleetFloor$Task") ∈ bg := bg_m2 63 rfl rfl
theorem tw_304 : (Jvm.Cond.methodLink "FleetFloorLaw" (83 : Nat) ({ cls := "FleetFloor", name := "count", desc := "(I)I" } : Jvm.MethodName)) ∈ bg := bg_m2 64 rfl rfl
theorem tw_305 : (Jvm.Cond.instanceMethod ({ cls := "FleetFloor", name := "count", desc := "(I)I" } : Jvm.MethodName)) ∈ bg := bg_m2 65 rfl rfl
theorem tw_306 : (Jvm.Cond.selects "FleetFloor" ({ cls := "FleetFloor", name := "count", desc := "(I)I" } : Jvm.MethodName) ({ cls := "FleetFloor", name := "count", desc := "(I)I" } : Jvm.MethodName)) ∈ bg := bg_m2 66 rfl rfl
theorem tw_307 : (Jvm.Cond.code ({ cls := "FleetFloor", name := "count", desc := "(I)I" } : Jvm.MethodName) prog_1_method_14_code (2 : Nat) (Option.some Jvm.ClassFile.FieldType.int)) ∈ bg := bg_m2 67 rfl rfl
theorem tw_308 : (Jvm.Cond.methodLink "FleetFloorLaw" (33 : Nat) ({ cls := "FleetFloorLaw", name := "open", desc := "(LFleetFloor;[J)I" } : Jvm.MethodName)) ∈ bg := bg_m2 68 rfl rfl
theorem tw_309 : (Jvm.Cond.static ({ cls := "FleetFloorLaw", name := "open", desc := "(LFleetFloor;[J)I" } : Jvm.MethodName)) ∈ bg := bg_m2 69 rfl rfl
theorem tw_310 : (Jvm.Cond.codeWith ({ cls := "FleetFloorLaw", name := "open", desc := "(LFleetFloor;[J)I" } : Jvm.MethodName) method_3_code (3 : Nat) (Option.some Jvm.ClassFile.FieldType.int) [((0 : Nat), (8 : Nat), (11 : Nat), (13 : Nat)), ((0 : Nat), (8 : Nat), (14 : Nat), (15 : Nat))]) ∈ bg := bg_m2 70 rfl rfl
theorem tw_311 : (Jvm.Cond.classLink "FleetFloorLaw" (13 : Nat) "java/lang/IllegalArgumentException") ∈ bg := bg_m2 71 rfl rfl
theorem tw_312 : (Jvm.Cond.classLink "FleetFloorLaw" (15 : Nat) "java/lang/IllegalStateException") ∈ bg := bg_m2 72 rfl rfl
theorem tw_313 : (Jvm.Cond.methodLink "FleetFloorLaw" (7 : Nat) ({ cls := "FleetFloor", name := "open", desc := "()I" } : Jvm.MethodName)) ∈ bg := bg_m2 73 rfl rfl
theorem tw_314 : (Jvm.Cond.instanceMethod ({ cls := "FleetFloor", name := "open", desc := "()I" } : Jvm.MethodName)) ∈ bg := bg_m2 74 rfl rfl
theorem tw_315 : (Jvm.Cond.selects "FleetFloor" ({ cls := "FleetFloor", name := "open", desc := "()I" } : Jvm.MethodName) ({ cls := "FleetFloor", name := "open", desc := "()I" } : Jvm.MethodName)) ∈ bg := bg_m2 75 rfl rfl
theorem tw_316 : (Jvm.Cond.code ({ cls := "FleetFloor", name := "open", desc := "()I" } : Jvm.MethodName) prog_1_method_3_code (3 : Nat) (Option.some Jvm.ClassFile.FieldType.int)) ∈ bg := bg_m2 76 rfl rfl
theorem tw_317 : (Jvm.Cond.classLink "FleetFloor" (62 : Nat) "java/lang/IllegalStateException") ∈ bg := bg_m2 77 rfl rfl
theorem tw_318 : (Jvm.Cond.instantiable "java/lang/IllegalStateException" (6 : Nat)) ∈ bg := bg_m2 78 rfl rfl
theorem tx_319 : (Jvm.Cond.castable "java/lang/IllegalStateException" "java/lang/IllegalStateException") ∈ lw_tbl := tb_m2 79 rfl
theorem tx_320 : (Jvm.Cond.declares ({ cls := "java/lang/RuntimeException", name := "<init>", desc := "()V" } : Jvm.MethodName)) ∈ lw_tbl := tb_m2 80 rfl
theorem tx_321 : (Jvm.Cond.declares ({ cls := "java/lang/RuntimeException", name := "<init>", desc := "(Ljava/lang/String;)V" } : Jvm.MethodName)) ∈ lw_tbl := tb_m2 81 rfl
theorem tx_322 : (Jvm.Cond.declares ({ cls := "java/lang/Exception", name := "<init>", desc := "()V" } : Jvm.MethodName)) ∈ lw_tbl := tb_m2 82 rfl
theorem tx_323 : (Jvm.Cond.declares ({ cls := "java/lang/Exception", name := "<init>", desc := "(Ljava/lang/String;)V" } : Jvm.MethodName)) ∈ lw_tbl := tb_m2 83 rfl
theorem tx_324 : (Jvm.Cond.declares ({ cls := "java/lang/Throwable", name := "<init>", desc := "()V" } : Jvm.MethodName)) ∈ lw_tbl := tb_m2 84 rfl
theorem tx_325 : (Jvm.Cond.declares ({ cls := "java/lang/Throwable", name := "<init>", desc := "(Ljava/lang/String;)V" } : Jvm.MethodName)) ∈ lw_tbl := tb_m2 85 rfl
theorem tw_326 : (Jvm.Cond.selects "java/lang/IllegalStateException" ({ cls := "java/lang/Throwable", name := "fillInStackTrace", desc := "(I)Ljava/lang/Throwable;" } : Jvm.MethodName) ({ cls := "java/lang/Throwable", name := "fillInStackTrace", desc := "(I)Ljava/lang/Throwable;" } : Jvm.MethodName)) ∈ bg := bg_m2 86 rfl rfl
theorem tw_327 : (Jvm.Cond.selects "java/lang/IllegalStateException" ({ cls := "java/lang/Throwable", name := "fillInStackTrace", desc := "()Ljava/lang/Throwable;" } : Jvm.MethodName) ({ cls := "java/lang/Throwable", name := "fillInStackTrace", desc := "()Ljava/lang/Throwable;" } : Jvm.MethodName)) ∈ bg := bg_m2 87 rfl rfl
theorem tw_328 : (Jvm.Cond.lays "java/lang/IllegalStateException" "java/lang/Throwable" "cause" "Ljava/lang/Throwable;") ∈ bg := bg_m2 88 rfl rfl
theorem tw_329 : (Jvm.Cond.lays "java/lang/Throwable" "java/lang/Throwable" "cause" "Ljava/lang/Throwable;") ∈ bg := bg_m2 89 rfl rfl
theorem tw_330 : (Jvm.Cond.lays "java/lang/IllegalStateException" "java/lang/Throwable" "stackTrace" "[Ljava/lang/StackTraceElement;") ∈ bg := bg_m2 90 rfl rfl
theorem tw_331 : (Jvm.Cond.lays "java/lang/Throwable" "java/lang/Throwable" "stackTrace" "[Ljava/lang/StackTraceElement;") ∈ bg := bg_m2 91 rfl rfl
theorem tw_332 : (Jvm.Cond.lays "java/lang/IllegalStateException" "java/lang/Throwable" "suppressedExceptions" "Ljava/util/List;") ∈ bg := bg_m2 92 rfl rfl
theorem tw_333 : (Jvm.Cond.lays "java/lang/Throwable" "java/lang/Throwable" "suppressedExceptions" "Ljava/util/List;") ∈ bg := bg_m2 93 rfl rfl
theorem tw_334 : (Jvm.Cond.lays "java/lang/IllegalStateException" "java/lang/Throwable" "detailMessage" "Ljava/lang/String;") ∈ bg := bg_m2 94 rfl rfl
theorem tw_335 : (Jvm.Cond.lays "java/lang/Throwable" "java/lang/Throwable" "detailMessage" "Ljava/lang/String;") ∈ bg := bg_m2 95 rfl rfl
theorem tw_336 : (Jvm.Cond.lays "java/lang/IllegalStateException" "java/lang/Throwable" "backtrace" "Ljava/lang/Object;") ∈ bg := bg_m2 96 rfl rfl
theorem tw_337 : (Jvm.Cond.lays "java/lang/Throwable" "java/lang/Throwable" "backtrace" "Ljava/lang/Object;") ∈ bg := bg_m2 97 rfl rfl
theorem tw_338 : (Jvm.Cond.fieldLink "java/lang/Throwable" (198 : Nat) "java/lang/Throwable" "backtrace" "Ljava/lang/Object;") ∈ bg := bg_m2 98 rfl rfl
theorem tw_339 : (Jvm.Cond.superclass "java/lang/Throwable" "java/lang/Object") ∈ bg := bg_m2 99 rfl rfl
theorem tw_340 : (Jvm.Cond.instanceMethod ({ cls := "java/lang/Throwable", name := "<init>", desc := "()V" } : Jvm.MethodName)) ∈ bg := bg_m2 100 rfl rfl
theorem tw_341 : (Jvm.Cond.code ({ cls := "java/lang/Throwable", name := "<init>", desc := "()V" } : Jvm.MethodName) prog_23_method_1_code (1 : Nat) (Option.none : Option Jvm.ClassFile.FieldType)) ∈ bg := bg_m2 101 rfl rfl
theorem tw_342 : (Jvm.Cond.methodLink "java/lang/Throwable" (1 : Nat) ({ cls := "java/lang/Object", name := "<init>", desc := "()V" } : Jvm.MethodName)) ∈ bg := bg_m2 102 rfl rfl
theorem tw_343 : (Jvm.Cond.fieldLink "java/lang/Throwable" (13 : Nat) "java/lang/Throwable" "UNASSIGNED_STACK" "[Ljava/lang/StackTraceElement;") ∈ bg := bg_m2 103 rfl rfl
theorem tx_344 : (Jvm.Cond.laysStatic "java/lang/Throwable" "UNASSIGNED_STACK" "[Ljava/lang/StackTraceElement;") ∈ lw_tbl := tb_m2 104 rfl
theorem tw_345 : (Jvm.Cond.fieldLink "java/lang/Throwable" (20 : Nat) "java/lang/Throwable" "SUPPRESSED_SENTINEL" "Ljava/util/List;") ∈ bg := bg_m2 105 rfl rfl
theorem tx_346 : (Jvm.Cond.laysStatic "java/lang/Throwable" "SUPPRESSED_SENTINEL" "Ljava/util/List;") ∈ lw_tbl := tb_m2 106 rfl
theorem tw_347 : (Jvm.Cond.methodLink "java/lang/Throwable" (27 : Nat) ({ cls := "java/lang/Throwable", name := "fillInStackTrace", desc := "()Ljava/lang/Throwable;" } : Jvm.MethodName)) ∈ bg := bg_m2 107 rfl rfl
theorem tw_348 : (Jvm.Cond.instanceMethod ({ cls := "java/lang/Throwable", name := "fillInStackTrace", desc := "()Ljava/lang/Throwable;" } : Jvm.MethodName)) ∈ bg := bg_m2 108 rfl rfl
theorem tw_349 : (Jvm.Cond.sameMethod "java/lang/Throwable" "java/lang/Throwable" "fillInStackTrace" "()Ljava/lang/Throwable;") ∈ bg := bg_m2 109 rfl rfl
theorem tw_350 : (Jvm.Cond.selects "java/lang/IllegalArgumentException" ({ cls := "java/lang/Throwable", name := "fillInStackTrace", desc := "()Ljava/lang/Throwable;" } : Jvm.MethodName) ({ cls := "java/lang/Throwable", name := "fillInStackTrace", desc := "()Ljava/lang/Throwable;" } : Jvm.MethodName)) ∈ bg := bg_m2 110 rfl rfl
theorem tw_351 : (Jvm.Cond.codeSync ({ cls := "java/lang/Throwable", name := "fillInStackTrace", desc := "()Ljava/lang/Throwable;" } : Jvm.MethodName) prog_23_method_18_code (1 : Nat) (Option.some (Jvm.ClassFile.FieldType.object "java/lang/Throwable"))) ∈ bg := bg_m2 111 rfl rfl
theorem tw_352 : (Jvm.Cond.methodLink "java/lang/Throwable" (202 : Nat) ({ cls := "java/lang/Throwable", name := "fillInStackTrace", desc := "(I)Ljava/lang/Throwable;" } : Jvm.MethodName)) ∈ bg := bg_m2 112 rfl rfl
theorem tx_353 : (Jvm.Cond.privateMethod ({ cls := "java/lang/Throwable", name := "fillInStackTrace", desc := "(I)Ljava/lang/Throwable;" } : Jvm.MethodName)) ∈ lw_tbl := tb_m2 113 rfl
theorem tw_354 : (Jvm.Cond.instanceMethod ({ cls := "java/lang/Throwable", name := "fillInStackTrace", desc := "(I)Ljava/lang/Throwable;" } : Jvm.MethodName)) ∈ bg := bg_m2 114 rfl rfl
theorem tw_355 : (Jvm.Cond.instantiable "java/lang/Throwable" (6 : Nat)) ∈ bg := bg_m2 115 rfl rfl
theorem tw_356 : (Jvm.Cond.native ({ cls := "java/lang/Throwable", name := "fillInStackTrace", desc := "(I)Ljava/lang/Throwable;" } : Jvm.MethodName)) ∈ bg := bg_m2 116 rfl rfl
theorem tx_357 : (Jvm.Cond.stringRef "FleetFloor" (64 : Nat) "the floor is open already") ∈ lw_tbl := tb_m2 117 rfl
theorem tw_358 : (Jvm.Cond.methodLink "FleetFloor" (66 : Nat) ({ cls := "java/lang/IllegalStateException", name := "<init>", desc := "(Ljava/lang/String;)V" } : Jvm.MethodName)) ∈ bg := bg_m2 118 rfl rfl
theorem tw_359 : (Jvm.Cond.instanceMethod ({ cls := "java/lang/IllegalStateException", name := "<init>", desc := "(Ljava/lang/String;)V" } : Jvm.MethodName)) ∈ bg := bg_m2 119 rfl rfl
theorem tw_360 : (Jvm.Cond.code ({ cls := "java/lang/IllegalStateException", name := "<init>", desc := "(Ljava/lang/String;)V" } : Jvm.MethodName) prog_16_method_2_code (2 : Nat) (Option.none : Option Jvm.ClassFile.FieldType)) ∈ bg := bg_m2 120 rfl rfl
theorem tw_361 : (Jvm.Cond.methodLink "java/lang/IllegalStateException" (7 : Nat) ({ cls := "java/lang/RuntimeException", name := "<init>", desc := "(Ljava/lang/String;)V" } : Jvm.MethodName)) ∈ bg := bg_m2 121 rfl rfl
theorem tw_362 : (Jvm.Cond.instanceMethod ({ cls := "java/lang/RuntimeException", name := "<init>", desc := "(Ljava/lang/String;)V" } : Jvm.MethodName)) ∈ bg := bg_m2 122 rfl rfl
theorem tw_363 : (Jvm.Cond.code ({ cls := "java/lang/RuntimeException", name := "<init>", desc := "(Ljava/lang/String;)V" } : Jvm.MethodName) prog_20_method_2_code (2 : Nat) (Option.none : Option Jvm.ClassFile.FieldType)) ∈ bg := bg_m2 123 rfl rfl
theorem tw_364 : (Jvm.Cond.methodLink "java/lang/RuntimeException" (7 : Nat) ({ cls := "java/lang/Exception", name := "<init>", desc := "(Ljava/lang/String;)V" } : Jvm.MethodName)) ∈ bg := bg_m2 124 rfl rfl
theorem tw_365 : (Jvm.Cond.instanceMethod ({ cls := "java/lang/Exception", name := "<init>", desc := "(Ljava/lang/String;)V" } : Jvm.MethodName)) ∈ bg := bg_m2 125 rfl rfl
theorem tw_366 : (Jvm.Cond.code ({ cls := "java/lang/Exception", name := "<init>", desc := "(Ljava/lang/String;)V" } : Jvm.MethodName) prog_14_method_2_code (2 : Nat) (Option.none : Option Jvm.ClassFile.FieldType)) ∈ bg := bg_m2 126 rfl rfl
theorem tw_367 : (Jvm.Cond.methodLink "java/lang/Exception" (7 : Nat) ({ cls := "java/lang/Throwable", name := "<init>", desc := "(Ljava/lang/String;)V" } : Jvm.MethodName)) ∈ bg := bg_m2 127 rfl rfl
theorem tw_368 : (Jvm.Cond.instanceMethod ({ cls := "java/lang/Throwable", name := "<init>", desc := "(Ljava/lang/String;)V" } : Jvm.MethodName)) ∈ bg := bg_m2 128 rfl rfl
theorem tw_369 : (Jvm.Cond.code ({ cls := "java/lang/Throwable", name := "<init>", desc := "(Ljava/lang/String;)V" } : Jvm.MethodName) prog_23_method_2_code (2 : Nat) (Option.none : Option Jvm.ClassFile.FieldType)) ∈ bg := bg_m2 129 rfl rfl
theorem tw_370 : (Jvm.Cond.fieldLink "java/lang/Throwable" (198 : Nat) "java/lang/Throwable" "backtrace" "Ljava/lang/Object;") ∈ bg := bg_m2 130 rfl rfl
theorem tw_371 : (Jvm.Cond.fieldLink "java/lang/Throwable" (31 : Nat) "java/lang/Throwable" "detailMessage" "Ljava/lang/String;") ∈ bg := bg_m2 131 rfl rfl
theorem tw_372 : (Jvm.Cond.fieldLink "java/lang/Throwable" (7 : Nat) "java/lang/Throwable" "cause" "Ljava/lang/Throwable;") ∈ bg := bg_m2 132 rfl rfl
theorem tw_373 : (Jvm.Cond.fieldLink "java/lang/Throwable" (17 : Nat) "java/lang/Throwable" "stackTrace" "[Ljava/lang/StackTraceElement;") ∈ bg := bg_m2 133 rfl rfl
theorem tw_374 : (Jvm.Cond.fieldLink "java/lang/Throwable" (24 : Nat) "java/lang/Throwable" "suppressedExceptions" "Ljava/util/List;") ∈ bg := bg_m2 134 rfl rfl
theorem tw_375 : (Jvm.Cond.soleField "java/lang/Throwable" "backtrace") ∈ bg := bg_m2 135 rfl rfl
theorem tw_376 : (Jvm.Cond.soleField "java/lang/Throwable" "detailMessage") ∈ bg := bg_m2 136 rfl rfl
theorem tw_377 : (Jvm.Cond.soleField "java/lang/Throwable" "cause") ∈ bg := bg_m2 137 rfl rfl
theorem tw_378 : (Jvm.Cond.soleField "java/lang/Throwable" "stackTrace") ∈ bg := bg_m2 138 rfl rfl
theorem tw_379 : (Jvm.Cond.lays "java/lang/IllegalStateException" "java/lang/Throwable" "depth" "I") ∈ bg := bg_m2 139 rfl rfl
theorem tw_380 : (Jvm.Cond.soleField "java/lang/Throwable" "depth") ∈ bg := bg_m2 140 rfl rfl
theorem tw_381 : (Jvm.Cond.soleField "java/lang/Throwable" "suppressedExceptions") ∈ bg := bg_m2 141 rfl rfl
theorem tw_382 : (Jvm.Cond.superclass "java/lang/IllegalStateException" "java/lang/RuntimeException") ∈ bg := bg_m2 142 rfl rfl
theorem tw_383 : (Jvm.Cond.arrayClass Jvm.ClassFile.FieldType.byte) ∈ bg := bg_m2 143 rfl rfl
theorem tw_384 : (Jvm.Cond.methodLink "FleetFloor" (69 : Nat) ({ cls := "FleetFloor$FloorMap", name := "isGood", desc := "()Z" } : Jvm.MethodName)) ∈ bg := bg_m2 144 rfl rfl
theorem tw_385 : (Jvm.Cond.instanceMethod ({ cls := "FleetFloor$FloorMap", name := "isGood", desc := "()Z" } : Jvm.MethodName)) ∈ bg := bg_m2 145 rfl rfl
theorem tw_386 : (Jvm.Cond.selects "FleetFloor$FloorMap" ({ cls := "FleetFloor$FloorMap", name := "isGood", desc := "()Z" } : Jvm.MethodName) ({ cls := "FleetFloor$FloorMap", name := "isGood", desc := "()Z" } : Jvm.MethodName)) ∈ bg := bg_m2 146 rfl rfl
theorem tw_387 : (Jvm.Cond.code ({ cls := "FleetFloor$FloorMap", name := "isGood", desc := "()Z" } : Jvm.MethodName) prog_4_method_5_code (3 : Nat) (Option.some Jvm.ClassFile.FieldType.boolean)) ∈ bg := bg_m2 147 rfl rfl
theorem tw_388 : (Jvm.Cond.methodLink "FleetFloor$FloorMap" (15 : Nat) ({ cls := "FleetFloor$FloorMap", name := "countOf", desc := "(I)I" } : Jvm.MethodName)) ∈ bg := bg_m2 148 rfl rfl
theorem tx_389 : (Jvm.Cond.privateMethod ({ cls := "FleetFloor$FloorMap", name := "countOf", desc := "(I)I" } : Jvm.MethodName)) ∈ lw_tbl := tb_m2 149 rfl
theorem tw_390 : (Jvm.Cond.instanceMethod ({ cls := "FleetFloor$FloorMap", name := "countOf", desc := "(I)I" } : Jvm.MethodName)) ∈ bg := bg_m2 150 rfl rfl
theorem tw_391 : (Jvm.Cond.code ({ cls := "FleetFloor$FloorMap", name := "countOf", desc := "(I)I" } : Jvm.MethodName) prog_4_method_6_code (4 : Nat) (Option.some Jvm.ClassFile.FieldType.int)) ∈ bg := bg_m2 151 rfl rfl
theorem tw_392 : (Jvm.Cond.methodLink "FleetFloor$FloorMap" (25 : Nat) ({ cls := "FleetFloor$FloorMap", name := "isJoined", desc := "()Z" } : Jvm.MethodName)) ∈ bg := bg_m2 152 rfl rfl
theorem tx_393 : (Jvm.Cond.privateMethod ({ cls := "FleetFloor$FloorMap", name := "isJoined", desc := "()Z" } : Jvm.MethodName)) ∈ lw_tbl := tb_m2 153 rfl
theorem tw_394 : (Jvm.Cond.instanceMethod ({ cls := "FleetFloor$FloorMap", name := "isJoined", desc := "()Z" } : Jvm.MethodName)) ∈ bg := bg_m2 154 rfl rfl
theorem tw_395 : (Jvm.Cond.code ({ cls := "FleetFloor$FloorMap", name := "isJoined", desc := "()Z" } : Jvm.MethodName) prog_4_method_7_code (4 : Nat) (Option.some Jvm.ClassFile.FieldType.boolean)) ∈ bg := bg_m2 155 rfl rfl
theorem tw_396 : (Jvm.Cond.classLink "FleetFloor$FloorMap" (20 : Nat) "FleetFloor$Cells") ∈ bg := bg_m2 156 rfl rfl
theorem tw_397 : (Jvm.Cond.instantiable "FleetFloor$Cells" (2 : Nat)) ∈ bg := bg_m2 157 rfl rfl
theorem tx_398 : (Jvm.Cond.methodLinkNest "FleetFloor$FloorMap" (29 : Nat) ({ cls := "FleetFloor$Cells", name := "<init>", desc := "()V" } : Jvm.MethodName) "FleetFloor") ∈ lw_tbl := tb_m2 158 rfl
theorem tw_399 : (Jvm.Cond.instanceMethod ({ cls := "FleetFloor$Cells", name := "<init>", desc := "()V" } : Jvm.MethodName)) ∈ bg := bg_m2 159 rfl rfl
theorem tw_400 : (Jvm.Cond.code ({ cls := "FleetFloor$Cells", name := "<init>", desc := "()V" } : Jvm.MethodName) prog_3_method_1_code (1 : Nat) (Option.none : Option Jvm.ClassFile.FieldType)) ∈ bg := bg_m2 160 rfl rfl
theorem tw_401 : (Jvm.Cond.methodLink "FleetFloor$Cells" (5 : Nat) ({ cls := "java/lang/Object", name := "<init>", desc := "()V" } : Jvm.MethodName)) ∈ bg := bg_m2 161 rfl rfl
theorem tw_402 : (Jvm.Cond.fieldLink "FleetFloor$Cells" (11 : Nat) "FleetFloor$Cells" "upper" "J") ∈ bg := bg_m2 162 rfl rfl
theorem tw_403 : (Jvm.Cond.fieldLink "FleetFloor$Cells" (15 : Nat) "FleetFloor$Cells" "lower" "J") ∈ bg := bg_m2 163 rfl rfl
theorem tw_404 : (Jvm.Cond.lays "FleetFloor$Cells" "FleetFloor$Cells" "upper" "J") ∈ bg := bg_m2 164 rfl rfl
theorem tw_405 : (Jvm.Cond.soleField "FleetFloor$Cells" "upper") ∈ bg := bg_m2 165 rfl rfl
theorem tw_406 : (Jvm.Cond.lays "FleetFloor$Cells" "FleetFloor$Cells" "lower" "J") ∈ bg := bg_m2 166 rfl rfl
theorem tw_407 : (Jvm.Cond.soleField "FleetFloor$Cells" "lower") ∈ bg := bg_m2 167 rfl rfl
theorem tw_408 : (Jvm.Cond.superclass "FleetFloor$Cells" "java/lang/Object") ∈ bg := bg_m2 168 rfl rfl
theorem tw_409 : (Jvm.Cond.methodLink "FleetFloor$FloorMap" (30 : Nat) ({ cls := "FleetFloor$FloorMap", name := "collect", desc := "(ILFleetFloor$Cells;)V" } : Jvm.MethodName)) ∈ bg := bg_m2 169 rfl rfl
theorem tw_410 : (Jvm.Cond.instanceMethod ({ cls := "FleetFloor$FloorMap", name := "collect", desc := "(ILFleetFloor$Cells;)V" } : Jvm.MethodName)) ∈ bg := bg_m2 170 rfl rfl
theorem tw_411 : (Jvm.Cond.selects "FleetFloor$FloorMap" ({ cls := "FleetFloor$FloorMap", name := "collect", desc := "(ILFleetFloor$Cells;)V" } : Jvm.MethodName) ({ cls := "FleetFloor$FloorMap", name := "collect", desc := "(ILFleetFloor$Cells;)V" } : Jvm.MethodName)) ∈ bg := bg_m2 171 rfl rfl
theorem tw_412 : (Jvm.Cond.code ({ cls := "FleetFloor$FloorMap", name := "collect", desc := "(ILFleetFloor$Cells;)V" } : Jvm.MethodName) prog_4_method_4_code (4 : Nat) (Option.none : Option Jvm.ClassFile.FieldType)) ∈ bg := bg_m2 172 rfl rfl
theorem tw_413 : (Jvm.Cond.methodLink "FleetFloor$FloorMap" (19 : Nat) ({ cls := "FleetFloor$Cells", name := "put", desc := "(I)V" } : Jvm.MethodName)) ∈ bg := bg_m2 173 rfl rfl
theorem tw_414 : (Jvm.Cond.instanceMethod ({ cls := "FleetFloor$Cells", name := "put", desc := "(I)V" } : Jvm.MethodName)) ∈ bg := bg_m2 174 rfl rfl
theorem tw_415 : (Jvm.Cond.selects "FleetFloor$Cells" ({ cls := "FleetFloor$Cells", name := "put", desc := "(I)V" } : Jvm.MethodName) ({ cls := "FleetFloor$Cells", name := "put", desc := "(I)V" } : Jvm.MethodName)) ∈ bg := bg_m2 175 rfl rfl
theorem tw_416 : (Jvm.Cond.code ({ cls := "FleetFloor$Cells", name := "put", desc := "(I)V" } : Jvm.MethodName) prog_3_method_5_code (2 : Nat) (Option.none : Option Jvm.ClassFile.FieldType)) ∈ bg := bg_m2 176 rfl rfl
theorem tw_417 : (Jvm.Cond.methodLink "FleetFloor$FloorMap" (34 : Nat) ({ cls := "FleetFloor$Cells", name := "has", desc := "(I)Z" } : Jvm.MethodName)) ∈ bg := bg_m2 177 rfl rfl
theorem tw_418 : (Jvm.Cond.instanceMethod ({ cls := "FleetFloor$Cells", name := "has", desc := "(I)Z" } : Jvm.MethodName)) ∈ bg := bg_m2 178 rfl rfl
theorem tw_419 : (Jvm.Cond.selects "FleetFloor$Cells" ({ cls := "FleetFloor$Cells", name := "has", desc := "(I)Z" } : Jvm.MethodName) ({ cls := "FleetFloor$Cells", name := "has", desc := "(I)Z" } : Jvm.MethodName)) ∈ bg := bg_m2 179 rfl rfl
theorem tw_420 : (Jvm.Cond.code ({ cls := "FleetFloor$Cells", name := "has", desc := "(I)Z" } : Jvm.MethodName) prog_3_method_4_code (2 : Nat) (Option.some Jvm.ClassFile.FieldType.boolean)) ∈ bg := bg_m2 180 rfl rfl
theorem tw_421 : (Jvm.Cond.methodLink "FleetFloor$FloorMap" (38 : Nat) ({ cls := "FleetFloor$FloorMap", name := "reachesAll", desc := "(ILFleetFloor$Cells;LFleetFloor$Cells;)Z" } : Jvm.MethodName)) ∈ bg := bg_m2 181 rfl rfl
theorem tw_422 : (Jvm.Cond.static ({ cls := "FleetFloor$FloorMap", name := "reachesAll", desc := "(ILFleetFloor$Cells;LFleetFloor$Cells;)Z" } : Jvm.MethodName)) ∈ bg := bg_m2 182 rfl rfl
theorem tw_423 : (Jvm.Cond.code ({ cls := "FleetFloor$FloorMap", name := "reachesAll", desc := "(ILFleetFloor$Cells;LFleetFloor$Cells;)Z" } : Jvm.MethodName) prog_4_method_8_code (6 : Nat) (Option.some Jvm.ClassFile.FieldType.boolean)) ∈ bg := bg_m2 183 rfl rfl
theorem tw_424 : (Jvm.Cond.methodLink "FleetFloor$FloorMap" (42 : Nat) ({ cls := "FleetFloor$Cells", name := "becomeNeighboursOf", desc := "(LFleetFloor$Cells;)V" } : Jvm.MethodName)) ∈ bg := bg_m2 184 rfl rfl
theorem tw_425 : (Jvm.Cond.instanceMethod ({ cls := "FleetFloor$Cells", name := "becomeNeighboursOf", desc := "(LFleetFloor$Cells;)V" } : Jvm.MethodName)) ∈ bg := bg_m2 185 rfl rfl
theorem tw_426 : (Jvm.Cond.selects "FleetFloor$Cells" ({ cls := "FleetFloor$Cells", name := "becomeNeighboursOf", desc := "(LFleetFloor$Cells;)V" } : Jvm.MethodName) ({ cls := "FleetFloor$Cells", name := "becomeNeighboursOf", desc := "(LFleetFloor$Cells;)V" } : Jvm.MethodName)) ∈ bg := bg_m2 186 rfl rfl
theorem tw_427 : (Jvm.Cond.code ({ cls := "FleetFloor$Cells", name := "becomeNeighboursOf", desc := "(LFleetFloor$Cells;)V" } : Jvm.MethodName) prog_3_method_10_code (6 : Nat) (Option.none : Option Jvm.ClassFile.FieldType)) ∈ bg := bg_m2 187 rfl rfl
theorem tw_428 : (Jvm.Cond.methodLink "FleetFloor$Cells" (20 : Nat) ({ cls := "FleetFloor$Cells", name := "neighboursInHalf", desc := "(J)J" } : Jvm.MethodName)) ∈ bg := bg_m2 188 rfl rfl
theorem tw_429 : (Jvm.Cond.static ({ cls := "FleetFloor$Cells", name := "neighboursInHalf", desc := "(J)J" } : Jvm.MethodName)) ∈ bg := bg_m2 189 rfl rfl
theorem tw_430 : (Jvm.Cond.code ({ cls := "FleetFloor$Cells", name := "neighboursInHalf", desc := "(J)J" } : Jvm.MethodName) prog_3_method_11_code (2 : Nat) (Option.some Jvm.ClassFile.FieldType.long)) ∈ bg := bg_m2 190 rfl rfl
theorem tw_431 : (Jvm.Cond.constantLong "FleetFloor$Cells" (24 : Nat) (281474976710655 : Int64)) ∈ bg := bg_m2 191 rfl rfl
theorem tw_432 : (Jvm.Cond.constantLong "FleetFloor$Cells" (26 : Nat) (140703120226303 : Int64)) ∈ bg := bg_m2 192 rfl rfl
theorem tw_433 : (Jvm.Cond.constantLong "FleetFloor$Cells" (28 : Nat) (281406240452606 : Int64)) ∈ bg := bg_m2 193 rfl rfl
theorem tw_434 : (Jvm.Cond.methodLink "FleetFloor$FloorMap" (46 : Nat) ({ cls := "FleetFloor$Cells", name := "hasAll", desc := "(LFleetFloor$Cells;)Z" } : Jvm.MethodName)) ∈ bg := bg_m2 194 rfl rfl
theorem tw_435 : (Jvm.Cond.instanceMethod ({ cls := "FleetFloor$Cells", name := "hasAll", desc := "(LFleetFloor$Cells;)Z" } : Jvm.MethodName)) ∈ bg := bg_m2 195 rfl rfl
theorem tw_436 : (Jvm.Cond.selects "FleetFloor$Cells" ({ cls := "FleetFloor$Cells", name := "hasAll", desc := "(LFleetFloor$Cells;)Z" } : Jvm.MethodName) ({ cls := "FleetFloor$Cells", name := "hasAll", desc := "(LFleetFloor$Cells;)Z" } : Jvm.MethodName)) ∈ bg := bg_m2 196 rfl rfl
theorem tw_437 : (Jvm.Cond.code ({ cls := "FleetFloor$Cells", name := "hasAll", desc := "(LFleetFloor$Cells;)Z" } : Jvm.MethodName) prog_3_method_9_code (2 : Nat) (Option.some Jvm.ClassFile.FieldType.boolean)) ∈ bg := bg_m2 197 rfl rfl
theorem tw_438 : (Jvm.Cond.constantLong "FleetFloor$Cells" (18 : Nat) (-1 : Int64)) ∈ bg := bg_m2 198 rfl rfl
theorem tw_439 : (Jvm.Cond.methodLink "FleetFloor$FloorMap" (50 : Nat) ({ cls := "FleetFloor$Cells", name := "keep", desc := "(LFleetFloor$Cells;)V" } : Jvm.MethodName)) ∈ bg := bg_m2 199 rfl rfl
theorem tw_440 : (Jvm.Cond.instanceMethod ({ cls := "FleetFloor$Cells", name := "keep", desc := "(LFleetFloor$Cells;)V" } : Jvm.MethodName)) ∈ bg := bg_m2 200 rfl rfl
theorem tw_441 : (Jvm.Cond.selects "FleetFloor$Cells" ({ cls := "FleetFloor$Cells", name := "keep", desc := "(LFleetFloor$Cells;)V" } : Jvm.MethodName) ({ cls := "FleetFloor$Cells", name := "keep", desc := "(LFleetFloor$Cells;)V" } : Jvm.MethodName)) ∈ bg := bg_m2 201 rfl rfl
theorem tw_442 : (Jvm.Cond.code ({ cls := "FleetFloor$Cells", name := "keep", desc := "(LFleetFloor$Cells;)V" } : Jvm.MethodName) prog_3_method_8_code (2 : Nat) (Option.none : Option Jvm.ClassFile.FieldType)) ∈ bg := bg_m2 202 rfl rfl
theorem tw_443 : (Jvm.Cond.methodLink "FleetFloor$FloorMap" (53 : Nat) ({ cls := "FleetFloor$Cells", name := "join", desc := "(LFleetFloor$Cells;)V" } : Jvm.MethodName)) ∈ bg := bg_m2 203 rfl rfl
theorem tw_444 : (Jvm.Cond.instanceMethod ({ cls := "FleetFloor$Cells", name := "join", desc := "(LFleetFloor$Cells;)V" } : Jvm.MethodName)) ∈ bg := bg_m2 204 rfl rfl
theorem tw_445 : (Jvm.Cond.selects "FleetFloor$Cells" ({ cls := "FleetFloor$Cells", name := "join", desc := "(LFleetFloor$Cells;)V" } : Jvm.MethodName) ({ cls := "FleetFloor$Cells", name := "join", desc := "(LFleetFloor$Cells;)V" } : Jvm.MethodName)) ∈ bg := bg_m2 205 rfl rfl
theorem tw_446 : (Jvm.Cond.code ({ cls := "FleetFloor$Cells", name := "join", desc := "(LFleetFloor$Cells;)V" } : Jvm.MethodName) prog_3_method_7_code (2 : Nat) (Option.none : Option Jvm.ClassFile.FieldType)) ∈ bg := bg_m2 206 rfl rfl
theorem tw_447 : (Jvm.Cond.classLink "FleetFloor" (72 : Nat) "java/lang/IllegalArgumentException") ∈ bg := bg_m2 207 rfl rfl
theorem tw_448 : (Jvm.Cond.instantiable "java/lang/IllegalArgumentException" (6 : Nat)) ∈ bg := bg_m2 208 rfl rfl
theorem tx_449 : (Jvm.Cond.castable "java/lang/IllegalArgumentException" "java/lang/IllegalArgumentException") ∈ lw_tbl := tb_m2 209 rfl
theorem tw_450 : (Jvm.Cond.selects "java/lang/IllegalArgumentException" ({ cls := "java/lang/Throwable", name := "fillInStackTrace", desc := "(I)Ljava/lang/Throwable;" } : Jvm.MethodName) ({ cls := "java/lang/Throwable", name := "fillInStackTrace", desc := "(I)Ljava/lang/Throwable;" } : Jvm.MethodName)) ∈ bg := bg_m2 210 rfl rfl
theorem tw_451 : (Jvm.Cond.lays "java/lang/IllegalArgumentException" "java/lang/Throwable" "cause" "Ljava/lang/Throwable;") ∈ bg := bg_m2 211 rfl rfl
theorem tw_452 : (Jvm.Cond.lays "java/lang/IllegalArgumentException" "java/lang/Throwable" "stackTrace" "[Ljava/lang/StackTraceElement;") ∈ bg := bg_m2 212 rfl rfl
theorem tw_453 : (Jvm.Cond.lays "java/lang/IllegalArgumentException" "java/lang/Throwable" "suppressedExceptions" "Ljava/util/List;") ∈ bg := bg_m2 213 rfl rfl
theorem tw_454 : (Jvm.Cond.lays "java/lang/IllegalArgumentException" "java/lang/Throwable" "detailMessage" "Ljava/lang/String;") ∈ bg := bg_m2 214 rfl rfl
theorem tw_455 : (Jvm.Cond.lays "java/lang/IllegalArgumentException" "java/lang/Throwable" "backtrace" "Ljava/lang/Object;") ∈ bg := bg_m2 215 rfl rfl
theorem tx_456 : (Jvm.Cond.stringRef "FleetFloor" (74 : Nat) "the map is not good") ∈ lw_tbl := tb_m2 216 rfl
theorem tw_457 : (Jvm.Cond.methodLink "FleetFloor" (76 : Nat) ({ cls := "java/lang/IllegalArgumentException", name := "<init>", desc := "(Ljava/lang/String;)V" } : Jvm.MethodName)) ∈ bg := bg_m2 217 rfl rfl
theorem tw_458 : (Jvm.Cond.instanceMethod ({ cls := "java/lang/IllegalArgumentException", name := "<init>", desc := "(Ljava/lang/String;)V" } : Jvm.MethodName)) ∈ bg := bg_m2 218 rfl rfl
theorem tw_459 : (Jvm.Cond.code ({ cls := "java/lang/IllegalArgumentException", name := "<init>", desc := "(Ljava/lang/String;)V" } : Jvm.MethodName) prog_15_method_2_code (2 : Nat) (Option.none : Option Jvm.ClassFile.FieldType)) ∈ bg := bg_m2 219 rfl rfl
theorem tw_460 : (Jvm.Cond.methodLink "java/lang/IllegalArgumentException" (7 : Nat) ({ cls := "java/lang/RuntimeException", name := "<init>", desc := "(Ljava/lang/String;)V" } : Jvm.MethodName)) ∈ bg := bg_m2 220 rfl rfl
theorem tw_461 : (Jvm.Cond.lays "java/lang/IllegalArgumentException" "java/lang/Throwable" "depth" "I") ∈ bg := bg_m2 221 rfl rfl
theorem tw_462 : (Jvm.Cond.superclass "java/lang/IllegalArgumentException" "java/lang/RuntimeException") ∈ bg := bg_m2 222 rfl rfl
theorem tw_463 : (Jvm.Cond.methodLink "FleetFloor" (77 : Nat) ({ cls := "FleetFloor$FloorMap", name := "cellsOf", desc := "(I)[I" } : Jvm.MethodName)) ∈ bg := bg_m2 223 rfl rfl
theorem tw_464 : (Jvm.Cond.instanceMethod ({ cls := "FleetFloor$FloorMap", name := "cellsOf", desc := "(I)[I" } : Jvm.MethodName)) ∈ bg := bg_m2 224 rfl rfl
theorem tw_465 : (Jvm.Cond.selects "FleetFloor$FloorMap" ({ cls := "FleetFloor$FloorMap", name := "cellsOf", desc := "(I)[I" } : Jvm.MethodName) ({ cls := "FleetFloor$FloorMap", name := "cellsOf", desc := "(I)[I" } : Jvm.MethodName)) ∈ bg := bg_m2 225 rfl rfl
theorem tw_466 : (Jvm.Cond.code ({ cls := "FleetFloor$FloorMap", name := "cellsOf", desc := "(I)[I" } : Jvm.MethodName) prog_4_method_3_code (5 : Nat) (Option.some (Jvm.ClassFile.FieldType.array Jvm.ClassFile.FieldType.int))) ∈ bg := bg_m2 226 rfl rfl
theorem tw_467 : (Jvm.Cond.instantiable "FleetFloor$Vehicle" (10 : Nat)) ∈ bg := bg_m2 227 rfl rfl
theorem tw_468 : (Jvm.Cond.methodLink "FleetFloor" (81 : Nat) ({ cls := "FleetFloor$Vehicle", name := "<init>", desc := "(II)V" } : Jvm.MethodName)) ∈ bg := bg_m2 228 rfl rfl
theorem tw_469 : (Jvm.Cond.instanceMethod ({ cls := "FleetFloor$Vehicle", name := "<init>", desc := "(II)V" } : Jvm.MethodName)) ∈ bg := bg_m2 229 rfl rfl
theorem tw_470 : (Jvm.Cond.code ({ cls := "FleetFloor$Vehicle", name := "<init>", desc := "(II)V" } : Jvm.MethodName) prog_9_method_1_code (3 : Nat) (Option.none : Option Jvm.ClassFile.FieldType)) ∈ bg := bg_m2 230 rfl rfl
theorem tw_471 : (Jvm.Cond.methodLink "FleetFloor$Vehicle" (3 : Nat) ({ cls := "java/lang/Object", name := "<init>", desc := "()V" } : Jvm.MethodName)) ∈ bg := bg_m2 231 rfl rfl
theorem tw_472 : (Jvm.Cond.classLink "FleetFloor$Vehicle" (18 : Nat) "java/util/ArrayList") ∈ bg := bg_m2 232 rfl rfl
theorem tw_473 : (Jvm.Cond.methodLink "FleetFloor$Vehicle" (20 : Nat) ({ cls := "java/util/ArrayList", name := "<init>", desc := "()V" } : Jvm.MethodName)) ∈ bg := bg_m2 233 rfl rfl
theorem tw_474 : (Jvm.Cond.fieldLink "FleetFloor$Vehicle" (9 : Nat) "FleetFloor$Vehicle" "number" "I") ∈ bg := bg_m2 234 rfl rfl
theorem tx_475 : (Jvm.Cond.fieldLinkNest "FleetFloor" (218 : Nat) "FleetFloor$Vehicle" "number" "I" "FleetFloor") ∈ lw_tbl := tb_m2 235 rfl
theorem tw_476 : (Jvm.Cond.fieldLink "FleetFloor$Vehicle" (15 : Nat) "FleetFloor$Vehicle" "parking" "I") ∈ bg := bg_m2 236 rfl rfl
theorem tx_477 : (Jvm.Cond.fieldLinkNest "FleetFloor$Planner" (53 : Nat) "FleetFloor$Vehicle" "parking" "I" "FleetFloor") ∈ lw_tbl := tb_m2 237 rfl
theorem tw_478 : (Jvm.Cond.fieldLink "FleetFloor$Vehicle" (21 : Nat) "FleetFloor$Vehicle" "moves" "Ljava/util/ArrayList;") ∈ bg := bg_m2 238 rfl rfl
theorem tx_479 : (Jvm.Cond.fieldLinkNest "FleetFloor$Planner" (76 : Nat) "FleetFloor$Vehicle" "moves" "Ljava/util/ArrayList;" "FleetFloor") ∈ lw_tbl := tb_m2 239 rfl
theorem tx_480 : (Jvm.Cond.fieldLinkNest "FleetFloor" (176 : Nat) "FleetFloor$Vehicle" "moves" "Ljava/util/ArrayList;" "FleetFloor") ∈ lw_tbl := tb_m3 0 rfl
theorem tw_481 : (Jvm.Cond.fieldLink "FleetFloor$Vehicle" (25 : Nat) "FleetFloor$Vehicle" "made" "I") ∈ bg := bg_m3 1 rfl rfl
theorem tx_482 : (Jvm.Cond.fieldLinkNest "FleetFloor" (160 : Nat) "FleetFloor$Vehicle" "made" "I" "FleetFloor") ∈ lw_tbl := tb_m3 2 rfl
theorem tw_483 : (Jvm.Cond.fieldLink "FleetFloor$Vehicle" (28 : Nat) "FleetFloor$Vehicle" "allowed" "I") ∈ bg := bg_m3 3 rfl rfl
theorem tx_484 : (Jvm.Cond.fieldLinkNest "FleetFloor" (167 : Nat) "FleetFloor$Vehicle" "allowed" "I" "FleetFloor") ∈ lw_tbl := tb_m3 4 rfl
theorem tw_485 : (Jvm.Cond.fieldLink "FleetFloor$Vehicle" (31 : Nat) "FleetFloor$Vehicle" "known" "I") ∈ bg := bg_m3 5 rfl rfl
theorem tx_486 : (Jvm.Cond.fieldLinkNest "FleetFloor" (170 : Nat) "FleetFloor$Vehicle" "known" "I" "FleetFloor") ∈ lw_tbl := tb_m3 6 rfl
theorem tw_487 : (Jvm.Cond.fieldLink "FleetFloor$Vehicle" (34 : Nat) "FleetFloor$Vehicle" "granted" "I") ∈ bg := bg_m3 7 rfl rfl
theorem tx_488 : (Jvm.Cond.fieldLinkNest "FleetFloor" (173 : Nat) "FleetFloor$Vehicle" "granted" "I" "FleetFloor") ∈ lw_tbl := tb_m3 8 rfl
theorem tw_489 : (Jvm.Cond.fieldLink "FleetFloor$Vehicle" (37 : Nat) "FleetFloor$Vehicle" "latestTask" "I") ∈ bg := bg_m3 9 rfl rfl
theorem tx_490 : (Jvm.Cond.fieldLinkNest "FleetFloor" (179 : Nat) "FleetFloor$Vehicle" "latestTask" "I" "FleetFloor") ∈ lw_tbl := tb_m3 10 rfl
theorem tw_491 : (Jvm.Cond.fieldLink "FleetFloor$Vehicle" (40 : Nat) "FleetFloor$Vehicle" "finishAt" "I") ∈ bg := bg_m3 11 rfl rfl
theorem tx_492 : (Jvm.Cond.fieldLinkNest "FleetFloor$Planner" (97 : Nat) "FleetFloor$Vehicle" "finishAt" "I" "FleetFloor") ∈ lw_tbl := tb_m3 12 rfl
theorem tx_493 : (Jvm.Cond.fieldLinkNest "FleetFloor" (211 : Nat) "FleetFloor$Vehicle" "finishAt" "I" "FleetFloor") ∈ lw_tbl := tb_m3 13 rfl
theorem tw_494 : (Jvm.Cond.fieldLink "FleetFloor$Vehicle" (43 : Nat) "FleetFloor$Vehicle" "justMoved" "Z") ∈ bg := bg_m3 14 rfl rfl
theorem tx_495 : (Jvm.Cond.fieldLinkNest "FleetFloor" (203 : Nat) "FleetFloor$Vehicle" "justMoved" "Z" "FleetFloor") ∈ lw_tbl := tb_m3 15 rfl
theorem tw_496 : (Jvm.Cond.laysFinal "FleetFloor$Vehicle" "FleetFloor$Vehicle" "number" "I") ∈ bg := bg_m3 16 rfl rfl
theorem tw_497 : (Jvm.Cond.soleField "FleetFloor$Vehicle" "number") ∈ bg := bg_m3 17 rfl rfl
theorem tw_498 : (Jvm.Cond.laysFinal "FleetFloor$Vehicle" "FleetFloor$Vehicle" "parking" "I") ∈ bg := bg_m3 18 rfl rfl
theorem tw_499 : (Jvm.Cond.soleField "FleetFloor$Vehicle" "parking") ∈ bg := bg_m3 19 rfl rfl
theorem tw_500 : (Jvm.Cond.laysFinal "FleetFloor$Vehicle" "FleetFloor$Vehicle" "moves" "Ljava/util/ArrayList;") ∈ bg := bg_m3 20 rfl rfl
theorem tw_501 : (Jvm.Cond.soleField "FleetFloor$Vehicle" "moves") ∈ bg := bg_m3 21 rfl rfl
theorem tw_502 : (Jvm.Cond.lays "FleetFloor$Vehicle" "FleetFloor$Vehicle" "made" "I") ∈ bg := bg_m3 22 rfl rfl
theorem tw_503 : (Jvm.Cond.soleField "FleetFloor$Vehicle" "made") ∈ bg := bg_m3 23 rfl rfl
theorem tw_504 : (Jvm.Cond.lays "FleetFloor$Vehicle" "FleetFloor$Vehicle" "allowed" "I") ∈ bg := bg_m3 24 rfl rfl
theorem tw_505 : (Jvm.Cond.soleField "FleetFloor$Vehicle" "allowed") ∈ bg := bg_m3 25 rfl rfl
theorem tw_506 : (Jvm.Cond.lays "FleetFloor$Vehicle" "FleetFloor$Vehicle" "known" "I") ∈ bg := bg_m3 26 rfl rfl
theorem tw_507 : (Jvm.Cond.soleField "FleetFloor$Vehicle" "known") ∈ bg := bg_m3 27 rfl rfl
theorem tw_508 : (Jvm.Cond.lays "FleetFloor$Vehicle" "FleetFloor$Vehicle" "granted" "I") ∈ bg := bg_m3 28 rfl rfl
theorem tw_509 : (Jvm.Cond.soleField "FleetFloor$Vehicle" "granted") ∈ bg := bg_m3 29 rfl rfl
theorem tw_510 : (Jvm.Cond.lays "FleetFloor$Vehicle" "FleetFloor$Vehicle" "latestTask" "I") ∈ bg := bg_m3 30 rfl rfl
theorem tw_511 : (Jvm.Cond.soleField "FleetFloor$Vehicle" "latestTask") ∈ bg := bg_m3 31 rfl rfl
theorem tw_512 : (Jvm.Cond.lays "FleetFloor$Vehicle" "FleetFloor$Vehicle" "finishAt" "I") ∈ bg := bg_m3 32 rfl rfl
theorem tw_513 : (Jvm.Cond.soleField "FleetFloor$Vehicle" "finishAt") ∈ bg := bg_m3 33 rfl rfl
theorem tw_514 : (Jvm.Cond.lays "FleetFloor$Vehicle" "FleetFloor$Vehicle" "justMoved" "Z") ∈ bg := bg_m3 34 rfl rfl
theorem tw_515 : (Jvm.Cond.soleField "FleetFloor$Vehicle" "justMoved") ∈ bg := bg_m3 35 rfl rfl
theorem tw_516 : (Jvm.Cond.superclass "FleetFloor$Vehicle" "java/lang/Object") ∈ bg := bg_m3 36 rfl rfl
theorem tw_517 : (Jvm.Cond.classLink "FleetFloor" (84 : Nat) "FleetFloor$Cells") ∈ bg := bg_m3 37 rfl rfl
theorem tx_518 : (Jvm.Cond.methodLinkNest "FleetFloor" (86 : Nat) ({ cls := "FleetFloor$Cells", name := "<init>", desc := "()V" } : Jvm.MethodName) "FleetFloor") ∈ lw_tbl := tb_m3 38 rfl
theorem tw_519 : (Jvm.Cond.methodLink "FleetFloor" (87 : Nat) ({ cls := "FleetFloor$FloorMap", name := "collect", desc := "(ILFleetFloor$Cells;)V" } : Jvm.MethodName)) ∈ bg := bg_m3 39 rfl rfl
theorem tw_520 : (Jvm.Cond.classLink "FleetFloor" (91 : Nat) "FleetFloor$Planner") ∈ bg := bg_m3 40 rfl rfl
theorem tw_521 : (Jvm.Cond.instantiable "FleetFloor$Planner" (13 : Nat)) ∈ bg := bg_m3 41 rfl rfl
theorem tw_522 : (Jvm.Cond.methodLink "FleetFloor" (93 : Nat) ({ cls := "FleetFloor$Planner", name := "<init>", desc := "(LFleetFloor$Cells;[LFleetFloor$Vehicle;)V" } : Jvm.MethodName)) ∈ bg := bg_m3 42 rfl rfl
theorem tw_523 : (Jvm.Cond.instanceMethod ({ cls := "FleetFloor$Planner", name := "<init>", desc := "(LFleetFloor$Cells;[LFleetFloor$Vehicle;)V" } : Jvm.MethodName)) ∈ bg := bg_m3 43 rfl rfl
theorem tw_524 : (Jvm.Cond.code ({ cls := "FleetFloor$Planner", name := "<init>", desc := "(LFleetFloor$Cells;[LFleetFloor$Vehicle;)V" } : Jvm.MethodName) prog_7_method_1_code (4 : Nat) (Option.none : Option Jvm.ClassFile.FieldType)) ∈ bg := bg_m3 44 rfl rfl
theorem tw_525 : (Jvm.Cond.methodLink "FleetFloor$Planner" (3 : Nat) ({ cls := "java/lang/Object", name := "<init>", desc := "()V" } : Jvm.MethodName)) ∈ bg := bg_m3 45 rfl rfl
theorem tw_526 : (Jvm.Cond.classLink "FleetFloor$Planner" (19 : Nat) "FleetFloor$Cells") ∈ bg := bg_m3 46 rfl rfl
theorem tx_527 : (Jvm.Cond.arrayOver (Jvm.ClassFile.FieldType.object "FleetFloor$Cells")) ∈ lw_tbl := tb_m3 47 rfl
theorem tx_528 : (Jvm.Cond.methodLinkNest "FleetFloor$Planner" (28 : Nat) ({ cls := "FleetFloor$Cells", name := "<init>", desc := "()V" } : Jvm.MethodName) "FleetFloor") ∈ lw_tbl := tb_m3 48 rfl
theorem tw_529 : (Jvm.Cond.fieldLink "FleetFloor$Planner" (9 : Nat) "FleetFloor$Planner" "common" "LFleetFloor$Cells;") ∈ bg := bg_m3 49 rfl rfl
theorem tw_530 : (Jvm.Cond.fieldLink "FleetFloor$Planner" (15 : Nat) "FleetFloor$Planner" "vehicles" "[LFleetFloor$Vehicle;") ∈ bg := bg_m3 50 rfl rfl
theorem tw_531 : (Jvm.Cond.fieldLink "FleetFloor$Planner" (21 : Nat) "FleetFloor$Planner" "canEnter" "[LFleetFloor$Cells;") ∈ bg := bg_m3 51 rfl rfl
theorem tw_532 : (Jvm.Cond.fieldLink "FleetFloor$Planner" (25 : Nat) "FleetFloor$Planner" "canBe" "[LFleetFloor$Cells;") ∈ bg := bg_m3 52 rfl rfl
theorem tw_533 : (Jvm.Cond.fieldLink "FleetFloor$Planner" (29 : Nat) "FleetFloor$Planner" "reached" "[LFleetFloor$Cells;") ∈ bg := bg_m3 53 rfl rfl
theorem tw_534 : (Jvm.Cond.fieldLink "FleetFloor$Planner" (32 : Nat) "FleetFloor$Planner" "aim" "LFleetFloor$Cells;") ∈ bg := bg_m3 54 rfl rfl
theorem tw_535 : (Jvm.Cond.fieldLink "FleetFloor$Planner" (35 : Nat) "FleetFloor$Planner" "scratch" "LFleetFloor$Cells;") ∈ bg := bg_m3 55 rfl rfl
theorem tw_536 : (Jvm.Cond.fieldLink "FleetFloor$Planner" (38 : Nat) "FleetFloor$Planner" "way" "[I") ∈ bg := bg_m3 56 rfl rfl
theorem tw_537 : (Jvm.Cond.fieldLink "FleetFloor$Planner" (48 : Nat) "FleetFloor$Planner" "first" "I") ∈ bg := bg_m3 57 rfl rfl
theorem tw_538 : (Jvm.Cond.fieldLink "FleetFloor$Planner" (52 : Nat) "FleetFloor$Planner" "second" "I") ∈ bg := bg_m3 58 rfl rfl
theorem tw_539 : (Jvm.Cond.fieldLink "FleetFloor$Planner" (58 : Nat) "FleetFloor$Planner" "parking" "I") ∈ bg := bg_m3 59 rfl rfl
theorem tw_540 : (Jvm.Cond.fieldLink "FleetFloor$Planner" (67 : Nat) "FleetFloor$Planner" "end" "I") ∈ bg := bg_m3 60 rfl rfl
theorem tw_541 : (Jvm.Cond.fieldLink "FleetFloor$Planner" (91 : Nat) "FleetFloor$Planner" "finish" "I") ∈ bg := bg_m3 61 rfl rfl
theorem tw_542 : (Jvm.Cond.laysFinal "FleetFloor$Planner" "FleetFloor$Planner" "common" "LFleetFloor$Cells;") ∈ bg := bg_m3 62 rfl rfl
theorem tw_543 : (Jvm.Cond.soleField "FleetFloor$Planner" "common") ∈ bg := bg_m3 63 rfl rfl
theorem tw_544 : (Jvm.Cond.laysFinal "FleetFloor$Planner" "FleetFloor$Planner" "vehicles" "[LFleetFloor$Vehicle;") ∈ bg := bg_m3 64 rfl rfl
theorem tw_545 : (Jvm.Cond.soleField "FleetFloor$Planner" "vehicles") ∈ bg := bg_m3 65 rfl rfl
theorem tw_546 : (Jvm.Cond.laysFinal "FleetFloor$Planner" "FleetFloor$Planner" "canEnter" "[LFleetFloor$Cells;") ∈ bg := bg_m3 66 rfl rfl
theorem tw_547 : (Jvm.Cond.soleField "FleetFloor$Planner" "canEnter") ∈ bg := bg_m3 67 rfl rfl
theorem tw_548 : (Jvm.Cond.laysFinal "FleetFloor$Planner" "FleetFloor$Planner" "canBe" "[LFleetFloor$Cells;") ∈ bg := bg_m3 68 rfl rfl
theorem tw_549 : (Jvm.Cond.soleField "FleetFloor$Planner" "canBe") ∈ bg := bg_m3 69 rfl rfl
theorem tw_550 : (Jvm.Cond.laysFinal "FleetFloor$Planner" "FleetFloor$Planner" "reached" "[LFleetFloor$Cells;") ∈ bg := bg_m3 70 rfl rfl
theorem tw_551 : (Jvm.Cond.soleField "FleetFloor$Planner" "reached") ∈ bg := bg_m3 71 rfl rfl
theorem tw_552 : (Jvm.Cond.laysFinal "FleetFloor$Planner" "FleetFloor$Planner" "aim" "LFleetFloor$Cells;") ∈ bg := bg_m3 72 rfl rfl
theorem tw_553 : (Jvm.Cond.soleField "FleetFloor$Planner" "aim") ∈ bg := bg_m3 73 rfl rfl
theorem tw_554 : (Jvm.Cond.laysFinal "FleetFloor$Planner" "FleetFloor$Planner" "scratch" "LFleetFloor$Cells;") ∈ bg := bg_m3 74 rfl rfl
theorem tw_555 : (Jvm.Cond.soleField "FleetFloor$Planner" "scratch") ∈ bg := bg_m3 75 rfl rfl
theorem tw_556 : (Jvm.Cond.laysFinal "FleetFloor$Planner" "FleetFloor$Planner" "way" "[I") ∈ bg := bg_m3 76 rfl rfl
theorem tw_557 : (Jvm.Cond.soleField "FleetFloor$Planner" "way") ∈ bg := bg_m3 77 rfl rfl
theorem tw_558 : (Jvm.Cond.lays "FleetFloor$Planner" "FleetFloor$Planner" "first" "I") ∈ bg := bg_m3 78 rfl rfl
theorem tw_559 : (Jvm.Cond.soleField "FleetFloor$Planner" "first") ∈ bg := bg_m3 79 rfl rfl
theorem tw_560 : (Jvm.Cond.lays "FleetFloor$Planner" "FleetFloor$Planner" "second" "I") ∈ bg := bg_m3 80 rfl rfl
theorem tw_561 : (Jvm.Cond.soleField "FleetFloor$Planner" "second") ∈ bg := bg_m3 81 rfl rfl
theorem tw_562 : (Jvm.Cond.lays "FleetFloor$Planner" "FleetFloor$Planner" "parking" "I") ∈ bg := bg_m3 82 rfl rfl
theorem tw_563 : (Jvm.Cond.soleField "FleetFloor$Planner" "parking") ∈ bg := bg_m3 83 rfl rfl
theorem tw_564 : (Jvm.Cond.lays "FleetFloor$Planner" "FleetFloor$Planner" "end" "I") ∈ bg := bg_m3 84 rfl rfl
theorem tw_565 : (Jvm.Cond.soleField "FleetFloor$Planner" "end") ∈ bg := bg_m3 85 rfl rfl
theorem tw_566 : (Jvm.Cond.lays "FleetFloor$Planner" "FleetFloor$Planner" "finish" "I") ∈ bg := bg_m3 86 rfl rfl
theorem tw_567 : (Jvm.Cond.soleField "FleetFloor$Planner" "finish") ∈ bg := bg_m3 87 rfl rfl
theorem tw_568 : (Jvm.Cond.superclass "FleetFloor$Planner" "java/lang/Object") ∈ bg := bg_m3 88 rfl rfl
theorem tw_569 : (Jvm.Cond.methodLink "FleetFloorLaw" (42 : Nat) ({ cls := "FleetFloorLaw", name := "task", desc := "(LFleetFloor;II[J)I" } : Jvm.MethodName)) ∈ bg := bg_m3 89 rfl rfl
theorem tw_570 : (Jvm.Cond.static ({ cls := "FleetFloorLaw", name := "task", desc := "(LFleetFloor;II[J)I" } : Jvm.MethodName)) ∈ bg := bg_m3 90 rfl rfl
theorem tw_571 : (Jvm.Cond.codeWith ({ cls := "FleetFloorLaw", name := "task", desc := "(LFleetFloor;II[J)I" } : Jvm.MethodName) method_4_code (5 : Nat) (Option.some Jvm.ClassFile.FieldType.int) [((0 : Nat), (10 : Nat), (13 : Nat), (15 : Nat)), ((0 : Nat), (10 : Nat), (17 : Nat), (13 : Nat))]) ∈ bg := bg_m3 91 rfl rfl
theorem tw_572 : (Jvm.Cond.methodLink "FleetFloorLaw" (17 : Nat) ({ cls := "FleetFloor", name := "task", desc := "(II)I" } : Jvm.MethodName)) ∈ bg := bg_m3 92 rfl rfl
theorem tw_573 : (Jvm.Cond.instanceMethod ({ cls := "FleetFloor", name := "task", desc := "(II)I" } : Jvm.MethodName)) ∈ bg := bg_m3 93 rfl rfl
theorem tw_574 : (Jvm.Cond.selects "FleetFloor" ({ cls := "FleetFloor", name := "task", desc := "(II)I" } : Jvm.MethodName) ({ cls := "FleetFloor", name := "task", desc := "(II)I" } : Jvm.MethodName)) ∈ bg := bg_m3 94 rfl rfl
theorem tw_575 : (Jvm.Cond.code ({ cls := "FleetFloor", name := "task", desc := "(II)I" } : Jvm.MethodName) prog_1_method_4_code (3 : Nat) (Option.some Jvm.ClassFile.FieldType.int)) ∈ bg := bg_m3 95 rfl rfl
theorem tx_576 : (Jvm.Cond.stringRef "FleetFloor" (100 : Nat) "the floor is not open, or there were all tasks") ∈ lw_tbl := tb_m3 96 rfl
theorem tw_577 : (Jvm.Cond.methodLink "FleetFloor" (102 : Nat) ({ cls := "FleetFloor", name := "isStation", desc := "(I)Z" } : Jvm.MethodName)) ∈ bg := bg_m3 97 rfl rfl
theorem tx_578 : (Jvm.Cond.privateMethod ({ cls := "FleetFloor", name := "isStation", desc := "(I)Z" } : Jvm.MethodName)) ∈ lw_tbl := tb_m3 98 rfl
theorem tw_579 : (Jvm.Cond.instanceMethod ({ cls := "FleetFloor", name := "isStation", desc := "(I)Z" } : Jvm.MethodName)) ∈ bg := bg_m3 99 rfl rfl
theorem tw_580 : (Jvm.Cond.code ({ cls := "FleetFloor", name := "isStation", desc := "(I)Z" } : Jvm.MethodName) prog_1_method_16_code (2 : Nat) (Option.some Jvm.ClassFile.FieldType.boolean)) ∈ bg := bg_m3 100 rfl rfl
theorem tx_581 : (Jvm.Cond.stringRef "FleetFloor" (106 : Nat) "there is no such station") ∈ lw_tbl := tb_m3 101 rfl
theorem tw_582 : (Jvm.Cond.instantiable "FleetFloor$Task" (4 : Nat)) ∈ bg := bg_m3 102 rfl rfl
theorem tw_583 : (Jvm.Cond.methodLink "FleetFloor" (110 : Nat) ({ cls := "FleetFloor$Task", name := "<init>", desc := "(II)V" } : Jvm.MethodName)) ∈ bg := bg_m3 103 rfl rfl
theorem tw_584 : (Jvm.Cond.instanceMethod ({ cls := "FleetFloor$Task", name := "<init>", desc := "(II)V" } : Jvm.MethodName)) ∈ bg := bg_m3 104 rfl rfl
theorem tw_585 : (Jvm.Cond.code ({ cls := "FleetFloor$Task", name := "<init>", desc := "(II)V" } : Jvm.MethodName) prog_8_method_1_code (3 : Nat) (Option.none : Option Jvm.ClassFile.FieldType)) ∈ bg := bg_m3 105 rfl rfl
theorem tw_586 : (Jvm.Cond.methodLink "FleetFloor$Task" (3 : Nat) ({ cls := "java/lang/Object", name := "<init>", desc := "()V" } : Jvm.MethodName)) ∈ bg := bg_m3 106 rfl rfl
theorem tw_587 : (Jvm.Cond.fieldLink "FleetFloor$Task" (9 : Nat) "FleetFloor$Task" "first" "I") ∈ bg := bg_m3 107 rfl rfl
theorem tx_588 : (Jvm.Cond.fieldLinkNest "FleetFloor$Planner" (42 : Nat) "FleetFloor$Task" "first" "I" "FleetFloor") ∈ lw_tbl := tb_m3 108 rfl
theorem tw_589 : (Jvm.Cond.fieldLink "FleetFloor$Task" (15 : Nat) "FleetFloor$Task" "second" "I") ∈ bg := bg_m3 109 rfl rfl
theorem tx_590 : (Jvm.Cond.fieldLinkNest "FleetFloor$Planner" (49 : Nat) "FleetFloor$Task" "second" "I" "FleetFloor") ∈ lw_tbl := tb_m3 110 rfl
theorem tw_591 : (Jvm.Cond.fieldLink "FleetFloor$Task" (18 : Nat) "FleetFloor$Task" "carrier" "I") ∈ bg := bg_m3 111 rfl rfl
theorem tx_592 : (Jvm.Cond.fieldLinkNest "FleetFloor" (194 : Nat) "FleetFloor$Task" "carrier" "I" "FleetFloor") ∈ lw_tbl := tb_m3 112 rfl
theorem tw_593 : (Jvm.Cond.fieldLink "FleetFloor$Task" (21 : Nat) "FleetFloor$Task" "finishedIn" "I") ∈ bg := bg_m3 113 rfl rfl
theorem tx_594 : (Jvm.Cond.fieldLinkNest "FleetFloor" (197 : Nat) "FleetFloor$Task" "finishedIn" "I" "FleetFloor") ∈ lw_tbl := tb_m3 114 rfl
theorem tw_595 : (Jvm.Cond.laysFinal "FleetFloor$Task" "FleetFloor$Task" "first" "I") ∈ bg := bg_m3 115 rfl rfl
theorem tw_596 : (Jvm.Cond.soleField "FleetFloor$Task" "first") ∈ bg := bg_m3 116 rfl rfl
theorem tw_597 : (Jvm.Cond.laysFinal "FleetFloor$Task" "FleetFloor$Task" "second" "I") ∈ bg := bg_m3 117 rfl rfl
theorem tw_598 : (Jvm.Cond.soleField "FleetFloor$Task" "second") ∈ bg := bg_m3 118 rfl rfl
theorem tw_599 : (Jvm.Cond.lays "FleetFloor$Task" "FleetFloor$Task" "carrier" "I") ∈ bg := bg_m3 119 rfl rfl
theorem tw_600 : (Jvm.Cond.soleField "FleetFloor$Task" "carrier") ∈ bg := bg_m3 120 rfl rfl
theorem tw_601 : (Jvm.Cond.lays "FleetFloor$Task" "FleetFloor$Task" "finishedIn" "I") ∈ bg := bg_m3 121 rfl rfl
theorem tw_602 : (Jvm.Cond.soleField "FleetFloor$Task" "finishedIn") ∈ bg := bg_m3 122 rfl rfl
theorem tw_603 : (Jvm.Cond.superclass "FleetFloor$Task" "java/lang/Object") ∈ bg := bg_m3 123 rfl rfl
theorem tw_604 : (Jvm.Cond.methodLink "FleetFloor" (111 : Nat) ({ cls := "java/util/ArrayList", name := "add", desc := "(Ljava/lang/Object;)Z" } : Jvm.MethodName)) ∈ bg := bg_m3 124 rfl rfl
theorem tw_605 : (Jvm.Cond.methodLink "FleetFloorLaw" (46 : Nat) ({ cls := "FleetFloorLaw", name := "tick", desc := "(LFleetFloor;[J)I" } : Jvm.MethodName)) ∈ bg := bg_m3 125 rfl rfl
theorem tw_606 : (Jvm.Cond.static ({ cls := "FleetFloorLaw", name := "tick", desc := "(LFleetFloor;[J)I" } : Jvm.MethodName)) ∈ bg := bg_m3 126 rfl rfl
theorem tw_607 : (Jvm.Cond.codeWith ({ cls := "FleetFloorLaw", name := "tick", desc := "(LFleetFloor;[J)I" } : Jvm.MethodName) method_5_code (3 : Nat) (Option.some Jvm.ClassFile.FieldType.int) [((0 : Nat), (8 : Nat), (11 : Nat), (15 : Nat))]) ∈ bg := bg_m3 127 rfl rfl
theorem tw_608 : (Jvm.Cond.methodLink "FleetFloorLaw" (21 : Nat) ({ cls := "FleetFloor", name := "tick", desc := "()I" } : Jvm.MethodName)) ∈ bg := bg_m3 128 rfl rfl
theorem tw_609 : (Jvm.Cond.instanceMethod ({ cls := "FleetFloor", name := "tick", desc := "()I" } : Jvm.MethodName)) ∈ bg := bg_m3 129 rfl rfl
theorem tw_610 : (Jvm.Cond.selects "FleetFloor" ({ cls := "FleetFloor", name := "tick", desc := "()I" } : Jvm.MethodName) ({ cls := "FleetFloor", name := "tick", desc := "()I" } : Jvm.MethodName)) ∈ bg := bg_m3 130 rfl rfl
theorem tw_611 : (Jvm.Cond.code ({ cls := "FleetFloor", name := "tick", desc := "()I" } : Jvm.MethodName) prog_1_method_5_code (2 : Nat) (Option.some Jvm.ClassFile.FieldType.int)) ∈ bg := bg_m3 131 rfl rfl
theorem tx_612 : (Jvm.Cond.stringRef "FleetFloor" (115 : Nat) "the floor is not open") ∈ lw_tbl := tb_m3 132 rfl
theorem tw_613 : (Jvm.Cond.methodLink "FleetFloor" (117 : Nat) ({ cls := "FleetFloor", name := "makeMoves", desc := "()I" } : Jvm.MethodName)) ∈ bg := bg_m3 133 rfl rfl
theorem tx_614 : (Jvm.Cond.privateMethod ({ cls := "FleetFloor", name := "makeMoves", desc := "()I" } : Jvm.MethodName)) ∈ lw_tbl := tb_m3 134 rfl
theorem tw_615 : (Jvm.Cond.instanceMethod ({ cls := "FleetFloor", name := "makeMoves", desc := "()I" } : Jvm.MethodName)) ∈ bg := bg_m3 135 rfl rfl
theorem tw_616 : (Jvm.Cond.code ({ cls := "FleetFloor", name := "makeMoves", desc := "()I" } : Jvm.MethodName) prog_1_method_18_code (4 : Nat) (Option.some Jvm.ClassFile.FieldType.int)) ∈ bg := bg_m3 136 rfl rfl
theorem tw_617 : (Jvm.Cond.methodLink "FleetFloor" (200 : Nat) ({ cls := "FleetFloor$Vehicle", name := "canMove", desc := "()Z" } : Jvm.MethodName)) ∈ bg := bg_m3 137 rfl rfl
theorem tw_618 : (Jvm.Cond.instanceMethod ({ cls := "FleetFloor$Vehicle", name := "canMove", desc := "()Z" } : Jvm.MethodName)) ∈ bg := bg_m3 138 rfl rfl
theorem tw_619 : (Jvm.Cond.selects "FleetFloor$Vehicle" ({ cls := "FleetFloor$Vehicle", name := "canMove", desc := "()Z" } : Jvm.MethodName) ({ cls := "FleetFloor$Vehicle", name := "canMove", desc := "()Z" } : Jvm.MethodName)) ∈ bg := bg_m3 139 rfl rfl
theorem tw_620 : (Jvm.Cond.code ({ cls := "FleetFloor$Vehicle", name := "canMove", desc := "()Z" } : Jvm.MethodName) prog_9_method_3_code (1 : Nat) (Option.some Jvm.ClassFile.FieldType.boolean)) ∈ bg := bg_m3 140 rfl rfl
theorem tw_621 : (Jvm.Cond.methodLink "FleetFloor" (207 : Nat) ({ cls := "FleetFloor", name := "noteFinish", desc := "(LFleetFloor$Vehicle;)V" } : Jvm.MethodName)) ∈ bg := bg_m3 141 rfl rfl
theorem tx_622 : (Jvm.Cond.privateMethod ({ cls := "FleetFloor", name := "noteFinish", desc := "(LFleetFloor$Vehicle;)V" } : Jvm.MethodName)) ∈ lw_tbl := tb_m3 142 rfl
theorem tw_623 : (Jvm.Cond.instanceMethod ({ cls := "FleetFloor", name := "noteFinish", desc := "(LFleetFloor$Vehicle;)V" } : Jvm.MethodName)) ∈ bg := bg_m3 143 rfl rfl
theorem tw_624 : (Jvm.Cond.code ({ cls := "FleetFloor", name := "noteFinish", desc := "(LFleetFloor$Vehicle;)V" } : Jvm.MethodName) prog_1_method_19_code (2 : Nat) (Option.none : Option Jvm.ClassFile.FieldType)) ∈ bg := bg_m3 144 rfl rfl
theorem tw_625 : (Jvm.Cond.methodLink "FleetFloor" (120 : Nat) ({ cls := "FleetFloor", name := "sendDones", desc := "()V" } : Jvm.MethodName)) ∈ bg := bg_m3 145 rfl rfl
theorem tx_626 : (Jvm.Cond.privateMethod ({ cls := "FleetFloor", name := "sendDones", desc := "()V" } : Jvm.MethodName)) ∈ lw_tbl := tb_m3 146 rfl
theorem tw_627 : (Jvm.Cond.instanceMethod ({ cls := "FleetFloor", name := "sendDones", desc := "()V" } : Jvm.MethodName)) ∈ bg := bg_m3 147 rfl rfl
theorem tw_628 : (Jvm.Cond.code ({ cls := "FleetFloor", name := "sendDones", desc := "()V" } : Jvm.MethodName) prog_1_method_20_code (3 : Nat) (Option.none : Option Jvm.ClassFile.FieldType)) ∈ bg := bg_m3 148 rfl rfl
theorem tw_629 : (Jvm.Cond.methodLink "FleetFloor" (214 : Nat) ({ cls := "FleetFloor", name := "reportsNow", desc := "(LFleetFloor$Vehicle;)Z" } : Jvm.MethodName)) ∈ bg := bg_m3 149 rfl rfl
theorem tx_630 : (Jvm.Cond.privateMethod ({ cls := "FleetFloor", name := "reportsNow", desc := "(LFleetFloor$Vehicle;)Z" } : Jvm.MethodName)) ∈ lw_tbl := tb_m3 150 rfl
theorem tw_631 : (Jvm.Cond.instanceMethod ({ cls := "FleetFloor", name := "reportsNow", desc := "(LFleetFloor$Vehicle;)Z" } : Jvm.MethodName)) ∈ bg := bg_m3 151 rfl rfl
theorem tw_632 : (Jvm.Cond.code ({ cls := "FleetFloor", name := "reportsNow", desc := "(LFleetFloor$Vehicle;)Z" } : Jvm.MethodName) prog_1_method_21_code (2 : Nat) (Option.some Jvm.ClassFile.FieldType.boolean)) ∈ bg := bg_m3 152 rfl rfl
theorem tw_633 : (Jvm.Cond.classLink "FleetFloor" (135 : Nat) "FleetFloor$Letter") ∈ bg := bg_m3 153 rfl rfl
theorem tw_634 : (Jvm.Cond.instantiable "FleetFloor$Letter" (3 : Nat)) ∈ bg := bg_m3 154 rfl rfl
theorem tx_635 : (Jvm.Cond.methodLinkNest "FleetFloor" (220 : Nat) ({ cls := "FleetFloor$Letter", name := "<init>", desc := "(III)V" } : Jvm.MethodName) "FleetFloor") ∈ lw_tbl := tb_m3 155 rfl
theorem tw_636 : (Jvm.Cond.instanceMethod ({ cls := "FleetFloor$Letter", name := "<init>", desc := "(III)V" } : Jvm.MethodName)) ∈ bg := bg_m3 156 rfl rfl
theorem tw_637 : (Jvm.Cond.code ({ cls := "FleetFloor$Letter", name := "<init>", desc := "(III)V" } : Jvm.MethodName) prog_5_method_1_code (4 : Nat) (Option.none : Option Jvm.ClassFile.FieldType)) ∈ bg := bg_m3 157 rfl rfl
theorem tw_638 : (Jvm.Cond.methodLink "FleetFloor$Letter" (1 : Nat) ({ cls := "java/lang/Record", name := "<init>", desc := "()V" } : Jvm.MethodName)) ∈ bg := bg_m3 158 rfl rfl
theorem tw_639 : (Jvm.Cond.instanceMethod ({ cls := "java/lang/Record", name := "<init>", desc := "()V" } : Jvm.MethodName)) ∈ bg := bg_m3 159 rfl rfl
theorem tw_640 : (Jvm.Cond.code ({ cls := "java/lang/Record", name := "<init>", desc := "()V" } : Jvm.MethodName) prog_19_method_1_code (1 : Nat) (Option.none : Option Jvm.ClassFile.FieldType)) ∈ bg := bg_m3 160 rfl rfl
theorem tw_641 : (Jvm.Cond.methodLink "java/lang/Record" (1 : Nat) ({ cls := "java/lang/Object", name := "<init>", desc := "()V" } : Jvm.MethodName)) ∈ bg := bg_m3 161 rfl rfl
theorem tw_642 : (Jvm.Cond.fieldLink "FleetFloor$Letter" (7 : Nat) "FleetFloor$Letter" "kind" "I") ∈ bg := bg_m3 162 rfl rfl
theorem tw_643 : (Jvm.Cond.fieldLink "FleetFloor$Letter" (13 : Nat) "FleetFloor$Letter" "owner" "I") ∈ bg := bg_m3 163 rfl rfl
theorem tw_644 : (Jvm.Cond.fieldLink "FleetFloor$Letter" (16 : Nat) "FleetFloor$Letter" "number" "I") ∈ bg := bg_m3 164 rfl rfl
theorem tw_645 : (Jvm.Cond.laysFinal "FleetFloor$Letter" "FleetFloor$Letter" "kind" "I") ∈ bg := bg_m3 165 rfl rfl
theorem tw_646 : (Jvm.Cond.soleField "FleetFloor$Letter" "kind") ∈ bg := bg_m3 166 rfl rfl
theorem tw_647 : (Jvm.Cond.laysFinal "FleetFloor$Letter" "FleetFloor$Letter" "owner" "I") ∈ bg := bg_m3 167 rfl rfl
theorem tw_648 : (Jvm.Cond.soleField "FleetFloor$Letter" "owner") ∈ bg := bg_m3 168 rfl rfl
theorem tw_649 : (Jvm.Cond.laysFinal "FleetFloor$Letter" "FleetFloor$Letter" "number" "I") ∈ bg := bg_m3 169 rfl rfl
theorem tw_650 : (Jvm.Cond.soleField "FleetFloor$Letter" "number") ∈ bg := bg_m3 170 rfl rfl
theorem tw_651 : (Jvm.Cond.superclass "FleetFloor$Letter" "java/lang/Record") ∈ bg := bg_m3 171 rfl rfl
theorem tw_652 : (Jvm.Cond.methodLink "FleetFloor" (123 : Nat) ({ cls := "FleetFloor", name := "makePlans", desc := "()V" } : Jvm.MethodName)) ∈ bg := bg_m3 172 rfl rfl
theorem tx_653 : (Jvm.Cond.privateMethod ({ cls := "FleetFloor", name := "makePlans", desc := "()V" } : Jvm.MethodName)) ∈ lw_tbl := tb_m3 173 rfl
theorem tw_654 : (Jvm.Cond.instanceMethod ({ cls := "FleetFloor", name := "makePlans", desc := "()V" } : Jvm.MethodName)) ∈ bg := bg_m3 174 rfl rfl
theorem tw_655 : (Jvm.Cond.code ({ cls := "FleetFloor", name := "makePlans", desc := "()V" } : Jvm.MethodName) prog_1_method_22_code (3 : Nat) (Option.none : Option Jvm.ClassFile.FieldType)) ∈ bg := bg_m3 175 rfl rfl
theorem tw_656 : (Jvm.Cond.methodLink "FleetFloor" (223 : Nat) ({ cls := "FleetFloor", name := "lowestIdle", desc := "()LFleetFloor$Vehicle;" } : Jvm.MethodName)) ∈ bg := bg_m3 176 rfl rfl
theorem tx_657 : (Jvm.Cond.privateMethod ({ cls := "FleetFloor", name := "lowestIdle", desc := "()LFleetFloor$Vehicle;" } : Jvm.MethodName)) ∈ lw_tbl := tb_m3 177 rfl
theorem tw_658 : (Jvm.Cond.instanceMethod ({ cls := "FleetFloor", name := "lowestIdle", desc := "()LFleetFloor$Vehicle;" } : Jvm.MethodName)) ∈ bg := bg_m3 178 rfl rfl
theorem tw_659 : (Jvm.Cond.code ({ cls := "FleetFloor", name := "lowestIdle", desc := "()LFleetFloor$Vehicle;" } : Jvm.MethodName) prog_1_method_23_code (2 : Nat) (Option.some (Jvm.ClassFile.FieldType.object "FleetFloor$Vehicle"))) ∈ bg := bg_m3 179 rfl rfl
theorem tw_660 : (Jvm.Cond.methodLink "FleetFloor" (235 : Nat) ({ cls := "FleetFloor$Vehicle", name := "isIdle", desc := "()Z" } : Jvm.MethodName)) ∈ bg := bg_m3 180 rfl rfl
theorem tw_661 : (Jvm.Cond.instanceMethod ({ cls := "FleetFloor$Vehicle", name := "isIdle", desc := "()Z" } : Jvm.MethodName)) ∈ bg := bg_m3 181 rfl rfl
theorem tw_662 : (Jvm.Cond.selects "FleetFloor$Vehicle" ({ cls := "FleetFloor$Vehicle", name := "isIdle", desc := "()Z" } : Jvm.MethodName) ({ cls := "FleetFloor$Vehicle", name := "isIdle", desc := "()Z" } : Jvm.MethodName)) ∈ bg := bg_m3 182 rfl rfl
theorem tw_663 : (Jvm.Cond.code ({ cls := "FleetFloor$Vehicle", name := "isIdle", desc := "()Z" } : Jvm.MethodName) prog_9_method_2_code (1 : Nat) (Option.some Jvm.ClassFile.FieldType.boolean)) ∈ bg := bg_m3 183 rfl rfl
theorem tw_664 : (Jvm.Cond.methodLink "FleetFloor" (227 : Nat) ({ cls := "FleetFloor$Planner", name := "find", desc := "(LFleetFloor$Vehicle;LFleetFloor$Task;I)Z" } : Jvm.MethodName)) ∈ bg := bg_m3 184 rfl rfl
theorem tw_665 : (Jvm.Cond.instanceMethod ({ cls := "FleetFloor$Planner", name := "find", desc := "(LFleetFloor$Vehicle;LFleetFloor$Task;I)Z" } : Jvm.MethodName)) ∈ bg := bg_m3 185 rfl rfl
theorem tw_666 : (Jvm.Cond.selects "FleetFloor$Planner" ({ cls := "FleetFloor$Planner", name := "find", desc := "(LFleetFloor$Vehicle;LFleetFloor$Task;I)Z" } : Jvm.MethodName) ({ cls := "FleetFloor$Planner", name := "find", desc := "(LFleetFloor$Vehicle;LFleetFloor$Task;I)Z" } : Jvm.MethodName)) ∈ bg := bg_m3 186 rfl rfl
theorem tw_667 : (Jvm.Cond.code ({ cls := "FleetFloor$Planner", name := "find", desc := "(LFleetFloor$Vehicle;LFleetFloor$Task;I)Z" } : Jvm.MethodName) prog_7_method_2_code (4 : Nat) (Option.some Jvm.ClassFile.FieldType.boolean)) ∈ bg := bg_m3 187 rfl rfl
theorem tw_668 : (Jvm.Cond.methodLink "FleetFloor$Planner" (59 : Nat) ({ cls := "FleetFloor$Planner", name := "layOut", desc := "(LFleetFloor$Vehicle;I)V" } : Jvm.MethodName)) ∈ bg := bg_m3 188 rfl rfl
theorem tx_669 : (Jvm.Cond.privateMethod ({ cls := "FleetFloor$Planner", name := "layOut", desc := "(LFleetFloor$Vehicle;I)V" } : Jvm.MethodName)) ∈ lw_tbl := tb_m3 189 rfl
theorem tw_670 : (Jvm.Cond.instanceMethod ({ cls := "FleetFloor$Planner", name := "layOut", desc := "(LFleetFloor$Vehicle;I)V" } : Jvm.MethodName)) ∈ bg := bg_m3 190 rfl rfl
theorem tw_671 : (Jvm.Cond.code ({ cls := "FleetFloor$Planner", name := "layOut", desc := "(LFleetFloor$Vehicle;I)V" } : Jvm.MethodName) prog_7_method_4_code (4 : Nat) (Option.none : Option Jvm.ClassFile.FieldType)) ∈ bg := bg_m3 191 rfl rfl
theorem tw_672 : (Jvm.Cond.methodLink "FleetFloor$Planner" (100 : Nat) ({ cls := "FleetFloor$Cells", name := "copy", desc := "(LFleetFloor$Cells;)V" } : Jvm.MethodName)) ∈ bg := bg_m3 192 rfl rfl
theorem tw_673 : (Jvm.Cond.instanceMethod ({ cls := "FleetFloor$Cells", name := "copy", desc := "(LFleetFloor$Cells;)V" } : Jvm.MethodName)) ∈ bg := bg_m3 193 rfl rfl
theorem tw_674 : (Jvm.Cond.selects "FleetFloor$Cells" ({ cls := "FleetFloor$Cells", name := "copy", desc := "(LFleetFloor$Cells;)V" } : Jvm.MethodName) ({ cls := "FleetFloor$Cells", name := "copy", desc := "(LFleetFloor$Cells;)V" } : Jvm.MethodName)) ∈ bg := bg_m3 194 rfl rfl
theorem tw_675 : (Jvm.Cond.code ({ cls := "FleetFloor$Cells", name := "copy", desc := "(LFleetFloor$Cells;)V" } : Jvm.MethodName) prog_3_method_3_code (2 : Nat) (Option.none : Option Jvm.ClassFile.FieldType)) ∈ bg := bg_m3 195 rfl rfl
theorem tw_676 : (Jvm.Cond.methodLink "FleetFloor$Planner" (104 : Nat) ({ cls := "FleetFloor$Cells", name := "put", desc := "(I)V" } : Jvm.MethodName)) ∈ bg := bg_m3 196 rfl rfl
theorem tw_677 : (Jvm.Cond.methodLink "FleetFloor$Planner" (108 : Nat) ({ cls := "FleetFloor$Planner", name := "keepClearOf", desc := "(LFleetFloor$Vehicle;I)V" } : Jvm.MethodName)) ∈ bg := bg_m3 197 rfl rfl
theorem tx_678 : (Jvm.Cond.privateMethod ({ cls := "FleetFloor$Planner", name := "keepClearOf", desc := "(LFleetFloor$Vehicle;I)V" } : Jvm.MethodName)) ∈ lw_tbl := tb_m3 198 rfl
theorem tw_679 : (Jvm.Cond.instanceMethod ({ cls := "FleetFloor$Planner", name := "keepClearOf", desc := "(LFleetFloor$Vehicle;I)V" } : Jvm.MethodName)) ∈ bg := bg_m3 199 rfl rfl
theorem tw_680 : (Jvm.Cond.code ({ cls := "FleetFloor$Planner", name := "keepClearOf", desc := "(LFleetFloor$Vehicle;I)V" } : Jvm.MethodName) prog_7_method_5_code (6 : Nat) (Option.none : Option Jvm.ClassFile.FieldType)) ∈ bg := bg_m3 200 rfl rfl
theorem tw_681 : (Jvm.Cond.methodLink "FleetFloor$Planner" (114 : Nat) ({ cls := "FleetFloor$Vehicle", name := "movesUpTo", desc := "(I)I" } : Jvm.MethodName)) ∈ bg := bg_m3 201 rfl rfl
theorem tw_682 : (Jvm.Cond.instanceMethod ({ cls := "FleetFloor$Vehicle", name := "movesUpTo", desc := "(I)I" } : Jvm.MethodName)) ∈ bg := bg_m3 202 rfl rfl
theorem tw_683 : (Jvm.Cond.selects "FleetFloor$Vehicle" ({ cls := "FleetFloor$Vehicle", name := "movesUpTo", desc := "(I)I" } : Jvm.MethodName) ({ cls := "FleetFloor$Vehicle", name := "movesUpTo", desc := "(I)I" } : Jvm.MethodName)) ∈ bg := bg_m3 203 rfl rfl
theorem tw_684 : (Jvm.Cond.code ({ cls := "FleetFloor$Vehicle", name := "movesUpTo", desc := "(I)I" } : Jvm.MethodName) prog_9_method_5_code (3 : Nat) (Option.some Jvm.ClassFile.FieldType.int)) ∈ bg := bg_m3 204 rfl rfl
theorem tw_685 : (Jvm.Cond.methodLink "FleetFloor$Vehicle" (60 : Nat) ({ cls := "FleetFloor$Move", name := "time", desc := "()I" } : Jvm.MethodName)) ∈ bg := bg_m3 205 rfl rfl
theorem tw_686 : (Jvm.Cond.methodLink "FleetFloor$Planner" (118 : Nat) ({ cls := "FleetFloor$Vehicle", name := "placeAfter", desc := "(I)I" } : Jvm.MethodName)) ∈ bg := bg_m3 206 rfl rfl
theorem tw_687 : (Jvm.Cond.methodLink "FleetFloor$Planner" (121 : Nat) ({ cls := "FleetFloor$Cells", name := "drop", desc := "(I)V" } : Jvm.MethodName)) ∈ bg := bg_m3 207 rfl rfl
theorem tw_688 : (Jvm.Cond.instanceMethod ({ cls := "FleetFloor$Cells", name := "drop", desc := "(I)V" } : Jvm.MethodName)) ∈ bg := bg_m3 208 rfl rfl
theorem tw_689 : (Jvm.Cond.selects "FleetFloor$Cells" ({ cls := "FleetFloor$Cells", name := "drop", desc := "(I)V" } : Jvm.MethodName) ({ cls := "FleetFloor$Cells", name := "drop", desc := "(I)V" } : Jvm.MethodName)) ∈ bg := bg_m3 209 rfl rfl
theorem tw_690 : (Jvm.Cond.code ({ cls := "FleetFloor$Cells", name := "drop", desc := "(I)V" } : Jvm.MethodName) prog_3_method_6_code (2 : Nat) (Option.none : Option Jvm.ClassFile.FieldType)) ∈ bg := bg_m3 210 rfl rfl
theorem tw_691 : (Jvm.Cond.methodLink "FleetFloor$Planner" (94 : Nat) ({ cls := "java/util/ArrayList", name := "size", desc := "()I" } : Jvm.MethodName)) ∈ bg := bg_m3 211 rfl rfl
theorem tw_692 : (Jvm.Cond.methodLink "FleetFloor$Planner" (124 : Nat) ({ cls := "java/util/ArrayList", name := "get", desc := "(I)Ljava/lang/Object;" } : Jvm.MethodName)) ∈ bg := bg_m3 212 rfl rfl
theorem tw_693 : (Jvm.Cond.classLink "FleetFloor$Planner" (80 : Nat) "FleetFloor$Move") ∈ bg := bg_m3 213 rfl rfl
theorem tw_694 : (Jvm.Cond.methodLink "FleetFloor$Planner" (128 : Nat) ({ cls := "FleetFloor$Move", name := "time", desc := "()I" } : Jvm.MethodName)) ∈ bg := bg_m3 214 rfl rfl
theorem tw_695 : (Jvm.Cond.methodLink "FleetFloor$Planner" (111 : Nat) ({ cls := "FleetFloor$Cells", name := "keep", desc := "(LFleetFloor$Cells;)V" } : Jvm.MethodName)) ∈ bg := bg_m3 215 rfl rfl
theorem tw_696 : (Jvm.Cond.methodLink "FleetFloor$Planner" (63 : Nat) ({ cls := "FleetFloor$Planner", name := "spread", desc := "()I" } : Jvm.MethodName)) ∈ bg := bg_m3 216 rfl rfl
theorem tx_697 : (Jvm.Cond.privateMethod ({ cls := "FleetFloor$Planner", name := "spread", desc := "()I" } : Jvm.MethodName)) ∈ lw_tbl := tb_m3 217 rfl
theorem tw_698 : (Jvm.Cond.instanceMethod ({ cls := "FleetFloor$Planner", name := "spread", desc := "()I" } : Jvm.MethodName)) ∈ bg := bg_m3 218 rfl rfl
theorem tw_699 : (Jvm.Cond.code ({ cls := "FleetFloor$Planner", name := "spread", desc := "()I" } : Jvm.MethodName) prog_7_method_7_code (3 : Nat) (Option.some Jvm.ClassFile.FieldType.int)) ∈ bg := bg_m3 219 rfl rfl
theorem tw_700 : (Jvm.Cond.methodLink "FleetFloor$Planner" (131 : Nat) ({ cls := "FleetFloor$Planner", name := "at", desc := "(II)LFleetFloor$Cells;" } : Jvm.MethodName)) ∈ bg := bg_m3 220 rfl rfl
theorem tx_701 : (Jvm.Cond.privateMethod ({ cls := "FleetFloor$Planner", name := "at", desc := "(II)LFleetFloor$Cells;" } : Jvm.MethodName)) ∈ lw_tbl := tb_m3 221 rfl
theorem tw_702 : (Jvm.Cond.instanceMethod ({ cls := "FleetFloor$Planner", name := "at", desc := "(II)LFleetFloor$Cells;" } : Jvm.MethodName)) ∈ bg := bg_m3 222 rfl rfl
theorem tw_703 : (Jvm.Cond.code ({ cls := "FleetFloor$Planner", name := "at", desc := "(II)LFleetFloor$Cells;" } : Jvm.MethodName) prog_7_method_6_code (3 : Nat) (Option.some (Jvm.ClassFile.FieldType.object "FleetFloor$Cells"))) ∈ bg := bg_m3 223 rfl rfl
theorem tw_704 : (Jvm.Cond.methodLink "FleetFloor$Planner" (135 : Nat) ({ cls := "FleetFloor$Cells", name := "clear", desc := "()V" } : Jvm.MethodName)) ∈ bg := bg_m3 224 rfl rfl
theorem tw_705 : (Jvm.Cond.instanceMethod ({ cls := "FleetFloor$Cells", name := "clear", desc := "()V" } : Jvm.MethodName)) ∈ bg := bg_m3 225 rfl rfl
theorem tw_706 : (Jvm.Cond.selects "FleetFloor$Cells" ({ cls := "FleetFloor$Cells", name := "clear", desc := "()V" } : Jvm.MethodName) ({ cls := "FleetFloor$Cells", name := "clear", desc := "()V" } : Jvm.MethodName)) ∈ bg := bg_m3 226 rfl rfl
theorem tw_707 : (Jvm.Cond.code ({ cls := "FleetFloor$Cells", name := "clear", desc := "()V" } : Jvm.MethodName) prog_3_method_2_code (1 : Nat) (Option.none : Option Jvm.ClassFile.FieldType)) ∈ bg := bg_m3 227 rfl rfl
theorem tw_708 : (Jvm.Cond.methodLink "FleetFloor$Planner" (138 : Nat) ({ cls := "FleetFloor$Planner", name := "stepOn", desc := "(II)V" } : Jvm.MethodName)) ∈ bg := bg_m3 228 rfl rfl
theorem tx_709 : (Jvm.Cond.privateMethod ({ cls := "FleetFloor$Planner", name := "stepOn", desc := "(II)V" } : Jvm.MethodName)) ∈ lw_tbl := tb_m3 229 rfl
theorem tw_710 : (Jvm.Cond.instanceMethod ({ cls := "FleetFloor$Planner", name := "stepOn", desc := "(II)V" } : Jvm.MethodName)) ∈ bg := bg_m3 230 rfl rfl
theorem tw_711 : (Jvm.Cond.code ({ cls := "FleetFloor$Planner", name := "stepOn", desc := "(II)V" } : Jvm.MethodName) prog_7_method_8_code (5 : Nat) (Option.none : Option Jvm.ClassFile.FieldType)) ∈ bg := bg_m3 231 rfl rfl
theorem tw_712 : (Jvm.Cond.methodLink "FleetFloor$Planner" (148 : Nat) ({ cls := "FleetFloor$Cells", name := "becomeNeighboursOf", desc := "(LFleetFloor$Cells;)V" } : Jvm.MethodName)) ∈ bg := bg_m3 232 rfl rfl
theorem tw_713 : (Jvm.Cond.methodLink "FleetFloor$Planner" (151 : Nat) ({ cls := "FleetFloor$Cells", name := "join", desc := "(LFleetFloor$Cells;)V" } : Jvm.MethodName)) ∈ bg := bg_m3 233 rfl rfl
theorem tw_714 : (Jvm.Cond.methodLink "FleetFloor$Planner" (141 : Nat) ({ cls := "FleetFloor$Planner", name := "changeLeg", desc := "(II)V" } : Jvm.MethodName)) ∈ bg := bg_m3 234 rfl rfl
theorem tx_715 : (Jvm.Cond.privateMethod ({ cls := "FleetFloor$Planner", name := "changeLeg", desc := "(II)V" } : Jvm.MethodName)) ∈ lw_tbl := tb_m3 235 rfl
theorem tw_716 : (Jvm.Cond.instanceMethod ({ cls := "FleetFloor$Planner", name := "changeLeg", desc := "(II)V" } : Jvm.MethodName)) ∈ bg := bg_m3 236 rfl rfl
theorem tw_717 : (Jvm.Cond.code ({ cls := "FleetFloor$Planner", name := "changeLeg", desc := "(II)V" } : Jvm.MethodName) prog_7_method_9_code (3 : Nat) (Option.none : Option Jvm.ClassFile.FieldType)) ∈ bg := bg_m3 237 rfl rfl
theorem tw_718 : (Jvm.Cond.methodLink "FleetFloor$Planner" (154 : Nat) ({ cls := "FleetFloor$Planner", name := "goalOf", desc := "(I)I" } : Jvm.MethodName)) ∈ bg := bg_m3 238 rfl rfl
theorem tx_719 : (Jvm.Cond.privateMethod ({ cls := "FleetFloor$Planner", name := "goalOf", desc := "(I)I" } : Jvm.MethodName)) ∈ lw_tbl := tb_m3 239 rfl
theorem tw_720 : (Jvm.Cond.instanceMethod ({ cls := "FleetFloor$Planner", name := "goalOf", desc := "(I)I" } : Jvm.MethodName)) ∈ bg := bg_m4 0 rfl rfl
theorem tw_721 : (Jvm.Cond.code ({ cls := "FleetFloor$Planner", name := "goalOf", desc := "(I)I" } : Jvm.MethodName) prog_7_method_10_code (2 : Nat) (Option.some Jvm.ClassFile.FieldType.int)) ∈ bg := bg_m4 1 rfl rfl
theorem tw_722 : (Jvm.Cond.methodLink "FleetFloor$Planner" (144 : Nat) ({ cls := "FleetFloor$Cells", name := "has", desc := "(I)Z" } : Jvm.MethodName)) ∈ bg := bg_m4 2 rfl rfl
theorem tw_723 : (Jvm.Cond.methodLink "FleetFloor$Planner" (70 : Nat) ({ cls := "FleetFloor$Planner", name := "prune", desc := "()V" } : Jvm.MethodName)) ∈ bg := bg_m4 3 rfl rfl
theorem tx_724 : (Jvm.Cond.privateMethod ({ cls := "FleetFloor$Planner", name := "prune", desc := "()V" } : Jvm.MethodName)) ∈ lw_tbl := tb_m4 4 rfl
theorem tw_725 : (Jvm.Cond.instanceMethod ({ cls := "FleetFloor$Planner", name := "prune", desc := "()V" } : Jvm.MethodName)) ∈ bg := bg_m4 5 rfl rfl
theorem tw_726 : (Jvm.Cond.code ({ cls := "FleetFloor$Planner", name := "prune", desc := "()V" } : Jvm.MethodName) prog_7_method_11_code (4 : Nat) (Option.none : Option Jvm.ClassFile.FieldType)) ∈ bg := bg_m4 6 rfl rfl
theorem tw_727 : (Jvm.Cond.methodLink "FleetFloor$Planner" (157 : Nat) ({ cls := "FleetFloor$Planner", name := "keepThoseBefore", desc := "(II)V" } : Jvm.MethodName)) ∈ bg := bg_m4 7 rfl rfl
theorem tx_728 : (Jvm.Cond.privateMethod ({ cls := "FleetFloor$Planner", name := "keepThoseBefore", desc := "(II)V" } : Jvm.MethodName)) ∈ lw_tbl := tb_m4 8 rfl
theorem tw_729 : (Jvm.Cond.instanceMethod ({ cls := "FleetFloor$Planner", name := "keepThoseBefore", desc := "(II)V" } : Jvm.MethodName)) ∈ bg := bg_m4 9 rfl rfl
theorem tw_730 : (Jvm.Cond.code ({ cls := "FleetFloor$Planner", name := "keepThoseBefore", desc := "(II)V" } : Jvm.MethodName) prog_7_method_12_code (3 : Nat) (Option.none : Option Jvm.ClassFile.FieldType)) ∈ bg := bg_m4 10 rfl rfl
theorem tw_731 : (Jvm.Cond.methodLink "FleetFloor$Planner" (73 : Nat) ({ cls := "FleetFloor$Planner", name := "follow", desc := "()V" } : Jvm.MethodName)) ∈ bg := bg_m4 11 rfl rfl
theorem tx_732 : (Jvm.Cond.privateMethod ({ cls := "FleetFloor$Planner", name := "follow", desc := "()V" } : Jvm.MethodName)) ∈ lw_tbl := tb_m4 12 rfl
theorem tw_733 : (Jvm.Cond.instanceMethod ({ cls := "FleetFloor$Planner", name := "follow", desc := "()V" } : Jvm.MethodName)) ∈ bg := bg_m4 13 rfl rfl
theorem tw_734 : (Jvm.Cond.code ({ cls := "FleetFloor$Planner", name := "follow", desc := "()V" } : Jvm.MethodName) prog_7_method_13_code (4 : Nat) (Option.none : Option Jvm.ClassFile.FieldType)) ∈ bg := bg_m4 14 rfl rfl
theorem tw_735 : (Jvm.Cond.methodLink "FleetFloor$Planner" (160 : Nat) ({ cls := "FleetFloor$Planner", name := "lowestStep", desc := "(III)I" } : Jvm.MethodName)) ∈ bg := bg_m4 15 rfl rfl
theorem tx_736 : (Jvm.Cond.privateMethod ({ cls := "FleetFloor$Planner", name := "lowestStep", desc := "(III)I" } : Jvm.MethodName)) ∈ lw_tbl := tb_m4 16 rfl
theorem tw_737 : (Jvm.Cond.instanceMethod ({ cls := "FleetFloor$Planner", name := "lowestStep", desc := "(III)I" } : Jvm.MethodName)) ∈ bg := bg_m4 17 rfl rfl
theorem tw_738 : (Jvm.Cond.code ({ cls := "FleetFloor$Planner", name := "lowestStep", desc := "(III)I" } : Jvm.MethodName) prog_7_method_14_code (6 : Nat) (Option.some Jvm.ClassFile.FieldType.int)) ∈ bg := bg_m4 18 rfl rfl
theorem tx_739 : (Jvm.Cond.methodLinkNest "FleetFloor$Planner" (168 : Nat) ({ cls := "FleetFloor", name := "neighbour", desc := "(II)I" } : Jvm.MethodName) "FleetFloor") ∈ lw_tbl := tb_m4 19 rfl
theorem tw_740 : (Jvm.Cond.static ({ cls := "FleetFloor", name := "neighbour", desc := "(II)I" } : Jvm.MethodName)) ∈ bg := bg_m4 20 rfl rfl
theorem tw_741 : (Jvm.Cond.code ({ cls := "FleetFloor", name := "neighbour", desc := "(II)I" } : Jvm.MethodName) prog_1_method_26_code (4 : Nat) (Option.some Jvm.ClassFile.FieldType.int)) ∈ bg := bg_m4 21 rfl rfl
theorem tw_742 : (Jvm.Cond.methodLink "FleetFloor$Planner" (164 : Nat) ({ cls := "FleetFloor$Planner", name := "legAt", desc := "(II)I" } : Jvm.MethodName)) ∈ bg := bg_m4 22 rfl rfl
theorem tx_743 : (Jvm.Cond.privateMethod ({ cls := "FleetFloor$Planner", name := "legAt", desc := "(II)I" } : Jvm.MethodName)) ∈ lw_tbl := tb_m4 23 rfl
theorem tw_744 : (Jvm.Cond.instanceMethod ({ cls := "FleetFloor$Planner", name := "legAt", desc := "(II)I" } : Jvm.MethodName)) ∈ bg := bg_m4 24 rfl rfl
theorem tw_745 : (Jvm.Cond.code ({ cls := "FleetFloor$Planner", name := "legAt", desc := "(II)I" } : Jvm.MethodName) prog_7_method_15_code (4 : Nat) (Option.some Jvm.ClassFile.FieldType.int)) ∈ bg := bg_m4 25 rfl rfl
theorem tw_746 : (Jvm.Cond.methodLink "FleetFloor" (231 : Nat) ({ cls := "FleetFloor$Planner", name := "append", desc := "(LFleetFloor$Vehicle;I)V" } : Jvm.MethodName)) ∈ bg := bg_m4 26 rfl rfl
theorem tw_747 : (Jvm.Cond.instanceMethod ({ cls := "FleetFloor$Planner", name := "append", desc := "(LFleetFloor$Vehicle;I)V" } : Jvm.MethodName)) ∈ bg := bg_m4 27 rfl rfl
theorem tw_748 : (Jvm.Cond.selects "FleetFloor$Planner" ({ cls := "FleetFloor$Planner", name := "append", desc := "(LFleetFloor$Vehicle;I)V" } : Jvm.MethodName) ({ cls := "FleetFloor$Planner", name := "append", desc := "(LFleetFloor$Vehicle;I)V" } : Jvm.MethodName)) ∈ bg := bg_m4 28 rfl rfl
theorem tw_749 : (Jvm.Cond.code ({ cls := "FleetFloor$Planner", name := "append", desc := "(LFleetFloor$Vehicle;I)V" } : Jvm.MethodName) prog_7_method_3_code (4 : Nat) (Option.none : Option Jvm.ClassFile.FieldType)) ∈ bg := bg_m4 29 rfl rfl
theorem tw_750 : (Jvm.Cond.instantiable "FleetFloor$Move" (2 : Nat)) ∈ bg := bg_m4 30 rfl rfl
theorem tx_751 : (Jvm.Cond.methodLinkNest "FleetFloor$Planner" (82 : Nat) ({ cls := "FleetFloor$Move", name := "<init>", desc := "(II)V" } : Jvm.MethodName) "FleetFloor") ∈ lw_tbl := tb_m4 31 rfl
theorem tw_752 : (Jvm.Cond.instanceMethod ({ cls := "FleetFloor$Move", name := "<init>", desc := "(II)V" } : Jvm.MethodName)) ∈ bg := bg_m4 32 rfl rfl
theorem tw_753 : (Jvm.Cond.code ({ cls := "FleetFloor$Move", name := "<init>", desc := "(II)V" } : Jvm.MethodName) prog_6_method_1_code (3 : Nat) (Option.none : Option Jvm.ClassFile.FieldType)) ∈ bg := bg_m4 33 rfl rfl
theorem tw_754 : (Jvm.Cond.methodLink "FleetFloor$Move" (1 : Nat) ({ cls := "java/lang/Record", name := "<init>", desc := "()V" } : Jvm.MethodName)) ∈ bg := bg_m4 34 rfl rfl
theorem tw_755 : (Jvm.Cond.fieldLink "FleetFloor$Move" (7 : Nat) "FleetFloor$Move" "place" "I") ∈ bg := bg_m4 35 rfl rfl
theorem tw_756 : (Jvm.Cond.fieldLink "FleetFloor$Move" (13 : Nat) "FleetFloor$Move" "time" "I") ∈ bg := bg_m4 36 rfl rfl
theorem tw_757 : (Jvm.Cond.laysFinal "FleetFloor$Move" "FleetFloor$Move" "place" "I") ∈ bg := bg_m4 37 rfl rfl
theorem tw_758 : (Jvm.Cond.soleField "FleetFloor$Move" "place") ∈ bg := bg_m4 38 rfl rfl
theorem tw_759 : (Jvm.Cond.laysFinal "FleetFloor$Move" "FleetFloor$Move" "time" "I") ∈ bg := bg_m4 39 rfl rfl
theorem tw_760 : (Jvm.Cond.soleField "FleetFloor$Move" "time") ∈ bg := bg_m4 40 rfl rfl
theorem tw_761 : (Jvm.Cond.superclass "FleetFloor$Move" "java/lang/Record") ∈ bg := bg_m4 41 rfl rfl
theorem tw_762 : (Jvm.Cond.methodLink "FleetFloor$Planner" (85 : Nat) ({ cls := "java/util/ArrayList", name := "add", desc := "(Ljava/lang/Object;)Z" } : Jvm.MethodName)) ∈ bg := bg_m4 42 rfl rfl
theorem tw_763 : (Jvm.Cond.methodLink "FleetFloor" (126 : Nat) ({ cls := "FleetFloor", name := "grantMoves", desc := "()V" } : Jvm.MethodName)) ∈ bg := bg_m4 43 rfl rfl
theorem tx_764 : (Jvm.Cond.privateMethod ({ cls := "FleetFloor", name := "grantMoves", desc := "()V" } : Jvm.MethodName)) ∈ lw_tbl := tb_m4 44 rfl
theorem tw_765 : (Jvm.Cond.instanceMethod ({ cls := "FleetFloor", name := "grantMoves", desc := "()V" } : Jvm.MethodName)) ∈ bg := bg_m4 45 rfl rfl
theorem tw_766 : (Jvm.Cond.code ({ cls := "FleetFloor", name := "grantMoves", desc := "()V" } : Jvm.MethodName) prog_1_method_24_code (5 : Nat) (Option.none : Option Jvm.ClassFile.FieldType)) ∈ bg := bg_m4 46 rfl rfl
theorem tw_767 : (Jvm.Cond.methodLink "FleetFloor" (238 : Nat) ({ cls := "FleetFloor", name := "isFree", desc := "(LFleetFloor$Vehicle;LFleetFloor$Move;)Z" } : Jvm.MethodName)) ∈ bg := bg_m4 47 rfl rfl
theorem tx_768 : (Jvm.Cond.privateMethod ({ cls := "FleetFloor", name := "isFree", desc := "(LFleetFloor$Vehicle;LFleetFloor$Move;)Z" } : Jvm.MethodName)) ∈ lw_tbl := tb_m4 48 rfl
theorem tw_769 : (Jvm.Cond.instanceMethod ({ cls := "FleetFloor", name := "isFree", desc := "(LFleetFloor$Vehicle;LFleetFloor$Move;)Z" } : Jvm.MethodName)) ∈ bg := bg_m4 49 rfl rfl
theorem tw_770 : (Jvm.Cond.code ({ cls := "FleetFloor", name := "isFree", desc := "(LFleetFloor$Vehicle;LFleetFloor$Move;)Z" } : Jvm.MethodName) prog_1_method_25_code (4 : Nat) (Option.some Jvm.ClassFile.FieldType.boolean)) ∈ bg := bg_m4 50 rfl rfl
theorem tw_771 : (Jvm.Cond.methodLink "FleetFloor" (248 : Nat) ({ cls := "FleetFloor$Vehicle", name := "comesBefore", desc := "(LFleetFloor$Move;)Z" } : Jvm.MethodName)) ∈ bg := bg_m4 51 rfl rfl
theorem tw_772 : (Jvm.Cond.instanceMethod ({ cls := "FleetFloor$Vehicle", name := "comesBefore", desc := "(LFleetFloor$Move;)Z" } : Jvm.MethodName)) ∈ bg := bg_m4 52 rfl rfl
theorem tw_773 : (Jvm.Cond.selects "FleetFloor$Vehicle" ({ cls := "FleetFloor$Vehicle", name := "comesBefore", desc := "(LFleetFloor$Move;)Z" } : Jvm.MethodName) ({ cls := "FleetFloor$Vehicle", name := "comesBefore", desc := "(LFleetFloor$Move;)Z" } : Jvm.MethodName)) ∈ bg := bg_m4 53 rfl rfl
theorem tw_774 : (Jvm.Cond.code ({ cls := "FleetFloor$Vehicle", name := "comesBefore", desc := "(LFleetFloor$Move;)Z" } : Jvm.MethodName) prog_9_method_7_code (4 : Nat) (Option.some Jvm.ClassFile.FieldType.boolean)) ∈ bg := bg_m4 54 rfl rfl
theorem tw_775 : (Jvm.Cond.methodLink "FleetFloor" (242 : Nat) ({ cls := "java/lang/Math", name := "max", desc := "(II)I" } : Jvm.MethodName)) ∈ bg := bg_m4 55 rfl rfl
theorem tw_776 : (Jvm.Cond.classLink "FleetFloorLaw" (25 : Nat) "FleetFloorModel") ∈ bg := bg_m4 56 rfl rfl
theorem tw_777 : (Jvm.Cond.instantiable "FleetFloorModel" (40 : Nat)) ∈ bg := bg_m4 57 rfl rfl
theorem tw_778 : (Jvm.Cond.methodLink "FleetFloorLaw" (27 : Nat) ({ cls := "FleetFloorModel", name := "<init>", desc := "()V" } : Jvm.MethodName)) ∈ bg := bg_m4 58 rfl rfl
theorem tw_779 : (Jvm.Cond.instanceMethod ({ cls := "FleetFloorModel", name := "<init>", desc := "()V" } : Jvm.MethodName)) ∈ bg := bg_m4 59 rfl rfl
theorem tw_780 : (Jvm.Cond.code ({ cls := "FleetFloorModel", name := "<init>", desc := "()V" } : Jvm.MethodName) prog_11_method_1_code (1 : Nat) (Option.none : Option Jvm.ClassFile.FieldType)) ∈ bg := bg_m4 60 rfl rfl
theorem tw_781 : (Jvm.Cond.methodLink "FleetFloorModel" (1 : Nat) ({ cls := "java/lang/Object", name := "<init>", desc := "()V" } : Jvm.MethodName)) ∈ bg := bg_m4 61 rfl rfl
theorem tw_782 : (Jvm.Cond.fieldLink "FleetFloorModel" (96 : Nat) "FleetFloorModel" "thrown" "I") ∈ bg := bg_m4 62 rfl rfl
theorem tw_783 : (Jvm.Cond.fieldLink "FleetFloorModel" (100 : Nat) "FleetFloorModel" "open" "Z") ∈ bg := bg_m4 63 rfl rfl
theorem tw_784 : (Jvm.Cond.fieldLink "FleetFloorModel" (7 : Nat) "FleetFloorModel" "kinds" "[I") ∈ bg := bg_m4 64 rfl rfl
theorem tw_785 : (Jvm.Cond.fieldLink "FleetFloorModel" (124 : Nat) "FleetFloorModel" "stations" "I") ∈ bg := bg_m4 65 rfl rfl
theorem tw_786 : (Jvm.Cond.fieldLink "FleetFloorModel" (127 : Nat) "FleetFloorModel" "vehicles" "I") ∈ bg := bg_m4 66 rfl rfl
theorem tw_787 : (Jvm.Cond.fieldLink "FleetFloorModel" (13 : Nat) "FleetFloorModel" "stationAt" "[I") ∈ bg := bg_m4 67 rfl rfl
theorem tw_788 : (Jvm.Cond.fieldLink "FleetFloorModel" (16 : Nat) "FleetFloorModel" "parkingAt" "[I") ∈ bg := bg_m4 68 rfl rfl
theorem tw_789 : (Jvm.Cond.fieldLink "FleetFloorModel" (19 : Nat) "FleetFloorModel" "seen" "[Z") ∈ bg := bg_m4 69 rfl rfl
theorem tw_790 : (Jvm.Cond.fieldLink "FleetFloorModel" (23 : Nat) "FleetFloorModel" "pile" "[I") ∈ bg := bg_m4 70 rfl rfl
theorem tw_791 : (Jvm.Cond.fieldLink "FleetFloorModel" (130 : Nat) "FleetFloorModel" "tasks" "I") ∈ bg := bg_m4 71 rfl rfl
theorem tw_792 : (Jvm.Cond.fieldLink "FleetFloorModel" (133 : Nat) "FleetFloorModel" "planned" "I") ∈ bg := bg_m4 72 rfl rfl
theorem tw_793 : (Jvm.Cond.fieldLink "FleetFloorModel" (26 : Nat) "FleetFloorModel" "first" "[I") ∈ bg := bg_m4 73 rfl rfl
theorem tw_794 : (Jvm.Cond.fieldLink "FleetFloorModel" (29 : Nat) "FleetFloorModel" "second" "[I") ∈ bg := bg_m4 74 rfl rfl
theorem tw_795 : (Jvm.Cond.fieldLink "FleetFloorModel" (32 : Nat) "FleetFloorModel" "owner" "[I") ∈ bg := bg_m4 75 rfl rfl
theorem tw_796 : (Jvm.Cond.fieldLink "FleetFloorModel" (35 : Nat) "FleetFloorModel" "start" "[I") ∈ bg := bg_m4 76 rfl rfl
theorem tw_797 : (Jvm.Cond.fieldLink "FleetFloorModel" (38 : Nat) "FleetFloorModel" "many" "[I") ∈ bg := bg_m4 77 rfl rfl
theorem tw_798 : (Jvm.Cond.fieldLink "FleetFloorModel" (41 : Nat) "FleetFloorModel" "base" "[I") ∈ bg := bg_m4 78 rfl rfl
theorem tw_799 : (Jvm.Cond.fieldLink "FleetFloorModel" (44 : Nat) "FleetFloorModel" "finishing" "[I") ∈ bg := bg_m4 79 rfl rfl
theorem tw_800 : (Jvm.Cond.fieldLink "FleetFloorModel" (47 : Nat) "FleetFloorModel" "finished" "[I") ∈ bg := bg_m4 80 rfl rfl
theorem tw_801 : (Jvm.Cond.fieldLink "FleetFloorModel" (177 : Nat) "FleetFloorModel" "rowed" "I") ∈ bg := bg_m4 81 rfl rfl
theorem tw_802 : (Jvm.Cond.fieldLink "FleetFloorModel" (50 : Nat) "FleetFloorModel" "moveCell" "[I") ∈ bg := bg_m4 82 rfl rfl
theorem tw_803 : (Jvm.Cond.fieldLink "FleetFloorModel" (53 : Nat) "FleetFloorModel" "moveTime" "[I") ∈ bg := bg_m4 83 rfl rfl
theorem tw_804 : (Jvm.Cond.fieldLink "FleetFloorModel" (56 : Nat) "FleetFloorModel" "at" "[I") ∈ bg := bg_m4 84 rfl rfl
theorem tw_805 : (Jvm.Cond.fieldLink "FleetFloorModel" (59 : Nat) "FleetFloorModel" "made" "[I") ∈ bg := bg_m4 85 rfl rfl
theorem tw_806 : (Jvm.Cond.fieldLink "FleetFloorModel" (62 : Nat) "FleetFloorModel" "may" "[I") ∈ bg := bg_m4 86 rfl rfl
theorem tw_807 : (Jvm.Cond.fieldLink "FleetFloorModel" (65 : Nat) "FleetFloorModel" "known" "[I") ∈ bg := bg_m4 87 rfl rfl
theorem tw_808 : (Jvm.Cond.fieldLink "FleetFloorModel" (68 : Nat) "FleetFloorModel" "granted" "[I") ∈ bg := bg_m4 88 rfl rfl
theorem tw_809 : (Jvm.Cond.fieldLink "FleetFloorModel" (71 : Nat) "FleetFloorModel" "moves" "[I") ∈ bg := bg_m4 89 rfl rfl
theorem tw_810 : (Jvm.Cond.fieldLink "FleetFloorModel" (74 : Nat) "FleetFloorModel" "latest" "[I") ∈ bg := bg_m4 90 rfl rfl
theorem tw_811 : (Jvm.Cond.fieldLink "FleetFloorModel" (136 : Nat) "FleetFloorModel" "clock" "I") ∈ bg := bg_m4 91 rfl rfl
theorem tw_812 : (Jvm.Cond.fieldLink "FleetFloorModel" (212 : Nat) "FleetFloorModel" "ticks" "I") ∈ bg := bg_m4 92 rfl rfl
theorem tw_813 : (Jvm.Cond.fieldLink "FleetFloorModel" (215 : Nat) "FleetFloorModel" "letters" "I") ∈ bg := bg_m4 93 rfl rfl
theorem tw_814 : (Jvm.Cond.fieldLink "FleetFloorModel" (77 : Nat) "FleetFloorModel" "letterKind" "[I") ∈ bg := bg_m4 94 rfl rfl
theorem tw_815 : (Jvm.Cond.fieldLink "FleetFloorModel" (80 : Nat) "FleetFloorModel" "letterOf" "[I") ∈ bg := bg_m4 95 rfl rfl
theorem tw_816 : (Jvm.Cond.fieldLink "FleetFloorModel" (83 : Nat) "FleetFloorModel" "letterNumber" "[I") ∈ bg := bg_m4 96 rfl rfl
theorem tw_817 : (Jvm.Cond.fieldLink "FleetFloorModel" (86 : Nat) "FleetFloorModel" "noBeing" "[J") ∈ bg := bg_m4 97 rfl rfl
theorem tw_818 : (Jvm.Cond.fieldLink "FleetFloorModel" (90 : Nat) "FleetFloorModel" "noComing" "[J") ∈ bg := bg_m4 98 rfl rfl
theorem tw_819 : (Jvm.Cond.fieldLink "FleetFloorModel" (93 : Nat) "FleetFloorModel" "reached" "[J") ∈ bg := bg_m4 99 rfl rfl
theorem tw_820 : (Jvm.Cond.fieldLink "FleetFloorModel" (146 : Nat) "FleetFloorModel" "planner" "I") ∈ bg := bg_m4 100 rfl rfl
theorem tw_821 : (Jvm.Cond.lays "FleetFloorModel" "FleetFloorModel" "thrown" "I") ∈ bg := bg_m4 101 rfl rfl
theorem tw_822 : (Jvm.Cond.soleField "FleetFloorModel" "thrown") ∈ bg := bg_m4 102 rfl rfl
theorem tw_823 : (Jvm.Cond.lays "FleetFloorModel" "FleetFloorModel" "open" "Z") ∈ bg := bg_m4 103 rfl rfl
theorem tw_824 : (Jvm.Cond.soleField "FleetFloorModel" "open") ∈ bg := bg_m4 104 rfl rfl
theorem tw_825 : (Jvm.Cond.laysFinal "FleetFloorModel" "FleetFloorModel" "kinds" "[I") ∈ bg := bg_m4 105 rfl rfl
theorem tw_826 : (Jvm.Cond.soleField "FleetFloorModel" "kinds") ∈ bg := bg_m4 106 rfl rfl
theorem tw_827 : (Jvm.Cond.lays "FleetFloorModel" "FleetFloorModel" "stations" "I") ∈ bg := bg_m4 107 rfl rfl
theorem tw_828 : (Jvm.Cond.soleField "FleetFloorModel" "stations") ∈ bg := bg_m4 108 rfl rfl
theorem tw_829 : (Jvm.Cond.lays "FleetFloorModel" "FleetFloorModel" "vehicles" "I") ∈ bg := bg_m4 109 rfl rfl
theorem tw_830 : (Jvm.Cond.soleField "FleetFloorModel" "vehicles") ∈ bg := bg_m4 110 rfl rfl
theorem tw_831 : (Jvm.Cond.laysFinal "FleetFloorModel" "FleetFloorModel" "stationAt" "[I") ∈ bg := bg_m4 111 rfl rfl
theorem tw_832 : (Jvm.Cond.soleField "FleetFloorModel" "stationAt") ∈ bg := bg_m4 112 rfl rfl
theorem tw_833 : (Jvm.Cond.laysFinal "FleetFloorModel" "FleetFloorModel" "parkingAt" "[I") ∈ bg := bg_m4 113 rfl rfl
theorem tw_834 : (Jvm.Cond.soleField "FleetFloorModel" "parkingAt") ∈ bg := bg_m4 114 rfl rfl
theorem tw_835 : (Jvm.Cond.laysFinal "FleetFloorModel" "FleetFloorModel" "seen" "[Z") ∈ bg := bg_m4 115 rfl rfl
theorem tw_836 : (Jvm.Cond.soleField "FleetFloorModel" "seen") ∈ bg := bg_m4 116 rfl rfl
theorem tw_837 : (Jvm.Cond.laysFinal "FleetFloorModel" "FleetFloorModel" "pile" "[I") ∈ bg := bg_m4 117 rfl rfl
theorem tw_838 : (Jvm.Cond.soleField "FleetFloorModel" "pile") ∈ bg := bg_m4 118 rfl rfl
theorem tw_839 : (Jvm.Cond.lays "FleetFloorModel" "FleetFloorModel" "tasks" "I") ∈ bg := bg_m4 119 rfl rfl
theorem tw_840 : (Jvm.Cond.soleField "FleetFloorModel" "tasks") ∈ bg := bg_m4 120 rfl rfl
theorem tw_841 : (Jvm.Cond.lays "FleetFloorModel" "FleetFloorModel" "planned" "I") ∈ bg := bg_m4 121 rfl rfl
theorem tw_842 : (Jvm.Cond.soleField "FleetFloorModel" "planned") ∈ bg := bg_m4 122 rfl rfl
theorem tw_843 : (Jvm.Cond.laysFinal "FleetFloorModel" "FleetFloorModel" "first" "[I") ∈ bg := bg_m4 123 rfl rfl
theorem tw_844 : (Jvm.Cond.soleField "FleetFloorModel" "first") ∈ bg := bg_m4 124 rfl rfl
theorem tw_845 : (Jvm.Cond.laysFinal "FleetFloorModel" "FleetFloorModel" "second" "[I") ∈ bg := bg_m4 125 rfl rfl
theorem tw_846 : (Jvm.Cond.soleField "FleetFloorModel" "second") ∈ bg := bg_m4 126 rfl rfl
theorem tw_847 : (Jvm.Cond.laysFinal "FleetFloorModel" "FleetFloorModel" "owner" "[I") ∈ bg := bg_m4 127 rfl rfl
theorem tw_848 : (Jvm.Cond.soleField "FleetFloorModel" "owner") ∈ bg := bg_m4 128 rfl rfl
theorem tw_849 : (Jvm.Cond.laysFinal "FleetFloorModel" "FleetFloorModel" "start" "[I") ∈ bg := bg_m4 129 rfl rfl
theorem tw_850 : (Jvm.Cond.soleField "FleetFloorModel" "start") ∈ bg := bg_m4 130 rfl rfl
theorem tw_851 : (Jvm.Cond.laysFinal "FleetFloorModel" "FleetFloorModel" "many" "[I") ∈ bg := bg_m4 131 rfl rfl
theorem tw_852 : (Jvm.Cond.soleField "FleetFloorModel" "many") ∈ bg := bg_m4 132 rfl rfl
theorem tw_853 : (Jvm.Cond.laysFinal "FleetFloorModel" "FleetFloorModel" "base" "[I") ∈ bg := bg_m4 133 rfl rfl
theorem tw_854 : (Jvm.Cond.soleField "FleetFloorModel" "base") ∈ bg := bg_m4 134 rfl rfl
theorem tw_855 : (Jvm.Cond.laysFinal "FleetFloorModel" "FleetFloorModel" "finishing" "[I") ∈ bg := bg_m4 135 rfl rfl
theorem tw_856 : (Jvm.Cond.soleField "FleetFloorModel" "finishing") ∈ bg := bg_m4 136 rfl rfl
theorem tw_857 : (Jvm.Cond.laysFinal "FleetFloorModel" "FleetFloorModel" "finished" "[I") ∈ bg := bg_m4 137 rfl rfl
theorem tw_858 : (Jvm.Cond.soleField "FleetFloorModel" "finished") ∈ bg := bg_m4 138 rfl rfl
theorem tw_859 : (Jvm.Cond.lays "FleetFloorModel" "FleetFloorModel" "rowed" "I") ∈ bg := bg_m4 139 rfl rfl
theorem tw_860 : (Jvm.Cond.soleField "FleetFloorModel" "rowed") ∈ bg := bg_m4 140 rfl rfl
theorem tw_861 : (Jvm.Cond.laysFinal "FleetFloorModel" "FleetFloorModel" "moveCell" "[I") ∈ bg := bg_m4 141 rfl rfl
theorem tw_862 : (Jvm.Cond.soleField "FleetFloorModel" "moveCell") ∈ bg := bg_m4 142 rfl rfl
theorem tw_863 : (Jvm.Cond.laysFinal "FleetFloorModel" "FleetFloorModel" "moveTime" "[I") ∈ bg := bg_m4 143 rfl rfl
theorem tw_864 : (Jvm.Cond.soleField "FleetFloorModel" "moveTime") ∈ bg := bg_m4 144 rfl rfl
theorem tw_865 : (Jvm.Cond.laysFinal "FleetFloorModel" "FleetFloorModel" "at" "[I") ∈ bg := bg_m4 145 rfl rfl
theorem tw_866 : (Jvm.Cond.soleField "FleetFloorModel" "at") ∈ bg := bg_m4 146 rfl rfl
theorem tw_867 : (Jvm.Cond.laysFinal "FleetFloorModel" "FleetFloorModel" "made" "[I") ∈ bg := bg_m4 147 rfl rfl
theorem tw_868 : (Jvm.Cond.soleField "FleetFloorModel" "made") ∈ bg := bg_m4 148 rfl rfl
theorem tw_869 : (Jvm.Cond.laysFinal "FleetFloorModel" "FleetFloorModel" "may" "[I") ∈ bg := bg_m4 149 rfl rfl
theorem tw_870 : (Jvm.Cond.soleField "FleetFloorModel" "may") ∈ bg := bg_m4 150 rfl rfl
theorem tw_871 : (Jvm.Cond.laysFinal "FleetFloorModel" "FleetFloorModel" "known" "[I") ∈ bg := bg_m4 151 rfl rfl
theorem tw_872 : (Jvm.Cond.soleField "FleetFloorModel" "known") ∈ bg := bg_m4 152 rfl rfl
theorem tw_873 : (Jvm.Cond.laysFinal "FleetFloorModel" "FleetFloorModel" "granted" "[I") ∈ bg := bg_m4 153 rfl rfl
theorem tw_874 : (Jvm.Cond.soleField "FleetFloorModel" "granted") ∈ bg := bg_m4 154 rfl rfl
theorem tw_875 : (Jvm.Cond.laysFinal "FleetFloorModel" "FleetFloorModel" "moves" "[I") ∈ bg := bg_m4 155 rfl rfl
theorem tw_876 : (Jvm.Cond.soleField "FleetFloorModel" "moves") ∈ bg := bg_m4 156 rfl rfl
theorem tw_877 : (Jvm.Cond.laysFinal "FleetFloorModel" "FleetFloorModel" "latest" "[I") ∈ bg := bg_m4 157 rfl rfl
theorem tw_878 : (Jvm.Cond.soleField "FleetFloorModel" "latest") ∈ bg := bg_m4 158 rfl rfl
theorem tw_879 : (Jvm.Cond.lays "FleetFloorModel" "FleetFloorModel" "clock" "I") ∈ bg := bg_m4 159 rfl rfl
theorem tw_880 : (Jvm.Cond.soleField "FleetFloorModel" "clock") ∈ bg := bg_m4 160 rfl rfl
theorem tw_881 : (Jvm.Cond.lays "FleetFloorModel" "FleetFloorModel" "ticks" "I") ∈ bg := bg_m4 161 rfl rfl
theorem tw_882 : (Jvm.Cond.soleField "FleetFloorModel" "ticks") ∈ bg := bg_m4 162 rfl rfl
theorem tw_883 : (Jvm.Cond.lays "FleetFloorModel" "FleetFloorModel" "letters" "I") ∈ bg := bg_m4 163 rfl rfl
theorem tw_884 : (Jvm.Cond.soleField "FleetFloorModel" "letters") ∈ bg := bg_m4 164 rfl rfl
theorem tw_885 : (Jvm.Cond.laysFinal "FleetFloorModel" "FleetFloorModel" "letterKind" "[I") ∈ bg := bg_m4 165 rfl rfl
theorem tw_886 : (Jvm.Cond.soleField "FleetFloorModel" "letterKind") ∈ bg := bg_m4 166 rfl rfl
theorem tw_887 : (Jvm.Cond.laysFinal "FleetFloorModel" "FleetFloorModel" "letterOf" "[I") ∈ bg := bg_m4 167 rfl rfl
theorem tw_888 : (Jvm.Cond.soleField "FleetFloorModel" "letterOf") ∈ bg := bg_m4 168 rfl rfl
theorem tw_889 : (Jvm.Cond.laysFinal "FleetFloorModel" "FleetFloorModel" "letterNumber" "[I") ∈ bg := bg_m4 169 rfl rfl
theorem tw_890 : (Jvm.Cond.soleField "FleetFloorModel" "letterNumber") ∈ bg := bg_m4 170 rfl rfl
theorem tw_891 : (Jvm.Cond.laysFinal "FleetFloorModel" "FleetFloorModel" "noBeing" "[J") ∈ bg := bg_m4 171 rfl rfl
theorem tw_892 : (Jvm.Cond.soleField "FleetFloorModel" "noBeing") ∈ bg := bg_m4 172 rfl rfl
theorem tw_893 : (Jvm.Cond.laysFinal "FleetFloorModel" "FleetFloorModel" "noComing" "[J") ∈ bg := bg_m4 173 rfl rfl
theorem tw_894 : (Jvm.Cond.soleField "FleetFloorModel" "noComing") ∈ bg := bg_m4 174 rfl rfl
theorem tw_895 : (Jvm.Cond.laysFinal "FleetFloorModel" "FleetFloorModel" "reached" "[J") ∈ bg := bg_m4 175 rfl rfl
theorem tw_896 : (Jvm.Cond.soleField "FleetFloorModel" "reached") ∈ bg := bg_m4 176 rfl rfl
theorem tw_897 : (Jvm.Cond.lays "FleetFloorModel" "FleetFloorModel" "planner" "I") ∈ bg := bg_m4 177 rfl rfl
theorem tw_898 : (Jvm.Cond.soleField "FleetFloorModel" "planner") ∈ bg := bg_m4 178 rfl rfl
theorem tw_899 : (Jvm.Cond.lays "FleetFloorModel" "FleetFloorModel" "done" "I") ∈ bg := bg_m4 179 rfl rfl
theorem tw_900 : (Jvm.Cond.soleField "FleetFloorModel" "done") ∈ bg := bg_m4 180 rfl rfl
theorem tw_901 : (Jvm.Cond.superclass "FleetFloorModel" "java/lang/Object") ∈ bg := bg_m4 181 rfl rfl
theorem tw_902 : (Jvm.Cond.arrayClass Jvm.ClassFile.FieldType.boolean) ∈ bg := bg_m4 182 rfl rfl
theorem tw_903 : (Jvm.Cond.arrayClass Jvm.ClassFile.FieldType.long) ∈ bg := bg_m4 183 rfl rfl
theorem tw_904 : (Jvm.Cond.methodLink "FleetFloorLaw" (39 : Nat) ({ cls := "FleetFloorModel", name := "thrown", desc := "()I" } : Jvm.MethodName)) ∈ bg := bg_m4 184 rfl rfl
theorem tw_905 : (Jvm.Cond.instanceMethod ({ cls := "FleetFloorModel", name := "thrown", desc := "()I" } : Jvm.MethodName)) ∈ bg := bg_m4 185 rfl rfl
theorem tw_906 : (Jvm.Cond.selects "FleetFloorModel" ({ cls := "FleetFloorModel", name := "thrown", desc := "()I" } : Jvm.MethodName) ({ cls := "FleetFloorModel", name := "thrown", desc := "()I" } : Jvm.MethodName)) ∈ bg := bg_m4 186 rfl rfl
theorem tw_907 : (Jvm.Cond.code ({ cls := "FleetFloorModel", name := "thrown", desc := "()I" } : Jvm.MethodName) prog_11_method_2_code (1 : Nat) (Option.some Jvm.ClassFile.FieldType.int)) ∈ bg := bg_m4 187 rfl rfl
theorem tw_908 : (Jvm.Cond.methodLink "FleetFloorLaw" (32 : Nat) ({ cls := "FleetFloorModel", name := "cell", desc := "(II)Z" } : Jvm.MethodName)) ∈ bg := bg_m4 188 rfl rfl
theorem tw_909 : (Jvm.Cond.instanceMethod ({ cls := "FleetFloorModel", name := "cell", desc := "(II)Z" } : Jvm.MethodName)) ∈ bg := bg_m4 189 rfl rfl
theorem tw_910 : (Jvm.Cond.selects "FleetFloorModel" ({ cls := "FleetFloorModel", name := "cell", desc := "(II)Z" } : Jvm.MethodName) ({ cls := "FleetFloorModel", name := "cell", desc := "(II)Z" } : Jvm.MethodName)) ∈ bg := bg_m4 190 rfl rfl
theorem tw_911 : (Jvm.Cond.code ({ cls := "FleetFloorModel", name := "cell", desc := "(II)Z" } : Jvm.MethodName) prog_11_method_5_code (3 : Nat) (Option.some Jvm.ClassFile.FieldType.boolean)) ∈ bg := bg_m4 191 rfl rfl
theorem tw_912 : (Jvm.Cond.methodLink "FleetFloorModel" (104 : Nat) ({ cls := "FleetFloorModel", name := "in", desc := "(III)Z" } : Jvm.MethodName)) ∈ bg := bg_m4 192 rfl rfl
theorem tw_913 : (Jvm.Cond.static ({ cls := "FleetFloorModel", name := "in", desc := "(III)Z" } : Jvm.MethodName)) ∈ bg := bg_m4 193 rfl rfl
theorem tw_914 : (Jvm.Cond.code ({ cls := "FleetFloorModel", name := "in", desc := "(III)Z" } : Jvm.MethodName) prog_11_method_4_code (3 : Nat) (Option.some Jvm.ClassFile.FieldType.boolean)) ∈ bg := bg_m4 194 rfl rfl
theorem tw_915 : (Jvm.Cond.methodLink "FleetFloorLaw" (38 : Nat) ({ cls := "FleetFloorModel", name := "open", desc := "()I" } : Jvm.MethodName)) ∈ bg := bg_m4 195 rfl rfl
theorem tw_916 : (Jvm.Cond.instanceMethod ({ cls := "FleetFloorModel", name := "open", desc := "()I" } : Jvm.MethodName)) ∈ bg := bg_m4 196 rfl rfl
theorem tw_917 : (Jvm.Cond.selects "FleetFloorModel" ({ cls := "FleetFloorModel", name := "open", desc := "()I" } : Jvm.MethodName) ({ cls := "FleetFloorModel", name := "open", desc := "()I" } : Jvm.MethodName)) ∈ bg := bg_m4 197 rfl rfl
theorem tw_918 : (Jvm.Cond.code ({ cls := "FleetFloorModel", name := "open", desc := "()I" } : Jvm.MethodName) prog_11_method_9_code (2 : Nat) (Option.some Jvm.ClassFile.FieldType.int)) ∈ bg := bg_m4 198 rfl rfl
theorem tw_919 : (Jvm.Cond.methodLink "FleetFloorModel" (116 : Nat) ({ cls := "FleetFloorModel", name := "isGood", desc := "()Z" } : Jvm.MethodName)) ∈ bg := bg_m4 199 rfl rfl
theorem tx_920 : (Jvm.Cond.privateMethod ({ cls := "FleetFloorModel", name := "isGood", desc := "()Z" } : Jvm.MethodName)) ∈ lw_tbl := tb_m4 200 rfl
theorem tw_921 : (Jvm.Cond.instanceMethod ({ cls := "FleetFloorModel", name := "isGood", desc := "()Z" } : Jvm.MethodName)) ∈ bg := bg_m4 201 rfl rfl
theorem tw_922 : (Jvm.Cond.code ({ cls := "FleetFloorModel", name := "isGood", desc := "()Z" } : Jvm.MethodName) prog_11_method_8_code (5 : Nat) (Option.some Jvm.ClassFile.FieldType.boolean)) ∈ bg := bg_m4 202 rfl rfl
theorem tw_923 : (Jvm.Cond.methodLink "FleetFloorModel" (112 : Nat) ({ cls := "FleetFloorModel", name := "leadsToAll", desc := "(I)Z" } : Jvm.MethodName)) ∈ bg := bg_m4 203 rfl rfl
theorem tx_924 : (Jvm.Cond.privateMethod ({ cls := "FleetFloorModel", name := "leadsToAll", desc := "(I)Z" } : Jvm.MethodName)) ∈ lw_tbl := tb_m4 204 rfl
theorem tw_925 : (Jvm.Cond.instanceMethod ({ cls := "FleetFloorModel", name := "leadsToAll", desc := "(I)Z" } : Jvm.MethodName)) ∈ bg := bg_m4 205 rfl rfl
theorem tw_926 : (Jvm.Cond.code ({ cls := "FleetFloorModel", name := "leadsToAll", desc := "(I)Z" } : Jvm.MethodName) prog_11_method_7_code (6 : Nat) (Option.some Jvm.ClassFile.FieldType.boolean)) ∈ bg := bg_m4 206 rfl rfl
theorem tw_927 : (Jvm.Cond.methodLink "FleetFloorModel" (108 : Nat) ({ cls := "FleetFloorModel", name := "neighbour", desc := "(II)I" } : Jvm.MethodName)) ∈ bg := bg_m4 207 rfl rfl
theorem tw_928 : (Jvm.Cond.static ({ cls := "FleetFloorModel", name := "neighbour", desc := "(II)I" } : Jvm.MethodName)) ∈ bg := bg_m4 208 rfl rfl
theorem tw_929 : (Jvm.Cond.code ({ cls := "FleetFloorModel", name := "neighbour", desc := "(II)I" } : Jvm.MethodName) prog_11_method_6_code (3 : Nat) (Option.some Jvm.ClassFile.FieldType.int)) ∈ bg := bg_m4 209 rfl rfl
theorem tw_930 : (Jvm.Cond.methodLink "FleetFloorModel" (120 : Nat) ({ cls := "FleetFloorModel", name := "throwing", desc := "(ZZ)Z" } : Jvm.MethodName)) ∈ bg := bg_m4 210 rfl rfl
theorem tx_931 : (Jvm.Cond.privateMethod ({ cls := "FleetFloorModel", name := "throwing", desc := "(ZZ)Z" } : Jvm.MethodName)) ∈ lw_tbl := tb_m4 211 rfl
theorem tw_932 : (Jvm.Cond.instanceMethod ({ cls := "FleetFloorModel", name := "throwing", desc := "(ZZ)Z" } : Jvm.MethodName)) ∈ bg := bg_m4 212 rfl rfl
theorem tw_933 : (Jvm.Cond.code ({ cls := "FleetFloorModel", name := "throwing", desc := "(ZZ)Z" } : Jvm.MethodName) prog_11_method_3_code (3 : Nat) (Option.some Jvm.ClassFile.FieldType.boolean)) ∈ bg := bg_m4 213 rfl rfl
theorem tw_934 : (Jvm.Cond.methodLink "FleetFloorLaw" (45 : Nat) ({ cls := "FleetFloorModel", name := "task", desc := "(II)I" } : Jvm.MethodName)) ∈ bg := bg_m4 214 rfl rfl
theorem tw_935 : (Jvm.Cond.instanceMethod ({ cls := "FleetFloorModel", name := "task", desc := "(II)I" } : Jvm.MethodName)) ∈ bg := bg_m4 215 rfl rfl
theorem tw_936 : (Jvm.Cond.selects "FleetFloorModel" ({ cls := "FleetFloorModel", name := "task", desc := "(II)I" } : Jvm.MethodName) ({ cls := "FleetFloorModel", name := "task", desc := "(II)I" } : Jvm.MethodName)) ∈ bg := bg_m4 216 rfl rfl
theorem tw_937 : (Jvm.Cond.code ({ cls := "FleetFloorModel", name := "task", desc := "(II)I" } : Jvm.MethodName) prog_11_method_10_code (3 : Nat) (Option.some Jvm.ClassFile.FieldType.int)) ∈ bg := bg_m4 217 rfl rfl
theorem tw_938 : (Jvm.Cond.methodLink "FleetFloorLaw" (52 : Nat) ({ cls := "FleetFloorModel", name := "letters", desc := "()I" } : Jvm.MethodName)) ∈ bg := bg_m4 218 rfl rfl
theorem tw_939 : (Jvm.Cond.instanceMethod ({ cls := "FleetFloorModel", name := "letters", desc := "()I" } : Jvm.MethodName)) ∈ bg := bg_m4 219 rfl rfl
theorem tw_940 : (Jvm.Cond.selects "FleetFloorModel" ({ cls := "FleetFloorModel", name := "letters", desc := "()I" } : Jvm.MethodName) ({ cls := "FleetFloorModel", name := "letters", desc := "()I" } : Jvm.MethodName)) ∈ bg := bg_m4 220 rfl rfl
theorem tw_941 : (Jvm.Cond.code ({ cls := "FleetFloorModel", name := "letters", desc := "()I" } : Jvm.MethodName) prog_11_method_31_code (1 : Nat) (Option.some Jvm.ClassFile.FieldType.int)) ∈ bg := bg_m4 221 rfl rfl
theorem tw_942 : (Jvm.Cond.methodLink "FleetFloorLaw" (56 : Nat) ({ cls := "FleetFloorModel", name := "letter", desc := "(II)I" } : Jvm.MethodName)) ∈ bg := bg_m4 222 rfl rfl
theorem tw_943 : (Jvm.Cond.instanceMethod ({ cls := "FleetFloorModel", name := "letter", desc := "(II)I" } : Jvm.MethodName)) ∈ bg := bg_m4 223 rfl rfl
theorem tw_944 : (Jvm.Cond.selects "FleetFloorModel" ({ cls := "FleetFloorModel", name := "letter", desc := "(II)I" } : Jvm.MethodName) ({ cls := "FleetFloorModel", name := "letter", desc := "(II)I" } : Jvm.MethodName)) ∈ bg := bg_m4 224 rfl rfl
theorem tw_945 : (Jvm.Cond.code ({ cls := "FleetFloorModel", name := "letter", desc := "(II)I" } : Jvm.MethodName) prog_11_method_33_code (3 : Nat) (Option.some Jvm.ClassFile.FieldType.int)) ∈ bg := bg_m4 225 rfl rfl
theorem tw_946 : (Jvm.Cond.methodLink "FleetFloorModel" (218 : Nat) ({ cls := "FleetFloorModel", name := "isLetter", desc := "(I)Z" } : Jvm.MethodName)) ∈ bg := bg_m4 226 rfl rfl
theorem tx_947 : (Jvm.Cond.privateMethod ({ cls := "FleetFloorModel", name := "isLetter", desc := "(I)Z" } : Jvm.MethodName)) ∈ lw_tbl := tb_m4 227 rfl
theorem tw_948 : (Jvm.Cond.instanceMethod ({ cls := "FleetFloorModel", name := "isLetter", desc := "(I)Z" } : Jvm.MethodName)) ∈ bg := bg_m4 228 rfl rfl
theorem tw_949 : (Jvm.Cond.code ({ cls := "FleetFloorModel", name := "isLetter", desc := "(I)Z" } : Jvm.MethodName) prog_11_method_32_code (2 : Nat) (Option.some Jvm.ClassFile.FieldType.boolean)) ∈ bg := bg_m4 229 rfl rfl
theorem tw_950 : (Jvm.Cond.methodLink "FleetFloorLaw" (61 : Nat) ({ cls := "FleetFloorModel", name := "deliver", desc := "(I)Z" } : Jvm.MethodName)) ∈ bg := bg_m4 230 rfl rfl
theorem tw_951 : (Jvm.Cond.instanceMethod ({ cls := "FleetFloorModel", name := "deliver", desc := "(I)Z" } : Jvm.MethodName)) ∈ bg := bg_m4 231 rfl rfl
theorem tw_952 : (Jvm.Cond.selects "FleetFloorModel" ({ cls := "FleetFloorModel", name := "deliver", desc := "(I)Z" } : Jvm.MethodName) ({ cls := "FleetFloorModel", name := "deliver", desc := "(I)Z" } : Jvm.MethodName)) ∈ bg := bg_m4 232 rfl rfl
theorem tw_953 : (Jvm.Cond.code ({ cls := "FleetFloorModel", name := "deliver", desc := "(I)Z" } : Jvm.MethodName) prog_11_method_35_code (4 : Nat) (Option.some Jvm.ClassFile.FieldType.boolean)) ∈ bg := bg_m4 233 rfl rfl
theorem tw_954 : (Jvm.Cond.methodLink "FleetFloorModel" (221 : Nat) ({ cls := "FleetFloorModel", name := "remove", desc := "(I)V" } : Jvm.MethodName)) ∈ bg := bg_m4 234 rfl rfl
theorem tx_955 : (Jvm.Cond.privateMethod ({ cls := "FleetFloorModel", name := "remove", desc := "(I)V" } : Jvm.MethodName)) ∈ lw_tbl := tb_m4 235 rfl
theorem tw_956 : (Jvm.Cond.instanceMethod ({ cls := "FleetFloorModel", name := "remove", desc := "(I)V" } : Jvm.MethodName)) ∈ bg := bg_m4 236 rfl rfl
theorem tw_957 : (Jvm.Cond.code ({ cls := "FleetFloorModel", name := "remove", desc := "(I)V" } : Jvm.MethodName) prog_11_method_34_code (3 : Nat) (Option.none : Option Jvm.ClassFile.FieldType)) ∈ bg := bg_m4 237 rfl rfl
theorem tw_958 : (Jvm.Cond.methodLink "FleetFloorLaw" (65 : Nat) ({ cls := "FleetFloorModel", name := "lose", desc := "(I)Z" } : Jvm.MethodName)) ∈ bg := bg_m4 238 rfl rfl
theorem tw_959 : (Jvm.Cond.instanceMethod ({ cls := "FleetFloorModel", name := "lose", desc := "(I)Z" } : Jvm.MethodName)) ∈ bg := bg_m4 239 rfl rfl
theorem tw_960 : (Jvm.Cond.selects "FleetFloorModel" ({ cls := "FleetFloorModel", name := "lose", desc := "(I)Z" } : Jvm.MethodName) ({ cls := "FleetFloorModel", name := "lose", desc := "(I)Z" } : Jvm.MethodName)) ∈ bg := bg_m5 0 rfl rfl
theorem tw_961 : (Jvm.Cond.code ({ cls := "FleetFloorModel", name := "lose", desc := "(I)Z" } : Jvm.MethodName) prog_11_method_36_code (2 : Nat) (Option.some Jvm.ClassFile.FieldType.boolean)) ∈ bg := bg_m5 1 rfl rfl
theorem tw_962 : (Jvm.Cond.methodLink "FleetFloorLaw" (69 : Nat) ({ cls := "FleetFloorModel", name := "twin", desc := "(I)Z" } : Jvm.MethodName)) ∈ bg := bg_m5 2 rfl rfl
theorem tw_963 : (Jvm.Cond.instanceMethod ({ cls := "FleetFloorModel", name := "twin", desc := "(I)Z" } : Jvm.MethodName)) ∈ bg := bg_m5 3 rfl rfl
theorem tw_964 : (Jvm.Cond.selects "FleetFloorModel" ({ cls := "FleetFloorModel", name := "twin", desc := "(I)Z" } : Jvm.MethodName) ({ cls := "FleetFloorModel", name := "twin", desc := "(I)Z" } : Jvm.MethodName)) ∈ bg := bg_m5 4 rfl rfl
theorem tw_965 : (Jvm.Cond.code ({ cls := "FleetFloorModel", name := "twin", desc := "(I)Z" } : Jvm.MethodName) prog_11_method_37_code (2 : Nat) (Option.some Jvm.ClassFile.FieldType.boolean)) ∈ bg := bg_m5 5 rfl rfl
theorem tw_966 : (Jvm.Cond.methodLink "FleetFloorModel" (208 : Nat) ({ cls := "FleetFloorModel", name := "send", desc := "(III)V" } : Jvm.MethodName)) ∈ bg := bg_m5 6 rfl rfl
theorem tx_967 : (Jvm.Cond.privateMethod ({ cls := "FleetFloorModel", name := "send", desc := "(III)V" } : Jvm.MethodName)) ∈ lw_tbl := tb_m5 7 rfl
theorem tw_968 : (Jvm.Cond.instanceMethod ({ cls := "FleetFloorModel", name := "send", desc := "(III)V" } : Jvm.MethodName)) ∈ bg := bg_m5 8 rfl rfl
theorem tw_969 : (Jvm.Cond.code ({ cls := "FleetFloorModel", name := "send", desc := "(III)V" } : Jvm.MethodName) prog_11_method_30_code (4 : Nat) (Option.none : Option Jvm.ClassFile.FieldType)) ∈ bg := bg_m5 9 rfl rfl
theorem tw_970 : (Jvm.Cond.methodLink "FleetFloorLaw" (48 : Nat) ({ cls := "FleetFloorModel", name := "tick", desc := "()I" } : Jvm.MethodName)) ∈ bg := bg_m5 10 rfl rfl
theorem tw_971 : (Jvm.Cond.instanceMethod ({ cls := "FleetFloorModel", name := "tick", desc := "()I" } : Jvm.MethodName)) ∈ bg := bg_m5 11 rfl rfl
theorem tw_972 : (Jvm.Cond.selects "FleetFloorModel" ({ cls := "FleetFloorModel", name := "tick", desc := "()I" } : Jvm.MethodName) ({ cls := "FleetFloorModel", name := "tick", desc := "()I" } : Jvm.MethodName)) ∈ bg := bg_m5 12 rfl rfl
theorem tw_973 : (Jvm.Cond.code ({ cls := "FleetFloorModel", name := "tick", desc := "()I" } : Jvm.MethodName) prog_11_method_39_code (4 : Nat) (Option.some Jvm.ClassFile.FieldType.int)) ∈ bg := bg_m5 13 rfl rfl
theorem tw_974 : (Jvm.Cond.methodLink "FleetFloorModel" (224 : Nat) ({ cls := "FleetFloorModel", name := "go", desc := "(I)V" } : Jvm.MethodName)) ∈ bg := bg_m5 14 rfl rfl
theorem tx_975 : (Jvm.Cond.privateMethod ({ cls := "FleetFloorModel", name := "go", desc := "(I)V" } : Jvm.MethodName)) ∈ lw_tbl := tb_m5 15 rfl
theorem tw_976 : (Jvm.Cond.instanceMethod ({ cls := "FleetFloorModel", name := "go", desc := "(I)V" } : Jvm.MethodName)) ∈ bg := bg_m5 16 rfl rfl
theorem tw_977 : (Jvm.Cond.code ({ cls := "FleetFloorModel", name := "go", desc := "(I)V" } : Jvm.MethodName) prog_11_method_38_code (3 : Nat) (Option.none : Option Jvm.ClassFile.FieldType)) ∈ bg := bg_m5 17 rfl rfl
theorem tw_978 : (Jvm.Cond.methodLink "FleetFloorModel" (139 : Nat) ({ cls := "FleetFloorModel", name := "placeOf", desc := "(II)I" } : Jvm.MethodName)) ∈ bg := bg_m5 18 rfl rfl
theorem tx_979 : (Jvm.Cond.privateMethod ({ cls := "FleetFloorModel", name := "placeOf", desc := "(II)I" } : Jvm.MethodName)) ∈ lw_tbl := tb_m5 19 rfl
theorem tw_980 : (Jvm.Cond.instanceMethod ({ cls := "FleetFloorModel", name := "placeOf", desc := "(II)I" } : Jvm.MethodName)) ∈ bg := bg_m5 20 rfl rfl
theorem tw_981 : (Jvm.Cond.code ({ cls := "FleetFloorModel", name := "placeOf", desc := "(II)I" } : Jvm.MethodName) prog_11_method_11_code (4 : Nat) (Option.some Jvm.ClassFile.FieldType.int)) ∈ bg := bg_m5 21 rfl rfl
theorem tw_982 : (Jvm.Cond.methodLink "FleetFloorModel" (205 : Nat) ({ cls := "FleetFloorModel", name := "isTurn", desc := "(I)Z" } : Jvm.MethodName)) ∈ bg := bg_m5 22 rfl rfl
theorem tx_983 : (Jvm.Cond.privateMethod ({ cls := "FleetFloorModel", name := "isTurn", desc := "(I)Z" } : Jvm.MethodName)) ∈ lw_tbl := tb_m5 23 rfl
theorem tw_984 : (Jvm.Cond.instanceMethod ({ cls := "FleetFloorModel", name := "isTurn", desc := "(I)Z" } : Jvm.MethodName)) ∈ bg := bg_m5 24 rfl rfl
theorem tw_985 : (Jvm.Cond.code ({ cls := "FleetFloorModel", name := "isTurn", desc := "(I)Z" } : Jvm.MethodName) prog_11_method_29_code (2 : Nat) (Option.some Jvm.ClassFile.FieldType.boolean)) ∈ bg := bg_m5 25 rfl rfl
theorem tw_986 : (Jvm.Cond.methodLink "FleetFloorModel" (227 : Nat) ({ cls := "FleetFloorModel", name := "planAll", desc := "()V" } : Jvm.MethodName)) ∈ bg := bg_m5 26 rfl rfl
theorem tx_987 : (Jvm.Cond.privateMethod ({ cls := "FleetFloorModel", name := "planAll", desc := "()V" } : Jvm.MethodName)) ∈ lw_tbl := tb_m5 27 rfl
theorem tw_988 : (Jvm.Cond.instanceMethod ({ cls := "FleetFloorModel", name := "planAll", desc := "()V" } : Jvm.MethodName)) ∈ bg := bg_m5 28 rfl rfl
theorem tw_989 : (Jvm.Cond.code ({ cls := "FleetFloorModel", name := "planAll", desc := "()V" } : Jvm.MethodName) prog_11_method_26_code (3 : Nat) (Option.none : Option Jvm.ClassFile.FieldType)) ∈ bg := bg_m5 29 rfl rfl
theorem tw_990 : (Jvm.Cond.methodLink "FleetFloorModel" (194 : Nat) ({ cls := "FleetFloorModel", name := "idle", desc := "()I" } : Jvm.MethodName)) ∈ bg := bg_m5 30 rfl rfl
theorem tx_991 : (Jvm.Cond.privateMethod ({ cls := "FleetFloorModel", name := "idle", desc := "()I" } : Jvm.MethodName)) ∈ lw_tbl := tb_m5 31 rfl
theorem tw_992 : (Jvm.Cond.instanceMethod ({ cls := "FleetFloorModel", name := "idle", desc := "()I" } : Jvm.MethodName)) ∈ bg := bg_m5 32 rfl rfl
theorem tw_993 : (Jvm.Cond.code ({ cls := "FleetFloorModel", name := "idle", desc := "()I" } : Jvm.MethodName) prog_11_method_25_code (2 : Nat) (Option.some Jvm.ClassFile.FieldType.int)) ∈ bg := bg_m5 33 rfl rfl
theorem tw_994 : (Jvm.Cond.methodLink "FleetFloorModel" (198 : Nat) ({ cls := "FleetFloorModel", name := "plans", desc := "(II)Z" } : Jvm.MethodName)) ∈ bg := bg_m5 34 rfl rfl
theorem tx_995 : (Jvm.Cond.privateMethod ({ cls := "FleetFloorModel", name := "plans", desc := "(II)Z" } : Jvm.MethodName)) ∈ lw_tbl := tb_m5 35 rfl
theorem tw_996 : (Jvm.Cond.instanceMethod ({ cls := "FleetFloorModel", name := "plans", desc := "(II)Z" } : Jvm.MethodName)) ∈ bg := bg_m5 36 rfl rfl
theorem tw_997 : (Jvm.Cond.code ({ cls := "FleetFloorModel", name := "plans", desc := "(II)Z" } : Jvm.MethodName) prog_11_method_24_code (4 : Nat) (Option.some Jvm.ClassFile.FieldType.boolean)) ∈ bg := bg_m5 37 rfl rfl
theorem tw_998 : (Jvm.Cond.methodLink "FleetFloorModel" (180 : Nat) ({ cls := "FleetFloorModel", name := "forbidAll", desc := "()V" } : Jvm.MethodName)) ∈ bg := bg_m5 38 rfl rfl
theorem tx_999 : (Jvm.Cond.privateMethod ({ cls := "FleetFloorModel", name := "forbidAll", desc := "()V" } : Jvm.MethodName)) ∈ lw_tbl := tb_m5 39 rfl
theorem tw_1000 : (Jvm.Cond.instanceMethod ({ cls := "FleetFloorModel", name := "forbidAll", desc := "()V" } : Jvm.MethodName)) ∈ bg := bg_m5 40 rfl rfl
theorem tw_1001 : (Jvm.Cond.code ({ cls := "FleetFloorModel", name := "forbidAll", desc := "()V" } : Jvm.MethodName) prog_11_method_15_code (2 : Nat) (Option.none : Option Jvm.ClassFile.FieldType)) ∈ bg := bg_m5 41 rfl rfl
theorem tw_1002 : (Jvm.Cond.methodLink "FleetFloorModel" (149 : Nat) ({ cls := "FleetFloorModel", name := "forbid", desc := "(I)V" } : Jvm.MethodName)) ∈ bg := bg_m5 42 rfl rfl
theorem tx_1003 : (Jvm.Cond.privateMethod ({ cls := "FleetFloorModel", name := "forbid", desc := "(I)V" } : Jvm.MethodName)) ∈ lw_tbl := tb_m5 43 rfl
theorem tw_1004 : (Jvm.Cond.instanceMethod ({ cls := "FleetFloorModel", name := "forbid", desc := "(I)V" } : Jvm.MethodName)) ∈ bg := bg_m5 44 rfl rfl
theorem tw_1005 : (Jvm.Cond.code ({ cls := "FleetFloorModel", name := "forbid", desc := "(I)V" } : Jvm.MethodName) prog_11_method_14_code (7 : Nat) (Option.none : Option Jvm.ClassFile.FieldType)) ∈ bg := bg_m5 45 rfl rfl
theorem tw_1006 : (Jvm.Cond.methodLink "FleetFloorModel" (142 : Nat) ({ cls := "FleetFloorModel", name := "add", desc := "([JII)V" } : Jvm.MethodName)) ∈ bg := bg_m5 46 rfl rfl
theorem tw_1007 : (Jvm.Cond.static ({ cls := "FleetFloorModel", name := "add", desc := "([JII)V" } : Jvm.MethodName)) ∈ bg := bg_m5 47 rfl rfl
theorem tw_1008 : (Jvm.Cond.code ({ cls := "FleetFloorModel", name := "add", desc := "([JII)V" } : Jvm.MethodName) prog_11_method_13_code (3 : Nat) (Option.none : Option Jvm.ClassFile.FieldType)) ∈ bg := bg_m5 48 rfl rfl
theorem tw_1009 : (Jvm.Cond.methodLink "FleetFloorModel" (183 : Nat) ({ cls := "FleetFloorModel", name := "spread", desc := "(I)I" } : Jvm.MethodName)) ∈ bg := bg_m5 49 rfl rfl
theorem tx_1010 : (Jvm.Cond.privateMethod ({ cls := "FleetFloorModel", name := "spread", desc := "(I)I" } : Jvm.MethodName)) ∈ lw_tbl := tb_m5 50 rfl
theorem tw_1011 : (Jvm.Cond.instanceMethod ({ cls := "FleetFloorModel", name := "spread", desc := "(I)I" } : Jvm.MethodName)) ∈ bg := bg_m5 51 rfl rfl
theorem tw_1012 : (Jvm.Cond.code ({ cls := "FleetFloorModel", name := "spread", desc := "(I)I" } : Jvm.MethodName) prog_11_method_19_code (6 : Nat) (Option.some Jvm.ClassFile.FieldType.int)) ∈ bg := bg_m5 52 rfl rfl
theorem tw_1013 : (Jvm.Cond.methodLink "FleetFloorModel" (156 : Nat) ({ cls := "FleetFloorModel", name := "isIn", desc := "([JII)Z" } : Jvm.MethodName)) ∈ bg := bg_m5 53 rfl rfl
theorem tw_1014 : (Jvm.Cond.static ({ cls := "FleetFloorModel", name := "isIn", desc := "([JII)Z" } : Jvm.MethodName)) ∈ bg := bg_m5 54 rfl rfl
theorem tw_1015 : (Jvm.Cond.code ({ cls := "FleetFloorModel", name := "isIn", desc := "([JII)Z" } : Jvm.MethodName) prog_11_method_12_code (3 : Nat) (Option.some Jvm.ClassFile.FieldType.boolean)) ∈ bg := bg_m5 55 rfl rfl
theorem tw_1016 : (Jvm.Cond.methodLink "FleetFloorModel" (160 : Nat) ({ cls := "FleetFloorModel", name := "spreadFrom", desc := "(IIII)V" } : Jvm.MethodName)) ∈ bg := bg_m5 56 rfl rfl
theorem tx_1017 : (Jvm.Cond.privateMethod ({ cls := "FleetFloorModel", name := "spreadFrom", desc := "(IIII)V" } : Jvm.MethodName)) ∈ lw_tbl := tb_m5 57 rfl
theorem tw_1018 : (Jvm.Cond.instanceMethod ({ cls := "FleetFloorModel", name := "spreadFrom", desc := "(IIII)V" } : Jvm.MethodName)) ∈ bg := bg_m5 58 rfl rfl
theorem tw_1019 : (Jvm.Cond.code ({ cls := "FleetFloorModel", name := "spreadFrom", desc := "(IIII)V" } : Jvm.MethodName) prog_11_method_20_code (7 : Nat) (Option.none : Option Jvm.ClassFile.FieldType)) ∈ bg := bg_m5 59 rfl rfl
theorem tw_1020 : (Jvm.Cond.methodLink "FleetFloorModel" (164 : Nat) ({ cls := "FleetFloorModel", name := "goes", desc := "(III)I" } : Jvm.MethodName)) ∈ bg := bg_m5 60 rfl rfl
theorem tx_1021 : (Jvm.Cond.privateMethod ({ cls := "FleetFloorModel", name := "goes", desc := "(III)I" } : Jvm.MethodName)) ∈ lw_tbl := tb_m5 61 rfl
theorem tw_1022 : (Jvm.Cond.instanceMethod ({ cls := "FleetFloorModel", name := "goes", desc := "(III)I" } : Jvm.MethodName)) ∈ bg := bg_m5 62 rfl rfl
theorem tw_1023 : (Jvm.Cond.code ({ cls := "FleetFloorModel", name := "goes", desc := "(III)I" } : Jvm.MethodName) prog_11_method_17_code (5 : Nat) (Option.some Jvm.ClassFile.FieldType.int)) ∈ bg := bg_m5 63 rfl rfl
theorem tw_1024 : (Jvm.Cond.methodLink "FleetFloorModel" (153 : Nat) ({ cls := "FleetFloorModel", name := "isOthers", desc := "(I)Z" } : Jvm.MethodName)) ∈ bg := bg_m5 64 rfl rfl
theorem tx_1025 : (Jvm.Cond.privateMethod ({ cls := "FleetFloorModel", name := "isOthers", desc := "(I)Z" } : Jvm.MethodName)) ∈ lw_tbl := tb_m5 65 rfl
theorem tw_1026 : (Jvm.Cond.instanceMethod ({ cls := "FleetFloorModel", name := "isOthers", desc := "(I)Z" } : Jvm.MethodName)) ∈ bg := bg_m5 66 rfl rfl
theorem tw_1027 : (Jvm.Cond.code ({ cls := "FleetFloorModel", name := "isOthers", desc := "(I)Z" } : Jvm.MethodName) prog_11_method_16_code (2 : Nat) (Option.some Jvm.ClassFile.FieldType.boolean)) ∈ bg := bg_m5 67 rfl rfl
theorem tw_1028 : (Jvm.Cond.methodLink "FleetFloorModel" (168 : Nat) ({ cls := "FleetFloorModel", name := "doneAt", desc := "(III)I" } : Jvm.MethodName)) ∈ bg := bg_m5 68 rfl rfl
theorem tx_1029 : (Jvm.Cond.privateMethod ({ cls := "FleetFloorModel", name := "doneAt", desc := "(III)I" } : Jvm.MethodName)) ∈ lw_tbl := tb_m5 69 rfl
theorem tw_1030 : (Jvm.Cond.instanceMethod ({ cls := "FleetFloorModel", name := "doneAt", desc := "(III)I" } : Jvm.MethodName)) ∈ bg := bg_m5 70 rfl rfl
theorem tw_1031 : (Jvm.Cond.code ({ cls := "FleetFloorModel", name := "doneAt", desc := "(III)I" } : Jvm.MethodName) prog_11_method_18_code (5 : Nat) (Option.some Jvm.ClassFile.FieldType.int)) ∈ bg := bg_m5 71 rfl rfl
theorem tw_1032 : (Jvm.Cond.methodLink "FleetFloorModel" (187 : Nat) ({ cls := "FleetFloorModel", name := "narrow", desc := "(II)V" } : Jvm.MethodName)) ∈ bg := bg_m5 72 rfl rfl
theorem tx_1033 : (Jvm.Cond.privateMethod ({ cls := "FleetFloorModel", name := "narrow", desc := "(II)V" } : Jvm.MethodName)) ∈ lw_tbl := tb_m5 73 rfl
theorem tw_1034 : (Jvm.Cond.instanceMethod ({ cls := "FleetFloorModel", name := "narrow", desc := "(II)V" } : Jvm.MethodName)) ∈ bg := bg_m5 74 rfl rfl
theorem tw_1035 : (Jvm.Cond.code ({ cls := "FleetFloorModel", name := "narrow", desc := "(II)V" } : Jvm.MethodName) prog_11_method_22_code (6 : Nat) (Option.none : Option Jvm.ClassFile.FieldType)) ∈ bg := bg_m5 75 rfl rfl
theorem tw_1036 : (Jvm.Cond.methodLink "FleetFloorModel" (171 : Nat) ({ cls := "FleetFloorModel", name := "lowest", desc := "(IIII)I" } : Jvm.MethodName)) ∈ bg := bg_m5 76 rfl rfl
theorem tx_1037 : (Jvm.Cond.privateMethod ({ cls := "FleetFloorModel", name := "lowest", desc := "(IIII)I" } : Jvm.MethodName)) ∈ lw_tbl := tb_m5 77 rfl
theorem tw_1038 : (Jvm.Cond.instanceMethod ({ cls := "FleetFloorModel", name := "lowest", desc := "(IIII)I" } : Jvm.MethodName)) ∈ bg := bg_m5 78 rfl rfl
theorem tw_1039 : (Jvm.Cond.code ({ cls := "FleetFloorModel", name := "lowest", desc := "(IIII)I" } : Jvm.MethodName) prog_11_method_21_code (7 : Nat) (Option.some Jvm.ClassFile.FieldType.int)) ∈ bg := bg_m5 79 rfl rfl
theorem tw_1040 : (Jvm.Cond.constantLong "FleetFloorModel" (175 : Nat) (-1 : Int64)) ∈ bg := bg_m5 80 rfl rfl
theorem tw_1041 : (Jvm.Cond.methodLink "FleetFloorModel" (191 : Nat) ({ cls := "FleetFloorModel", name := "take", desc := "(II)V" } : Jvm.MethodName)) ∈ bg := bg_m5 81 rfl rfl
theorem tx_1042 : (Jvm.Cond.privateMethod ({ cls := "FleetFloorModel", name := "take", desc := "(II)V" } : Jvm.MethodName)) ∈ lw_tbl := tb_m5 82 rfl
theorem tw_1043 : (Jvm.Cond.instanceMethod ({ cls := "FleetFloorModel", name := "take", desc := "(II)V" } : Jvm.MethodName)) ∈ bg := bg_m5 83 rfl rfl
theorem tw_1044 : (Jvm.Cond.code ({ cls := "FleetFloorModel", name := "take", desc := "(II)V" } : Jvm.MethodName) prog_11_method_23_code (8 : Nat) (Option.none : Option Jvm.ClassFile.FieldType)) ∈ bg := bg_m5 84 rfl rfl
theorem tw_1045 : (Jvm.Cond.methodLink "FleetFloorModel" (230 : Nat) ({ cls := "FleetFloorModel", name := "grant", desc := "(I)V" } : Jvm.MethodName)) ∈ bg := bg_m5 85 rfl rfl
theorem tx_1046 : (Jvm.Cond.privateMethod ({ cls := "FleetFloorModel", name := "grant", desc := "(I)V" } : Jvm.MethodName)) ∈ lw_tbl := tb_m5 86 rfl
theorem tw_1047 : (Jvm.Cond.instanceMethod ({ cls := "FleetFloorModel", name := "grant", desc := "(I)V" } : Jvm.MethodName)) ∈ bg := bg_m5 87 rfl rfl
theorem tw_1048 : (Jvm.Cond.code ({ cls := "FleetFloorModel", name := "grant", desc := "(I)V" } : Jvm.MethodName) prog_11_method_28_code (5 : Nat) (Option.none : Option Jvm.ClassFile.FieldType)) ∈ bg := bg_m5 88 rfl rfl
theorem tw_1049 : (Jvm.Cond.methodLink "FleetFloorModel" (202 : Nat) ({ cls := "FleetFloorModel", name := "isFree", desc := "(III)Z" } : Jvm.MethodName)) ∈ bg := bg_m5 89 rfl rfl
theorem tx_1050 : (Jvm.Cond.privateMethod ({ cls := "FleetFloorModel", name := "isFree", desc := "(III)Z" } : Jvm.MethodName)) ∈ lw_tbl := tb_m5 90 rfl
theorem tw_1051 : (Jvm.Cond.instanceMethod ({ cls := "FleetFloorModel", name := "isFree", desc := "(III)Z" } : Jvm.MethodName)) ∈ bg := bg_m5 91 rfl rfl
theorem tw_1052 : (Jvm.Cond.code ({ cls := "FleetFloorModel", name := "isFree", desc := "(III)Z" } : Jvm.MethodName) prog_11_method_27_code (8 : Nat) (Option.some Jvm.ClassFile.FieldType.boolean)) ∈ bg := bg_m5 92 rfl rfl
theorem tw_1053 : (Jvm.Cond.methodLink "FleetFloorLaw" (73 : Nat) ({ cls := "FleetFloorModel", name := "vehicle", desc := "(II)I" } : Jvm.MethodName)) ∈ bg := bg_m5 93 rfl rfl
theorem tw_1054 : (Jvm.Cond.instanceMethod ({ cls := "FleetFloorModel", name := "vehicle", desc := "(II)I" } : Jvm.MethodName)) ∈ bg := bg_m5 94 rfl rfl
theorem tw_1055 : (Jvm.Cond.selects "FleetFloorModel" ({ cls := "FleetFloorModel", name := "vehicle", desc := "(II)I" } : Jvm.MethodName) ({ cls := "FleetFloorModel", name := "vehicle", desc := "(II)I" } : Jvm.MethodName)) ∈ bg := bg_m5 95 rfl rfl
theorem tw_1056 : (Jvm.Cond.code ({ cls := "FleetFloorModel", name := "vehicle", desc := "(II)I" } : Jvm.MethodName) prog_11_method_40_code (3 : Nat) (Option.some Jvm.ClassFile.FieldType.int)) ∈ bg := bg_m5 96 rfl rfl
theorem tw_1057 : (Jvm.Cond.methodLink "FleetFloorLaw" (78 : Nat) ({ cls := "FleetFloorModel", name := "move", desc := "(III)I" } : Jvm.MethodName)) ∈ bg := bg_m5 97 rfl rfl
theorem tw_1058 : (Jvm.Cond.instanceMethod ({ cls := "FleetFloorModel", name := "move", desc := "(III)I" } : Jvm.MethodName)) ∈ bg := bg_m5 98 rfl rfl
theorem tw_1059 : (Jvm.Cond.selects "FleetFloorModel" ({ cls := "FleetFloorModel", name := "move", desc := "(III)I" } : Jvm.MethodName) ({ cls := "FleetFloorModel", name := "move", desc := "(III)I" } : Jvm.MethodName)) ∈ bg := bg_m5 99 rfl rfl
theorem tw_1060 : (Jvm.Cond.code ({ cls := "FleetFloorModel", name := "move", desc := "(III)I" } : Jvm.MethodName) prog_11_method_41_code (5 : Nat) (Option.some Jvm.ClassFile.FieldType.int)) ∈ bg := bg_m5 100 rfl rfl
theorem tw_1061 : (Jvm.Cond.methodLink "FleetFloorLaw" (82 : Nat) ({ cls := "FleetFloorModel", name := "taskOf", desc := "(II)I" } : Jvm.MethodName)) ∈ bg := bg_m5 101 rfl rfl
theorem tw_1062 : (Jvm.Cond.instanceMethod ({ cls := "FleetFloorModel", name := "taskOf", desc := "(II)I" } : Jvm.MethodName)) ∈ bg := bg_m5 102 rfl rfl
theorem tw_1063 : (Jvm.Cond.selects "FleetFloorModel" ({ cls := "FleetFloorModel", name := "taskOf", desc := "(II)I" } : Jvm.MethodName) ({ cls := "FleetFloorModel", name := "taskOf", desc := "(II)I" } : Jvm.MethodName)) ∈ bg := bg_m5 103 rfl rfl
theorem tw_1064 : (Jvm.Cond.code ({ cls := "FleetFloorModel", name := "taskOf", desc := "(II)I" } : Jvm.MethodName) prog_11_method_42_code (3 : Nat) (Option.some Jvm.ClassFile.FieldType.int)) ∈ bg := bg_m5 104 rfl rfl
theorem tw_1065 : (Jvm.Cond.methodLink "FleetFloorLaw" (87 : Nat) ({ cls := "FleetFloorModel", name := "count", desc := "(I)I" } : Jvm.MethodName)) ∈ bg := bg_m5 105 rfl rfl
theorem tw_1066 : (Jvm.Cond.instanceMethod ({ cls := "FleetFloorModel", name := "count", desc := "(I)I" } : Jvm.MethodName)) ∈ bg := bg_m5 106 rfl rfl
theorem tw_1067 : (Jvm.Cond.selects "FleetFloorModel" ({ cls := "FleetFloorModel", name := "count", desc := "(I)I" } : Jvm.MethodName) ({ cls := "FleetFloorModel", name := "count", desc := "(I)I" } : Jvm.MethodName)) ∈ bg := bg_m5 107 rfl rfl
theorem tw_1068 : (Jvm.Cond.code ({ cls := "FleetFloorModel", name := "count", desc := "(I)I" } : Jvm.MethodName) prog_11_method_43_code (2 : Nat) (Option.some Jvm.ClassFile.FieldType.int)) ∈ bg := bg_m5 108 rfl rfl
theorem tw_1069 : (Jvm.Cond.sameMethod "java/lang/Throwable" "java/lang/Throwable" "fillInStackTrace" "(I)Ljava/lang/Throwable;") ∈ bg := bg_m5 109 rfl rfl
theorem tx_1070 : (Jvm.Cond.castable "FleetFloor$Letter" "FleetFloor$Letter") ∈ lw_tbl := tb_m5 110 rfl
theorem tx_1071 : (Jvm.Cond.castable "FleetFloor$Move" "FleetFloor$Move") ∈ lw_tbl := tb_m5 111 rfl
theorem tx_1072 : (Jvm.Cond.castable "FleetFloor$Task" "FleetFloor$Task") ∈ lw_tbl := tb_m5 112 rfl
theorem tw_1073 : (Jvm.Cond.sameMethod "[Ljava/lang/Object;" "java/lang/Object" "getClass" "()Ljava/lang/Class;") ∈ bg := bg_m5 113 rfl rfl
theorem tw_1074 : (Jvm.Cond.selects "[Ljava/lang/Object;" ({ cls := "java/lang/Object", name := "getClass", desc := "()Ljava/lang/Class;" } : Jvm.MethodName) ({ cls := "java/lang/Object", name := "getClass", desc := "()Ljava/lang/Class;" } : Jvm.MethodName)) ∈ bg := bg_m5 114 rfl rfl
theorem tx_1075 : (Jvm.Cond.declares ({ cls := "java/lang/Object", name := "getClass", desc := "()Ljava/lang/Class;" } : Jvm.MethodName)) ∈ lw_tbl := tb_m5 115 rfl
theorem tx_1076 : (Jvm.Cond.castable "FleetFloor" "java/lang/Object") ∈ lw_tbl := tb_m5 116 rfl
theorem tx_1077 : (Jvm.Cond.castable "FleetFloor$FloorMap" "java/lang/Object") ∈ lw_tbl := tb_m5 117 rfl
theorem tx_1078 : (Jvm.Cond.castable "FleetFloor$Air" "java/lang/Object") ∈ lw_tbl := tb_m5 118 rfl
theorem tx_1079 : (Jvm.Cond.castable "FleetFloorModel" "java/lang/Object") ∈ lw_tbl := tb_m5 119 rfl
theorem tx_1080 : (Jvm.Cond.castable "FleetFloor$Cells" "java/lang/Object") ∈ lw_tbl := tb_m5 120 rfl
theorem tx_1081 : (Jvm.Cond.castable "FleetFloor$Vehicle" "java/lang/Object") ∈ lw_tbl := tb_m5 121 rfl
theorem tx_1082 : (Jvm.Cond.castable "FleetFloor$Planner" "java/lang/Object") ∈ lw_tbl := tb_m5 122 rfl
theorem tx_1083 : (Jvm.Cond.castable "FleetFloor$Task" "java/lang/Object") ∈ lw_tbl := tb_m5 123 rfl
theorem tx_1084 : (Jvm.Cond.castable "FleetFloor$Letter" "java/lang/Object") ∈ lw_tbl := tb_m5 124 rfl
theorem tx_1085 : (Jvm.Cond.castable "FleetFloor$Move" "java/lang/Object") ∈ lw_tbl := tb_m5 125 rfl
theorem tx_1086 : (Jvm.Cond.castable "java/lang/String" "java/lang/Object") ∈ lw_tbl := tb_m5 126 rfl
theorem ts_0 : Cond.selects "FleetFloor" ⟨"FleetFloor", "isOpen", "()Z"⟩ ⟨"FleetFloor", "isOpen", "()Z"⟩ ∈ bg := bg_s 0 rfl rfl
theorem ts_1 : Cond.selects "FleetFloor" ⟨"FleetFloor", "vehicleNumbered", "(I)LFleetFloor$Vehicle;"⟩ ⟨"FleetFloor", "vehicleNumbered", "(I)LFleetFloor$Vehicle;"⟩ ∈ bg := bg_s 1 rfl rfl
theorem ts_2 : Cond.selects "java/util/ArrayList" ⟨"java/util/ArrayList", "fastRemove", "([Ljava/lang/Object;I)V"⟩ ⟨"java/util/ArrayList", "fastRemove", "([Ljava/lang/Object;I)V"⟩ ∈ bg := bg_s 2 rfl rfl
theorem ts_3 : Cond.selects "java/util/ArrayList" ⟨"java/util/ArrayList", "add", "(Ljava/lang/Object;[Ljava/lang/Object;I)V"⟩ ⟨"java/util/ArrayList", "add", "(Ljava/lang/Object;[Ljava/lang/Object;I)V"⟩ ∈ bg := bg_s 3 rfl rfl
theorem ts_4 : Cond.selects "java/util/ArrayList" ⟨"java/util/ArrayList", "grow", "()[Ljava/lang/Object;"⟩ ⟨"java/util/ArrayList", "grow", "()[Ljava/lang/Object;"⟩ ∈ bg := bg_s 4 rfl rfl
theorem ts_5 : Cond.selects "java/util/ArrayList" ⟨"java/util/ArrayList", "grow", "(I)[Ljava/lang/Object;"⟩ ⟨"java/util/ArrayList", "grow", "(I)[Ljava/lang/Object;"⟩ ∈ bg := bg_s 5 rfl rfl
theorem ts_6 : Cond.selects "java/lang/Throwable" ⟨"java/lang/Throwable", "fillInStackTrace", "(I)Ljava/lang/Throwable;"⟩ ⟨"java/lang/Throwable", "fillInStackTrace", "(I)Ljava/lang/Throwable;"⟩ ∈ bg := bg_s 6 rfl rfl
theorem ts_7 : Cond.selects "FleetFloor$FloorMap" ⟨"FleetFloor$FloorMap", "countOf", "(I)I"⟩ ⟨"FleetFloor$FloorMap", "countOf", "(I)I"⟩ ∈ bg := bg_s 7 rfl rfl
theorem ts_8 : Cond.selects "FleetFloor$FloorMap" ⟨"FleetFloor$FloorMap", "isJoined", "()Z"⟩ ⟨"FleetFloor$FloorMap", "isJoined", "()Z"⟩ ∈ bg := bg_s 8 rfl rfl
theorem ts_9 : Cond.selects "FleetFloor" ⟨"FleetFloor", "isStation", "(I)Z"⟩ ⟨"FleetFloor", "isStation", "(I)Z"⟩ ∈ bg := bg_s 9 rfl rfl
theorem ts_10 : Cond.selects "FleetFloor" ⟨"FleetFloor", "makeMoves", "()I"⟩ ⟨"FleetFloor", "makeMoves", "()I"⟩ ∈ bg := bg_s 10 rfl rfl
theorem ts_11 : Cond.selects "FleetFloor" ⟨"FleetFloor", "noteFinish", "(LFleetFloor$Vehicle;)V"⟩ ⟨"FleetFloor", "noteFinish", "(LFleetFloor$Vehicle;)V"⟩ ∈ bg := bg_s 11 rfl rfl
theorem ts_12 : Cond.selects "FleetFloor" ⟨"FleetFloor", "sendDones", "()V"⟩ ⟨"FleetFloor", "sendDones", "()V"⟩ ∈ bg := bg_s 12 rfl rfl
theorem ts_13 : Cond.selects "FleetFloor" ⟨"FleetFloor", "reportsNow", "(LFleetFloor$Vehicle;)Z"⟩ ⟨"FleetFloor", "reportsNow", "(LFleetFloor$Vehicle;)Z"⟩ ∈ bg := bg_s 13 rfl rfl
theorem ts_14 : Cond.selects "FleetFloor" ⟨"FleetFloor", "makePlans", "()V"⟩ ⟨"FleetFloor", "makePlans", "()V"⟩ ∈ bg := bg_s 14 rfl rfl
theorem ts_15 : Cond.selects "FleetFloor" ⟨"FleetFloor", "lowestIdle", "()LFleetFloor$Vehicle;"⟩ ⟨"FleetFloor", "lowestIdle", "()LFleetFloor$Vehicle;"⟩ ∈ bg := bg_s 15 rfl rfl
theorem ts_16 : Cond.selects "FleetFloor$Planner" ⟨"FleetFloor$Planner", "layOut", "(LFleetFloor$Vehicle;I)V"⟩ ⟨"FleetFloor$Planner", "layOut", "(LFleetFloor$Vehicle;I)V"⟩ ∈ bg := bg_s 16 rfl rfl
theorem ts_17 : Cond.selects "FleetFloor$Planner" ⟨"FleetFloor$Planner", "keepClearOf", "(LFleetFloor$Vehicle;I)V"⟩ ⟨"FleetFloor$Planner", "keepClearOf", "(LFleetFloor$Vehicle;I)V"⟩ ∈ bg := bg_s 17 rfl rfl
theorem ts_18 : Cond.selects "FleetFloor$Planner" ⟨"FleetFloor$Planner", "spread", "()I"⟩ ⟨"FleetFloor$Planner", "spread", "()I"⟩ ∈ bg := bg_s 18 rfl rfl
theorem ts_19 : Cond.selects "FleetFloor$Planner" ⟨"FleetFloor$Planner", "at", "(II)LFleetFloor$Cells;"⟩ ⟨"FleetFloor$Planner", "at", "(II)LFleetFloor$Cells;"⟩ ∈ bg := bg_s 19 rfl rfl
theorem ts_20 : Cond.selects "FleetFloor$Planner" ⟨"FleetFloor$Planner", "stepOn", "(II)V"⟩ ⟨"FleetFloor$Planner", "stepOn", "(II)V"⟩ ∈ bg := bg_s 20 rfl rfl
theorem ts_21 : Cond.selects "FleetFloor$Planner" ⟨"FleetFloor$Planner", "changeLeg", "(II)V"⟩ ⟨"FleetFloor$Planner", "changeLeg", "(II)V"⟩ ∈ bg := bg_s 21 rfl rfl
theorem ts_22 : Cond.selects "FleetFloor$Planner" ⟨"FleetFloor$Planner", "goalOf", "(I)I"⟩ ⟨"FleetFloor$Planner", "goalOf", "(I)I"⟩ ∈ bg := bg_s 22 rfl rfl
theorem ts_23 : Cond.selects "FleetFloor$Planner" ⟨"FleetFloor$Planner", "prune", "()V"⟩ ⟨"FleetFloor$Planner", "prune", "()V"⟩ ∈ bg := bg_s 23 rfl rfl
theorem ts_24 : Cond.selects "FleetFloor$Planner" ⟨"FleetFloor$Planner", "keepThoseBefore", "(II)V"⟩ ⟨"FleetFloor$Planner", "keepThoseBefore", "(II)V"⟩ ∈ bg := bg_s 24 rfl rfl
theorem ts_25 : Cond.selects "FleetFloor$Planner" ⟨"FleetFloor$Planner", "follow", "()V"⟩ ⟨"FleetFloor$Planner", "follow", "()V"⟩ ∈ bg := bg_s 25 rfl rfl
theorem ts_26 : Cond.selects "FleetFloor$Planner" ⟨"FleetFloor$Planner", "lowestStep", "(III)I"⟩ ⟨"FleetFloor$Planner", "lowestStep", "(III)I"⟩ ∈ bg := bg_s 26 rfl rfl
theorem ts_27 : Cond.selects "FleetFloor$Planner" ⟨"FleetFloor$Planner", "legAt", "(II)I"⟩ ⟨"FleetFloor$Planner", "legAt", "(II)I"⟩ ∈ bg := bg_s 27 rfl rfl
theorem ts_28 : Cond.selects "FleetFloor" ⟨"FleetFloor", "grantMoves", "()V"⟩ ⟨"FleetFloor", "grantMoves", "()V"⟩ ∈ bg := bg_s 28 rfl rfl
theorem ts_29 : Cond.selects "FleetFloor" ⟨"FleetFloor", "isFree", "(LFleetFloor$Vehicle;LFleetFloor$Move;)Z"⟩ ⟨"FleetFloor", "isFree", "(LFleetFloor$Vehicle;LFleetFloor$Move;)Z"⟩ ∈ bg := bg_s 29 rfl rfl
theorem ts_30 : Cond.selects "FleetFloorModel" ⟨"FleetFloorModel", "isGood", "()Z"⟩ ⟨"FleetFloorModel", "isGood", "()Z"⟩ ∈ bg := bg_s 30 rfl rfl
theorem ts_31 : Cond.selects "FleetFloorModel" ⟨"FleetFloorModel", "leadsToAll", "(I)Z"⟩ ⟨"FleetFloorModel", "leadsToAll", "(I)Z"⟩ ∈ bg := bg_s 31 rfl rfl
theorem ts_32 : Cond.selects "FleetFloorModel" ⟨"FleetFloorModel", "throwing", "(ZZ)Z"⟩ ⟨"FleetFloorModel", "throwing", "(ZZ)Z"⟩ ∈ bg := bg_s 32 rfl rfl
theorem ts_33 : Cond.selects "FleetFloorModel" ⟨"FleetFloorModel", "isLetter", "(I)Z"⟩ ⟨"FleetFloorModel", "isLetter", "(I)Z"⟩ ∈ bg := bg_s 33 rfl rfl
theorem ts_34 : Cond.selects "FleetFloorModel" ⟨"FleetFloorModel", "remove", "(I)V"⟩ ⟨"FleetFloorModel", "remove", "(I)V"⟩ ∈ bg := bg_s 34 rfl rfl
theorem ts_35 : Cond.selects "FleetFloorModel" ⟨"FleetFloorModel", "send", "(III)V"⟩ ⟨"FleetFloorModel", "send", "(III)V"⟩ ∈ bg := bg_s 35 rfl rfl
theorem ts_36 : Cond.selects "FleetFloorModel" ⟨"FleetFloorModel", "go", "(I)V"⟩ ⟨"FleetFloorModel", "go", "(I)V"⟩ ∈ bg := bg_s 36 rfl rfl
theorem ts_37 : Cond.selects "FleetFloorModel" ⟨"FleetFloorModel", "placeOf", "(II)I"⟩ ⟨"FleetFloorModel", "placeOf", "(II)I"⟩ ∈ bg := bg_s 37 rfl rfl
theorem ts_38 : Cond.selects "FleetFloorModel" ⟨"FleetFloorModel", "isTurn", "(I)Z"⟩ ⟨"FleetFloorModel", "isTurn", "(I)Z"⟩ ∈ bg := bg_s 38 rfl rfl
theorem ts_39 : Cond.selects "FleetFloorModel" ⟨"FleetFloorModel", "planAll", "()V"⟩ ⟨"FleetFloorModel", "planAll", "()V"⟩ ∈ bg := bg_s 39 rfl rfl
theorem ts_40 : Cond.selects "FleetFloorModel" ⟨"FleetFloorModel", "idle", "()I"⟩ ⟨"FleetFloorModel", "idle", "()I"⟩ ∈ bg := bg_s 40 rfl rfl
theorem ts_41 : Cond.selects "FleetFloorModel" ⟨"FleetFloorModel", "plans", "(II)Z"⟩ ⟨"FleetFloorModel", "plans", "(II)Z"⟩ ∈ bg := bg_s 41 rfl rfl
theorem ts_42 : Cond.selects "FleetFloorModel" ⟨"FleetFloorModel", "forbidAll", "()V"⟩ ⟨"FleetFloorModel", "forbidAll", "()V"⟩ ∈ bg := bg_s 42 rfl rfl
theorem ts_43 : Cond.selects "FleetFloorModel" ⟨"FleetFloorModel", "forbid", "(I)V"⟩ ⟨"FleetFloorModel", "forbid", "(I)V"⟩ ∈ bg := bg_s 43 rfl rfl
theorem ts_44 : Cond.selects "FleetFloorModel" ⟨"FleetFloorModel", "spread", "(I)I"⟩ ⟨"FleetFloorModel", "spread", "(I)I"⟩ ∈ bg := bg_s 44 rfl rfl
theorem ts_45 : Cond.selects "FleetFloorModel" ⟨"FleetFloorModel", "spreadFrom", "(IIII)V"⟩ ⟨"FleetFloorModel", "spreadFrom", "(IIII)V"⟩ ∈ bg := bg_s 45 rfl rfl
theorem ts_46 : Cond.selects "FleetFloorModel" ⟨"FleetFloorModel", "goes", "(III)I"⟩ ⟨"FleetFloorModel", "goes", "(III)I"⟩ ∈ bg := bg_s 46 rfl rfl
theorem ts_47 : Cond.selects "FleetFloorModel" ⟨"FleetFloorModel", "isOthers", "(I)Z"⟩ ⟨"FleetFloorModel", "isOthers", "(I)Z"⟩ ∈ bg := bg_s 47 rfl rfl
theorem ts_48 : Cond.selects "FleetFloorModel" ⟨"FleetFloorModel", "doneAt", "(III)I"⟩ ⟨"FleetFloorModel", "doneAt", "(III)I"⟩ ∈ bg := bg_s 48 rfl rfl
theorem ts_49 : Cond.selects "FleetFloorModel" ⟨"FleetFloorModel", "narrow", "(II)V"⟩ ⟨"FleetFloorModel", "narrow", "(II)V"⟩ ∈ bg := bg_s 49 rfl rfl
theorem ts_50 : Cond.selects "FleetFloorModel" ⟨"FleetFloorModel", "lowest", "(IIII)I"⟩ ⟨"FleetFloorModel", "lowest", "(IIII)I"⟩ ∈ bg := bg_s 50 rfl rfl
theorem ts_51 : Cond.selects "FleetFloorModel" ⟨"FleetFloorModel", "take", "(II)V"⟩ ⟨"FleetFloorModel", "take", "(II)V"⟩ ∈ bg := bg_s 51 rfl rfl
theorem ts_52 : Cond.selects "FleetFloorModel" ⟨"FleetFloorModel", "grant", "(I)V"⟩ ⟨"FleetFloorModel", "grant", "(I)V"⟩ ∈ bg := bg_s 52 rfl rfl
theorem ts_53 : Cond.selects "FleetFloorModel" ⟨"FleetFloorModel", "isFree", "(III)Z"⟩ ⟨"FleetFloorModel", "isFree", "(III)Z"⟩ ∈ bg := bg_s 53 rfl rfl
end
section
def T_FF : u_T := fun k => match k with
  | 0 => ("FleetFloor", "map", "LFleetFloor$FloorMap;", true)
  | 1 => ("FleetFloor", "air", "LFleetFloor$Air;", true)
  | 2 => ("FleetFloor", "tasks", "Ljava/util/ArrayList;", true)
  | 3 => ("FleetFloor", "vehicles", "[LFleetFloor$Vehicle;", false)
  | 4 => ("FleetFloor", "stations", "[I", false)
  | 5 => ("FleetFloor", "planner", "LFleetFloor$Planner;", false)
  | 6 => ("FleetFloor", "planned", "I", false)
  | 7 => ("FleetFloor", "tickToCome", "I", false)
  | _ => ("FleetFloor", "planClock", "I", false)
def ty_FF : Nat → FieldType := fun k => match k with
  | 0 => .object "FleetFloor$FloorMap"
  | 1 => .object "FleetFloor$Air"
  | 2 => .object "java/util/ArrayList"
  | 3 => .array (.object "FleetFloor$Vehicle")
  | 4 => .array .int
  | 5 => .object "FleetFloor$Planner"
  | 6 => .int
  | 7 => .int
  | _ => .int
theorem n_FF : ∀ a, a < 9 → ∀ b, b < 9 → a ≠ b → (T_FF a).2.1 ≠ (T_FF b).2.1 := by decide +kernel
theorem ok_FF : ∀ k, k < 9 → parseFieldDescriptor (T_FF k).2.2.1 = some (ty_FF k) := by decide +kernel
theorem in_FF : ∀ w ∈ u_ws "FleetFloor" T_FF 9, w ∈ bg := by
  show ∀ w ∈ [u_lay "FleetFloor" T_FF 0, u_lay "FleetFloor" T_FF 1, u_lay "FleetFloor" T_FF 2, u_lay "FleetFloor" T_FF 3, u_lay "FleetFloor" T_FF 4, u_lay "FleetFloor" T_FF 5, u_lay "FleetFloor" T_FF 6, u_lay "FleetFloor" T_FF 7, u_lay "FleetFloor" T_FF 8], w ∈ bg
  exact List.forall_mem_cons.mpr ⟨tw_94, List.forall_mem_cons.mpr ⟨tw_96, List.forall_mem_cons.mpr ⟨tw_98, List.forall_mem_cons.mpr ⟨tw_100, List.forall_mem_cons.mpr ⟨tw_102, List.forall_mem_cons.mpr ⟨tw_104, List.forall_mem_cons.mpr ⟨tw_106, List.forall_mem_cons.mpr ⟨tw_108, List.forall_mem_cons.mpr ⟨tw_110, fun _ h => absurd h List.not_mem_nil⟩⟩⟩⟩⟩⟩⟩⟩⟩
def T_Map : u_T := fun k => match k with
  | _ => ("FleetFloor$FloorMap", "kinds", "[I", true)
def ty_Map : Nat → FieldType := fun k => match k with
  | _ => .array .int
theorem n_Map : ∀ a, a < 1 → ∀ b, b < 1 → a ≠ b → (T_Map a).2.1 ≠ (T_Map b).2.1 := by decide +kernel
theorem ok_Map : ∀ k, k < 1 → parseFieldDescriptor (T_Map k).2.2.1 = some (ty_Map k) := by decide +kernel
theorem in_Map : ∀ w ∈ u_ws "FleetFloor$FloorMap" T_Map 1, w ∈ bg := by
  show ∀ w ∈ [u_lay "FleetFloor$FloorMap" T_Map 0], w ∈ bg
  exact List.forall_mem_cons.mpr ⟨tw_41, fun _ h => absurd h List.not_mem_nil⟩
def T_Air : u_T := fun k => match k with
  | _ => ("FleetFloor$Air", "flying", "Ljava/util/ArrayList;", true)
def ty_Air : Nat → FieldType := fun k => match k with
  | _ => .object "java/util/ArrayList"
theorem n_Air : ∀ a, a < 1 → ∀ b, b < 1 → a ≠ b → (T_Air a).2.1 ≠ (T_Air b).2.1 := by decide +kernel
theorem ok_Air : ∀ k, k < 1 → parseFieldDescriptor (T_Air k).2.2.1 = some (ty_Air k) := by decide +kernel
theorem in_Air : ∀ w ∈ u_ws "FleetFloor$Air" T_Air 1, w ∈ bg := by
  show ∀ w ∈ [u_lay "FleetFloor$Air" T_Air 0], w ∈ bg
  exact List.forall_mem_cons.mpr ⟨tw_78, fun _ h => absurd h List.not_mem_nil⟩
def T_AL : u_T := fun k => match k with
  | 0 => ("java/util/ArrayList", "elementData", "[Ljava/lang/Object;", false)
  | 1 => ("java/util/ArrayList", "size", "I", false)
  | _ => ("java/util/AbstractList", "modCount", "I", false)
def ty_AL : Nat → FieldType := fun k => match k with
  | 0 => .array (.object "java/lang/Object")
  | 1 => .int
  | _ => .int
theorem n_AL : ∀ a, a < 3 → ∀ b, b < 3 → a ≠ b → (T_AL a).2.1 ≠ (T_AL b).2.1 := by decide +kernel
theorem ok_AL : ∀ k, k < 3 → parseFieldDescriptor (T_AL k).2.2.1 = some (ty_AL k) := by decide +kernel
theorem in_AL : ∀ w ∈ u_ws "java/util/ArrayList" T_AL 3, w ∈ bg := by
  show ∀ w ∈ [u_lay "java/util/ArrayList" T_AL 0, u_lay "java/util/ArrayList" T_AL 1, u_lay "java/util/ArrayList" T_AL 2], w ∈ bg
  exact List.forall_mem_cons.mpr ⟨tw_70, List.forall_mem_cons.mpr ⟨tw_72, List.forall_mem_cons.mpr ⟨tw_74, fun _ h => absurd h List.not_mem_nil⟩⟩⟩
def T_Cel : u_T := fun k => match k with
  | 0 => ("FleetFloor$Cells", "upper", "J", false)
  | _ => ("FleetFloor$Cells", "lower", "J", false)
def ty_Cel : Nat → FieldType := fun k => match k with
  | 0 => .long
  | _ => .long
theorem n_Cel : ∀ a, a < 2 → ∀ b, b < 2 → a ≠ b → (T_Cel a).2.1 ≠ (T_Cel b).2.1 := by decide +kernel
theorem ok_Cel : ∀ k, k < 2 → parseFieldDescriptor (T_Cel k).2.2.1 = some (ty_Cel k) := by decide +kernel
theorem in_Cel : ∀ w ∈ u_ws "FleetFloor$Cells" T_Cel 2, w ∈ bg := by
  show ∀ w ∈ [u_lay "FleetFloor$Cells" T_Cel 0, u_lay "FleetFloor$Cells" T_Cel 1], w ∈ bg
  exact List.forall_mem_cons.mpr ⟨tw_404, List.forall_mem_cons.mpr ⟨tw_406, fun _ h => absurd h List.not_mem_nil⟩⟩
def T_Let : u_T := fun k => match k with
  | 0 => ("FleetFloor$Letter", "kind", "I", true)
  | 1 => ("FleetFloor$Letter", "owner", "I", true)
  | _ => ("FleetFloor$Letter", "number", "I", true)
def ty_Let : Nat → FieldType := fun k => match k with
  | 0 => .int
  | 1 => .int
  | _ => .int
theorem n_Let : ∀ a, a < 3 → ∀ b, b < 3 → a ≠ b → (T_Let a).2.1 ≠ (T_Let b).2.1 := by decide +kernel
theorem ok_Let : ∀ k, k < 3 → parseFieldDescriptor (T_Let k).2.2.1 = some (ty_Let k) := by decide +kernel
theorem in_Let : ∀ w ∈ u_ws "FleetFloor$Letter" T_Let 3, w ∈ bg := by
  show ∀ w ∈ [u_lay "FleetFloor$Letter" T_Let 0, u_lay "FleetFloor$Letter" T_Let 1, u_lay "FleetFloor$Letter" T_Let 2], w ∈ bg
  exact List.forall_mem_cons.mpr ⟨tw_645, List.forall_mem_cons.mpr ⟨tw_647, List.forall_mem_cons.mpr ⟨tw_649, fun _ h => absurd h List.not_mem_nil⟩⟩⟩
def T_Mov : u_T := fun k => match k with
  | 0 => ("FleetFloor$Move", "place", "I", true)
  | _ => ("FleetFloor$Move", "time", "I", true)
def ty_Mov : Nat → FieldType := fun k => match k with
  | 0 => .int
  | _ => .int
theorem n_Mov : ∀ a, a < 2 → ∀ b, b < 2 → a ≠ b → (T_Mov a).2.1 ≠ (T_Mov b).2.1 := by decide +kernel
theorem ok_Mov : ∀ k, k < 2 → parseFieldDescriptor (T_Mov k).2.2.1 = some (ty_Mov k) := by decide +kernel
theorem in_Mov : ∀ w ∈ u_ws "FleetFloor$Move" T_Mov 2, w ∈ bg := by
  show ∀ w ∈ [u_lay "FleetFloor$Move" T_Mov 0, u_lay "FleetFloor$Move" T_Mov 1], w ∈ bg
  exact List.forall_mem_cons.mpr ⟨tw_757, List.forall_mem_cons.mpr ⟨tw_759, fun _ h => absurd h List.not_mem_nil⟩⟩
def T_Tsk : u_T := fun k => match k with
  | 0 => ("FleetFloor$Task", "first", "I", true)
  | 1 => ("FleetFloor$Task", "second", "I", true)
  | 2 => ("FleetFloor$Task", "carrier", "I", false)
  | _ => ("FleetFloor$Task", "finishedIn", "I", false)
def ty_Tsk : Nat → FieldType := fun k => match k with
  | 0 => .int
  | 1 => .int
  | 2 => .int
  | _ => .int
theorem n_Tsk : ∀ a, a < 4 → ∀ b, b < 4 → a ≠ b → (T_Tsk a).2.1 ≠ (T_Tsk b).2.1 := by decide +kernel
theorem ok_Tsk : ∀ k, k < 4 → parseFieldDescriptor (T_Tsk k).2.2.1 = some (ty_Tsk k) := by decide +kernel
theorem in_Tsk : ∀ w ∈ u_ws "FleetFloor$Task" T_Tsk 4, w ∈ bg := by
  show ∀ w ∈ [u_lay "FleetFloor$Task" T_Tsk 0, u_lay "FleetFloor$Task" T_Tsk 1, u_lay "FleetFloor$Task" T_Tsk 2, u_lay "FleetFloor$Task" T_Tsk 3], w ∈ bg
  exact List.forall_mem_cons.mpr ⟨tw_595, List.forall_mem_cons.mpr ⟨tw_597, List.forall_mem_cons.mpr ⟨tw_599, List.forall_mem_cons.mpr ⟨tw_601, fun _ h => absurd h List.not_mem_nil⟩⟩⟩⟩
def T_Veh : u_T := fun k => match k with
  | 0 => ("FleetFloor$Vehicle", "number", "I", true)
  | 1 => ("FleetFloor$Vehicle", "parking", "I", true)
  | 2 => ("FleetFloor$Vehicle", "moves", "Ljava/util/ArrayList;", true)
  | 3 => ("FleetFloor$Vehicle", "made", "I", false)
  | 4 => ("FleetFloor$Vehicle", "allowed", "I", false)
  | 5 => ("FleetFloor$Vehicle", "known", "I", false)
  | 6 => ("FleetFloor$Vehicle", "granted", "I", false)
  | 7 => ("FleetFloor$Vehicle", "latestTask", "I", false)
  | 8 => ("FleetFloor$Vehicle", "finishAt", "I", false)
  | _ => ("FleetFloor$Vehicle", "justMoved", "Z", false)
def ty_Veh : Nat → FieldType := fun k => match k with
  | 0 => .int
  | 1 => .int
  | 2 => .object "java/util/ArrayList"
  | 3 => .int
  | 4 => .int
  | 5 => .int
  | 6 => .int
  | 7 => .int
  | 8 => .int
  | _ => .boolean
theorem n_Veh : ∀ a, a < 10 → ∀ b, b < 10 → a ≠ b → (T_Veh a).2.1 ≠ (T_Veh b).2.1 := by decide +kernel
theorem ok_Veh : ∀ k, k < 10 → parseFieldDescriptor (T_Veh k).2.2.1 = some (ty_Veh k) := by decide +kernel
theorem in_Veh : ∀ w ∈ u_ws "FleetFloor$Vehicle" T_Veh 10, w ∈ bg := by
  show ∀ w ∈ [u_lay "FleetFloor$Vehicle" T_Veh 0, u_lay "FleetFloor$Vehicle" T_Veh 1, u_lay "FleetFloor$Vehicle" T_Veh 2, u_lay "FleetFloor$Vehicle" T_Veh 3, u_lay "FleetFloor$Vehicle" T_Veh 4, u_lay "FleetFloor$Vehicle" T_Veh 5, u_lay "FleetFloor$Vehicle" T_Veh 6, u_lay "FleetFloor$Vehicle" T_Veh 7, u_lay "FleetFloor$Vehicle" T_Veh 8, u_lay "FleetFloor$Vehicle" T_Veh 9], w ∈ bg
  exact List.forall_mem_cons.mpr ⟨tw_496, List.forall_mem_cons.mpr ⟨tw_498, List.forall_mem_cons.mpr ⟨tw_500, List.forall_mem_cons.mpr ⟨tw_502, List.forall_mem_cons.mpr ⟨tw_504, List.forall_mem_cons.mpr ⟨tw_506, List.forall_mem_cons.mpr ⟨tw_508, List.forall_mem_cons.mpr ⟨tw_510, List.forall_mem_cons.mpr ⟨tw_512, List.forall_mem_cons.mpr ⟨tw_514, fun _ h => absurd h List.not_mem_nil⟩⟩⟩⟩⟩⟩⟩⟩⟩⟩
def T_Pln : u_T := fun k => match k with
  | 0 => ("FleetFloor$Planner", "common", "LFleetFloor$Cells;", true)
  | 1 => ("FleetFloor$Planner", "vehicles", "[LFleetFloor$Vehicle;", true)
  | 2 => ("FleetFloor$Planner", "canEnter", "[LFleetFloor$Cells;", true)
  | 3 => ("FleetFloor$Planner", "canBe", "[LFleetFloor$Cells;", true)
  | 4 => ("FleetFloor$Planner", "reached", "[LFleetFloor$Cells;", true)
  | 5 => ("FleetFloor$Planner", "aim", "LFleetFloor$Cells;", true)
  | 6 => ("FleetFloor$Planner", "scratch", "LFleetFloor$Cells;", true)
  | 7 => ("FleetFloor$Planner", "way", "[I", true)
  | 8 => ("FleetFloor$Planner", "first", "I", false)
  | 9 => ("FleetFloor$Planner", "second", "I", false)
  | 10 => ("FleetFloor$Planner", "parking", "I", false)
  | 11 => ("FleetFloor$Planner", "end", "I", false)
  | _ => ("FleetFloor$Planner", "finish", "I", false)
def ty_Pln : Nat → FieldType := fun k => match k with
  | 0 => .object "FleetFloor$Cells"
  | 1 => .array (.object "FleetFloor$Vehicle")
  | 2 => .array (.object "FleetFloor$Cells")
  | 3 => .array (.object "FleetFloor$Cells")
  | 4 => .array (.object "FleetFloor$Cells")
  | 5 => .object "FleetFloor$Cells"
  | 6 => .object "FleetFloor$Cells"
  | 7 => .array .int
  | 8 => .int
  | 9 => .int
  | 10 => .int
  | 11 => .int
  | _ => .int
theorem n_Pln : ∀ a, a < 13 → ∀ b, b < 13 → a ≠ b → (T_Pln a).2.1 ≠ (T_Pln b).2.1 := by decide +kernel
theorem ok_Pln : ∀ k, k < 13 → parseFieldDescriptor (T_Pln k).2.2.1 = some (ty_Pln k) := by decide +kernel
theorem in_Pln : ∀ w ∈ u_ws "FleetFloor$Planner" T_Pln 13, w ∈ bg := by
  show ∀ w ∈ [u_lay "FleetFloor$Planner" T_Pln 0, u_lay "FleetFloor$Planner" T_Pln 1, u_lay "FleetFloor$Planner" T_Pln 2, u_lay "FleetFloor$Planner" T_Pln 3, u_lay "FleetFloor$Planner" T_Pln 4, u_lay "FleetFloor$Planner" T_Pln 5, u_lay "FleetFloor$Planner" T_Pln 6, u_lay "FleetFloor$Planner" T_Pln 7, u_lay "FleetFloor$Planner" T_Pln 8, u_lay "FleetFloor$Planner" T_Pln 9, u_lay "FleetFloor$Planner" T_Pln 10, u_lay "FleetFloor$Planner" T_Pln 11, u_lay "FleetFloor$Planner" T_Pln 12], w ∈ bg
  exact List.forall_mem_cons.mpr ⟨tw_542, List.forall_mem_cons.mpr ⟨tw_544, List.forall_mem_cons.mpr ⟨tw_546, List.forall_mem_cons.mpr ⟨tw_548, List.forall_mem_cons.mpr ⟨tw_550, List.forall_mem_cons.mpr ⟨tw_552, List.forall_mem_cons.mpr ⟨tw_554, List.forall_mem_cons.mpr ⟨tw_556, List.forall_mem_cons.mpr ⟨tw_558, List.forall_mem_cons.mpr ⟨tw_560, List.forall_mem_cons.mpr ⟨tw_562, List.forall_mem_cons.mpr ⟨tw_564, List.forall_mem_cons.mpr ⟨tw_566, fun _ h => absurd h List.not_mem_nil⟩⟩⟩⟩⟩⟩⟩⟩⟩⟩⟩⟩⟩
def T_Mod : u_T := fun k => match k with
  | 0 => ("FleetFloorModel", "thrown", "I", false)
  | 1 => ("FleetFloorModel", "open", "Z", false)
  | 2 => ("FleetFloorModel", "kinds", "[I", true)
  | 3 => ("FleetFloorModel", "stations", "I", false)
  | 4 => ("FleetFloorModel", "vehicles", "I", false)
  | 5 => ("FleetFloorModel", "stationAt", "[I", true)
  | 6 => ("FleetFloorModel", "parkingAt", "[I", true)
  | 7 => ("FleetFloorModel", "seen", "[Z", true)
  | 8 => ("FleetFloorModel", "pile", "[I", true)
  | 9 => ("FleetFloorModel", "tasks", "I", false)
  | 10 => ("FleetFloorModel", "planned", "I", false)
  | 11 => ("FleetFloorModel", "first", "[I", true)
  | 12 => ("FleetFloorModel", "second", "[I", true)
  | 13 => ("FleetFloorModel", "owner", "[I", true)
  | 14 => ("FleetFloorModel", "start", "[I", true)
  | 15 => ("FleetFloorModel", "many", "[I", true)
  | 16 => ("FleetFloorModel", "base", "[I", true)
  | 17 => ("FleetFloorModel", "finishing", "[I", true)
  | 18 => ("FleetFloorModel", "finished", "[I", true)
  | 19 => ("FleetFloorModel", "rowed", "I", false)
  | 20 => ("FleetFloorModel", "moveCell", "[I", true)
  | 21 => ("FleetFloorModel", "moveTime", "[I", true)
  | 22 => ("FleetFloorModel", "at", "[I", true)
  | 23 => ("FleetFloorModel", "made", "[I", true)
  | 24 => ("FleetFloorModel", "may", "[I", true)
  | 25 => ("FleetFloorModel", "known", "[I", true)
  | 26 => ("FleetFloorModel", "granted", "[I", true)
  | 27 => ("FleetFloorModel", "moves", "[I", true)
  | 28 => ("FleetFloorModel", "latest", "[I", true)
  | 29 => ("FleetFloorModel", "clock", "I", false)
  | 30 => ("FleetFloorModel", "ticks", "I", false)
  | 31 => ("FleetFloorModel", "letters", "I", false)
  | 32 => ("FleetFloorModel", "letterKind", "[I", true)
  | 33 => ("FleetFloorModel", "letterOf", "[I", true)
  | 34 => ("FleetFloorModel", "letterNumber", "[I", true)
  | 35 => ("FleetFloorModel", "noBeing", "[J", true)
  | 36 => ("FleetFloorModel", "noComing", "[J", true)
  | 37 => ("FleetFloorModel", "reached", "[J", true)
  | 38 => ("FleetFloorModel", "planner", "I", false)
  | _ => ("FleetFloorModel", "done", "I", false)
def ty_Mod : Nat → FieldType := fun k => match k with
  | 0 => .int
  | 1 => .boolean
  | 2 => .array .int
  | 3 => .int
  | 4 => .int
  | 5 => .array .int
  | 6 => .array .int
  | 7 => .array .boolean
  | 8 => .array .int
  | 9 => .int
  | 10 => .int
  | 11 => .array .int
  | 12 => .array .int
  | 13 => .array .int
  | 14 => .array .int
  | 15 => .array .int
  | 16 => .array .int
  | 17 => .array .int
  | 18 => .array .int
  | 19 => .int
  | 20 => .array .int
  | 21 => .array .int
  | 22 => .array .int
  | 23 => .array .int
  | 24 => .array .int
  | 25 => .array .int
  | 26 => .array .int
  | 27 => .array .int
  | 28 => .array .int
  | 29 => .int
  | 30 => .int
  | 31 => .int
  | 32 => .array .int
  | 33 => .array .int
  | 34 => .array .int
  | 35 => .array .long
  | 36 => .array .long
  | 37 => .array .long
  | 38 => .int
  | _ => .int
theorem n_Mod : ∀ a, a < 40 → ∀ b, b < 40 → a ≠ b → (T_Mod a).2.1 ≠ (T_Mod b).2.1 := by decide +kernel
theorem ok_Mod : ∀ k, k < 40 → parseFieldDescriptor (T_Mod k).2.2.1 = some (ty_Mod k) := by decide +kernel
theorem in_Mod : ∀ w ∈ u_ws "FleetFloorModel" T_Mod 40, w ∈ bg := by
  show ∀ w ∈ [u_lay "FleetFloorModel" T_Mod 0, u_lay "FleetFloorModel" T_Mod 1, u_lay "FleetFloorModel" T_Mod 2, u_lay "FleetFloorModel" T_Mod 3, u_lay "FleetFloorModel" T_Mod 4, u_lay "FleetFloorModel" T_Mod 5, u_lay "FleetFloorModel" T_Mod 6, u_lay "FleetFloorModel" T_Mod 7, u_lay "FleetFloorModel" T_Mod 8, u_lay "FleetFloorModel" T_Mod 9, u_lay "FleetFloorModel" T_Mod 10, u_lay "FleetFloorModel" T_Mod 11, u_lay "FleetFloorModel" T_Mod 12, u_lay "FleetFloorModel" T_Mod 13, u_lay "FleetFloorModel" T_Mod 14, u_lay "FleetFloorModel" T_Mod 15, u_lay "FleetFloorModel" T_Mod 16, u_lay "FleetFloorModel" T_Mod 17, u_lay "FleetFloorModel" T_Mod 18, u_lay "FleetFloorModel" T_Mod 19, u_lay "FleetFloorModel" T_Mod 20, u_lay "FleetFloorModel" T_Mod 21, u_lay "FleetFloorModel" T_Mod 22, u_lay "FleetFloorModel" T_Mod 23, u_lay "FleetFloorModel" T_Mod 24, u_lay "FleetFloorModel" T_Mod 25, u_lay "FleetFloorModel" T_Mod 26, u_lay "FleetFloorModel" T_Mod 27, u_lay "FleetFloorModel" T_Mod 28, u_lay "FleetFloorModel" T_Mod 29, u_lay "FleetFloorModel" T_Mod 30, u_lay "FleetFloorModel" T_Mod 31, u_lay "FleetFloorModel" T_Mod 32, u_lay "FleetFloorModel" T_Mod 33, u_lay "FleetFloorModel" T_Mod 34, u_lay "FleetFloorModel" T_Mod 35, u_lay "FleetFloorModel" T_Mod 36, u_lay "FleetFloorModel" T_Mod 37, u_lay "FleetFloorModel" T_Mod 38, u_lay "FleetFloorModel" T_Mod 39], w ∈ bg
  exact List.forall_mem_cons.mpr ⟨tw_821, List.forall_mem_cons.mpr ⟨tw_823, List.forall_mem_cons.mpr ⟨tw_825, List.forall_mem_cons.mpr ⟨tw_827, List.forall_mem_cons.mpr ⟨tw_829, List.forall_mem_cons.mpr ⟨tw_831, List.forall_mem_cons.mpr ⟨tw_833, List.forall_mem_cons.mpr ⟨tw_835, List.forall_mem_cons.mpr ⟨tw_837, List.forall_mem_cons.mpr ⟨tw_839, List.forall_mem_cons.mpr ⟨tw_841, List.forall_mem_cons.mpr ⟨tw_843, List.forall_mem_cons.mpr ⟨tw_845, List.forall_mem_cons.mpr ⟨tw_847, List.forall_mem_cons.mpr ⟨tw_849, List.forall_mem_cons.mpr ⟨tw_851, List.forall_mem_cons.mpr ⟨tw_853, List.forall_mem_cons.mpr ⟨tw_855, List.forall_mem_cons.mpr ⟨tw_857, List.forall_mem_cons.mpr ⟨tw_859, List.forall_mem_cons.mpr ⟨tw_861, List.forall_mem_cons.mpr ⟨tw_863, List.forall_mem_cons.mpr ⟨tw_865, List.forall_mem_cons.mpr ⟨tw_867, List.forall_mem_cons.mpr ⟨tw_869, List.forall_mem_cons.mpr ⟨tw_871, List.forall_mem_cons.mpr ⟨tw_873, List.forall_mem_cons.mpr ⟨tw_875, List.forall_mem_cons.mpr ⟨tw_877, List.forall_mem_cons.mpr ⟨tw_879, List.forall_mem_cons.mpr ⟨tw_881, List.forall_mem_cons.mpr ⟨tw_883, List.forall_mem_cons.mpr ⟨tw_885, List.forall_mem_cons.mpr ⟨tw_887, List.forall_mem_cons.mpr ⟨tw_889, List.forall_mem_cons.mpr ⟨tw_891, List.forall_mem_cons.mpr ⟨tw_893, List.forall_mem_cons.mpr ⟨tw_895, List.forall_mem_cons.mpr ⟨tw_897, List.forall_mem_cons.mpr ⟨tw_899, fun _ h => absurd h List.not_mem_nil⟩⟩⟩⟩⟩⟩⟩⟩⟩⟩⟩⟩⟩⟩⟩⟩⟩⟩⟩⟩⟩⟩⟩⟩⟩⟩⟩⟩⟩⟩⟩⟩⟩⟩⟩⟩⟩⟩⟩⟩
abbrev cl : List vw_C := [("FleetFloor", T_FF, 9), ("FleetFloor$FloorMap", T_Map, 1), ("FleetFloor$Air", T_Air, 1), ("java/util/ArrayList", T_AL, 3), ("FleetFloor$Cells", T_Cel, 2), ("FleetFloor$Letter", T_Let, 3), ("FleetFloor$Move", T_Mov, 2), ("FleetFloor$Task", T_Tsk, 4), ("FleetFloor$Vehicle", T_Veh, 10), ("FleetFloor$Planner", T_Pln, 13), ("FleetFloorModel", T_Mod, 40)]
end
section
abbrev c_Mod_init : ByteArray := prog_11_method_1_code
abbrev y_Mod_init : MethodName := ⟨"FleetFloorModel", "<init>", "()V"⟩
theorem d_Mod_init_0 : decode c_Mod_init 0 = .ok (.aload_n 0, 1) := by decide +kernel
theorem d_Mod_init_1 : decode c_Mod_init 1 = .ok (.invokespecial 1, 3) := by decide +kernel
theorem d_Mod_init_4 : decode c_Mod_init 4 = .ok (.aload_n 0, 1) := by decide +kernel
theorem d_Mod_init_5 : decode c_Mod_init 5 = .ok (.bipush 96, 2) := by decide +kernel
theorem d_Mod_init_7 : decode c_Mod_init 7 = .ok (.newarray .int, 2) := by decide +kernel
theorem d_Mod_init_9 : decode c_Mod_init 9 = .ok (.putfield 7, 3) := by decide +kernel
theorem d_Mod_init_12 : decode c_Mod_init 12 = .ok (.aload_n 0, 1) := by decide +kernel
theorem d_Mod_init_13 : decode c_Mod_init 13 = .ok (.bipush 96, 2) := by decide +kernel
theorem d_Mod_init_15 : decode c_Mod_init 15 = .ok (.newarray .int, 2) := by decide +kernel
theorem d_Mod_init_17 : decode c_Mod_init 17 = .ok (.putfield 13, 3) := by decide +kernel
theorem d_Mod_init_20 : decode c_Mod_init 20 = .ok (.aload_n 0, 1) := by decide +kernel
theorem d_Mod_init_21 : decode c_Mod_init 21 = .ok (.bipush 96, 2) := by decide +kernel
theorem d_Mod_init_23 : decode c_Mod_init 23 = .ok (.newarray .int, 2) := by decide +kernel
theorem d_Mod_init_25 : decode c_Mod_init 25 = .ok (.putfield 16, 3) := by decide +kernel
theorem d_Mod_init_28 : decode c_Mod_init 28 = .ok (.aload_n 0, 1) := by decide +kernel
theorem d_Mod_init_29 : decode c_Mod_init 29 = .ok (.bipush 96, 2) := by decide +kernel
theorem d_Mod_init_31 : decode c_Mod_init 31 = .ok (.newarray .boolean, 2) := by decide +kernel
theorem d_Mod_init_33 : decode c_Mod_init 33 = .ok (.putfield 19, 3) := by decide +kernel
theorem d_Mod_init_36 : decode c_Mod_init 36 = .ok (.aload_n 0, 1) := by decide +kernel
theorem d_Mod_init_37 : decode c_Mod_init 37 = .ok (.bipush 96, 2) := by decide +kernel
theorem d_Mod_init_39 : decode c_Mod_init 39 = .ok (.newarray .int, 2) := by decide +kernel
theorem d_Mod_init_41 : decode c_Mod_init 41 = .ok (.putfield 23, 3) := by decide +kernel
theorem d_Mod_init_44 : decode c_Mod_init 44 = .ok (.aload_n 0, 1) := by decide +kernel
theorem d_Mod_init_45 : decode c_Mod_init 45 = .ok (.bipush 24, 2) := by decide +kernel
theorem d_Mod_init_47 : decode c_Mod_init 47 = .ok (.newarray .int, 2) := by decide +kernel
theorem d_Mod_init_49 : decode c_Mod_init 49 = .ok (.putfield 26, 3) := by decide +kernel
theorem d_Mod_init_52 : decode c_Mod_init 52 = .ok (.aload_n 0, 1) := by decide +kernel
theorem d_Mod_init_53 : decode c_Mod_init 53 = .ok (.bipush 24, 2) := by decide +kernel
theorem d_Mod_init_55 : decode c_Mod_init 55 = .ok (.newarray .int, 2) := by decide +kernel
theorem d_Mod_init_57 : decode c_Mod_init 57 = .ok (.putfield 29, 3) := by decide +kernel
theorem d_Mod_init_60 : decode c_Mod_init 60 = .ok (.aload_n 0, 1) := by decide +kernel
theorem d_Mod_init_61 : decode c_Mod_init 61 = .ok (.bipush 24, 2) := by decide +kernel
theorem d_Mod_init_63 : decode c_Mod_init 63 = .ok (.newarray .int, 2) := by decide +kernel
theorem d_Mod_init_65 : decode c_Mod_init 65 = .ok (.putfield 32, 3) := by decide +kernel
theorem d_Mod_init_68 : decode c_Mod_init 68 = .ok (.aload_n 0, 1) := by decide +kernel
theorem d_Mod_init_69 : decode c_Mod_init 69 = .ok (.bipush 24, 2) := by decide +kernel
theorem d_Mod_init_71 : decode c_Mod_init 71 = .ok (.newarray .int, 2) := by decide +kernel
theorem d_Mod_init_73 : decode c_Mod_init 73 = .ok (.putfield 35, 3) := by decide +kernel
theorem d_Mod_init_76 : decode c_Mod_init 76 = .ok (.aload_n 0, 1) := by decide +kernel
theorem d_Mod_init_77 : decode c_Mod_init 77 = .ok (.bipush 24, 2) := by decide +kernel
theorem d_Mod_init_79 : decode c_Mod_init 79 = .ok (.newarray .int, 2) := by decide +kernel
theorem d_Mod_init_81 : decode c_Mod_init 81 = .ok (.putfield 38, 3) := by decide +kernel
theorem d_Mod_init_84 : decode c_Mod_init 84 = .ok (.aload_n 0, 1) := by decide +kernel
theorem d_Mod_init_85 : decode c_Mod_init 85 = .ok (.bipush 24, 2) := by decide +kernel
theorem d_Mod_init_87 : decode c_Mod_init 87 = .ok (.newarray .int, 2) := by decide +kernel
theorem d_Mod_init_89 : decode c_Mod_init 89 = .ok (.putfield 41, 3) := by decide +kernel
theorem d_Mod_init_92 : decode c_Mod_init 92 = .ok (.aload_n 0, 1) := by decide +kernel
theorem d_Mod_init_93 : decode c_Mod_init 93 = .ok (.bipush 24, 2) := by decide +kernel
theorem d_Mod_init_95 : decode c_Mod_init 95 = .ok (.newarray .int, 2) := by decide +kernel
theorem d_Mod_init_97 : decode c_Mod_init 97 = .ok (.putfield 44, 3) := by decide +kernel
theorem d_Mod_init_100 : decode c_Mod_init 100 = .ok (.aload_n 0, 1) := by decide +kernel
theorem d_Mod_init_101 : decode c_Mod_init 101 = .ok (.bipush 24, 2) := by decide +kernel
theorem d_Mod_init_103 : decode c_Mod_init 103 = .ok (.newarray .int, 2) := by decide +kernel
theorem d_Mod_init_105 : decode c_Mod_init 105 = .ok (.putfield 47, 3) := by decide +kernel
theorem d_Mod_init_108 : decode c_Mod_init 108 = .ok (.aload_n 0, 1) := by decide +kernel
theorem d_Mod_init_109 : decode c_Mod_init 109 = .ok (.sipush 3600, 3) := by decide +kernel
theorem d_Mod_init_112 : decode c_Mod_init 112 = .ok (.newarray .int, 2) := by decide +kernel
theorem d_Mod_init_114 : decode c_Mod_init 114 = .ok (.putfield 50, 3) := by decide +kernel
theorem d_Mod_init_117 : decode c_Mod_init 117 = .ok (.aload_n 0, 1) := by decide +kernel
theorem d_Mod_init_118 : decode c_Mod_init 118 = .ok (.sipush 3600, 3) := by decide +kernel
theorem d_Mod_init_121 : decode c_Mod_init 121 = .ok (.newarray .int, 2) := by decide +kernel
theorem d_Mod_init_123 : decode c_Mod_init 123 = .ok (.putfield 53, 3) := by decide +kernel
theorem d_Mod_init_126 : decode c_Mod_init 126 = .ok (.aload_n 0, 1) := by decide +kernel
theorem d_Mod_init_127 : decode c_Mod_init 127 = .ok (.bipush 6, 2) := by decide +kernel
theorem d_Mod_init_129 : decode c_Mod_init 129 = .ok (.newarray .int, 2) := by decide +kernel
theorem d_Mod_init_131 : decode c_Mod_init 131 = .ok (.putfield 56, 3) := by decide +kernel
theorem d_Mod_init_134 : decode c_Mod_init 134 = .ok (.aload_n 0, 1) := by decide +kernel
theorem d_Mod_init_135 : decode c_Mod_init 135 = .ok (.bipush 6, 2) := by decide +kernel
theorem d_Mod_init_137 : decode c_Mod_init 137 = .ok (.newarray .int, 2) := by decide +kernel
theorem d_Mod_init_139 : decode c_Mod_init 139 = .ok (.putfield 59, 3) := by decide +kernel
theorem d_Mod_init_142 : decode c_Mod_init 142 = .ok (.aload_n 0, 1) := by decide +kernel
theorem d_Mod_init_143 : decode c_Mod_init 143 = .ok (.bipush 6, 2) := by decide +kernel
theorem d_Mod_init_145 : decode c_Mod_init 145 = .ok (.newarray .int, 2) := by decide +kernel
theorem d_Mod_init_147 : decode c_Mod_init 147 = .ok (.putfield 62, 3) := by decide +kernel
theorem d_Mod_init_150 : decode c_Mod_init 150 = .ok (.aload_n 0, 1) := by decide +kernel
theorem d_Mod_init_151 : decode c_Mod_init 151 = .ok (.bipush 6, 2) := by decide +kernel
theorem d_Mod_init_153 : decode c_Mod_init 153 = .ok (.newarray .int, 2) := by decide +kernel
theorem d_Mod_init_155 : decode c_Mod_init 155 = .ok (.putfield 65, 3) := by decide +kernel
theorem d_Mod_init_158 : decode c_Mod_init 158 = .ok (.aload_n 0, 1) := by decide +kernel
theorem d_Mod_init_159 : decode c_Mod_init 159 = .ok (.bipush 6, 2) := by decide +kernel
theorem d_Mod_init_161 : decode c_Mod_init 161 = .ok (.newarray .int, 2) := by decide +kernel
theorem d_Mod_init_163 : decode c_Mod_init 163 = .ok (.putfield 68, 3) := by decide +kernel
theorem d_Mod_init_166 : decode c_Mod_init 166 = .ok (.aload_n 0, 1) := by decide +kernel
theorem d_Mod_init_167 : decode c_Mod_init 167 = .ok (.bipush 6, 2) := by decide +kernel
theorem d_Mod_init_169 : decode c_Mod_init 169 = .ok (.newarray .int, 2) := by decide +kernel
theorem d_Mod_init_171 : decode c_Mod_init 171 = .ok (.putfield 71, 3) := by decide +kernel
theorem d_Mod_init_174 : decode c_Mod_init 174 = .ok (.aload_n 0, 1) := by decide +kernel
theorem d_Mod_init_175 : decode c_Mod_init 175 = .ok (.bipush 6, 2) := by decide +kernel
theorem d_Mod_init_177 : decode c_Mod_init 177 = .ok (.newarray .int, 2) := by decide +kernel
theorem d_Mod_init_179 : decode c_Mod_init 179 = .ok (.putfield 74, 3) := by decide +kernel
theorem d_Mod_init_182 : decode c_Mod_init 182 = .ok (.aload_n 0, 1) := by decide +kernel
theorem d_Mod_init_183 : decode c_Mod_init 183 = .ok (.bipush 60, 2) := by decide +kernel
theorem d_Mod_init_185 : decode c_Mod_init 185 = .ok (.newarray .int, 2) := by decide +kernel
theorem d_Mod_init_187 : decode c_Mod_init 187 = .ok (.putfield 77, 3) := by decide +kernel
theorem d_Mod_init_190 : decode c_Mod_init 190 = .ok (.aload_n 0, 1) := by decide +kernel
theorem d_Mod_init_191 : decode c_Mod_init 191 = .ok (.bipush 60, 2) := by decide +kernel
theorem d_Mod_init_193 : decode c_Mod_init 193 = .ok (.newarray .int, 2) := by decide +kernel
theorem d_Mod_init_195 : decode c_Mod_init 195 = .ok (.putfield 80, 3) := by decide +kernel
theorem d_Mod_init_198 : decode c_Mod_init 198 = .ok (.aload_n 0, 1) := by decide +kernel
theorem d_Mod_init_199 : decode c_Mod_init 199 = .ok (.bipush 60, 2) := by decide +kernel
theorem d_Mod_init_201 : decode c_Mod_init 201 = .ok (.newarray .int, 2) := by decide +kernel
theorem d_Mod_init_203 : decode c_Mod_init 203 = .ok (.putfield 83, 3) := by decide +kernel
theorem d_Mod_init_206 : decode c_Mod_init 206 = .ok (.aload_n 0, 1) := by decide +kernel
theorem d_Mod_init_207 : decode c_Mod_init 207 = .ok (.sipush 304, 3) := by decide +kernel
theorem d_Mod_init_210 : decode c_Mod_init 210 = .ok (.newarray .long, 2) := by decide +kernel
theorem d_Mod_init_212 : decode c_Mod_init 212 = .ok (.putfield 86, 3) := by decide +kernel
theorem d_Mod_init_215 : decode c_Mod_init 215 = .ok (.aload_n 0, 1) := by decide +kernel
theorem d_Mod_init_216 : decode c_Mod_init 216 = .ok (.sipush 304, 3) := by decide +kernel
theorem d_Mod_init_219 : decode c_Mod_init 219 = .ok (.newarray .long, 2) := by decide +kernel
theorem d_Mod_init_221 : decode c_Mod_init 221 = .ok (.putfield 90, 3) := by decide +kernel
theorem d_Mod_init_224 : decode c_Mod_init 224 = .ok (.aload_n 0, 1) := by decide +kernel
theorem d_Mod_init_225 : decode c_Mod_init 225 = .ok (.sipush 908, 3) := by decide +kernel
theorem d_Mod_init_228 : decode c_Mod_init 228 = .ok (.newarray .long, 2) := by decide +kernel
theorem d_Mod_init_230 : decode c_Mod_init 230 = .ok (.putfield 93, 3) := by decide +kernel
theorem d_Mod_init_233 : decode c_Mod_init 233 = .ok (.return_, 1) := by decide +kernel
abbrev c_Mod_thrown : ByteArray := prog_11_method_2_code
abbrev y_Mod_thrown : MethodName := ⟨"FleetFloorModel", "thrown", "()I"⟩
theorem d_Mod_thrown_0 : decode c_Mod_thrown 0 = .ok (.aload_n 0, 1) := by decide +kernel
theorem d_Mod_thrown_1 : decode c_Mod_thrown 1 = .ok (.getfield 96, 3) := by decide +kernel
theorem d_Mod_thrown_4 : decode c_Mod_thrown 4 = .ok (.ireturn, 1) := by decide +kernel
abbrev c_Mod_throwing : ByteArray := prog_11_method_3_code
abbrev y_Mod_throwing : MethodName := ⟨"FleetFloorModel", "throwing", "(ZZ)Z"⟩
theorem d_Mod_throwing_0 : decode c_Mod_throwing 0 = .ok (.aload_n 0, 1) := by decide +kernel
theorem d_Mod_throwing_1 : decode c_Mod_throwing 1 = .ok (.iload_n 1, 1) := by decide +kernel
theorem d_Mod_throwing_2 : decode c_Mod_throwing 2 = .ok (.ifCond .eq 7, 3) := by decide +kernel
theorem d_Mod_throwing_5 : decode c_Mod_throwing 5 = .ok (.iconst 1, 1) := by decide +kernel
theorem d_Mod_throwing_6 : decode c_Mod_throwing 6 = .ok (.goto 12, 3) := by decide +kernel
theorem d_Mod_throwing_9 : decode c_Mod_throwing 9 = .ok (.iload_n 2, 1) := by decide +kernel
theorem d_Mod_throwing_10 : decode c_Mod_throwing 10 = .ok (.ifCond .eq 7, 3) := by decide +kernel
theorem d_Mod_throwing_13 : decode c_Mod_throwing 13 = .ok (.iconst 2, 1) := by decide +kernel
theorem d_Mod_throwing_14 : decode c_Mod_throwing 14 = .ok (.goto 4, 3) := by decide +kernel
theorem d_Mod_throwing_17 : decode c_Mod_throwing 17 = .ok (.iconst 0, 1) := by decide +kernel
theorem d_Mod_throwing_18 : decode c_Mod_throwing 18 = .ok (.putfield 96, 3) := by decide +kernel
theorem d_Mod_throwing_21 : decode c_Mod_throwing 21 = .ok (.aload_n 0, 1) := by decide +kernel
theorem d_Mod_throwing_22 : decode c_Mod_throwing 22 = .ok (.getfield 96, 3) := by decide +kernel
theorem d_Mod_throwing_25 : decode c_Mod_throwing 25 = .ok (.ifCond .le 7, 3) := by decide +kernel
theorem d_Mod_throwing_28 : decode c_Mod_throwing 28 = .ok (.iconst 1, 1) := by decide +kernel
theorem d_Mod_throwing_29 : decode c_Mod_throwing 29 = .ok (.goto 4, 3) := by decide +kernel
theorem d_Mod_throwing_32 : decode c_Mod_throwing 32 = .ok (.iconst 0, 1) := by decide +kernel
theorem d_Mod_throwing_33 : decode c_Mod_throwing 33 = .ok (.ireturn, 1) := by decide +kernel
abbrev c_Mod_in : ByteArray := prog_11_method_4_code
abbrev y_Mod_in : MethodName := ⟨"FleetFloorModel", "in", "(III)Z"⟩
theorem d_Mod_in_0 : decode c_Mod_in 0 = .ok (.iload_n 0, 1) := by decide +kernel
theorem d_Mod_in_1 : decode c_Mod_in 1 = .ok (.iload_n 1, 1) := by decide +kernel
theorem d_Mod_in_2 : decode c_Mod_in 2 = .ok (.if_icmp .lt 12, 3) := by decide +kernel
theorem d_Mod_in_5 : decode c_Mod_in 5 = .ok (.iload_n 0, 1) := by decide +kernel
theorem d_Mod_in_6 : decode c_Mod_in 6 = .ok (.iload_n 2, 1) := by decide +kernel
theorem d_Mod_in_7 : decode c_Mod_in 7 = .ok (.if_icmp .gt 7, 3) := by decide +kernel
theorem d_Mod_in_10 : decode c_Mod_in 10 = .ok (.iconst 1, 1) := by decide +kernel
theorem d_Mod_in_11 : decode c_Mod_in 11 = .ok (.goto 4, 3) := by decide +kernel
theorem d_Mod_in_14 : decode c_Mod_in 14 = .ok (.iconst 0, 1) := by decide +kernel
theorem d_Mod_in_15 : decode c_Mod_in 15 = .ok (.ireturn, 1) := by decide +kernel
abbrev c_Mod_cell : ByteArray := prog_11_method_5_code
abbrev y_Mod_cell : MethodName := ⟨"FleetFloorModel", "cell", "(II)Z"⟩
theorem d_Mod_cell_0 : decode c_Mod_cell 0 = .ok (.aload_n 0, 1) := by decide +kernel
theorem d_Mod_cell_1 : decode c_Mod_cell 1 = .ok (.iconst 0, 1) := by decide +kernel
theorem d_Mod_cell_2 : decode c_Mod_cell 2 = .ok (.putfield 96, 3) := by decide +kernel
theorem d_Mod_cell_5 : decode c_Mod_cell 5 = .ok (.aload_n 0, 1) := by decide +kernel
theorem d_Mod_cell_6 : decode c_Mod_cell 6 = .ok (.getfield 100, 3) := by decide +kernel
theorem d_Mod_cell_9 : decode c_Mod_cell 9 = .ok (.ifCond .ne 22, 3) := by decide +kernel
theorem d_Mod_cell_12 : decode c_Mod_cell 12 = .ok (.iload_n 1, 1) := by decide +kernel
theorem d_Mod_cell_13 : decode c_Mod_cell 13 = .ok (.iconst 0, 1) := by decide +kernel
theorem d_Mod_cell_14 : decode c_Mod_cell 14 = .ok (.bipush 95, 2) := by decide +kernel
theorem d_Mod_cell_16 : decode c_Mod_cell 16 = .ok (.invokestatic 104, 3) := by decide +kernel
theorem d_Mod_cell_19 : decode c_Mod_cell 19 = .ok (.ifCond .eq 12, 3) := by decide +kernel
theorem d_Mod_cell_22 : decode c_Mod_cell 22 = .ok (.iload_n 2, 1) := by decide +kernel
theorem d_Mod_cell_23 : decode c_Mod_cell 23 = .ok (.iconst 0, 1) := by decide +kernel
theorem d_Mod_cell_24 : decode c_Mod_cell 24 = .ok (.iconst 3, 1) := by decide +kernel
theorem d_Mod_cell_25 : decode c_Mod_cell 25 = .ok (.invokestatic 104, 3) := by decide +kernel
theorem d_Mod_cell_28 : decode c_Mod_cell 28 = .ok (.ifCond .ne 5, 3) := by decide +kernel
theorem d_Mod_cell_31 : decode c_Mod_cell 31 = .ok (.iconst 0, 1) := by decide +kernel
theorem d_Mod_cell_32 : decode c_Mod_cell 32 = .ok (.ireturn, 1) := by decide +kernel
theorem d_Mod_cell_33 : decode c_Mod_cell 33 = .ok (.aload_n 0, 1) := by decide +kernel
theorem d_Mod_cell_34 : decode c_Mod_cell 34 = .ok (.getfield 7, 3) := by decide +kernel
theorem d_Mod_cell_37 : decode c_Mod_cell 37 = .ok (.iload_n 1, 1) := by decide +kernel
theorem d_Mod_cell_38 : decode c_Mod_cell 38 = .ok (.iload_n 2, 1) := by decide +kernel
theorem d_Mod_cell_39 : decode c_Mod_cell 39 = .ok (.iastore, 1) := by decide +kernel
theorem d_Mod_cell_40 : decode c_Mod_cell 40 = .ok (.iconst 1, 1) := by decide +kernel
theorem d_Mod_cell_41 : decode c_Mod_cell 41 = .ok (.ireturn, 1) := by decide +kernel
abbrev c_Mod_neighbour : ByteArray := prog_11_method_6_code
abbrev y_Mod_neighbour : MethodName := ⟨"FleetFloorModel", "neighbour", "(II)I"⟩
theorem d_Mod_neighbour_0 : decode c_Mod_neighbour 0 = .ok (.iload_n 0, 1) := by decide +kernel
theorem d_Mod_neighbour_1 : decode c_Mod_neighbour 1 = .ok (.bipush 12, 2) := by decide +kernel
theorem d_Mod_neighbour_3 : decode c_Mod_neighbour 3 = .ok (.irem, 1) := by decide +kernel
theorem d_Mod_neighbour_4 : decode c_Mod_neighbour 4 = .ok (.istore_n 2, 1) := by decide +kernel
theorem d_Mod_neighbour_5 : decode c_Mod_neighbour 5 = .ok (.iload_n 1, 1) := by decide +kernel
theorem d_Mod_neighbour_6 : decode c_Mod_neighbour 6 = .ok (.tableswitch 86 0 3 #[30, 45, 59, 74], 30) := by decide +kernel
theorem d_Mod_neighbour_36 : decode c_Mod_neighbour 36 = .ok (.iload_n 0, 1) := by decide +kernel
theorem d_Mod_neighbour_37 : decode c_Mod_neighbour 37 = .ok (.bipush 12, 2) := by decide +kernel
theorem d_Mod_neighbour_39 : decode c_Mod_neighbour 39 = .ok (.if_icmp .lt 10, 3) := by decide +kernel
theorem d_Mod_neighbour_42 : decode c_Mod_neighbour 42 = .ok (.iload_n 0, 1) := by decide +kernel
theorem d_Mod_neighbour_43 : decode c_Mod_neighbour 43 = .ok (.bipush 12, 2) := by decide +kernel
theorem d_Mod_neighbour_45 : decode c_Mod_neighbour 45 = .ok (.isub, 1) := by decide +kernel
theorem d_Mod_neighbour_46 : decode c_Mod_neighbour 46 = .ok (.goto 4, 3) := by decide +kernel
theorem d_Mod_neighbour_49 : decode c_Mod_neighbour 49 = .ok (.iconst (-1), 1) := by decide +kernel
theorem d_Mod_neighbour_50 : decode c_Mod_neighbour 50 = .ok (.ireturn, 1) := by decide +kernel
theorem d_Mod_neighbour_51 : decode c_Mod_neighbour 51 = .ok (.iload_n 2, 1) := by decide +kernel
theorem d_Mod_neighbour_52 : decode c_Mod_neighbour 52 = .ok (.bipush 11, 2) := by decide +kernel
theorem d_Mod_neighbour_54 : decode c_Mod_neighbour 54 = .ok (.if_icmp .ge 9, 3) := by decide +kernel
theorem d_Mod_neighbour_57 : decode c_Mod_neighbour 57 = .ok (.iload_n 0, 1) := by decide +kernel
theorem d_Mod_neighbour_58 : decode c_Mod_neighbour 58 = .ok (.iconst 1, 1) := by decide +kernel
theorem d_Mod_neighbour_59 : decode c_Mod_neighbour 59 = .ok (.iadd, 1) := by decide +kernel
theorem d_Mod_neighbour_60 : decode c_Mod_neighbour 60 = .ok (.goto 4, 3) := by decide +kernel
theorem d_Mod_neighbour_63 : decode c_Mod_neighbour 63 = .ok (.iconst (-1), 1) := by decide +kernel
theorem d_Mod_neighbour_64 : decode c_Mod_neighbour 64 = .ok (.ireturn, 1) := by decide +kernel
theorem d_Mod_neighbour_65 : decode c_Mod_neighbour 65 = .ok (.iload_n 0, 1) := by decide +kernel
theorem d_Mod_neighbour_66 : decode c_Mod_neighbour 66 = .ok (.bipush 84, 2) := by decide +kernel
theorem d_Mod_neighbour_68 : decode c_Mod_neighbour 68 = .ok (.if_icmp .ge 10, 3) := by decide +kernel
theorem d_Mod_neighbour_71 : decode c_Mod_neighbour 71 = .ok (.iload_n 0, 1) := by decide +kernel
theorem d_Mod_neighbour_72 : decode c_Mod_neighbour 72 = .ok (.bipush 12, 2) := by decide +kernel
theorem d_Mod_neighbour_74 : decode c_Mod_neighbour 74 = .ok (.iadd, 1) := by decide +kernel
theorem d_Mod_neighbour_75 : decode c_Mod_neighbour 75 = .ok (.goto 4, 3) := by decide +kernel
theorem d_Mod_neighbour_78 : decode c_Mod_neighbour 78 = .ok (.iconst (-1), 1) := by decide +kernel
theorem d_Mod_neighbour_79 : decode c_Mod_neighbour 79 = .ok (.ireturn, 1) := by decide +kernel
theorem d_Mod_neighbour_80 : decode c_Mod_neighbour 80 = .ok (.iload_n 2, 1) := by decide +kernel
theorem d_Mod_neighbour_81 : decode c_Mod_neighbour 81 = .ok (.ifCond .le 9, 3) := by decide +kernel
theorem d_Mod_neighbour_84 : decode c_Mod_neighbour 84 = .ok (.iload_n 0, 1) := by decide +kernel
theorem d_Mod_neighbour_85 : decode c_Mod_neighbour 85 = .ok (.iconst 1, 1) := by decide +kernel
theorem d_Mod_neighbour_86 : decode c_Mod_neighbour 86 = .ok (.isub, 1) := by decide +kernel
theorem d_Mod_neighbour_87 : decode c_Mod_neighbour 87 = .ok (.goto 4, 3) := by decide +kernel
theorem d_Mod_neighbour_90 : decode c_Mod_neighbour 90 = .ok (.iconst (-1), 1) := by decide +kernel
theorem d_Mod_neighbour_91 : decode c_Mod_neighbour 91 = .ok (.ireturn, 1) := by decide +kernel
theorem d_Mod_neighbour_92 : decode c_Mod_neighbour 92 = .ok (.iload_n 0, 1) := by decide +kernel
theorem d_Mod_neighbour_93 : decode c_Mod_neighbour 93 = .ok (.ireturn, 1) := by decide +kernel
abbrev c_Mod_leadsToAll : ByteArray := prog_11_method_7_code
abbrev y_Mod_leadsToAll : MethodName := ⟨"FleetFloorModel", "leadsToAll", "(I)Z"⟩
theorem d_Mod_leadsToAll_0 : decode c_Mod_leadsToAll 0 = .ok (.iconst 0, 1) := by decide +kernel
theorem d_Mod_leadsToAll_1 : decode c_Mod_leadsToAll 1 = .ok (.istore_n 2, 1) := by decide +kernel
theorem d_Mod_leadsToAll_2 : decode c_Mod_leadsToAll 2 = .ok (.iload_n 2, 1) := by decide +kernel
theorem d_Mod_leadsToAll_3 : decode c_Mod_leadsToAll 3 = .ok (.bipush 96, 2) := by decide +kernel
theorem d_Mod_leadsToAll_5 : decode c_Mod_leadsToAll 5 = .ok (.if_icmp .ge 16, 3) := by decide +kernel
theorem d_Mod_leadsToAll_8 : decode c_Mod_leadsToAll 8 = .ok (.aload_n 0, 1) := by decide +kernel
theorem d_Mod_leadsToAll_9 : decode c_Mod_leadsToAll 9 = .ok (.getfield 19, 3) := by decide +kernel
theorem d_Mod_leadsToAll_12 : decode c_Mod_leadsToAll 12 = .ok (.iload_n 2, 1) := by decide +kernel
theorem d_Mod_leadsToAll_13 : decode c_Mod_leadsToAll 13 = .ok (.iconst 0, 1) := by decide +kernel
theorem d_Mod_leadsToAll_14 : decode c_Mod_leadsToAll 14 = .ok (.bastore, 1) := by decide +kernel
theorem d_Mod_leadsToAll_15 : decode c_Mod_leadsToAll 15 = .ok (.iinc 2 1, 3) := by decide +kernel
theorem d_Mod_leadsToAll_18 : decode c_Mod_leadsToAll 18 = .ok (.goto (-16), 3) := by decide +kernel
theorem d_Mod_leadsToAll_21 : decode c_Mod_leadsToAll 21 = .ok (.iconst 1, 1) := by decide +kernel
theorem d_Mod_leadsToAll_22 : decode c_Mod_leadsToAll 22 = .ok (.istore_n 2, 1) := by decide +kernel
theorem d_Mod_leadsToAll_23 : decode c_Mod_leadsToAll 23 = .ok (.aload_n 0, 1) := by decide +kernel
theorem d_Mod_leadsToAll_24 : decode c_Mod_leadsToAll 24 = .ok (.getfield 23, 3) := by decide +kernel
theorem d_Mod_leadsToAll_27 : decode c_Mod_leadsToAll 27 = .ok (.iconst 0, 1) := by decide +kernel
theorem d_Mod_leadsToAll_28 : decode c_Mod_leadsToAll 28 = .ok (.iload_n 1, 1) := by decide +kernel
theorem d_Mod_leadsToAll_29 : decode c_Mod_leadsToAll 29 = .ok (.iastore, 1) := by decide +kernel
theorem d_Mod_leadsToAll_30 : decode c_Mod_leadsToAll 30 = .ok (.aload_n 0, 1) := by decide +kernel
theorem d_Mod_leadsToAll_31 : decode c_Mod_leadsToAll 31 = .ok (.getfield 19, 3) := by decide +kernel
theorem d_Mod_leadsToAll_34 : decode c_Mod_leadsToAll 34 = .ok (.iload_n 1, 1) := by decide +kernel
theorem d_Mod_leadsToAll_35 : decode c_Mod_leadsToAll 35 = .ok (.iconst 1, 1) := by decide +kernel
theorem d_Mod_leadsToAll_36 : decode c_Mod_leadsToAll 36 = .ok (.bastore, 1) := by decide +kernel
theorem d_Mod_leadsToAll_37 : decode c_Mod_leadsToAll 37 = .ok (.iload_n 2, 1) := by decide +kernel
theorem d_Mod_leadsToAll_38 : decode c_Mod_leadsToAll 38 = .ok (.ifCond .le 100, 3) := by decide +kernel
theorem d_Mod_leadsToAll_41 : decode c_Mod_leadsToAll 41 = .ok (.iinc 2 (-1), 3) := by decide +kernel
theorem d_Mod_leadsToAll_44 : decode c_Mod_leadsToAll 44 = .ok (.aload_n 0, 1) := by decide +kernel
theorem d_Mod_leadsToAll_45 : decode c_Mod_leadsToAll 45 = .ok (.getfield 23, 3) := by decide +kernel
theorem d_Mod_leadsToAll_48 : decode c_Mod_leadsToAll 48 = .ok (.iload_n 2, 1) := by decide +kernel
theorem d_Mod_leadsToAll_49 : decode c_Mod_leadsToAll 49 = .ok (.iaload, 1) := by decide +kernel
theorem d_Mod_leadsToAll_50 : decode c_Mod_leadsToAll 50 = .ok (.istore_n 3, 1) := by decide +kernel
theorem d_Mod_leadsToAll_51 : decode c_Mod_leadsToAll 51 = .ok (.iconst 0, 1) := by decide +kernel
theorem d_Mod_leadsToAll_52 : decode c_Mod_leadsToAll 52 = .ok (.istore 4, 2) := by decide +kernel
theorem d_Mod_leadsToAll_54 : decode c_Mod_leadsToAll 54 = .ok (.iload 4, 2) := by decide +kernel
theorem d_Mod_leadsToAll_56 : decode c_Mod_leadsToAll 56 = .ok (.iconst 4, 1) := by decide +kernel
theorem d_Mod_leadsToAll_57 : decode c_Mod_leadsToAll 57 = .ok (.if_icmp .ge 78, 3) := by decide +kernel
theorem d_Mod_leadsToAll_60 : decode c_Mod_leadsToAll 60 = .ok (.iload_n 3, 1) := by decide +kernel
theorem d_Mod_leadsToAll_61 : decode c_Mod_leadsToAll 61 = .ok (.iload 4, 2) := by decide +kernel
theorem d_Mod_leadsToAll_63 : decode c_Mod_leadsToAll 63 = .ok (.invokestatic 108, 3) := by decide +kernel
theorem d_Mod_leadsToAll_66 : decode c_Mod_leadsToAll 66 = .ok (.istore 5, 2) := by decide +kernel
theorem d_Mod_leadsToAll_68 : decode c_Mod_leadsToAll 68 = .ok (.iload 5, 2) := by decide +kernel
theorem d_Mod_leadsToAll_70 : decode c_Mod_leadsToAll 70 = .ok (.ifCond .lt 59, 3) := by decide +kernel
theorem d_Mod_leadsToAll_73 : decode c_Mod_leadsToAll 73 = .ok (.aload_n 0, 1) := by decide +kernel
theorem d_Mod_leadsToAll_74 : decode c_Mod_leadsToAll 74 = .ok (.getfield 7, 3) := by decide +kernel
theorem d_Mod_leadsToAll_77 : decode c_Mod_leadsToAll 77 = .ok (.iload 5, 2) := by decide +kernel
theorem d_Mod_leadsToAll_79 : decode c_Mod_leadsToAll 79 = .ok (.iaload, 1) := by decide +kernel
theorem d_Mod_leadsToAll_80 : decode c_Mod_leadsToAll 80 = .ok (.ifCond .eq 49, 3) := by decide +kernel
theorem d_Mod_leadsToAll_83 : decode c_Mod_leadsToAll 83 = .ok (.aload_n 0, 1) := by decide +kernel
theorem d_Mod_leadsToAll_84 : decode c_Mod_leadsToAll 84 = .ok (.getfield 19, 3) := by decide +kernel
theorem d_Mod_leadsToAll_87 : decode c_Mod_leadsToAll 87 = .ok (.iload 5, 2) := by decide +kernel
theorem d_Mod_leadsToAll_89 : decode c_Mod_leadsToAll 89 = .ok (.baload, 1) := by decide +kernel
theorem d_Mod_leadsToAll_90 : decode c_Mod_leadsToAll 90 = .ok (.ifCond .eq 6, 3) := by decide +kernel
theorem d_Mod_leadsToAll_93 : decode c_Mod_leadsToAll 93 = .ok (.goto 36, 3) := by decide +kernel
theorem d_Mod_leadsToAll_96 : decode c_Mod_leadsToAll 96 = .ok (.aload_n 0, 1) := by decide +kernel
theorem d_Mod_leadsToAll_97 : decode c_Mod_leadsToAll 97 = .ok (.getfield 19, 3) := by decide +kernel
theorem d_Mod_leadsToAll_100 : decode c_Mod_leadsToAll 100 = .ok (.iload 5, 2) := by decide +kernel
theorem d_Mod_leadsToAll_102 : decode c_Mod_leadsToAll 102 = .ok (.iconst 1, 1) := by decide +kernel
theorem d_Mod_leadsToAll_103 : decode c_Mod_leadsToAll 103 = .ok (.bastore, 1) := by decide +kernel
theorem d_Mod_leadsToAll_104 : decode c_Mod_leadsToAll 104 = .ok (.aload_n 0, 1) := by decide +kernel
theorem d_Mod_leadsToAll_105 : decode c_Mod_leadsToAll 105 = .ok (.getfield 7, 3) := by decide +kernel
theorem d_Mod_leadsToAll_108 : decode c_Mod_leadsToAll 108 = .ok (.iload 5, 2) := by decide +kernel
theorem d_Mod_leadsToAll_110 : decode c_Mod_leadsToAll 110 = .ok (.iaload, 1) := by decide +kernel
theorem d_Mod_leadsToAll_111 : decode c_Mod_leadsToAll 111 = .ok (.iconst 1, 1) := by decide +kernel
theorem d_Mod_leadsToAll_112 : decode c_Mod_leadsToAll 112 = .ok (.if_icmp .eq 6, 3) := by decide +kernel
theorem d_Mod_leadsToAll_115 : decode c_Mod_leadsToAll 115 = .ok (.goto 14, 3) := by decide +kernel
theorem d_Mod_leadsToAll_118 : decode c_Mod_leadsToAll 118 = .ok (.aload_n 0, 1) := by decide +kernel
theorem d_Mod_leadsToAll_119 : decode c_Mod_leadsToAll 119 = .ok (.getfield 23, 3) := by decide +kernel
theorem d_Mod_leadsToAll_122 : decode c_Mod_leadsToAll 122 = .ok (.iload_n 2, 1) := by decide +kernel
theorem d_Mod_leadsToAll_123 : decode c_Mod_leadsToAll 123 = .ok (.iload 5, 2) := by decide +kernel
theorem d_Mod_leadsToAll_125 : decode c_Mod_leadsToAll 125 = .ok (.iastore, 1) := by decide +kernel
theorem d_Mod_leadsToAll_126 : decode c_Mod_leadsToAll 126 = .ok (.iinc 2 1, 3) := by decide +kernel
theorem d_Mod_leadsToAll_129 : decode c_Mod_leadsToAll 129 = .ok (.iinc 4 1, 3) := by decide +kernel
theorem d_Mod_leadsToAll_132 : decode c_Mod_leadsToAll 132 = .ok (.goto (-78), 3) := by decide +kernel
theorem d_Mod_leadsToAll_135 : decode c_Mod_leadsToAll 135 = .ok (.goto (-98), 3) := by decide +kernel
theorem d_Mod_leadsToAll_138 : decode c_Mod_leadsToAll 138 = .ok (.iconst 1, 1) := by decide +kernel
theorem d_Mod_leadsToAll_139 : decode c_Mod_leadsToAll 139 = .ok (.istore_n 3, 1) := by decide +kernel
theorem d_Mod_leadsToAll_140 : decode c_Mod_leadsToAll 140 = .ok (.iconst 0, 1) := by decide +kernel
theorem d_Mod_leadsToAll_141 : decode c_Mod_leadsToAll 141 = .ok (.istore 4, 2) := by decide +kernel
theorem d_Mod_leadsToAll_143 : decode c_Mod_leadsToAll 143 = .ok (.iload 4, 2) := by decide +kernel
theorem d_Mod_leadsToAll_145 : decode c_Mod_leadsToAll 145 = .ok (.bipush 96, 2) := by decide +kernel
theorem d_Mod_leadsToAll_147 : decode c_Mod_leadsToAll 147 = .ok (.if_icmp .ge 40, 3) := by decide +kernel
theorem d_Mod_leadsToAll_150 : decode c_Mod_leadsToAll 150 = .ok (.iload_n 3, 1) := by decide +kernel
theorem d_Mod_leadsToAll_151 : decode c_Mod_leadsToAll 151 = .ok (.ifCond .eq 28, 3) := by decide +kernel
theorem d_Mod_leadsToAll_154 : decode c_Mod_leadsToAll 154 = .ok (.aload_n 0, 1) := by decide +kernel
theorem d_Mod_leadsToAll_155 : decode c_Mod_leadsToAll 155 = .ok (.getfield 7, 3) := by decide +kernel
theorem d_Mod_leadsToAll_158 : decode c_Mod_leadsToAll 158 = .ok (.iload 4, 2) := by decide +kernel
theorem d_Mod_leadsToAll_160 : decode c_Mod_leadsToAll 160 = .ok (.iaload, 1) := by decide +kernel
theorem d_Mod_leadsToAll_161 : decode c_Mod_leadsToAll 161 = .ok (.iconst 2, 1) := by decide +kernel
theorem d_Mod_leadsToAll_162 : decode c_Mod_leadsToAll 162 = .ok (.if_icmp .lt 13, 3) := by decide +kernel
theorem d_Mod_leadsToAll_165 : decode c_Mod_leadsToAll 165 = .ok (.aload_n 0, 1) := by decide +kernel
theorem d_Mod_leadsToAll_166 : decode c_Mod_leadsToAll 166 = .ok (.getfield 19, 3) := by decide +kernel
theorem d_Mod_leadsToAll_169 : decode c_Mod_leadsToAll 169 = .ok (.iload 4, 2) := by decide +kernel
theorem d_Mod_leadsToAll_171 : decode c_Mod_leadsToAll 171 = .ok (.baload, 1) := by decide +kernel
theorem d_Mod_leadsToAll_172 : decode c_Mod_leadsToAll 172 = .ok (.ifCond .eq 7, 3) := by decide +kernel
theorem d_Mod_leadsToAll_175 : decode c_Mod_leadsToAll 175 = .ok (.iconst 1, 1) := by decide +kernel
theorem d_Mod_leadsToAll_176 : decode c_Mod_leadsToAll 176 = .ok (.goto 4, 3) := by decide +kernel
theorem d_Mod_leadsToAll_179 : decode c_Mod_leadsToAll 179 = .ok (.iconst 0, 1) := by decide +kernel
theorem d_Mod_leadsToAll_180 : decode c_Mod_leadsToAll 180 = .ok (.istore_n 3, 1) := by decide +kernel
theorem d_Mod_leadsToAll_181 : decode c_Mod_leadsToAll 181 = .ok (.iinc 4 1, 3) := by decide +kernel
theorem d_Mod_leadsToAll_184 : decode c_Mod_leadsToAll 184 = .ok (.goto (-41), 3) := by decide +kernel
theorem d_Mod_leadsToAll_187 : decode c_Mod_leadsToAll 187 = .ok (.iload_n 3, 1) := by decide +kernel
theorem d_Mod_leadsToAll_188 : decode c_Mod_leadsToAll 188 = .ok (.ireturn, 1) := by decide +kernel
abbrev c_Mod_isGood : ByteArray := prog_11_method_8_code
abbrev y_Mod_isGood : MethodName := ⟨"FleetFloorModel", "isGood", "()Z"⟩
theorem d_Mod_isGood_0 : decode c_Mod_isGood 0 = .ok (.iconst 0, 1) := by decide +kernel
theorem d_Mod_isGood_1 : decode c_Mod_isGood 1 = .ok (.istore_n 1, 1) := by decide +kernel
theorem d_Mod_isGood_2 : decode c_Mod_isGood 2 = .ok (.iconst 0, 1) := by decide +kernel
theorem d_Mod_isGood_3 : decode c_Mod_isGood 3 = .ok (.istore_n 2, 1) := by decide +kernel
theorem d_Mod_isGood_4 : decode c_Mod_isGood 4 = .ok (.iconst 0, 1) := by decide +kernel
theorem d_Mod_isGood_5 : decode c_Mod_isGood 5 = .ok (.istore_n 3, 1) := by decide +kernel
theorem d_Mod_isGood_6 : decode c_Mod_isGood 6 = .ok (.iload_n 3, 1) := by decide +kernel
theorem d_Mod_isGood_7 : decode c_Mod_isGood 7 = .ok (.bipush 96, 2) := by decide +kernel
theorem d_Mod_isGood_9 : decode c_Mod_isGood 9 = .ok (.if_icmp .ge 45, 3) := by decide +kernel
theorem d_Mod_isGood_12 : decode c_Mod_isGood 12 = .ok (.iload_n 1, 1) := by decide +kernel
theorem d_Mod_isGood_13 : decode c_Mod_isGood 13 = .ok (.aload_n 0, 1) := by decide +kernel
theorem d_Mod_isGood_14 : decode c_Mod_isGood 14 = .ok (.getfield 7, 3) := by decide +kernel
theorem d_Mod_isGood_17 : decode c_Mod_isGood 17 = .ok (.iload_n 3, 1) := by decide +kernel
theorem d_Mod_isGood_18 : decode c_Mod_isGood 18 = .ok (.iaload, 1) := by decide +kernel
theorem d_Mod_isGood_19 : decode c_Mod_isGood 19 = .ok (.iconst 2, 1) := by decide +kernel
theorem d_Mod_isGood_20 : decode c_Mod_isGood 20 = .ok (.if_icmp .ne 7, 3) := by decide +kernel
theorem d_Mod_isGood_23 : decode c_Mod_isGood 23 = .ok (.iconst 1, 1) := by decide +kernel
theorem d_Mod_isGood_24 : decode c_Mod_isGood 24 = .ok (.goto 4, 3) := by decide +kernel
theorem d_Mod_isGood_27 : decode c_Mod_isGood 27 = .ok (.iconst 0, 1) := by decide +kernel
theorem d_Mod_isGood_28 : decode c_Mod_isGood 28 = .ok (.iadd, 1) := by decide +kernel
theorem d_Mod_isGood_29 : decode c_Mod_isGood 29 = .ok (.istore_n 1, 1) := by decide +kernel
theorem d_Mod_isGood_30 : decode c_Mod_isGood 30 = .ok (.iload_n 2, 1) := by decide +kernel
theorem d_Mod_isGood_31 : decode c_Mod_isGood 31 = .ok (.aload_n 0, 1) := by decide +kernel
theorem d_Mod_isGood_32 : decode c_Mod_isGood 32 = .ok (.getfield 7, 3) := by decide +kernel
theorem d_Mod_isGood_35 : decode c_Mod_isGood 35 = .ok (.iload_n 3, 1) := by decide +kernel
theorem d_Mod_isGood_36 : decode c_Mod_isGood 36 = .ok (.iaload, 1) := by decide +kernel
theorem d_Mod_isGood_37 : decode c_Mod_isGood 37 = .ok (.iconst 3, 1) := by decide +kernel
theorem d_Mod_isGood_38 : decode c_Mod_isGood 38 = .ok (.if_icmp .ne 7, 3) := by decide +kernel
theorem d_Mod_isGood_41 : decode c_Mod_isGood 41 = .ok (.iconst 1, 1) := by decide +kernel
theorem d_Mod_isGood_42 : decode c_Mod_isGood 42 = .ok (.goto 4, 3) := by decide +kernel
theorem d_Mod_isGood_45 : decode c_Mod_isGood 45 = .ok (.iconst 0, 1) := by decide +kernel
theorem d_Mod_isGood_46 : decode c_Mod_isGood 46 = .ok (.iadd, 1) := by decide +kernel
theorem d_Mod_isGood_47 : decode c_Mod_isGood 47 = .ok (.istore_n 2, 1) := by decide +kernel
theorem d_Mod_isGood_48 : decode c_Mod_isGood 48 = .ok (.iinc 3 1, 3) := by decide +kernel
theorem d_Mod_isGood_51 : decode c_Mod_isGood 51 = .ok (.goto (-45), 3) := by decide +kernel
theorem d_Mod_isGood_54 : decode c_Mod_isGood 54 = .ok (.iload_n 2, 1) := by decide +kernel
theorem d_Mod_isGood_55 : decode c_Mod_isGood 55 = .ok (.iconst 1, 1) := by decide +kernel
theorem d_Mod_isGood_56 : decode c_Mod_isGood 56 = .ok (.bipush 6, 2) := by decide +kernel
theorem d_Mod_isGood_58 : decode c_Mod_isGood 58 = .ok (.invokestatic 104, 3) := by decide +kernel
theorem d_Mod_isGood_61 : decode c_Mod_isGood 61 = .ok (.ifCond .eq 17, 3) := by decide +kernel
theorem d_Mod_isGood_64 : decode c_Mod_isGood 64 = .ok (.iload_n 1, 1) := by decide +kernel
theorem d_Mod_isGood_65 : decode c_Mod_isGood 65 = .ok (.iconst 2, 1) := by decide +kernel
theorem d_Mod_isGood_66 : decode c_Mod_isGood 66 = .ok (.bipush 16, 2) := by decide +kernel
theorem d_Mod_isGood_68 : decode c_Mod_isGood 68 = .ok (.invokestatic 104, 3) := by decide +kernel
theorem d_Mod_isGood_71 : decode c_Mod_isGood 71 = .ok (.ifCond .eq 7, 3) := by decide +kernel
theorem d_Mod_isGood_74 : decode c_Mod_isGood 74 = .ok (.iconst 1, 1) := by decide +kernel
theorem d_Mod_isGood_75 : decode c_Mod_isGood 75 = .ok (.goto 4, 3) := by decide +kernel
theorem d_Mod_isGood_78 : decode c_Mod_isGood 78 = .ok (.iconst 0, 1) := by decide +kernel
theorem d_Mod_isGood_79 : decode c_Mod_isGood 79 = .ok (.istore_n 3, 1) := by decide +kernel
theorem d_Mod_isGood_80 : decode c_Mod_isGood 80 = .ok (.iconst 0, 1) := by decide +kernel
theorem d_Mod_isGood_81 : decode c_Mod_isGood 81 = .ok (.istore 4, 2) := by decide +kernel
theorem d_Mod_isGood_83 : decode c_Mod_isGood 83 = .ok (.iload 4, 2) := by decide +kernel
theorem d_Mod_isGood_85 : decode c_Mod_isGood 85 = .ok (.bipush 96, 2) := by decide +kernel
theorem d_Mod_isGood_87 : decode c_Mod_isGood 87 = .ok (.if_icmp .ge 39, 3) := by decide +kernel
theorem d_Mod_isGood_90 : decode c_Mod_isGood 90 = .ok (.iload_n 3, 1) := by decide +kernel
theorem d_Mod_isGood_91 : decode c_Mod_isGood 91 = .ok (.ifCond .eq 35, 3) := by decide +kernel
theorem d_Mod_isGood_94 : decode c_Mod_isGood 94 = .ok (.aload_n 0, 1) := by decide +kernel
theorem d_Mod_isGood_95 : decode c_Mod_isGood 95 = .ok (.getfield 7, 3) := by decide +kernel
theorem d_Mod_isGood_98 : decode c_Mod_isGood 98 = .ok (.iload 4, 2) := by decide +kernel
theorem d_Mod_isGood_100 : decode c_Mod_isGood 100 = .ok (.iaload, 1) := by decide +kernel
theorem d_Mod_isGood_101 : decode c_Mod_isGood 101 = .ok (.iconst 2, 1) := by decide +kernel
theorem d_Mod_isGood_102 : decode c_Mod_isGood 102 = .ok (.if_icmp .lt 12, 3) := by decide +kernel
theorem d_Mod_isGood_105 : decode c_Mod_isGood 105 = .ok (.aload_n 0, 1) := by decide +kernel
theorem d_Mod_isGood_106 : decode c_Mod_isGood 106 = .ok (.iload 4, 2) := by decide +kernel
theorem d_Mod_isGood_108 : decode c_Mod_isGood 108 = .ok (.invokevirtual 112, 3) := by decide +kernel
theorem d_Mod_isGood_111 : decode c_Mod_isGood 111 = .ok (.ifCond .eq 7, 3) := by decide +kernel
theorem d_Mod_isGood_114 : decode c_Mod_isGood 114 = .ok (.iconst 1, 1) := by decide +kernel
theorem d_Mod_isGood_115 : decode c_Mod_isGood 115 = .ok (.goto 4, 3) := by decide +kernel
theorem d_Mod_isGood_118 : decode c_Mod_isGood 118 = .ok (.iconst 0, 1) := by decide +kernel
theorem d_Mod_isGood_119 : decode c_Mod_isGood 119 = .ok (.istore_n 3, 1) := by decide +kernel
theorem d_Mod_isGood_120 : decode c_Mod_isGood 120 = .ok (.iinc 4 1, 3) := by decide +kernel
theorem d_Mod_isGood_123 : decode c_Mod_isGood 123 = .ok (.goto (-40), 3) := by decide +kernel
theorem d_Mod_isGood_126 : decode c_Mod_isGood 126 = .ok (.iload_n 3, 1) := by decide +kernel
theorem d_Mod_isGood_127 : decode c_Mod_isGood 127 = .ok (.ireturn, 1) := by decide +kernel
abbrev c_Mod_open : ByteArray := prog_11_method_9_code
abbrev y_Mod_open : MethodName := ⟨"FleetFloorModel", "open", "()I"⟩
theorem d_Mod_open_0 : decode c_Mod_open 0 = .ok (.aload_n 0, 1) := by decide +kernel
theorem d_Mod_open_1 : decode c_Mod_open 1 = .ok (.aload_n 0, 1) := by decide +kernel
theorem d_Mod_open_2 : decode c_Mod_open 2 = .ok (.invokevirtual 116, 3) := by decide +kernel
theorem d_Mod_open_5 : decode c_Mod_open 5 = .ok (.ifCond .ne 7, 3) := by decide +kernel
theorem d_Mod_open_8 : decode c_Mod_open 8 = .ok (.iconst 1, 1) := by decide +kernel
theorem d_Mod_open_9 : decode c_Mod_open 9 = .ok (.goto 4, 3) := by decide +kernel
theorem d_Mod_open_12 : decode c_Mod_open 12 = .ok (.iconst 0, 1) := by decide +kernel
theorem d_Mod_open_13 : decode c_Mod_open 13 = .ok (.aload_n 0, 1) := by decide +kernel
theorem d_Mod_open_14 : decode c_Mod_open 14 = .ok (.getfield 100, 3) := by decide +kernel
theorem d_Mod_open_17 : decode c_Mod_open 17 = .ok (.invokevirtual 120, 3) := by decide +kernel
theorem d_Mod_open_20 : decode c_Mod_open 20 = .ok (.ifCond .eq 5, 3) := by decide +kernel
theorem d_Mod_open_23 : decode c_Mod_open 23 = .ok (.iconst 0, 1) := by decide +kernel
theorem d_Mod_open_24 : decode c_Mod_open 24 = .ok (.ireturn, 1) := by decide +kernel
theorem d_Mod_open_25 : decode c_Mod_open 25 = .ok (.aload_n 0, 1) := by decide +kernel
theorem d_Mod_open_26 : decode c_Mod_open 26 = .ok (.iconst 1, 1) := by decide +kernel
theorem d_Mod_open_27 : decode c_Mod_open 27 = .ok (.putfield 100, 3) := by decide +kernel
theorem d_Mod_open_30 : decode c_Mod_open 30 = .ok (.iconst 0, 1) := by decide +kernel
theorem d_Mod_open_31 : decode c_Mod_open 31 = .ok (.istore_n 1, 1) := by decide +kernel
theorem d_Mod_open_32 : decode c_Mod_open 32 = .ok (.iload_n 1, 1) := by decide +kernel
theorem d_Mod_open_33 : decode c_Mod_open 33 = .ok (.bipush 96, 2) := by decide +kernel
theorem d_Mod_open_35 : decode c_Mod_open 35 = .ok (.if_icmp .ge 89, 3) := by decide +kernel
theorem d_Mod_open_38 : decode c_Mod_open 38 = .ok (.aload_n 0, 1) := by decide +kernel
theorem d_Mod_open_39 : decode c_Mod_open 39 = .ok (.getfield 7, 3) := by decide +kernel
theorem d_Mod_open_42 : decode c_Mod_open 42 = .ok (.iload_n 1, 1) := by decide +kernel
theorem d_Mod_open_43 : decode c_Mod_open 43 = .ok (.iaload, 1) := by decide +kernel
theorem d_Mod_open_44 : decode c_Mod_open 44 = .ok (.iconst 2, 1) := by decide +kernel
theorem d_Mod_open_45 : decode c_Mod_open 45 = .ok (.if_icmp .ne 23, 3) := by decide +kernel
theorem d_Mod_open_48 : decode c_Mod_open 48 = .ok (.aload_n 0, 1) := by decide +kernel
theorem d_Mod_open_49 : decode c_Mod_open 49 = .ok (.getfield 13, 3) := by decide +kernel
theorem d_Mod_open_52 : decode c_Mod_open 52 = .ok (.aload_n 0, 1) := by decide +kernel
theorem d_Mod_open_53 : decode c_Mod_open 53 = .ok (.getfield 124, 3) := by decide +kernel
theorem d_Mod_open_56 : decode c_Mod_open 56 = .ok (.iload_n 1, 1) := by decide +kernel
theorem d_Mod_open_57 : decode c_Mod_open 57 = .ok (.iastore, 1) := by decide +kernel
theorem d_Mod_open_58 : decode c_Mod_open 58 = .ok (.aload_n 0, 1) := by decide +kernel
theorem d_Mod_open_59 : decode c_Mod_open 59 = .ok (.dup, 1) := by decide +kernel
theorem d_Mod_open_60 : decode c_Mod_open 60 = .ok (.getfield 124, 3) := by decide +kernel
theorem d_Mod_open_63 : decode c_Mod_open 63 = .ok (.iconst 1, 1) := by decide +kernel
theorem d_Mod_open_64 : decode c_Mod_open 64 = .ok (.iadd, 1) := by decide +kernel
theorem d_Mod_open_65 : decode c_Mod_open 65 = .ok (.putfield 124, 3) := by decide +kernel
theorem d_Mod_open_68 : decode c_Mod_open 68 = .ok (.aload_n 0, 1) := by decide +kernel
theorem d_Mod_open_69 : decode c_Mod_open 69 = .ok (.getfield 7, 3) := by decide +kernel
theorem d_Mod_open_72 : decode c_Mod_open 72 = .ok (.iload_n 1, 1) := by decide +kernel
theorem d_Mod_open_73 : decode c_Mod_open 73 = .ok (.iaload, 1) := by decide +kernel
theorem d_Mod_open_74 : decode c_Mod_open 74 = .ok (.iconst 3, 1) := by decide +kernel
theorem d_Mod_open_75 : decode c_Mod_open 75 = .ok (.if_icmp .ne 43, 3) := by decide +kernel
theorem d_Mod_open_78 : decode c_Mod_open 78 = .ok (.aload_n 0, 1) := by decide +kernel
theorem d_Mod_open_79 : decode c_Mod_open 79 = .ok (.getfield 16, 3) := by decide +kernel
theorem d_Mod_open_82 : decode c_Mod_open 82 = .ok (.aload_n 0, 1) := by decide +kernel
theorem d_Mod_open_83 : decode c_Mod_open 83 = .ok (.getfield 127, 3) := by decide +kernel
theorem d_Mod_open_86 : decode c_Mod_open 86 = .ok (.iload_n 1, 1) := by decide +kernel
theorem d_Mod_open_87 : decode c_Mod_open 87 = .ok (.iastore, 1) := by decide +kernel
theorem d_Mod_open_88 : decode c_Mod_open 88 = .ok (.aload_n 0, 1) := by decide +kernel
theorem d_Mod_open_89 : decode c_Mod_open 89 = .ok (.getfield 56, 3) := by decide +kernel
theorem d_Mod_open_92 : decode c_Mod_open 92 = .ok (.aload_n 0, 1) := by decide +kernel
theorem d_Mod_open_93 : decode c_Mod_open 93 = .ok (.getfield 127, 3) := by decide +kernel
theorem d_Mod_open_96 : decode c_Mod_open 96 = .ok (.iload_n 1, 1) := by decide +kernel
theorem d_Mod_open_97 : decode c_Mod_open 97 = .ok (.iastore, 1) := by decide +kernel
theorem d_Mod_open_98 : decode c_Mod_open 98 = .ok (.aload_n 0, 1) := by decide +kernel
theorem d_Mod_open_99 : decode c_Mod_open 99 = .ok (.getfield 74, 3) := by decide +kernel
theorem d_Mod_open_102 : decode c_Mod_open 102 = .ok (.aload_n 0, 1) := by decide +kernel
theorem d_Mod_open_103 : decode c_Mod_open 103 = .ok (.getfield 127, 3) := by decide +kernel
theorem d_Mod_open_106 : decode c_Mod_open 106 = .ok (.iconst (-1), 1) := by decide +kernel
theorem d_Mod_open_107 : decode c_Mod_open 107 = .ok (.iastore, 1) := by decide +kernel
theorem d_Mod_open_108 : decode c_Mod_open 108 = .ok (.aload_n 0, 1) := by decide +kernel
theorem d_Mod_open_109 : decode c_Mod_open 109 = .ok (.dup, 1) := by decide +kernel
theorem d_Mod_open_110 : decode c_Mod_open 110 = .ok (.getfield 127, 3) := by decide +kernel
theorem d_Mod_open_113 : decode c_Mod_open 113 = .ok (.iconst 1, 1) := by decide +kernel
theorem d_Mod_open_114 : decode c_Mod_open 114 = .ok (.iadd, 1) := by decide +kernel
theorem d_Mod_open_115 : decode c_Mod_open 115 = .ok (.putfield 127, 3) := by decide +kernel
theorem d_Mod_open_118 : decode c_Mod_open 118 = .ok (.iinc 1 1, 3) := by decide +kernel
theorem d_Mod_open_121 : decode c_Mod_open 121 = .ok (.goto (-89), 3) := by decide +kernel
theorem d_Mod_open_124 : decode c_Mod_open 124 = .ok (.aload_n 0, 1) := by decide +kernel
theorem d_Mod_open_125 : decode c_Mod_open 125 = .ok (.getfield 127, 3) := by decide +kernel
theorem d_Mod_open_128 : decode c_Mod_open 128 = .ok (.ireturn, 1) := by decide +kernel
abbrev c_Mod_task : ByteArray := prog_11_method_10_code
abbrev y_Mod_task : MethodName := ⟨"FleetFloorModel", "task", "(II)I"⟩
theorem d_Mod_task_0 : decode c_Mod_task 0 = .ok (.aload_n 0, 1) := by decide +kernel
theorem d_Mod_task_1 : decode c_Mod_task 1 = .ok (.aload_n 0, 1) := by decide +kernel
theorem d_Mod_task_2 : decode c_Mod_task 2 = .ok (.getfield 100, 3) := by decide +kernel
theorem d_Mod_task_5 : decode c_Mod_task 5 = .ok (.ifCond .eq 12, 3) := by decide +kernel
theorem d_Mod_task_8 : decode c_Mod_task 8 = .ok (.aload_n 0, 1) := by decide +kernel
theorem d_Mod_task_9 : decode c_Mod_task 9 = .ok (.getfield 130, 3) := by decide +kernel
theorem d_Mod_task_12 : decode c_Mod_task 12 = .ok (.bipush 24, 2) := by decide +kernel
theorem d_Mod_task_14 : decode c_Mod_task 14 = .ok (.if_icmp .ne 7, 3) := by decide +kernel
theorem d_Mod_task_17 : decode c_Mod_task 17 = .ok (.iconst 1, 1) := by decide +kernel
theorem d_Mod_task_18 : decode c_Mod_task 18 = .ok (.goto 4, 3) := by decide +kernel
theorem d_Mod_task_21 : decode c_Mod_task 21 = .ok (.iconst 0, 1) := by decide +kernel
theorem d_Mod_task_22 : decode c_Mod_task 22 = .ok (.iload_n 1, 1) := by decide +kernel
theorem d_Mod_task_23 : decode c_Mod_task 23 = .ok (.iconst 0, 1) := by decide +kernel
theorem d_Mod_task_24 : decode c_Mod_task 24 = .ok (.aload_n 0, 1) := by decide +kernel
theorem d_Mod_task_25 : decode c_Mod_task 25 = .ok (.getfield 124, 3) := by decide +kernel
theorem d_Mod_task_28 : decode c_Mod_task 28 = .ok (.iconst 1, 1) := by decide +kernel
theorem d_Mod_task_29 : decode c_Mod_task 29 = .ok (.isub, 1) := by decide +kernel
theorem d_Mod_task_30 : decode c_Mod_task 30 = .ok (.invokestatic 104, 3) := by decide +kernel
theorem d_Mod_task_33 : decode c_Mod_task 33 = .ok (.ifCond .eq 17, 3) := by decide +kernel
theorem d_Mod_task_36 : decode c_Mod_task 36 = .ok (.iload_n 2, 1) := by decide +kernel
theorem d_Mod_task_37 : decode c_Mod_task 37 = .ok (.iconst 0, 1) := by decide +kernel
theorem d_Mod_task_38 : decode c_Mod_task 38 = .ok (.aload_n 0, 1) := by decide +kernel
theorem d_Mod_task_39 : decode c_Mod_task 39 = .ok (.getfield 124, 3) := by decide +kernel
theorem d_Mod_task_42 : decode c_Mod_task 42 = .ok (.iconst 1, 1) := by decide +kernel
theorem d_Mod_task_43 : decode c_Mod_task 43 = .ok (.isub, 1) := by decide +kernel
theorem d_Mod_task_44 : decode c_Mod_task 44 = .ok (.invokestatic 104, 3) := by decide +kernel
theorem d_Mod_task_47 : decode c_Mod_task 47 = .ok (.ifCond .ne 7, 3) := by decide +kernel
theorem d_Mod_task_50 : decode c_Mod_task 50 = .ok (.iconst 1, 1) := by decide +kernel
theorem d_Mod_task_51 : decode c_Mod_task 51 = .ok (.goto 4, 3) := by decide +kernel
theorem d_Mod_task_54 : decode c_Mod_task 54 = .ok (.iconst 0, 1) := by decide +kernel
theorem d_Mod_task_55 : decode c_Mod_task 55 = .ok (.invokevirtual 120, 3) := by decide +kernel
theorem d_Mod_task_58 : decode c_Mod_task 58 = .ok (.ifCond .eq 5, 3) := by decide +kernel
theorem d_Mod_task_61 : decode c_Mod_task 61 = .ok (.iconst 0, 1) := by decide +kernel
theorem d_Mod_task_62 : decode c_Mod_task 62 = .ok (.ireturn, 1) := by decide +kernel
theorem d_Mod_task_63 : decode c_Mod_task 63 = .ok (.aload_n 0, 1) := by decide +kernel
theorem d_Mod_task_64 : decode c_Mod_task 64 = .ok (.getfield 26, 3) := by decide +kernel
theorem d_Mod_task_67 : decode c_Mod_task 67 = .ok (.aload_n 0, 1) := by decide +kernel
theorem d_Mod_task_68 : decode c_Mod_task 68 = .ok (.getfield 130, 3) := by decide +kernel
theorem d_Mod_task_71 : decode c_Mod_task 71 = .ok (.aload_n 0, 1) := by decide +kernel
theorem d_Mod_task_72 : decode c_Mod_task 72 = .ok (.getfield 13, 3) := by decide +kernel
theorem d_Mod_task_75 : decode c_Mod_task 75 = .ok (.iload_n 1, 1) := by decide +kernel
theorem d_Mod_task_76 : decode c_Mod_task 76 = .ok (.iaload, 1) := by decide +kernel
theorem d_Mod_task_77 : decode c_Mod_task 77 = .ok (.iastore, 1) := by decide +kernel
theorem d_Mod_task_78 : decode c_Mod_task 78 = .ok (.aload_n 0, 1) := by decide +kernel
theorem d_Mod_task_79 : decode c_Mod_task 79 = .ok (.getfield 29, 3) := by decide +kernel
theorem d_Mod_task_82 : decode c_Mod_task 82 = .ok (.aload_n 0, 1) := by decide +kernel
theorem d_Mod_task_83 : decode c_Mod_task 83 = .ok (.getfield 130, 3) := by decide +kernel
theorem d_Mod_task_86 : decode c_Mod_task 86 = .ok (.aload_n 0, 1) := by decide +kernel
theorem d_Mod_task_87 : decode c_Mod_task 87 = .ok (.getfield 13, 3) := by decide +kernel
theorem d_Mod_task_90 : decode c_Mod_task 90 = .ok (.iload_n 2, 1) := by decide +kernel
theorem d_Mod_task_91 : decode c_Mod_task 91 = .ok (.iaload, 1) := by decide +kernel
theorem d_Mod_task_92 : decode c_Mod_task 92 = .ok (.iastore, 1) := by decide +kernel
theorem d_Mod_task_93 : decode c_Mod_task 93 = .ok (.aload_n 0, 1) := by decide +kernel
theorem d_Mod_task_94 : decode c_Mod_task 94 = .ok (.getfield 32, 3) := by decide +kernel
theorem d_Mod_task_97 : decode c_Mod_task 97 = .ok (.aload_n 0, 1) := by decide +kernel
theorem d_Mod_task_98 : decode c_Mod_task 98 = .ok (.getfield 130, 3) := by decide +kernel
theorem d_Mod_task_101 : decode c_Mod_task 101 = .ok (.iconst (-1), 1) := by decide +kernel
theorem d_Mod_task_102 : decode c_Mod_task 102 = .ok (.iastore, 1) := by decide +kernel
theorem d_Mod_task_103 : decode c_Mod_task 103 = .ok (.aload_n 0, 1) := by decide +kernel
theorem d_Mod_task_104 : decode c_Mod_task 104 = .ok (.getfield 47, 3) := by decide +kernel
theorem d_Mod_task_107 : decode c_Mod_task 107 = .ok (.aload_n 0, 1) := by decide +kernel
theorem d_Mod_task_108 : decode c_Mod_task 108 = .ok (.getfield 130, 3) := by decide +kernel
theorem d_Mod_task_111 : decode c_Mod_task 111 = .ok (.iconst (-1), 1) := by decide +kernel
theorem d_Mod_task_112 : decode c_Mod_task 112 = .ok (.iastore, 1) := by decide +kernel
theorem d_Mod_task_113 : decode c_Mod_task 113 = .ok (.aload_n 0, 1) := by decide +kernel
theorem d_Mod_task_114 : decode c_Mod_task 114 = .ok (.dup, 1) := by decide +kernel
theorem d_Mod_task_115 : decode c_Mod_task 115 = .ok (.getfield 130, 3) := by decide +kernel
theorem d_Mod_task_118 : decode c_Mod_task 118 = .ok (.iconst 1, 1) := by decide +kernel
theorem d_Mod_task_119 : decode c_Mod_task 119 = .ok (.iadd, 1) := by decide +kernel
theorem d_Mod_task_120 : decode c_Mod_task 120 = .ok (.putfield 130, 3) := by decide +kernel
theorem d_Mod_task_123 : decode c_Mod_task 123 = .ok (.aload_n 0, 1) := by decide +kernel
theorem d_Mod_task_124 : decode c_Mod_task 124 = .ok (.getfield 130, 3) := by decide +kernel
theorem d_Mod_task_127 : decode c_Mod_task 127 = .ok (.iconst 1, 1) := by decide +kernel
theorem d_Mod_task_128 : decode c_Mod_task 128 = .ok (.isub, 1) := by decide +kernel
theorem d_Mod_task_129 : decode c_Mod_task 129 = .ok (.ireturn, 1) := by decide +kernel
abbrev c_Mod_placeOf : ByteArray := prog_11_method_11_code
abbrev y_Mod_placeOf : MethodName := ⟨"FleetFloorModel", "placeOf", "(II)I"⟩
theorem d_Mod_placeOf_0 : decode c_Mod_placeOf 0 = .ok (.iconst 0, 1) := by decide +kernel
theorem d_Mod_placeOf_1 : decode c_Mod_placeOf 1 = .ok (.istore_n 3, 1) := by decide +kernel
theorem d_Mod_placeOf_2 : decode c_Mod_placeOf 2 = .ok (.iload_n 3, 1) := by decide +kernel
theorem d_Mod_placeOf_3 : decode c_Mod_placeOf 3 = .ok (.aload_n 0, 1) := by decide +kernel
theorem d_Mod_placeOf_4 : decode c_Mod_placeOf 4 = .ok (.getfield 133, 3) := by decide +kernel
theorem d_Mod_placeOf_7 : decode c_Mod_placeOf 7 = .ok (.if_icmp .ge 62, 3) := by decide +kernel
theorem d_Mod_placeOf_10 : decode c_Mod_placeOf 10 = .ok (.aload_n 0, 1) := by decide +kernel
theorem d_Mod_placeOf_11 : decode c_Mod_placeOf 11 = .ok (.getfield 32, 3) := by decide +kernel
theorem d_Mod_placeOf_14 : decode c_Mod_placeOf 14 = .ok (.iload_n 3, 1) := by decide +kernel
theorem d_Mod_placeOf_15 : decode c_Mod_placeOf 15 = .ok (.iaload, 1) := by decide +kernel
theorem d_Mod_placeOf_16 : decode c_Mod_placeOf 16 = .ok (.iload_n 1, 1) := by decide +kernel
theorem d_Mod_placeOf_17 : decode c_Mod_placeOf 17 = .ok (.if_icmp .ne 46, 3) := by decide +kernel
theorem d_Mod_placeOf_20 : decode c_Mod_placeOf 20 = .ok (.iload_n 2, 1) := by decide +kernel
theorem d_Mod_placeOf_21 : decode c_Mod_placeOf 21 = .ok (.aload_n 0, 1) := by decide +kernel
theorem d_Mod_placeOf_22 : decode c_Mod_placeOf 22 = .ok (.getfield 41, 3) := by decide +kernel
theorem d_Mod_placeOf_25 : decode c_Mod_placeOf 25 = .ok (.iload_n 3, 1) := by decide +kernel
theorem d_Mod_placeOf_26 : decode c_Mod_placeOf 26 = .ok (.iaload, 1) := by decide +kernel
theorem d_Mod_placeOf_27 : decode c_Mod_placeOf 27 = .ok (.if_icmp .lt 36, 3) := by decide +kernel
theorem d_Mod_placeOf_30 : decode c_Mod_placeOf 30 = .ok (.iload_n 2, 1) := by decide +kernel
theorem d_Mod_placeOf_31 : decode c_Mod_placeOf 31 = .ok (.aload_n 0, 1) := by decide +kernel
theorem d_Mod_placeOf_32 : decode c_Mod_placeOf 32 = .ok (.getfield 41, 3) := by decide +kernel
theorem d_Mod_placeOf_35 : decode c_Mod_placeOf 35 = .ok (.iload_n 3, 1) := by decide +kernel
theorem d_Mod_placeOf_36 : decode c_Mod_placeOf 36 = .ok (.iaload, 1) := by decide +kernel
theorem d_Mod_placeOf_37 : decode c_Mod_placeOf 37 = .ok (.aload_n 0, 1) := by decide +kernel
theorem d_Mod_placeOf_38 : decode c_Mod_placeOf 38 = .ok (.getfield 38, 3) := by decide +kernel
theorem d_Mod_placeOf_41 : decode c_Mod_placeOf 41 = .ok (.iload_n 3, 1) := by decide +kernel
theorem d_Mod_placeOf_42 : decode c_Mod_placeOf 42 = .ok (.iaload, 1) := by decide +kernel
theorem d_Mod_placeOf_43 : decode c_Mod_placeOf 43 = .ok (.iadd, 1) := by decide +kernel
theorem d_Mod_placeOf_44 : decode c_Mod_placeOf 44 = .ok (.if_icmp .ge 19, 3) := by decide +kernel
theorem d_Mod_placeOf_47 : decode c_Mod_placeOf 47 = .ok (.aload_n 0, 1) := by decide +kernel
theorem d_Mod_placeOf_48 : decode c_Mod_placeOf 48 = .ok (.getfield 35, 3) := by decide +kernel
theorem d_Mod_placeOf_51 : decode c_Mod_placeOf 51 = .ok (.iload_n 3, 1) := by decide +kernel
theorem d_Mod_placeOf_52 : decode c_Mod_placeOf 52 = .ok (.iaload, 1) := by decide +kernel
theorem d_Mod_placeOf_53 : decode c_Mod_placeOf 53 = .ok (.iload_n 2, 1) := by decide +kernel
theorem d_Mod_placeOf_54 : decode c_Mod_placeOf 54 = .ok (.iadd, 1) := by decide +kernel
theorem d_Mod_placeOf_55 : decode c_Mod_placeOf 55 = .ok (.aload_n 0, 1) := by decide +kernel
theorem d_Mod_placeOf_56 : decode c_Mod_placeOf 56 = .ok (.getfield 41, 3) := by decide +kernel
theorem d_Mod_placeOf_59 : decode c_Mod_placeOf 59 = .ok (.iload_n 3, 1) := by decide +kernel
theorem d_Mod_placeOf_60 : decode c_Mod_placeOf 60 = .ok (.iaload, 1) := by decide +kernel
theorem d_Mod_placeOf_61 : decode c_Mod_placeOf 61 = .ok (.isub, 1) := by decide +kernel
theorem d_Mod_placeOf_62 : decode c_Mod_placeOf 62 = .ok (.ireturn, 1) := by decide +kernel
theorem d_Mod_placeOf_63 : decode c_Mod_placeOf 63 = .ok (.iinc 3 1, 3) := by decide +kernel
theorem d_Mod_placeOf_66 : decode c_Mod_placeOf 66 = .ok (.goto (-64), 3) := by decide +kernel
theorem d_Mod_placeOf_69 : decode c_Mod_placeOf 69 = .ok (.iconst (-1), 1) := by decide +kernel
theorem d_Mod_placeOf_70 : decode c_Mod_placeOf 70 = .ok (.ireturn, 1) := by decide +kernel
abbrev c_Mod_isIn : ByteArray := prog_11_method_12_code
abbrev y_Mod_isIn : MethodName := ⟨"FleetFloorModel", "isIn", "([JII)Z"⟩
theorem d_Mod_isIn_0 : decode c_Mod_isIn 0 = .ok (.aload_n 0, 1) := by decide +kernel
theorem d_Mod_isIn_1 : decode c_Mod_isIn 1 = .ok (.iconst 2, 1) := by decide +kernel
theorem d_Mod_isIn_2 : decode c_Mod_isIn 2 = .ok (.iload_n 1, 1) := by decide +kernel
theorem d_Mod_isIn_3 : decode c_Mod_isIn 3 = .ok (.imul, 1) := by decide +kernel
theorem d_Mod_isIn_4 : decode c_Mod_isIn 4 = .ok (.iload_n 2, 1) := by decide +kernel
theorem d_Mod_isIn_5 : decode c_Mod_isIn 5 = .ok (.bipush 6, 2) := by decide +kernel
theorem d_Mod_isIn_7 : decode c_Mod_isIn 7 = .ok (.ishr, 1) := by decide +kernel
theorem d_Mod_isIn_8 : decode c_Mod_isIn 8 = .ok (.iadd, 1) := by decide +kernel
theorem d_Mod_isIn_9 : decode c_Mod_isIn 9 = .ok (.laload, 1) := by decide +kernel
theorem d_Mod_isIn_10 : decode c_Mod_isIn 10 = .ok (.iload_n 2, 1) := by decide +kernel
theorem d_Mod_isIn_11 : decode c_Mod_isIn 11 = .ok (.lshr, 1) := by decide +kernel
theorem d_Mod_isIn_12 : decode c_Mod_isIn 12 = .ok (.lconst 1, 1) := by decide +kernel
theorem d_Mod_isIn_13 : decode c_Mod_isIn 13 = .ok (.land, 1) := by decide +kernel
theorem d_Mod_isIn_14 : decode c_Mod_isIn 14 = .ok (.lconst 1, 1) := by decide +kernel
theorem d_Mod_isIn_15 : decode c_Mod_isIn 15 = .ok (.lcmp, 1) := by decide +kernel
theorem d_Mod_isIn_16 : decode c_Mod_isIn 16 = .ok (.ifCond .ne 7, 3) := by decide +kernel
theorem d_Mod_isIn_19 : decode c_Mod_isIn 19 = .ok (.iconst 1, 1) := by decide +kernel
theorem d_Mod_isIn_20 : decode c_Mod_isIn 20 = .ok (.goto 4, 3) := by decide +kernel
theorem d_Mod_isIn_23 : decode c_Mod_isIn 23 = .ok (.iconst 0, 1) := by decide +kernel
theorem d_Mod_isIn_24 : decode c_Mod_isIn 24 = .ok (.ireturn, 1) := by decide +kernel
abbrev c_Mod_add : ByteArray := prog_11_method_13_code
abbrev y_Mod_add : MethodName := ⟨"FleetFloorModel", "add", "([JII)V"⟩
theorem d_Mod_add_0 : decode c_Mod_add 0 = .ok (.aload_n 0, 1) := by decide +kernel
theorem d_Mod_add_1 : decode c_Mod_add 1 = .ok (.iconst 2, 1) := by decide +kernel
theorem d_Mod_add_2 : decode c_Mod_add 2 = .ok (.iload_n 1, 1) := by decide +kernel
theorem d_Mod_add_3 : decode c_Mod_add 3 = .ok (.imul, 1) := by decide +kernel
theorem d_Mod_add_4 : decode c_Mod_add 4 = .ok (.iload_n 2, 1) := by decide +kernel
theorem d_Mod_add_5 : decode c_Mod_add 5 = .ok (.bipush 6, 2) := by decide +kernel
theorem d_Mod_add_7 : decode c_Mod_add 7 = .ok (.ishr, 1) := by decide +kernel
theorem d_Mod_add_8 : decode c_Mod_add 8 = .ok (.iadd, 1) := by decide +kernel
theorem d_Mod_add_9 : decode c_Mod_add 9 = .ok (.dup2, 1) := by decide +kernel
theorem d_Mod_add_10 : decode c_Mod_add 10 = .ok (.laload, 1) := by decide +kernel
theorem d_Mod_add_11 : decode c_Mod_add 11 = .ok (.lconst 1, 1) := by decide +kernel
theorem d_Mod_add_12 : decode c_Mod_add 12 = .ok (.iload_n 2, 1) := by decide +kernel
theorem d_Mod_add_13 : decode c_Mod_add 13 = .ok (.lshl, 1) := by decide +kernel
theorem d_Mod_add_14 : decode c_Mod_add 14 = .ok (.lor, 1) := by decide +kernel
theorem d_Mod_add_15 : decode c_Mod_add 15 = .ok (.lastore, 1) := by decide +kernel
theorem d_Mod_add_16 : decode c_Mod_add 16 = .ok (.return_, 1) := by decide +kernel
abbrev c_Mod_forbid : ByteArray := prog_11_method_14_code
abbrev y_Mod_forbid : MethodName := ⟨"FleetFloorModel", "forbid", "(I)V"⟩
theorem d_Mod_forbid_0 : decode c_Mod_forbid 0 = .ok (.iconst 0, 1) := by decide +kernel
theorem d_Mod_forbid_1 : decode c_Mod_forbid 1 = .ok (.istore_n 2, 1) := by decide +kernel
theorem d_Mod_forbid_2 : decode c_Mod_forbid 2 = .ok (.aload_n 0, 1) := by decide +kernel
theorem d_Mod_forbid_3 : decode c_Mod_forbid 3 = .ok (.getfield 16, 3) := by decide +kernel
theorem d_Mod_forbid_6 : decode c_Mod_forbid 6 = .ok (.iload_n 1, 1) := by decide +kernel
theorem d_Mod_forbid_7 : decode c_Mod_forbid 7 = .ok (.iaload, 1) := by decide +kernel
theorem d_Mod_forbid_8 : decode c_Mod_forbid 8 = .ok (.istore_n 3, 1) := by decide +kernel
theorem d_Mod_forbid_9 : decode c_Mod_forbid 9 = .ok (.aload_n 0, 1) := by decide +kernel
theorem d_Mod_forbid_10 : decode c_Mod_forbid 10 = .ok (.getfield 136, 3) := by decide +kernel
theorem d_Mod_forbid_13 : decode c_Mod_forbid 13 = .ok (.iconst 1, 1) := by decide +kernel
theorem d_Mod_forbid_14 : decode c_Mod_forbid 14 = .ok (.isub, 1) := by decide +kernel
theorem d_Mod_forbid_15 : decode c_Mod_forbid 15 = .ok (.istore 4, 2) := by decide +kernel
theorem d_Mod_forbid_17 : decode c_Mod_forbid 17 = .ok (.iload 4, 2) := by decide +kernel
theorem d_Mod_forbid_19 : decode c_Mod_forbid 19 = .ok (.aload_n 0, 1) := by decide +kernel
theorem d_Mod_forbid_20 : decode c_Mod_forbid 20 = .ok (.getfield 136, 3) := by decide +kernel
theorem d_Mod_forbid_23 : decode c_Mod_forbid 23 = .ok (.sipush 150, 3) := by decide +kernel
theorem d_Mod_forbid_26 : decode c_Mod_forbid 26 = .ok (.iadd, 1) := by decide +kernel
theorem d_Mod_forbid_27 : decode c_Mod_forbid 27 = .ok (.iconst 1, 1) := by decide +kernel
theorem d_Mod_forbid_28 : decode c_Mod_forbid 28 = .ok (.iadd, 1) := by decide +kernel
theorem d_Mod_forbid_29 : decode c_Mod_forbid 29 = .ok (.if_icmp .gt 162, 3) := by decide +kernel
theorem d_Mod_forbid_32 : decode c_Mod_forbid 32 = .ok (.iload_n 3, 1) := by decide +kernel
theorem d_Mod_forbid_33 : decode c_Mod_forbid 33 = .ok (.istore 5, 2) := by decide +kernel
theorem d_Mod_forbid_35 : decode c_Mod_forbid 35 = .ok (.iload_n 2, 1) := by decide +kernel
theorem d_Mod_forbid_36 : decode c_Mod_forbid 36 = .ok (.aload_n 0, 1) := by decide +kernel
theorem d_Mod_forbid_37 : decode c_Mod_forbid 37 = .ok (.getfield 71, 3) := by decide +kernel
theorem d_Mod_forbid_40 : decode c_Mod_forbid 40 = .ok (.iload_n 1, 1) := by decide +kernel
theorem d_Mod_forbid_41 : decode c_Mod_forbid 41 = .ok (.iaload, 1) := by decide +kernel
theorem d_Mod_forbid_42 : decode c_Mod_forbid 42 = .ok (.if_icmp .ge 37, 3) := by decide +kernel
theorem d_Mod_forbid_45 : decode c_Mod_forbid 45 = .ok (.aload_n 0, 1) := by decide +kernel
theorem d_Mod_forbid_46 : decode c_Mod_forbid 46 = .ok (.getfield 53, 3) := by decide +kernel
theorem d_Mod_forbid_49 : decode c_Mod_forbid 49 = .ok (.aload_n 0, 1) := by decide +kernel
theorem d_Mod_forbid_50 : decode c_Mod_forbid 50 = .ok (.iload_n 1, 1) := by decide +kernel
theorem d_Mod_forbid_51 : decode c_Mod_forbid 51 = .ok (.iload_n 2, 1) := by decide +kernel
theorem d_Mod_forbid_52 : decode c_Mod_forbid 52 = .ok (.invokevirtual 139, 3) := by decide +kernel
theorem d_Mod_forbid_55 : decode c_Mod_forbid 55 = .ok (.iaload, 1) := by decide +kernel
theorem d_Mod_forbid_56 : decode c_Mod_forbid 56 = .ok (.iload 4, 2) := by decide +kernel
theorem d_Mod_forbid_58 : decode c_Mod_forbid 58 = .ok (.if_icmp .gt 21, 3) := by decide +kernel
theorem d_Mod_forbid_61 : decode c_Mod_forbid 61 = .ok (.aload_n 0, 1) := by decide +kernel
theorem d_Mod_forbid_62 : decode c_Mod_forbid 62 = .ok (.getfield 50, 3) := by decide +kernel
theorem d_Mod_forbid_65 : decode c_Mod_forbid 65 = .ok (.aload_n 0, 1) := by decide +kernel
theorem d_Mod_forbid_66 : decode c_Mod_forbid 66 = .ok (.iload_n 1, 1) := by decide +kernel
theorem d_Mod_forbid_67 : decode c_Mod_forbid 67 = .ok (.iload_n 2, 1) := by decide +kernel
theorem d_Mod_forbid_68 : decode c_Mod_forbid 68 = .ok (.invokevirtual 139, 3) := by decide +kernel
theorem d_Mod_forbid_71 : decode c_Mod_forbid 71 = .ok (.iaload, 1) := by decide +kernel
theorem d_Mod_forbid_72 : decode c_Mod_forbid 72 = .ok (.istore_n 3, 1) := by decide +kernel
theorem d_Mod_forbid_73 : decode c_Mod_forbid 73 = .ok (.iinc 2 1, 3) := by decide +kernel
theorem d_Mod_forbid_76 : decode c_Mod_forbid 76 = .ok (.goto (-41), 3) := by decide +kernel
theorem d_Mod_forbid_79 : decode c_Mod_forbid 79 = .ok (.iload 4, 2) := by decide +kernel
theorem d_Mod_forbid_81 : decode c_Mod_forbid 81 = .ok (.aload_n 0, 1) := by decide +kernel
theorem d_Mod_forbid_82 : decode c_Mod_forbid 82 = .ok (.getfield 136, 3) := by decide +kernel
theorem d_Mod_forbid_85 : decode c_Mod_forbid 85 = .ok (.isub, 1) := by decide +kernel
theorem d_Mod_forbid_86 : decode c_Mod_forbid 86 = .ok (.istore 6, 2) := by decide +kernel
theorem d_Mod_forbid_88 : decode c_Mod_forbid 88 = .ok (.iload 6, 2) := by decide +kernel
theorem d_Mod_forbid_90 : decode c_Mod_forbid 90 = .ok (.iconst 0, 1) := by decide +kernel
theorem d_Mod_forbid_91 : decode c_Mod_forbid 91 = .ok (.sipush 150, 3) := by decide +kernel
theorem d_Mod_forbid_94 : decode c_Mod_forbid 94 = .ok (.invokestatic 104, 3) := by decide +kernel
theorem d_Mod_forbid_97 : decode c_Mod_forbid 97 = .ok (.ifCond .eq 13, 3) := by decide +kernel
theorem d_Mod_forbid_100 : decode c_Mod_forbid 100 = .ok (.aload_n 0, 1) := by decide +kernel
theorem d_Mod_forbid_101 : decode c_Mod_forbid 101 = .ok (.getfield 90, 3) := by decide +kernel
theorem d_Mod_forbid_104 : decode c_Mod_forbid 104 = .ok (.iload 6, 2) := by decide +kernel
theorem d_Mod_forbid_106 : decode c_Mod_forbid 106 = .ok (.iload_n 3, 1) := by decide +kernel
theorem d_Mod_forbid_107 : decode c_Mod_forbid 107 = .ok (.invokestatic 142, 3) := by decide +kernel
theorem d_Mod_forbid_110 : decode c_Mod_forbid 110 = .ok (.iload 6, 2) := by decide +kernel
theorem d_Mod_forbid_112 : decode c_Mod_forbid 112 = .ok (.iconst 1, 1) := by decide +kernel
theorem d_Mod_forbid_113 : decode c_Mod_forbid 113 = .ok (.iadd, 1) := by decide +kernel
theorem d_Mod_forbid_114 : decode c_Mod_forbid 114 = .ok (.iconst 0, 1) := by decide +kernel
theorem d_Mod_forbid_115 : decode c_Mod_forbid 115 = .ok (.sipush 150, 3) := by decide +kernel
theorem d_Mod_forbid_118 : decode c_Mod_forbid 118 = .ok (.invokestatic 104, 3) := by decide +kernel
theorem d_Mod_forbid_121 : decode c_Mod_forbid 121 = .ok (.ifCond .eq 15, 3) := by decide +kernel
theorem d_Mod_forbid_124 : decode c_Mod_forbid 124 = .ok (.aload_n 0, 1) := by decide +kernel
theorem d_Mod_forbid_125 : decode c_Mod_forbid 125 = .ok (.getfield 90, 3) := by decide +kernel
theorem d_Mod_forbid_128 : decode c_Mod_forbid 128 = .ok (.iload 6, 2) := by decide +kernel
theorem d_Mod_forbid_130 : decode c_Mod_forbid 130 = .ok (.iconst 1, 1) := by decide +kernel
theorem d_Mod_forbid_131 : decode c_Mod_forbid 131 = .ok (.iadd, 1) := by decide +kernel
theorem d_Mod_forbid_132 : decode c_Mod_forbid 132 = .ok (.iload_n 3, 1) := by decide +kernel
theorem d_Mod_forbid_133 : decode c_Mod_forbid 133 = .ok (.invokestatic 142, 3) := by decide +kernel
theorem d_Mod_forbid_136 : decode c_Mod_forbid 136 = .ok (.iload_n 3, 1) := by decide +kernel
theorem d_Mod_forbid_137 : decode c_Mod_forbid 137 = .ok (.iload 5, 2) := by decide +kernel
theorem d_Mod_forbid_139 : decode c_Mod_forbid 139 = .ok (.if_icmp .eq 46, 3) := by decide +kernel
theorem d_Mod_forbid_142 : decode c_Mod_forbid 142 = .ok (.iload 6, 2) := by decide +kernel
theorem d_Mod_forbid_144 : decode c_Mod_forbid 144 = .ok (.ifCond .ge 6, 3) := by decide +kernel
theorem d_Mod_forbid_147 : decode c_Mod_forbid 147 = .ok (.goto 38, 3) := by decide +kernel
theorem d_Mod_forbid_150 : decode c_Mod_forbid 150 = .ok (.iload 6, 2) := by decide +kernel
theorem d_Mod_forbid_152 : decode c_Mod_forbid 152 = .ok (.sipush 150, 3) := by decide +kernel
theorem d_Mod_forbid_155 : decode c_Mod_forbid 155 = .ok (.if_icmp .gt 13, 3) := by decide +kernel
theorem d_Mod_forbid_158 : decode c_Mod_forbid 158 = .ok (.aload_n 0, 1) := by decide +kernel
theorem d_Mod_forbid_159 : decode c_Mod_forbid 159 = .ok (.getfield 86, 3) := by decide +kernel
theorem d_Mod_forbid_162 : decode c_Mod_forbid 162 = .ok (.iload 6, 2) := by decide +kernel
theorem d_Mod_forbid_164 : decode c_Mod_forbid 164 = .ok (.iload_n 3, 1) := by decide +kernel
theorem d_Mod_forbid_165 : decode c_Mod_forbid 165 = .ok (.invokestatic 142, 3) := by decide +kernel
theorem d_Mod_forbid_168 : decode c_Mod_forbid 168 = .ok (.iload 6, 2) := by decide +kernel
theorem d_Mod_forbid_170 : decode c_Mod_forbid 170 = .ok (.ifCond .le 15, 3) := by decide +kernel
theorem d_Mod_forbid_173 : decode c_Mod_forbid 173 = .ok (.aload_n 0, 1) := by decide +kernel
theorem d_Mod_forbid_174 : decode c_Mod_forbid 174 = .ok (.getfield 86, 3) := by decide +kernel
theorem d_Mod_forbid_177 : decode c_Mod_forbid 177 = .ok (.iload 6, 2) := by decide +kernel
theorem d_Mod_forbid_179 : decode c_Mod_forbid 179 = .ok (.iconst 1, 1) := by decide +kernel
theorem d_Mod_forbid_180 : decode c_Mod_forbid 180 = .ok (.isub, 1) := by decide +kernel
theorem d_Mod_forbid_181 : decode c_Mod_forbid 181 = .ok (.iload_n 3, 1) := by decide +kernel
theorem d_Mod_forbid_182 : decode c_Mod_forbid 182 = .ok (.invokestatic 142, 3) := by decide +kernel
theorem d_Mod_forbid_185 : decode c_Mod_forbid 185 = .ok (.iinc 4 1, 3) := by decide +kernel
theorem d_Mod_forbid_188 : decode c_Mod_forbid 188 = .ok (.goto (-171), 3) := by decide +kernel
theorem d_Mod_forbid_191 : decode c_Mod_forbid 191 = .ok (.return_, 1) := by decide +kernel
abbrev c_Mod_forbidAll : ByteArray := prog_11_method_15_code
abbrev y_Mod_forbidAll : MethodName := ⟨"FleetFloorModel", "forbidAll", "()V"⟩
theorem d_Mod_forbidAll_0 : decode c_Mod_forbidAll 0 = .ok (.iconst 0, 1) := by decide +kernel
theorem d_Mod_forbidAll_1 : decode c_Mod_forbidAll 1 = .ok (.istore_n 1, 1) := by decide +kernel
theorem d_Mod_forbidAll_2 : decode c_Mod_forbidAll 2 = .ok (.iload_n 1, 1) := by decide +kernel
theorem d_Mod_forbidAll_3 : decode c_Mod_forbidAll 3 = .ok (.sipush 304, 3) := by decide +kernel
theorem d_Mod_forbidAll_6 : decode c_Mod_forbidAll 6 = .ok (.if_icmp .ge 23, 3) := by decide +kernel
theorem d_Mod_forbidAll_9 : decode c_Mod_forbidAll 9 = .ok (.aload_n 0, 1) := by decide +kernel
theorem d_Mod_forbidAll_10 : decode c_Mod_forbidAll 10 = .ok (.getfield 86, 3) := by decide +kernel
theorem d_Mod_forbidAll_13 : decode c_Mod_forbidAll 13 = .ok (.iload_n 1, 1) := by decide +kernel
theorem d_Mod_forbidAll_14 : decode c_Mod_forbidAll 14 = .ok (.lconst 0, 1) := by decide +kernel
theorem d_Mod_forbidAll_15 : decode c_Mod_forbidAll 15 = .ok (.lastore, 1) := by decide +kernel
theorem d_Mod_forbidAll_16 : decode c_Mod_forbidAll 16 = .ok (.aload_n 0, 1) := by decide +kernel
theorem d_Mod_forbidAll_17 : decode c_Mod_forbidAll 17 = .ok (.getfield 90, 3) := by decide +kernel
theorem d_Mod_forbidAll_20 : decode c_Mod_forbidAll 20 = .ok (.iload_n 1, 1) := by decide +kernel
theorem d_Mod_forbidAll_21 : decode c_Mod_forbidAll 21 = .ok (.lconst 0, 1) := by decide +kernel
theorem d_Mod_forbidAll_22 : decode c_Mod_forbidAll 22 = .ok (.lastore, 1) := by decide +kernel
theorem d_Mod_forbidAll_23 : decode c_Mod_forbidAll 23 = .ok (.iinc 1 1, 3) := by decide +kernel
theorem d_Mod_forbidAll_26 : decode c_Mod_forbidAll 26 = .ok (.goto (-24), 3) := by decide +kernel
theorem d_Mod_forbidAll_29 : decode c_Mod_forbidAll 29 = .ok (.iconst 0, 1) := by decide +kernel
theorem d_Mod_forbidAll_30 : decode c_Mod_forbidAll 30 = .ok (.istore_n 1, 1) := by decide +kernel
theorem d_Mod_forbidAll_31 : decode c_Mod_forbidAll 31 = .ok (.iload_n 1, 1) := by decide +kernel
theorem d_Mod_forbidAll_32 : decode c_Mod_forbidAll 32 = .ok (.aload_n 0, 1) := by decide +kernel
theorem d_Mod_forbidAll_33 : decode c_Mod_forbidAll 33 = .ok (.getfield 127, 3) := by decide +kernel
theorem d_Mod_forbidAll_36 : decode c_Mod_forbidAll 36 = .ok (.if_icmp .ge 22, 3) := by decide +kernel
theorem d_Mod_forbidAll_39 : decode c_Mod_forbidAll 39 = .ok (.iload_n 1, 1) := by decide +kernel
theorem d_Mod_forbidAll_40 : decode c_Mod_forbidAll 40 = .ok (.aload_n 0, 1) := by decide +kernel
theorem d_Mod_forbidAll_41 : decode c_Mod_forbidAll 41 = .ok (.getfield 146, 3) := by decide +kernel
theorem d_Mod_forbidAll_44 : decode c_Mod_forbidAll 44 = .ok (.if_icmp .eq 8, 3) := by decide +kernel
theorem d_Mod_forbidAll_47 : decode c_Mod_forbidAll 47 = .ok (.aload_n 0, 1) := by decide +kernel
theorem d_Mod_forbidAll_48 : decode c_Mod_forbidAll 48 = .ok (.iload_n 1, 1) := by decide +kernel
theorem d_Mod_forbidAll_49 : decode c_Mod_forbidAll 49 = .ok (.invokevirtual 149, 3) := by decide +kernel
theorem d_Mod_forbidAll_52 : decode c_Mod_forbidAll 52 = .ok (.iinc 1 1, 3) := by decide +kernel
theorem d_Mod_forbidAll_55 : decode c_Mod_forbidAll 55 = .ok (.goto (-24), 3) := by decide +kernel
theorem d_Mod_forbidAll_58 : decode c_Mod_forbidAll 58 = .ok (.return_, 1) := by decide +kernel
abbrev c_Mod_isOthers : ByteArray := prog_11_method_16_code
abbrev y_Mod_isOthers : MethodName := ⟨"FleetFloorModel", "isOthers", "(I)Z"⟩
theorem d_Mod_isOthers_0 : decode c_Mod_isOthers 0 = .ok (.aload_n 0, 1) := by decide +kernel
theorem d_Mod_isOthers_1 : decode c_Mod_isOthers 1 = .ok (.getfield 7, 3) := by decide +kernel
theorem d_Mod_isOthers_4 : decode c_Mod_isOthers 4 = .ok (.iload_n 1, 1) := by decide +kernel
theorem d_Mod_isOthers_5 : decode c_Mod_isOthers 5 = .ok (.iaload, 1) := by decide +kernel
theorem d_Mod_isOthers_6 : decode c_Mod_isOthers 6 = .ok (.iconst 3, 1) := by decide +kernel
theorem d_Mod_isOthers_7 : decode c_Mod_isOthers 7 = .ok (.if_icmp .ne 20, 3) := by decide +kernel
theorem d_Mod_isOthers_10 : decode c_Mod_isOthers 10 = .ok (.iload_n 1, 1) := by decide +kernel
theorem d_Mod_isOthers_11 : decode c_Mod_isOthers 11 = .ok (.aload_n 0, 1) := by decide +kernel
theorem d_Mod_isOthers_12 : decode c_Mod_isOthers 12 = .ok (.getfield 16, 3) := by decide +kernel
theorem d_Mod_isOthers_15 : decode c_Mod_isOthers 15 = .ok (.aload_n 0, 1) := by decide +kernel
theorem d_Mod_isOthers_16 : decode c_Mod_isOthers 16 = .ok (.getfield 146, 3) := by decide +kernel
theorem d_Mod_isOthers_19 : decode c_Mod_isOthers 19 = .ok (.iaload, 1) := by decide +kernel
theorem d_Mod_isOthers_20 : decode c_Mod_isOthers 20 = .ok (.if_icmp .eq 7, 3) := by decide +kernel
theorem d_Mod_isOthers_23 : decode c_Mod_isOthers 23 = .ok (.iconst 1, 1) := by decide +kernel
theorem d_Mod_isOthers_24 : decode c_Mod_isOthers 24 = .ok (.goto 4, 3) := by decide +kernel
theorem d_Mod_isOthers_27 : decode c_Mod_isOthers 27 = .ok (.iconst 0, 1) := by decide +kernel
theorem d_Mod_isOthers_28 : decode c_Mod_isOthers 28 = .ok (.ireturn, 1) := by decide +kernel
abbrev c_Mod_goes : ByteArray := prog_11_method_17_code
abbrev y_Mod_goes : MethodName := ⟨"FleetFloorModel", "goes", "(III)I"⟩
theorem d_Mod_goes_0 : decode c_Mod_goes 0 = .ok (.iload_n 1, 1) := by decide +kernel
theorem d_Mod_goes_1 : decode c_Mod_goes 1 = .ok (.iload_n 2, 1) := by decide +kernel
theorem d_Mod_goes_2 : decode c_Mod_goes 2 = .ok (.invokestatic 108, 3) := by decide +kernel
theorem d_Mod_goes_5 : decode c_Mod_goes 5 = .ok (.istore 4, 2) := by decide +kernel
theorem d_Mod_goes_7 : decode c_Mod_goes 7 = .ok (.iload 4, 2) := by decide +kernel
theorem d_Mod_goes_9 : decode c_Mod_goes 9 = .ok (.ifCond .lt 35, 3) := by decide +kernel
theorem d_Mod_goes_12 : decode c_Mod_goes 12 = .ok (.aload_n 0, 1) := by decide +kernel
theorem d_Mod_goes_13 : decode c_Mod_goes 13 = .ok (.getfield 7, 3) := by decide +kernel
theorem d_Mod_goes_16 : decode c_Mod_goes 16 = .ok (.iload 4, 2) := by decide +kernel
theorem d_Mod_goes_18 : decode c_Mod_goes 18 = .ok (.iaload, 1) := by decide +kernel
theorem d_Mod_goes_19 : decode c_Mod_goes 19 = .ok (.ifCond .eq 25, 3) := by decide +kernel
theorem d_Mod_goes_22 : decode c_Mod_goes 22 = .ok (.aload_n 0, 1) := by decide +kernel
theorem d_Mod_goes_23 : decode c_Mod_goes 23 = .ok (.iload 4, 2) := by decide +kernel
theorem d_Mod_goes_25 : decode c_Mod_goes 25 = .ok (.invokevirtual 153, 3) := by decide +kernel
theorem d_Mod_goes_28 : decode c_Mod_goes 28 = .ok (.ifCond .ne 16, 3) := by decide +kernel
theorem d_Mod_goes_31 : decode c_Mod_goes 31 = .ok (.aload_n 0, 1) := by decide +kernel
theorem d_Mod_goes_32 : decode c_Mod_goes 32 = .ok (.getfield 86, 3) := by decide +kernel
theorem d_Mod_goes_35 : decode c_Mod_goes 35 = .ok (.iload_n 3, 1) := by decide +kernel
theorem d_Mod_goes_36 : decode c_Mod_goes 36 = .ok (.iload 4, 2) := by decide +kernel
theorem d_Mod_goes_38 : decode c_Mod_goes 38 = .ok (.invokestatic 156, 3) := by decide +kernel
theorem d_Mod_goes_41 : decode c_Mod_goes 41 = .ok (.ifCond .eq 5, 3) := by decide +kernel
theorem d_Mod_goes_44 : decode c_Mod_goes 44 = .ok (.iconst (-1), 1) := by decide +kernel
theorem d_Mod_goes_45 : decode c_Mod_goes 45 = .ok (.ireturn, 1) := by decide +kernel
theorem d_Mod_goes_46 : decode c_Mod_goes 46 = .ok (.iload_n 2, 1) := by decide +kernel
theorem d_Mod_goes_47 : decode c_Mod_goes 47 = .ok (.iconst 4, 1) := by decide +kernel
theorem d_Mod_goes_48 : decode c_Mod_goes 48 = .ok (.if_icmp .ge 20, 3) := by decide +kernel
theorem d_Mod_goes_51 : decode c_Mod_goes 51 = .ok (.aload_n 0, 1) := by decide +kernel
theorem d_Mod_goes_52 : decode c_Mod_goes 52 = .ok (.getfield 90, 3) := by decide +kernel
theorem d_Mod_goes_55 : decode c_Mod_goes 55 = .ok (.iload_n 3, 1) := by decide +kernel
theorem d_Mod_goes_56 : decode c_Mod_goes 56 = .ok (.iload 4, 2) := by decide +kernel
theorem d_Mod_goes_58 : decode c_Mod_goes 58 = .ok (.invokestatic 156, 3) := by decide +kernel
theorem d_Mod_goes_61 : decode c_Mod_goes 61 = .ok (.ifCond .eq 7, 3) := by decide +kernel
theorem d_Mod_goes_64 : decode c_Mod_goes 64 = .ok (.iconst (-1), 1) := by decide +kernel
theorem d_Mod_goes_65 : decode c_Mod_goes 65 = .ok (.goto 5, 3) := by decide +kernel
theorem d_Mod_goes_68 : decode c_Mod_goes 68 = .ok (.iload 4, 2) := by decide +kernel
theorem d_Mod_goes_70 : decode c_Mod_goes 70 = .ok (.ireturn, 1) := by decide +kernel
abbrev c_Mod_doneAt : ByteArray := prog_11_method_18_code
abbrev y_Mod_doneAt : MethodName := ⟨"FleetFloorModel", "doneAt", "(III)I"⟩
theorem d_Mod_doneAt_0 : decode c_Mod_doneAt 0 = .ok (.iload_n 3, 1) := by decide +kernel
theorem d_Mod_doneAt_1 : decode c_Mod_doneAt 1 = .ok (.ifCond .ne 17, 3) := by decide +kernel
theorem d_Mod_doneAt_4 : decode c_Mod_doneAt 4 = .ok (.iload_n 2, 1) := by decide +kernel
theorem d_Mod_doneAt_5 : decode c_Mod_doneAt 5 = .ok (.aload_n 0, 1) := by decide +kernel
theorem d_Mod_doneAt_6 : decode c_Mod_doneAt 6 = .ok (.getfield 26, 3) := by decide +kernel
theorem d_Mod_doneAt_9 : decode c_Mod_doneAt 9 = .ok (.iload_n 1, 1) := by decide +kernel
theorem d_Mod_doneAt_10 : decode c_Mod_doneAt 10 = .ok (.iaload, 1) := by decide +kernel
theorem d_Mod_doneAt_11 : decode c_Mod_doneAt 11 = .ok (.if_icmp .ne 7, 3) := by decide +kernel
theorem d_Mod_doneAt_14 : decode c_Mod_doneAt 14 = .ok (.iconst 1, 1) := by decide +kernel
theorem d_Mod_doneAt_15 : decode c_Mod_doneAt 15 = .ok (.goto 4, 3) := by decide +kernel
theorem d_Mod_doneAt_18 : decode c_Mod_doneAt 18 = .ok (.iload_n 3, 1) := by decide +kernel
theorem d_Mod_doneAt_19 : decode c_Mod_doneAt 19 = .ok (.istore 4, 2) := by decide +kernel
theorem d_Mod_doneAt_21 : decode c_Mod_doneAt 21 = .ok (.iload 4, 2) := by decide +kernel
theorem d_Mod_doneAt_23 : decode c_Mod_doneAt 23 = .ok (.iconst 1, 1) := by decide +kernel
theorem d_Mod_doneAt_24 : decode c_Mod_doneAt 24 = .ok (.if_icmp .ne 17, 3) := by decide +kernel
theorem d_Mod_doneAt_27 : decode c_Mod_doneAt 27 = .ok (.iload_n 2, 1) := by decide +kernel
theorem d_Mod_doneAt_28 : decode c_Mod_doneAt 28 = .ok (.aload_n 0, 1) := by decide +kernel
theorem d_Mod_doneAt_29 : decode c_Mod_doneAt 29 = .ok (.getfield 29, 3) := by decide +kernel
theorem d_Mod_doneAt_32 : decode c_Mod_doneAt 32 = .ok (.iload_n 1, 1) := by decide +kernel
theorem d_Mod_doneAt_33 : decode c_Mod_doneAt 33 = .ok (.iaload, 1) := by decide +kernel
theorem d_Mod_doneAt_34 : decode c_Mod_doneAt 34 = .ok (.if_icmp .ne 7, 3) := by decide +kernel
theorem d_Mod_doneAt_37 : decode c_Mod_doneAt 37 = .ok (.iconst 2, 1) := by decide +kernel
theorem d_Mod_doneAt_38 : decode c_Mod_doneAt 38 = .ok (.goto 5, 3) := by decide +kernel
theorem d_Mod_doneAt_41 : decode c_Mod_doneAt 41 = .ok (.iload 4, 2) := by decide +kernel
theorem d_Mod_doneAt_43 : decode c_Mod_doneAt 43 = .ok (.ireturn, 1) := by decide +kernel
abbrev c_Mod_spread : ByteArray := prog_11_method_19_code
abbrev y_Mod_spread : MethodName := ⟨"FleetFloorModel", "spread", "(I)I"⟩
theorem d_Mod_spread_0 : decode c_Mod_spread 0 = .ok (.iconst 0, 1) := by decide +kernel
theorem d_Mod_spread_1 : decode c_Mod_spread 1 = .ok (.istore_n 2, 1) := by decide +kernel
theorem d_Mod_spread_2 : decode c_Mod_spread 2 = .ok (.iload_n 2, 1) := by decide +kernel
theorem d_Mod_spread_3 : decode c_Mod_spread 3 = .ok (.sipush 908, 3) := by decide +kernel
theorem d_Mod_spread_6 : decode c_Mod_spread 6 = .ok (.if_icmp .ge 16, 3) := by decide +kernel
theorem d_Mod_spread_9 : decode c_Mod_spread 9 = .ok (.aload_n 0, 1) := by decide +kernel
theorem d_Mod_spread_10 : decode c_Mod_spread 10 = .ok (.getfield 93, 3) := by decide +kernel
theorem d_Mod_spread_13 : decode c_Mod_spread 13 = .ok (.iload_n 2, 1) := by decide +kernel
theorem d_Mod_spread_14 : decode c_Mod_spread 14 = .ok (.lconst 0, 1) := by decide +kernel
theorem d_Mod_spread_15 : decode c_Mod_spread 15 = .ok (.lastore, 1) := by decide +kernel
theorem d_Mod_spread_16 : decode c_Mod_spread 16 = .ok (.iinc 2 1, 3) := by decide +kernel
theorem d_Mod_spread_19 : decode c_Mod_spread 19 = .ok (.goto (-17), 3) := by decide +kernel
theorem d_Mod_spread_22 : decode c_Mod_spread 22 = .ok (.aload_n 0, 1) := by decide +kernel
theorem d_Mod_spread_23 : decode c_Mod_spread 23 = .ok (.getfield 16, 3) := by decide +kernel
theorem d_Mod_spread_26 : decode c_Mod_spread 26 = .ok (.aload_n 0, 1) := by decide +kernel
theorem d_Mod_spread_27 : decode c_Mod_spread 27 = .ok (.getfield 146, 3) := by decide +kernel
theorem d_Mod_spread_30 : decode c_Mod_spread 30 = .ok (.iaload, 1) := by decide +kernel
theorem d_Mod_spread_31 : decode c_Mod_spread 31 = .ok (.istore_n 2, 1) := by decide +kernel
theorem d_Mod_spread_32 : decode c_Mod_spread 32 = .ok (.aload_n 0, 1) := by decide +kernel
theorem d_Mod_spread_33 : decode c_Mod_spread 33 = .ok (.getfield 93, 3) := by decide +kernel
theorem d_Mod_spread_36 : decode c_Mod_spread 36 = .ok (.iconst 0, 1) := by decide +kernel
theorem d_Mod_spread_37 : decode c_Mod_spread 37 = .ok (.iload_n 2, 1) := by decide +kernel
theorem d_Mod_spread_38 : decode c_Mod_spread 38 = .ok (.invokestatic 142, 3) := by decide +kernel
theorem d_Mod_spread_41 : decode c_Mod_spread 41 = .ok (.iconst 0, 1) := by decide +kernel
theorem d_Mod_spread_42 : decode c_Mod_spread 42 = .ok (.istore_n 3, 1) := by decide +kernel
theorem d_Mod_spread_43 : decode c_Mod_spread 43 = .ok (.iload_n 3, 1) := by decide +kernel
theorem d_Mod_spread_44 : decode c_Mod_spread 44 = .ok (.sipush 150, 3) := by decide +kernel
theorem d_Mod_spread_47 : decode c_Mod_spread 47 = .ok (.if_icmp .ge 88, 3) := by decide +kernel
theorem d_Mod_spread_50 : decode c_Mod_spread 50 = .ok (.iconst 0, 1) := by decide +kernel
theorem d_Mod_spread_51 : decode c_Mod_spread 51 = .ok (.istore 4, 2) := by decide +kernel
theorem d_Mod_spread_53 : decode c_Mod_spread 53 = .ok (.iload 4, 2) := by decide +kernel
theorem d_Mod_spread_55 : decode c_Mod_spread 55 = .ok (.iconst 3, 1) := by decide +kernel
theorem d_Mod_spread_56 : decode c_Mod_spread 56 = .ok (.if_icmp .ge 53, 3) := by decide +kernel
theorem d_Mod_spread_59 : decode c_Mod_spread 59 = .ok (.iconst 0, 1) := by decide +kernel
theorem d_Mod_spread_60 : decode c_Mod_spread 60 = .ok (.istore 5, 2) := by decide +kernel
theorem d_Mod_spread_62 : decode c_Mod_spread 62 = .ok (.iload 5, 2) := by decide +kernel
theorem d_Mod_spread_64 : decode c_Mod_spread 64 = .ok (.bipush 96, 2) := by decide +kernel
theorem d_Mod_spread_66 : decode c_Mod_spread 66 = .ok (.if_icmp .ge 37, 3) := by decide +kernel
theorem d_Mod_spread_69 : decode c_Mod_spread 69 = .ok (.aload_n 0, 1) := by decide +kernel
theorem d_Mod_spread_70 : decode c_Mod_spread 70 = .ok (.getfield 93, 3) := by decide +kernel
theorem d_Mod_spread_73 : decode c_Mod_spread 73 = .ok (.iconst 3, 1) := by decide +kernel
theorem d_Mod_spread_74 : decode c_Mod_spread 74 = .ok (.iload_n 3, 1) := by decide +kernel
theorem d_Mod_spread_75 : decode c_Mod_spread 75 = .ok (.imul, 1) := by decide +kernel
theorem d_Mod_spread_76 : decode c_Mod_spread 76 = .ok (.iload 4, 2) := by decide +kernel
theorem d_Mod_spread_78 : decode c_Mod_spread 78 = .ok (.iadd, 1) := by decide +kernel
theorem d_Mod_spread_79 : decode c_Mod_spread 79 = .ok (.iload 5, 2) := by decide +kernel
theorem d_Mod_spread_81 : decode c_Mod_spread 81 = .ok (.invokestatic 156, 3) := by decide +kernel
theorem d_Mod_spread_84 : decode c_Mod_spread 84 = .ok (.ifCond .eq 13, 3) := by decide +kernel
theorem d_Mod_spread_87 : decode c_Mod_spread 87 = .ok (.aload_n 0, 1) := by decide +kernel
theorem d_Mod_spread_88 : decode c_Mod_spread 88 = .ok (.iload_n 1, 1) := by decide +kernel
theorem d_Mod_spread_89 : decode c_Mod_spread 89 = .ok (.iload_n 3, 1) := by decide +kernel
theorem d_Mod_spread_90 : decode c_Mod_spread 90 = .ok (.iload 4, 2) := by decide +kernel
theorem d_Mod_spread_92 : decode c_Mod_spread 92 = .ok (.iload 5, 2) := by decide +kernel
theorem d_Mod_spread_94 : decode c_Mod_spread 94 = .ok (.invokevirtual 160, 3) := by decide +kernel
theorem d_Mod_spread_97 : decode c_Mod_spread 97 = .ok (.iinc 5 1, 3) := by decide +kernel
theorem d_Mod_spread_100 : decode c_Mod_spread 100 = .ok (.goto (-38), 3) := by decide +kernel
theorem d_Mod_spread_103 : decode c_Mod_spread 103 = .ok (.iinc 4 1, 3) := by decide +kernel
theorem d_Mod_spread_106 : decode c_Mod_spread 106 = .ok (.goto (-53), 3) := by decide +kernel
theorem d_Mod_spread_109 : decode c_Mod_spread 109 = .ok (.aload_n 0, 1) := by decide +kernel
theorem d_Mod_spread_110 : decode c_Mod_spread 110 = .ok (.getfield 93, 3) := by decide +kernel
theorem d_Mod_spread_113 : decode c_Mod_spread 113 = .ok (.iconst 3, 1) := by decide +kernel
theorem d_Mod_spread_114 : decode c_Mod_spread 114 = .ok (.iload_n 3, 1) := by decide +kernel
theorem d_Mod_spread_115 : decode c_Mod_spread 115 = .ok (.imul, 1) := by decide +kernel
theorem d_Mod_spread_116 : decode c_Mod_spread 116 = .ok (.iconst 5, 1) := by decide +kernel
theorem d_Mod_spread_117 : decode c_Mod_spread 117 = .ok (.iadd, 1) := by decide +kernel
theorem d_Mod_spread_118 : decode c_Mod_spread 118 = .ok (.iload_n 2, 1) := by decide +kernel
theorem d_Mod_spread_119 : decode c_Mod_spread 119 = .ok (.invokestatic 156, 3) := by decide +kernel
theorem d_Mod_spread_122 : decode c_Mod_spread 122 = .ok (.ifCond .eq 7, 3) := by decide +kernel
theorem d_Mod_spread_125 : decode c_Mod_spread 125 = .ok (.iload_n 3, 1) := by decide +kernel
theorem d_Mod_spread_126 : decode c_Mod_spread 126 = .ok (.iconst 1, 1) := by decide +kernel
theorem d_Mod_spread_127 : decode c_Mod_spread 127 = .ok (.iadd, 1) := by decide +kernel
theorem d_Mod_spread_128 : decode c_Mod_spread 128 = .ok (.ireturn, 1) := by decide +kernel
theorem d_Mod_spread_129 : decode c_Mod_spread 129 = .ok (.iinc 3 1, 3) := by decide +kernel
theorem d_Mod_spread_132 : decode c_Mod_spread 132 = .ok (.goto (-89), 3) := by decide +kernel
theorem d_Mod_spread_135 : decode c_Mod_spread 135 = .ok (.iconst (-1), 1) := by decide +kernel
theorem d_Mod_spread_136 : decode c_Mod_spread 136 = .ok (.ireturn, 1) := by decide +kernel
abbrev c_Mod_spreadFrom : ByteArray := prog_11_method_20_code
abbrev y_Mod_spreadFrom : MethodName := ⟨"FleetFloorModel", "spreadFrom", "(IIII)V"⟩
theorem d_Mod_spreadFrom_0 : decode c_Mod_spreadFrom 0 = .ok (.iconst 0, 1) := by decide +kernel
theorem d_Mod_spreadFrom_1 : decode c_Mod_spreadFrom 1 = .ok (.istore 5, 2) := by decide +kernel
theorem d_Mod_spreadFrom_3 : decode c_Mod_spreadFrom 3 = .ok (.iload 5, 2) := by decide +kernel
theorem d_Mod_spreadFrom_5 : decode c_Mod_spreadFrom 5 = .ok (.iconst 4, 1) := by decide +kernel
theorem d_Mod_spreadFrom_6 : decode c_Mod_spreadFrom 6 = .ok (.if_icmp .gt 50, 3) := by decide +kernel
theorem d_Mod_spreadFrom_9 : decode c_Mod_spreadFrom 9 = .ok (.aload_n 0, 1) := by decide +kernel
theorem d_Mod_spreadFrom_10 : decode c_Mod_spreadFrom 10 = .ok (.iload 4, 2) := by decide +kernel
theorem d_Mod_spreadFrom_12 : decode c_Mod_spreadFrom 12 = .ok (.iload 5, 2) := by decide +kernel
theorem d_Mod_spreadFrom_14 : decode c_Mod_spreadFrom 14 = .ok (.iload_n 2, 1) := by decide +kernel
theorem d_Mod_spreadFrom_15 : decode c_Mod_spreadFrom 15 = .ok (.iconst 1, 1) := by decide +kernel
theorem d_Mod_spreadFrom_16 : decode c_Mod_spreadFrom 16 = .ok (.iadd, 1) := by decide +kernel
theorem d_Mod_spreadFrom_17 : decode c_Mod_spreadFrom 17 = .ok (.invokevirtual 164, 3) := by decide +kernel
theorem d_Mod_spreadFrom_20 : decode c_Mod_spreadFrom 20 = .ok (.istore 6, 2) := by decide +kernel
theorem d_Mod_spreadFrom_22 : decode c_Mod_spreadFrom 22 = .ok (.iload 6, 2) := by decide +kernel
theorem d_Mod_spreadFrom_24 : decode c_Mod_spreadFrom 24 = .ok (.ifCond .lt 26, 3) := by decide +kernel
theorem d_Mod_spreadFrom_27 : decode c_Mod_spreadFrom 27 = .ok (.aload_n 0, 1) := by decide +kernel
theorem d_Mod_spreadFrom_28 : decode c_Mod_spreadFrom 28 = .ok (.getfield 93, 3) := by decide +kernel
theorem d_Mod_spreadFrom_31 : decode c_Mod_spreadFrom 31 = .ok (.iconst 3, 1) := by decide +kernel
theorem d_Mod_spreadFrom_32 : decode c_Mod_spreadFrom 32 = .ok (.iload_n 2, 1) := by decide +kernel
theorem d_Mod_spreadFrom_33 : decode c_Mod_spreadFrom 33 = .ok (.imul, 1) := by decide +kernel
theorem d_Mod_spreadFrom_34 : decode c_Mod_spreadFrom 34 = .ok (.iconst 3, 1) := by decide +kernel
theorem d_Mod_spreadFrom_35 : decode c_Mod_spreadFrom 35 = .ok (.iadd, 1) := by decide +kernel
theorem d_Mod_spreadFrom_36 : decode c_Mod_spreadFrom 36 = .ok (.aload_n 0, 1) := by decide +kernel
theorem d_Mod_spreadFrom_37 : decode c_Mod_spreadFrom 37 = .ok (.iload_n 1, 1) := by decide +kernel
theorem d_Mod_spreadFrom_38 : decode c_Mod_spreadFrom 38 = .ok (.iload 6, 2) := by decide +kernel
theorem d_Mod_spreadFrom_40 : decode c_Mod_spreadFrom 40 = .ok (.iload_n 3, 1) := by decide +kernel
theorem d_Mod_spreadFrom_41 : decode c_Mod_spreadFrom 41 = .ok (.invokevirtual 168, 3) := by decide +kernel
theorem d_Mod_spreadFrom_44 : decode c_Mod_spreadFrom 44 = .ok (.iadd, 1) := by decide +kernel
theorem d_Mod_spreadFrom_45 : decode c_Mod_spreadFrom 45 = .ok (.iload 6, 2) := by decide +kernel
theorem d_Mod_spreadFrom_47 : decode c_Mod_spreadFrom 47 = .ok (.invokestatic 142, 3) := by decide +kernel
theorem d_Mod_spreadFrom_50 : decode c_Mod_spreadFrom 50 = .ok (.iinc 5 1, 3) := by decide +kernel
theorem d_Mod_spreadFrom_53 : decode c_Mod_spreadFrom 53 = .ok (.goto (-50), 3) := by decide +kernel
theorem d_Mod_spreadFrom_56 : decode c_Mod_spreadFrom 56 = .ok (.return_, 1) := by decide +kernel
abbrev c_Mod_lowest : ByteArray := prog_11_method_21_code
abbrev y_Mod_lowest : MethodName := ⟨"FleetFloorModel", "lowest", "(IIII)I"⟩
theorem d_Mod_lowest_0 : decode c_Mod_lowest 0 = .ok (.iconst 0, 1) := by decide +kernel
theorem d_Mod_lowest_1 : decode c_Mod_lowest 1 = .ok (.istore 5, 2) := by decide +kernel
theorem d_Mod_lowest_3 : decode c_Mod_lowest 3 = .ok (.iload 5, 2) := by decide +kernel
theorem d_Mod_lowest_5 : decode c_Mod_lowest 5 = .ok (.iconst 4, 1) := by decide +kernel
theorem d_Mod_lowest_6 : decode c_Mod_lowest 6 = .ok (.if_icmp .gt 56, 3) := by decide +kernel
theorem d_Mod_lowest_9 : decode c_Mod_lowest 9 = .ok (.aload_n 0, 1) := by decide +kernel
theorem d_Mod_lowest_10 : decode c_Mod_lowest 10 = .ok (.iload 4, 2) := by decide +kernel
theorem d_Mod_lowest_12 : decode c_Mod_lowest 12 = .ok (.iload 5, 2) := by decide +kernel
theorem d_Mod_lowest_14 : decode c_Mod_lowest 14 = .ok (.iload_n 2, 1) := by decide +kernel
theorem d_Mod_lowest_15 : decode c_Mod_lowest 15 = .ok (.iconst 1, 1) := by decide +kernel
theorem d_Mod_lowest_16 : decode c_Mod_lowest 16 = .ok (.iadd, 1) := by decide +kernel
theorem d_Mod_lowest_17 : decode c_Mod_lowest 17 = .ok (.invokevirtual 164, 3) := by decide +kernel
theorem d_Mod_lowest_20 : decode c_Mod_lowest 20 = .ok (.istore 6, 2) := by decide +kernel
theorem d_Mod_lowest_22 : decode c_Mod_lowest 22 = .ok (.iload 6, 2) := by decide +kernel
theorem d_Mod_lowest_24 : decode c_Mod_lowest 24 = .ok (.ifCond .lt 32, 3) := by decide +kernel
theorem d_Mod_lowest_27 : decode c_Mod_lowest 27 = .ok (.aload_n 0, 1) := by decide +kernel
theorem d_Mod_lowest_28 : decode c_Mod_lowest 28 = .ok (.getfield 93, 3) := by decide +kernel
theorem d_Mod_lowest_31 : decode c_Mod_lowest 31 = .ok (.iconst 3, 1) := by decide +kernel
theorem d_Mod_lowest_32 : decode c_Mod_lowest 32 = .ok (.iload_n 2, 1) := by decide +kernel
theorem d_Mod_lowest_33 : decode c_Mod_lowest 33 = .ok (.imul, 1) := by decide +kernel
theorem d_Mod_lowest_34 : decode c_Mod_lowest 34 = .ok (.iconst 3, 1) := by decide +kernel
theorem d_Mod_lowest_35 : decode c_Mod_lowest 35 = .ok (.iadd, 1) := by decide +kernel
theorem d_Mod_lowest_36 : decode c_Mod_lowest 36 = .ok (.aload_n 0, 1) := by decide +kernel
theorem d_Mod_lowest_37 : decode c_Mod_lowest 37 = .ok (.iload_n 1, 1) := by decide +kernel
theorem d_Mod_lowest_38 : decode c_Mod_lowest 38 = .ok (.iload 6, 2) := by decide +kernel
theorem d_Mod_lowest_40 : decode c_Mod_lowest 40 = .ok (.iload_n 3, 1) := by decide +kernel
theorem d_Mod_lowest_41 : decode c_Mod_lowest 41 = .ok (.invokevirtual 168, 3) := by decide +kernel
theorem d_Mod_lowest_44 : decode c_Mod_lowest 44 = .ok (.iadd, 1) := by decide +kernel
theorem d_Mod_lowest_45 : decode c_Mod_lowest 45 = .ok (.iload 6, 2) := by decide +kernel
theorem d_Mod_lowest_47 : decode c_Mod_lowest 47 = .ok (.invokestatic 156, 3) := by decide +kernel
theorem d_Mod_lowest_50 : decode c_Mod_lowest 50 = .ok (.ifCond .eq 6, 3) := by decide +kernel
theorem d_Mod_lowest_53 : decode c_Mod_lowest 53 = .ok (.iload 5, 2) := by decide +kernel
theorem d_Mod_lowest_55 : decode c_Mod_lowest 55 = .ok (.ireturn, 1) := by decide +kernel
theorem d_Mod_lowest_56 : decode c_Mod_lowest 56 = .ok (.iinc 5 1, 3) := by decide +kernel
theorem d_Mod_lowest_59 : decode c_Mod_lowest 59 = .ok (.goto (-56), 3) := by decide +kernel
theorem d_Mod_lowest_62 : decode c_Mod_lowest 62 = .ok (.iconst (-1), 1) := by decide +kernel
theorem d_Mod_lowest_63 : decode c_Mod_lowest 63 = .ok (.ireturn, 1) := by decide +kernel
end
section
abbrev c_Mod_narrow : ByteArray := prog_11_method_22_code
abbrev y_Mod_narrow : MethodName := ⟨"FleetFloorModel", "narrow", "(II)V"⟩
theorem d_Mod_narrow_0 : decode c_Mod_narrow 0 = .ok (.bipush 6, 2) := by decide +kernel
theorem d_Mod_narrow_2 : decode c_Mod_narrow 2 = .ok (.iload_n 2, 1) := by decide +kernel
theorem d_Mod_narrow_3 : decode c_Mod_narrow 3 = .ok (.imul, 1) := by decide +kernel
theorem d_Mod_narrow_4 : decode c_Mod_narrow 4 = .ok (.istore_n 3, 1) := by decide +kernel
theorem d_Mod_narrow_5 : decode c_Mod_narrow 5 = .ok (.iload_n 3, 1) := by decide +kernel
theorem d_Mod_narrow_6 : decode c_Mod_narrow 6 = .ok (.bipush 6, 2) := by decide +kernel
theorem d_Mod_narrow_8 : decode c_Mod_narrow 8 = .ok (.iload_n 2, 1) := by decide +kernel
theorem d_Mod_narrow_9 : decode c_Mod_narrow 9 = .ok (.imul, 1) := by decide +kernel
theorem d_Mod_narrow_10 : decode c_Mod_narrow 10 = .ok (.bipush 6, 2) := by decide +kernel
theorem d_Mod_narrow_12 : decode c_Mod_narrow 12 = .ok (.iadd, 1) := by decide +kernel
theorem d_Mod_narrow_13 : decode c_Mod_narrow 13 = .ok (.if_icmp .ge 16, 3) := by decide +kernel
theorem d_Mod_narrow_16 : decode c_Mod_narrow 16 = .ok (.aload_n 0, 1) := by decide +kernel
theorem d_Mod_narrow_17 : decode c_Mod_narrow 17 = .ok (.getfield 93, 3) := by decide +kernel
theorem d_Mod_narrow_20 : decode c_Mod_narrow 20 = .ok (.iload_n 3, 1) := by decide +kernel
theorem d_Mod_narrow_21 : decode c_Mod_narrow 21 = .ok (.lconst 0, 1) := by decide +kernel
theorem d_Mod_narrow_22 : decode c_Mod_narrow 22 = .ok (.lastore, 1) := by decide +kernel
theorem d_Mod_narrow_23 : decode c_Mod_narrow 23 = .ok (.iinc 3 1, 3) := by decide +kernel
theorem d_Mod_narrow_26 : decode c_Mod_narrow 26 = .ok (.goto (-21), 3) := by decide +kernel
theorem d_Mod_narrow_29 : decode c_Mod_narrow 29 = .ok (.aload_n 0, 1) := by decide +kernel
theorem d_Mod_narrow_30 : decode c_Mod_narrow 30 = .ok (.getfield 93, 3) := by decide +kernel
theorem d_Mod_narrow_33 : decode c_Mod_narrow 33 = .ok (.iconst 3, 1) := by decide +kernel
theorem d_Mod_narrow_34 : decode c_Mod_narrow 34 = .ok (.iload_n 2, 1) := by decide +kernel
theorem d_Mod_narrow_35 : decode c_Mod_narrow 35 = .ok (.imul, 1) := by decide +kernel
theorem d_Mod_narrow_36 : decode c_Mod_narrow 36 = .ok (.iconst 2, 1) := by decide +kernel
theorem d_Mod_narrow_37 : decode c_Mod_narrow 37 = .ok (.iadd, 1) := by decide +kernel
theorem d_Mod_narrow_38 : decode c_Mod_narrow 38 = .ok (.aload_n 0, 1) := by decide +kernel
theorem d_Mod_narrow_39 : decode c_Mod_narrow 39 = .ok (.getfield 16, 3) := by decide +kernel
theorem d_Mod_narrow_42 : decode c_Mod_narrow 42 = .ok (.aload_n 0, 1) := by decide +kernel
theorem d_Mod_narrow_43 : decode c_Mod_narrow 43 = .ok (.getfield 146, 3) := by decide +kernel
theorem d_Mod_narrow_46 : decode c_Mod_narrow 46 = .ok (.iaload, 1) := by decide +kernel
theorem d_Mod_narrow_47 : decode c_Mod_narrow 47 = .ok (.invokestatic 142, 3) := by decide +kernel
theorem d_Mod_narrow_50 : decode c_Mod_narrow 50 = .ok (.iload_n 2, 1) := by decide +kernel
theorem d_Mod_narrow_51 : decode c_Mod_narrow 51 = .ok (.iconst 1, 1) := by decide +kernel
theorem d_Mod_narrow_52 : decode c_Mod_narrow 52 = .ok (.isub, 1) := by decide +kernel
theorem d_Mod_narrow_53 : decode c_Mod_narrow 53 = .ok (.istore_n 3, 1) := by decide +kernel
theorem d_Mod_narrow_54 : decode c_Mod_narrow 54 = .ok (.iload_n 3, 1) := by decide +kernel
theorem d_Mod_narrow_55 : decode c_Mod_narrow 55 = .ok (.ifCond .lt 101, 3) := by decide +kernel
theorem d_Mod_narrow_58 : decode c_Mod_narrow 58 = .ok (.iconst 0, 1) := by decide +kernel
theorem d_Mod_narrow_59 : decode c_Mod_narrow 59 = .ok (.istore 4, 2) := by decide +kernel
theorem d_Mod_narrow_61 : decode c_Mod_narrow 61 = .ok (.iload 4, 2) := by decide +kernel
theorem d_Mod_narrow_63 : decode c_Mod_narrow 63 = .ok (.iconst 3, 1) := by decide +kernel
theorem d_Mod_narrow_64 : decode c_Mod_narrow 64 = .ok (.if_icmp .ge 86, 3) := by decide +kernel
theorem d_Mod_narrow_67 : decode c_Mod_narrow 67 = .ok (.iconst 0, 1) := by decide +kernel
theorem d_Mod_narrow_68 : decode c_Mod_narrow 68 = .ok (.istore 5, 2) := by decide +kernel
theorem d_Mod_narrow_70 : decode c_Mod_narrow 70 = .ok (.iload 5, 2) := by decide +kernel
theorem d_Mod_narrow_72 : decode c_Mod_narrow 72 = .ok (.bipush 96, 2) := by decide +kernel
theorem d_Mod_narrow_74 : decode c_Mod_narrow 74 = .ok (.if_icmp .ge 70, 3) := by decide +kernel
theorem d_Mod_narrow_77 : decode c_Mod_narrow 77 = .ok (.aload_n 0, 1) := by decide +kernel
theorem d_Mod_narrow_78 : decode c_Mod_narrow 78 = .ok (.getfield 93, 3) := by decide +kernel
theorem d_Mod_narrow_81 : decode c_Mod_narrow 81 = .ok (.iconst 3, 1) := by decide +kernel
theorem d_Mod_narrow_82 : decode c_Mod_narrow 82 = .ok (.iload_n 3, 1) := by decide +kernel
theorem d_Mod_narrow_83 : decode c_Mod_narrow 83 = .ok (.imul, 1) := by decide +kernel
theorem d_Mod_narrow_84 : decode c_Mod_narrow 84 = .ok (.iload 4, 2) := by decide +kernel
theorem d_Mod_narrow_86 : decode c_Mod_narrow 86 = .ok (.iadd, 1) := by decide +kernel
theorem d_Mod_narrow_87 : decode c_Mod_narrow 87 = .ok (.iload 5, 2) := by decide +kernel
theorem d_Mod_narrow_89 : decode c_Mod_narrow 89 = .ok (.invokestatic 156, 3) := by decide +kernel
theorem d_Mod_narrow_92 : decode c_Mod_narrow 92 = .ok (.ifCond .eq 46, 3) := by decide +kernel
theorem d_Mod_narrow_95 : decode c_Mod_narrow 95 = .ok (.aload_n 0, 1) := by decide +kernel
theorem d_Mod_narrow_96 : decode c_Mod_narrow 96 = .ok (.iload_n 1, 1) := by decide +kernel
theorem d_Mod_narrow_97 : decode c_Mod_narrow 97 = .ok (.iload_n 3, 1) := by decide +kernel
theorem d_Mod_narrow_98 : decode c_Mod_narrow 98 = .ok (.iload 4, 2) := by decide +kernel
theorem d_Mod_narrow_100 : decode c_Mod_narrow 100 = .ok (.iload 5, 2) := by decide +kernel
theorem d_Mod_narrow_102 : decode c_Mod_narrow 102 = .ok (.invokevirtual 171, 3) := by decide +kernel
theorem d_Mod_narrow_105 : decode c_Mod_narrow 105 = .ok (.ifCond .ge 33, 3) := by decide +kernel
theorem d_Mod_narrow_108 : decode c_Mod_narrow 108 = .ok (.aload_n 0, 1) := by decide +kernel
theorem d_Mod_narrow_109 : decode c_Mod_narrow 109 = .ok (.getfield 93, 3) := by decide +kernel
theorem d_Mod_narrow_112 : decode c_Mod_narrow 112 = .ok (.iconst 2, 1) := by decide +kernel
theorem d_Mod_narrow_113 : decode c_Mod_narrow 113 = .ok (.iconst 3, 1) := by decide +kernel
theorem d_Mod_narrow_114 : decode c_Mod_narrow 114 = .ok (.iload_n 3, 1) := by decide +kernel
theorem d_Mod_narrow_115 : decode c_Mod_narrow 115 = .ok (.imul, 1) := by decide +kernel
theorem d_Mod_narrow_116 : decode c_Mod_narrow 116 = .ok (.iload 4, 2) := by decide +kernel
theorem d_Mod_narrow_118 : decode c_Mod_narrow 118 = .ok (.iadd, 1) := by decide +kernel
theorem d_Mod_narrow_119 : decode c_Mod_narrow 119 = .ok (.imul, 1) := by decide +kernel
theorem d_Mod_narrow_120 : decode c_Mod_narrow 120 = .ok (.iload 5, 2) := by decide +kernel
theorem d_Mod_narrow_122 : decode c_Mod_narrow 122 = .ok (.bipush 6, 2) := by decide +kernel
theorem d_Mod_narrow_124 : decode c_Mod_narrow 124 = .ok (.ishr, 1) := by decide +kernel
theorem d_Mod_narrow_125 : decode c_Mod_narrow 125 = .ok (.iadd, 1) := by decide +kernel
theorem d_Mod_narrow_126 : decode c_Mod_narrow 126 = .ok (.dup2, 1) := by decide +kernel
theorem d_Mod_narrow_127 : decode c_Mod_narrow 127 = .ok (.laload, 1) := by decide +kernel
theorem d_Mod_narrow_128 : decode c_Mod_narrow 128 = .ok (.lconst 1, 1) := by decide +kernel
theorem d_Mod_narrow_129 : decode c_Mod_narrow 129 = .ok (.iload 5, 2) := by decide +kernel
theorem d_Mod_narrow_131 : decode c_Mod_narrow 131 = .ok (.lshl, 1) := by decide +kernel
theorem d_Mod_narrow_132 : decode c_Mod_narrow 132 = .ok (.ldc2_w 175, 3) := by decide +kernel
theorem d_Mod_narrow_135 : decode c_Mod_narrow 135 = .ok (.lxor, 1) := by decide +kernel
theorem d_Mod_narrow_136 : decode c_Mod_narrow 136 = .ok (.land, 1) := by decide +kernel
theorem d_Mod_narrow_137 : decode c_Mod_narrow 137 = .ok (.lastore, 1) := by decide +kernel
theorem d_Mod_narrow_138 : decode c_Mod_narrow 138 = .ok (.iinc 5 1, 3) := by decide +kernel
theorem d_Mod_narrow_141 : decode c_Mod_narrow 141 = .ok (.goto (-71), 3) := by decide +kernel
theorem d_Mod_narrow_144 : decode c_Mod_narrow 144 = .ok (.iinc 4 1, 3) := by decide +kernel
theorem d_Mod_narrow_147 : decode c_Mod_narrow 147 = .ok (.goto (-86), 3) := by decide +kernel
theorem d_Mod_narrow_150 : decode c_Mod_narrow 150 = .ok (.iinc 3 (-1), 3) := by decide +kernel
theorem d_Mod_narrow_153 : decode c_Mod_narrow 153 = .ok (.goto (-99), 3) := by decide +kernel
theorem d_Mod_narrow_156 : decode c_Mod_narrow 156 = .ok (.return_, 1) := by decide +kernel
abbrev c_Mod_take : ByteArray := prog_11_method_23_code
abbrev y_Mod_take : MethodName := ⟨"FleetFloorModel", "take", "(II)V"⟩
theorem d_Mod_take_0 : decode c_Mod_take 0 = .ok (.aload_n 0, 1) := by decide +kernel
theorem d_Mod_take_1 : decode c_Mod_take 1 = .ok (.getfield 16, 3) := by decide +kernel
theorem d_Mod_take_4 : decode c_Mod_take 4 = .ok (.aload_n 0, 1) := by decide +kernel
theorem d_Mod_take_5 : decode c_Mod_take 5 = .ok (.getfield 146, 3) := by decide +kernel
theorem d_Mod_take_8 : decode c_Mod_take 8 = .ok (.iaload, 1) := by decide +kernel
theorem d_Mod_take_9 : decode c_Mod_take 9 = .ok (.istore_n 3, 1) := by decide +kernel
theorem d_Mod_take_10 : decode c_Mod_take 10 = .ok (.iconst 0, 1) := by decide +kernel
theorem d_Mod_take_11 : decode c_Mod_take 11 = .ok (.istore 4, 2) := by decide +kernel
theorem d_Mod_take_13 : decode c_Mod_take 13 = .ok (.aload_n 0, 1) := by decide +kernel
theorem d_Mod_take_14 : decode c_Mod_take 14 = .ok (.getfield 32, 3) := by decide +kernel
theorem d_Mod_take_17 : decode c_Mod_take 17 = .ok (.iload_n 1, 1) := by decide +kernel
theorem d_Mod_take_18 : decode c_Mod_take 18 = .ok (.aload_n 0, 1) := by decide +kernel
theorem d_Mod_take_19 : decode c_Mod_take 19 = .ok (.getfield 146, 3) := by decide +kernel
theorem d_Mod_take_22 : decode c_Mod_take 22 = .ok (.iastore, 1) := by decide +kernel
theorem d_Mod_take_23 : decode c_Mod_take 23 = .ok (.aload_n 0, 1) := by decide +kernel
theorem d_Mod_take_24 : decode c_Mod_take 24 = .ok (.getfield 35, 3) := by decide +kernel
theorem d_Mod_take_27 : decode c_Mod_take 27 = .ok (.iload_n 1, 1) := by decide +kernel
theorem d_Mod_take_28 : decode c_Mod_take 28 = .ok (.aload_n 0, 1) := by decide +kernel
theorem d_Mod_take_29 : decode c_Mod_take 29 = .ok (.getfield 177, 3) := by decide +kernel
theorem d_Mod_take_32 : decode c_Mod_take 32 = .ok (.iastore, 1) := by decide +kernel
theorem d_Mod_take_33 : decode c_Mod_take 33 = .ok (.aload_n 0, 1) := by decide +kernel
theorem d_Mod_take_34 : decode c_Mod_take 34 = .ok (.getfield 41, 3) := by decide +kernel
theorem d_Mod_take_37 : decode c_Mod_take 37 = .ok (.iload_n 1, 1) := by decide +kernel
theorem d_Mod_take_38 : decode c_Mod_take 38 = .ok (.aload_n 0, 1) := by decide +kernel
theorem d_Mod_take_39 : decode c_Mod_take 39 = .ok (.getfield 71, 3) := by decide +kernel
theorem d_Mod_take_42 : decode c_Mod_take 42 = .ok (.aload_n 0, 1) := by decide +kernel
theorem d_Mod_take_43 : decode c_Mod_take 43 = .ok (.getfield 146, 3) := by decide +kernel
theorem d_Mod_take_46 : decode c_Mod_take 46 = .ok (.iaload, 1) := by decide +kernel
theorem d_Mod_take_47 : decode c_Mod_take 47 = .ok (.iastore, 1) := by decide +kernel
theorem d_Mod_take_48 : decode c_Mod_take 48 = .ok (.iconst 0, 1) := by decide +kernel
theorem d_Mod_take_49 : decode c_Mod_take 49 = .ok (.istore 5, 2) := by decide +kernel
theorem d_Mod_take_51 : decode c_Mod_take 51 = .ok (.iload 5, 2) := by decide +kernel
theorem d_Mod_take_53 : decode c_Mod_take 53 = .ok (.iload_n 2, 1) := by decide +kernel
theorem d_Mod_take_54 : decode c_Mod_take 54 = .ok (.if_icmp .ge 125, 3) := by decide +kernel
theorem d_Mod_take_57 : decode c_Mod_take 57 = .ok (.aload_n 0, 1) := by decide +kernel
theorem d_Mod_take_58 : decode c_Mod_take 58 = .ok (.iload_n 1, 1) := by decide +kernel
theorem d_Mod_take_59 : decode c_Mod_take 59 = .ok (.iload 5, 2) := by decide +kernel
theorem d_Mod_take_61 : decode c_Mod_take 61 = .ok (.iload 4, 2) := by decide +kernel
theorem d_Mod_take_63 : decode c_Mod_take 63 = .ok (.iload_n 3, 1) := by decide +kernel
theorem d_Mod_take_64 : decode c_Mod_take 64 = .ok (.invokevirtual 171, 3) := by decide +kernel
theorem d_Mod_take_67 : decode c_Mod_take 67 = .ok (.istore 6, 2) := by decide +kernel
theorem d_Mod_take_69 : decode c_Mod_take 69 = .ok (.iload_n 3, 1) := by decide +kernel
theorem d_Mod_take_70 : decode c_Mod_take 70 = .ok (.iload 6, 2) := by decide +kernel
theorem d_Mod_take_72 : decode c_Mod_take 72 = .ok (.invokestatic 108, 3) := by decide +kernel
theorem d_Mod_take_75 : decode c_Mod_take 75 = .ok (.istore_n 3, 1) := by decide +kernel
theorem d_Mod_take_76 : decode c_Mod_take 76 = .ok (.iload 4, 2) := by decide +kernel
theorem d_Mod_take_78 : decode c_Mod_take 78 = .ok (.istore 7, 2) := by decide +kernel
theorem d_Mod_take_80 : decode c_Mod_take 80 = .ok (.aload_n 0, 1) := by decide +kernel
theorem d_Mod_take_81 : decode c_Mod_take 81 = .ok (.iload_n 1, 1) := by decide +kernel
theorem d_Mod_take_82 : decode c_Mod_take 82 = .ok (.iload_n 3, 1) := by decide +kernel
theorem d_Mod_take_83 : decode c_Mod_take 83 = .ok (.iload 4, 2) := by decide +kernel
theorem d_Mod_take_85 : decode c_Mod_take 85 = .ok (.invokevirtual 168, 3) := by decide +kernel
theorem d_Mod_take_88 : decode c_Mod_take 88 = .ok (.istore 4, 2) := by decide +kernel
theorem d_Mod_take_90 : decode c_Mod_take 90 = .ok (.iload 6, 2) := by decide +kernel
theorem d_Mod_take_92 : decode c_Mod_take 92 = .ok (.iconst 4, 1) := by decide +kernel
theorem d_Mod_take_93 : decode c_Mod_take 93 = .ok (.if_icmp .ne 6, 3) := by decide +kernel
theorem d_Mod_take_96 : decode c_Mod_take 96 = .ok (.goto 77, 3) := by decide +kernel
theorem d_Mod_take_99 : decode c_Mod_take 99 = .ok (.iload 7, 2) := by decide +kernel
theorem d_Mod_take_101 : decode c_Mod_take 101 = .ok (.iconst 2, 1) := by decide +kernel
theorem d_Mod_take_102 : decode c_Mod_take 102 = .ok (.if_icmp .ge 33, 3) := by decide +kernel
theorem d_Mod_take_105 : decode c_Mod_take 105 = .ok (.iload 4, 2) := by decide +kernel
theorem d_Mod_take_107 : decode c_Mod_take 107 = .ok (.iconst 2, 1) := by decide +kernel
theorem d_Mod_take_108 : decode c_Mod_take 108 = .ok (.if_icmp .ne 27, 3) := by decide +kernel
theorem d_Mod_take_111 : decode c_Mod_take 111 = .ok (.aload_n 0, 1) := by decide +kernel
theorem d_Mod_take_112 : decode c_Mod_take 112 = .ok (.getfield 44, 3) := by decide +kernel
theorem d_Mod_take_115 : decode c_Mod_take 115 = .ok (.iload_n 1, 1) := by decide +kernel
theorem d_Mod_take_116 : decode c_Mod_take 116 = .ok (.aload_n 0, 1) := by decide +kernel
theorem d_Mod_take_117 : decode c_Mod_take 117 = .ok (.getfield 41, 3) := by decide +kernel
theorem d_Mod_take_120 : decode c_Mod_take 120 = .ok (.iload_n 1, 1) := by decide +kernel
theorem d_Mod_take_121 : decode c_Mod_take 121 = .ok (.iaload, 1) := by decide +kernel
theorem d_Mod_take_122 : decode c_Mod_take 122 = .ok (.aload_n 0, 1) := by decide +kernel
theorem d_Mod_take_123 : decode c_Mod_take 123 = .ok (.getfield 177, 3) := by decide +kernel
theorem d_Mod_take_126 : decode c_Mod_take 126 = .ok (.iadd, 1) := by decide +kernel
theorem d_Mod_take_127 : decode c_Mod_take 127 = .ok (.aload_n 0, 1) := by decide +kernel
theorem d_Mod_take_128 : decode c_Mod_take 128 = .ok (.getfield 35, 3) := by decide +kernel
theorem d_Mod_take_131 : decode c_Mod_take 131 = .ok (.iload_n 1, 1) := by decide +kernel
theorem d_Mod_take_132 : decode c_Mod_take 132 = .ok (.iaload, 1) := by decide +kernel
theorem d_Mod_take_133 : decode c_Mod_take 133 = .ok (.isub, 1) := by decide +kernel
theorem d_Mod_take_134 : decode c_Mod_take 134 = .ok (.iastore, 1) := by decide +kernel
theorem d_Mod_take_135 : decode c_Mod_take 135 = .ok (.aload_n 0, 1) := by decide +kernel
theorem d_Mod_take_136 : decode c_Mod_take 136 = .ok (.getfield 50, 3) := by decide +kernel
theorem d_Mod_take_139 : decode c_Mod_take 139 = .ok (.aload_n 0, 1) := by decide +kernel
theorem d_Mod_take_140 : decode c_Mod_take 140 = .ok (.getfield 177, 3) := by decide +kernel
theorem d_Mod_take_143 : decode c_Mod_take 143 = .ok (.iload_n 3, 1) := by decide +kernel
theorem d_Mod_take_144 : decode c_Mod_take 144 = .ok (.iastore, 1) := by decide +kernel
theorem d_Mod_take_145 : decode c_Mod_take 145 = .ok (.aload_n 0, 1) := by decide +kernel
theorem d_Mod_take_146 : decode c_Mod_take 146 = .ok (.getfield 53, 3) := by decide +kernel
theorem d_Mod_take_149 : decode c_Mod_take 149 = .ok (.aload_n 0, 1) := by decide +kernel
theorem d_Mod_take_150 : decode c_Mod_take 150 = .ok (.getfield 177, 3) := by decide +kernel
theorem d_Mod_take_153 : decode c_Mod_take 153 = .ok (.aload_n 0, 1) := by decide +kernel
theorem d_Mod_take_154 : decode c_Mod_take 154 = .ok (.getfield 136, 3) := by decide +kernel
theorem d_Mod_take_157 : decode c_Mod_take 157 = .ok (.iload 5, 2) := by decide +kernel
theorem d_Mod_take_159 : decode c_Mod_take 159 = .ok (.iadd, 1) := by decide +kernel
theorem d_Mod_take_160 : decode c_Mod_take 160 = .ok (.iconst 1, 1) := by decide +kernel
theorem d_Mod_take_161 : decode c_Mod_take 161 = .ok (.iadd, 1) := by decide +kernel
theorem d_Mod_take_162 : decode c_Mod_take 162 = .ok (.iastore, 1) := by decide +kernel
theorem d_Mod_take_163 : decode c_Mod_take 163 = .ok (.aload_n 0, 1) := by decide +kernel
theorem d_Mod_take_164 : decode c_Mod_take 164 = .ok (.dup, 1) := by decide +kernel
theorem d_Mod_take_165 : decode c_Mod_take 165 = .ok (.getfield 177, 3) := by decide +kernel
theorem d_Mod_take_168 : decode c_Mod_take 168 = .ok (.iconst 1, 1) := by decide +kernel
theorem d_Mod_take_169 : decode c_Mod_take 169 = .ok (.iadd, 1) := by decide +kernel
theorem d_Mod_take_170 : decode c_Mod_take 170 = .ok (.putfield 177, 3) := by decide +kernel
theorem d_Mod_take_173 : decode c_Mod_take 173 = .ok (.iinc 5 1, 3) := by decide +kernel
theorem d_Mod_take_176 : decode c_Mod_take 176 = .ok (.goto (-125), 3) := by decide +kernel
theorem d_Mod_take_179 : decode c_Mod_take 179 = .ok (.aload_n 0, 1) := by decide +kernel
theorem d_Mod_take_180 : decode c_Mod_take 180 = .ok (.getfield 38, 3) := by decide +kernel
theorem d_Mod_take_183 : decode c_Mod_take 183 = .ok (.iload_n 1, 1) := by decide +kernel
theorem d_Mod_take_184 : decode c_Mod_take 184 = .ok (.aload_n 0, 1) := by decide +kernel
theorem d_Mod_take_185 : decode c_Mod_take 185 = .ok (.getfield 177, 3) := by decide +kernel
theorem d_Mod_take_188 : decode c_Mod_take 188 = .ok (.aload_n 0, 1) := by decide +kernel
theorem d_Mod_take_189 : decode c_Mod_take 189 = .ok (.getfield 35, 3) := by decide +kernel
theorem d_Mod_take_192 : decode c_Mod_take 192 = .ok (.iload_n 1, 1) := by decide +kernel
theorem d_Mod_take_193 : decode c_Mod_take 193 = .ok (.iaload, 1) := by decide +kernel
theorem d_Mod_take_194 : decode c_Mod_take 194 = .ok (.isub, 1) := by decide +kernel
theorem d_Mod_take_195 : decode c_Mod_take 195 = .ok (.iastore, 1) := by decide +kernel
theorem d_Mod_take_196 : decode c_Mod_take 196 = .ok (.aload_n 0, 1) := by decide +kernel
theorem d_Mod_take_197 : decode c_Mod_take 197 = .ok (.getfield 71, 3) := by decide +kernel
theorem d_Mod_take_200 : decode c_Mod_take 200 = .ok (.aload_n 0, 1) := by decide +kernel
theorem d_Mod_take_201 : decode c_Mod_take 201 = .ok (.getfield 146, 3) := by decide +kernel
theorem d_Mod_take_204 : decode c_Mod_take 204 = .ok (.dup2, 1) := by decide +kernel
theorem d_Mod_take_205 : decode c_Mod_take 205 = .ok (.iaload, 1) := by decide +kernel
theorem d_Mod_take_206 : decode c_Mod_take 206 = .ok (.aload_n 0, 1) := by decide +kernel
theorem d_Mod_take_207 : decode c_Mod_take 207 = .ok (.getfield 38, 3) := by decide +kernel
theorem d_Mod_take_210 : decode c_Mod_take 210 = .ok (.iload_n 1, 1) := by decide +kernel
theorem d_Mod_take_211 : decode c_Mod_take 211 = .ok (.iaload, 1) := by decide +kernel
theorem d_Mod_take_212 : decode c_Mod_take 212 = .ok (.iadd, 1) := by decide +kernel
theorem d_Mod_take_213 : decode c_Mod_take 213 = .ok (.iastore, 1) := by decide +kernel
theorem d_Mod_take_214 : decode c_Mod_take 214 = .ok (.aload_n 0, 1) := by decide +kernel
theorem d_Mod_take_215 : decode c_Mod_take 215 = .ok (.getfield 74, 3) := by decide +kernel
theorem d_Mod_take_218 : decode c_Mod_take 218 = .ok (.aload_n 0, 1) := by decide +kernel
theorem d_Mod_take_219 : decode c_Mod_take 219 = .ok (.getfield 146, 3) := by decide +kernel
theorem d_Mod_take_222 : decode c_Mod_take 222 = .ok (.iload_n 1, 1) := by decide +kernel
theorem d_Mod_take_223 : decode c_Mod_take 223 = .ok (.iastore, 1) := by decide +kernel
theorem d_Mod_take_224 : decode c_Mod_take 224 = .ok (.aload_n 0, 1) := by decide +kernel
theorem d_Mod_take_225 : decode c_Mod_take 225 = .ok (.dup, 1) := by decide +kernel
theorem d_Mod_take_226 : decode c_Mod_take 226 = .ok (.getfield 133, 3) := by decide +kernel
theorem d_Mod_take_229 : decode c_Mod_take 229 = .ok (.iconst 1, 1) := by decide +kernel
theorem d_Mod_take_230 : decode c_Mod_take 230 = .ok (.iadd, 1) := by decide +kernel
theorem d_Mod_take_231 : decode c_Mod_take 231 = .ok (.putfield 133, 3) := by decide +kernel
theorem d_Mod_take_234 : decode c_Mod_take 234 = .ok (.return_, 1) := by decide +kernel
abbrev c_Mod_plans : ByteArray := prog_11_method_24_code
abbrev y_Mod_plans : MethodName := ⟨"FleetFloorModel", "plans", "(II)Z"⟩
theorem d_Mod_plans_0 : decode c_Mod_plans 0 = .ok (.aload_n 0, 1) := by decide +kernel
theorem d_Mod_plans_1 : decode c_Mod_plans 1 = .ok (.iload_n 1, 1) := by decide +kernel
theorem d_Mod_plans_2 : decode c_Mod_plans 2 = .ok (.putfield 146, 3) := by decide +kernel
theorem d_Mod_plans_5 : decode c_Mod_plans 5 = .ok (.aload_n 0, 1) := by decide +kernel
theorem d_Mod_plans_6 : decode c_Mod_plans 6 = .ok (.invokevirtual 180, 3) := by decide +kernel
theorem d_Mod_plans_9 : decode c_Mod_plans 9 = .ok (.aload_n 0, 1) := by decide +kernel
theorem d_Mod_plans_10 : decode c_Mod_plans 10 = .ok (.iload_n 2, 1) := by decide +kernel
theorem d_Mod_plans_11 : decode c_Mod_plans 11 = .ok (.invokevirtual 183, 3) := by decide +kernel
theorem d_Mod_plans_14 : decode c_Mod_plans 14 = .ok (.istore_n 3, 1) := by decide +kernel
theorem d_Mod_plans_15 : decode c_Mod_plans 15 = .ok (.iload_n 3, 1) := by decide +kernel
theorem d_Mod_plans_16 : decode c_Mod_plans 16 = .ok (.ifCond .ge 5, 3) := by decide +kernel
theorem d_Mod_plans_19 : decode c_Mod_plans 19 = .ok (.iconst 0, 1) := by decide +kernel
theorem d_Mod_plans_20 : decode c_Mod_plans 20 = .ok (.ireturn, 1) := by decide +kernel
theorem d_Mod_plans_21 : decode c_Mod_plans 21 = .ok (.aload_n 0, 1) := by decide +kernel
theorem d_Mod_plans_22 : decode c_Mod_plans 22 = .ok (.iload_n 2, 1) := by decide +kernel
theorem d_Mod_plans_23 : decode c_Mod_plans 23 = .ok (.iload_n 3, 1) := by decide +kernel
theorem d_Mod_plans_24 : decode c_Mod_plans 24 = .ok (.invokevirtual 187, 3) := by decide +kernel
theorem d_Mod_plans_27 : decode c_Mod_plans 27 = .ok (.aload_n 0, 1) := by decide +kernel
theorem d_Mod_plans_28 : decode c_Mod_plans 28 = .ok (.iload_n 2, 1) := by decide +kernel
theorem d_Mod_plans_29 : decode c_Mod_plans 29 = .ok (.iload_n 3, 1) := by decide +kernel
theorem d_Mod_plans_30 : decode c_Mod_plans 30 = .ok (.invokevirtual 191, 3) := by decide +kernel
theorem d_Mod_plans_33 : decode c_Mod_plans 33 = .ok (.iconst 1, 1) := by decide +kernel
theorem d_Mod_plans_34 : decode c_Mod_plans 34 = .ok (.ireturn, 1) := by decide +kernel
abbrev c_Mod_idle : ByteArray := prog_11_method_25_code
abbrev y_Mod_idle : MethodName := ⟨"FleetFloorModel", "idle", "()I"⟩
theorem d_Mod_idle_0 : decode c_Mod_idle 0 = .ok (.iconst 0, 1) := by decide +kernel
theorem d_Mod_idle_1 : decode c_Mod_idle 1 = .ok (.istore_n 1, 1) := by decide +kernel
theorem d_Mod_idle_2 : decode c_Mod_idle 2 = .ok (.iload_n 1, 1) := by decide +kernel
theorem d_Mod_idle_3 : decode c_Mod_idle 3 = .ok (.aload_n 0, 1) := by decide +kernel
theorem d_Mod_idle_4 : decode c_Mod_idle 4 = .ok (.getfield 127, 3) := by decide +kernel
theorem d_Mod_idle_7 : decode c_Mod_idle 7 = .ok (.if_icmp .ge 26, 3) := by decide +kernel
theorem d_Mod_idle_10 : decode c_Mod_idle 10 = .ok (.aload_n 0, 1) := by decide +kernel
theorem d_Mod_idle_11 : decode c_Mod_idle 11 = .ok (.getfield 65, 3) := by decide +kernel
theorem d_Mod_idle_14 : decode c_Mod_idle 14 = .ok (.iload_n 1, 1) := by decide +kernel
theorem d_Mod_idle_15 : decode c_Mod_idle 15 = .ok (.iaload, 1) := by decide +kernel
theorem d_Mod_idle_16 : decode c_Mod_idle 16 = .ok (.aload_n 0, 1) := by decide +kernel
theorem d_Mod_idle_17 : decode c_Mod_idle 17 = .ok (.getfield 71, 3) := by decide +kernel
theorem d_Mod_idle_20 : decode c_Mod_idle 20 = .ok (.iload_n 1, 1) := by decide +kernel
theorem d_Mod_idle_21 : decode c_Mod_idle 21 = .ok (.iaload, 1) := by decide +kernel
theorem d_Mod_idle_22 : decode c_Mod_idle 22 = .ok (.if_icmp .ne 5, 3) := by decide +kernel
theorem d_Mod_idle_25 : decode c_Mod_idle 25 = .ok (.iload_n 1, 1) := by decide +kernel
theorem d_Mod_idle_26 : decode c_Mod_idle 26 = .ok (.ireturn, 1) := by decide +kernel
theorem d_Mod_idle_27 : decode c_Mod_idle 27 = .ok (.iinc 1 1, 3) := by decide +kernel
theorem d_Mod_idle_30 : decode c_Mod_idle 30 = .ok (.goto (-28), 3) := by decide +kernel
theorem d_Mod_idle_33 : decode c_Mod_idle 33 = .ok (.iconst (-1), 1) := by decide +kernel
theorem d_Mod_idle_34 : decode c_Mod_idle 34 = .ok (.ireturn, 1) := by decide +kernel
abbrev c_Mod_planAll : ByteArray := prog_11_method_26_code
abbrev y_Mod_planAll : MethodName := ⟨"FleetFloorModel", "planAll", "()V"⟩
theorem d_Mod_planAll_0 : decode c_Mod_planAll 0 = .ok (.iconst 1, 1) := by decide +kernel
theorem d_Mod_planAll_1 : decode c_Mod_planAll 1 = .ok (.istore_n 1, 1) := by decide +kernel
theorem d_Mod_planAll_2 : decode c_Mod_planAll 2 = .ok (.iload_n 1, 1) := by decide +kernel
theorem d_Mod_planAll_3 : decode c_Mod_planAll 3 = .ok (.ifCond .eq 44, 3) := by decide +kernel
theorem d_Mod_planAll_6 : decode c_Mod_planAll 6 = .ok (.aload_n 0, 1) := by decide +kernel
theorem d_Mod_planAll_7 : decode c_Mod_planAll 7 = .ok (.invokevirtual 194, 3) := by decide +kernel
theorem d_Mod_planAll_10 : decode c_Mod_planAll 10 = .ok (.istore_n 2, 1) := by decide +kernel
theorem d_Mod_planAll_11 : decode c_Mod_planAll 11 = .ok (.aload_n 0, 1) := by decide +kernel
theorem d_Mod_planAll_12 : decode c_Mod_planAll 12 = .ok (.getfield 133, 3) := by decide +kernel
theorem d_Mod_planAll_15 : decode c_Mod_planAll 15 = .ok (.aload_n 0, 1) := by decide +kernel
theorem d_Mod_planAll_16 : decode c_Mod_planAll 16 = .ok (.getfield 130, 3) := by decide +kernel
theorem d_Mod_planAll_19 : decode c_Mod_planAll 19 = .ok (.if_icmp .ge 23, 3) := by decide +kernel
theorem d_Mod_planAll_22 : decode c_Mod_planAll 22 = .ok (.iload_n 2, 1) := by decide +kernel
theorem d_Mod_planAll_23 : decode c_Mod_planAll 23 = .ok (.ifCond .lt 19, 3) := by decide +kernel
theorem d_Mod_planAll_26 : decode c_Mod_planAll 26 = .ok (.aload_n 0, 1) := by decide +kernel
theorem d_Mod_planAll_27 : decode c_Mod_planAll 27 = .ok (.iload_n 2, 1) := by decide +kernel
theorem d_Mod_planAll_28 : decode c_Mod_planAll 28 = .ok (.aload_n 0, 1) := by decide +kernel
theorem d_Mod_planAll_29 : decode c_Mod_planAll 29 = .ok (.getfield 133, 3) := by decide +kernel
theorem d_Mod_planAll_32 : decode c_Mod_planAll 32 = .ok (.invokevirtual 198, 3) := by decide +kernel
theorem d_Mod_planAll_35 : decode c_Mod_planAll 35 = .ok (.ifCond .eq 7, 3) := by decide +kernel
theorem d_Mod_planAll_38 : decode c_Mod_planAll 38 = .ok (.iconst 1, 1) := by decide +kernel
theorem d_Mod_planAll_39 : decode c_Mod_planAll 39 = .ok (.goto 4, 3) := by decide +kernel
theorem d_Mod_planAll_42 : decode c_Mod_planAll 42 = .ok (.iconst 0, 1) := by decide +kernel
theorem d_Mod_planAll_43 : decode c_Mod_planAll 43 = .ok (.istore_n 1, 1) := by decide +kernel
theorem d_Mod_planAll_44 : decode c_Mod_planAll 44 = .ok (.goto (-42), 3) := by decide +kernel
theorem d_Mod_planAll_47 : decode c_Mod_planAll 47 = .ok (.return_, 1) := by decide +kernel
abbrev c_Mod_isFree : ByteArray := prog_11_method_27_code
abbrev y_Mod_isFree : MethodName := ⟨"FleetFloorModel", "isFree", "(III)Z"⟩
theorem d_Mod_isFree_0 : decode c_Mod_isFree 0 = .ok (.iconst 0, 1) := by decide +kernel
theorem d_Mod_isFree_1 : decode c_Mod_isFree 1 = .ok (.istore 4, 2) := by decide +kernel
theorem d_Mod_isFree_3 : decode c_Mod_isFree 3 = .ok (.iload 4, 2) := by decide +kernel
theorem d_Mod_isFree_5 : decode c_Mod_isFree 5 = .ok (.aload_n 0, 1) := by decide +kernel
theorem d_Mod_isFree_6 : decode c_Mod_isFree 6 = .ok (.getfield 133, 3) := by decide +kernel
theorem d_Mod_isFree_9 : decode c_Mod_isFree 9 = .ok (.if_icmp .ge 106, 3) := by decide +kernel
theorem d_Mod_isFree_12 : decode c_Mod_isFree 12 = .ok (.aload_n 0, 1) := by decide +kernel
theorem d_Mod_isFree_13 : decode c_Mod_isFree 13 = .ok (.getfield 32, 3) := by decide +kernel
theorem d_Mod_isFree_16 : decode c_Mod_isFree 16 = .ok (.iload 4, 2) := by decide +kernel
theorem d_Mod_isFree_18 : decode c_Mod_isFree 18 = .ok (.iaload, 1) := by decide +kernel
theorem d_Mod_isFree_19 : decode c_Mod_isFree 19 = .ok (.istore 5, 2) := by decide +kernel
theorem d_Mod_isFree_21 : decode c_Mod_isFree 21 = .ok (.iload 5, 2) := by decide +kernel
theorem d_Mod_isFree_23 : decode c_Mod_isFree 23 = .ok (.iload_n 1, 1) := by decide +kernel
theorem d_Mod_isFree_24 : decode c_Mod_isFree 24 = .ok (.if_icmp .ne 6, 3) := by decide +kernel
theorem d_Mod_isFree_27 : decode c_Mod_isFree 27 = .ok (.goto 82, 3) := by decide +kernel
theorem d_Mod_isFree_30 : decode c_Mod_isFree 30 = .ok (.iconst 0, 1) := by decide +kernel
theorem d_Mod_isFree_31 : decode c_Mod_isFree 31 = .ok (.istore 6, 2) := by decide +kernel
theorem d_Mod_isFree_33 : decode c_Mod_isFree 33 = .ok (.iload 6, 2) := by decide +kernel
theorem d_Mod_isFree_35 : decode c_Mod_isFree 35 = .ok (.aload_n 0, 1) := by decide +kernel
theorem d_Mod_isFree_36 : decode c_Mod_isFree 36 = .ok (.getfield 38, 3) := by decide +kernel
theorem d_Mod_isFree_39 : decode c_Mod_isFree 39 = .ok (.iload 4, 2) := by decide +kernel
theorem d_Mod_isFree_41 : decode c_Mod_isFree 41 = .ok (.iaload, 1) := by decide +kernel
theorem d_Mod_isFree_42 : decode c_Mod_isFree 42 = .ok (.if_icmp .ge 67, 3) := by decide +kernel
theorem d_Mod_isFree_45 : decode c_Mod_isFree 45 = .ok (.aload_n 0, 1) := by decide +kernel
theorem d_Mod_isFree_46 : decode c_Mod_isFree 46 = .ok (.getfield 35, 3) := by decide +kernel
theorem d_Mod_isFree_49 : decode c_Mod_isFree 49 = .ok (.iload 4, 2) := by decide +kernel
theorem d_Mod_isFree_51 : decode c_Mod_isFree 51 = .ok (.iaload, 1) := by decide +kernel
theorem d_Mod_isFree_52 : decode c_Mod_isFree 52 = .ok (.iload 6, 2) := by decide +kernel
theorem d_Mod_isFree_54 : decode c_Mod_isFree 54 = .ok (.iadd, 1) := by decide +kernel
theorem d_Mod_isFree_55 : decode c_Mod_isFree 55 = .ok (.istore 7, 2) := by decide +kernel
theorem d_Mod_isFree_57 : decode c_Mod_isFree 57 = .ok (.aload_n 0, 1) := by decide +kernel
theorem d_Mod_isFree_58 : decode c_Mod_isFree 58 = .ok (.getfield 50, 3) := by decide +kernel
theorem d_Mod_isFree_61 : decode c_Mod_isFree 61 = .ok (.iload 7, 2) := by decide +kernel
theorem d_Mod_isFree_63 : decode c_Mod_isFree 63 = .ok (.iaload, 1) := by decide +kernel
theorem d_Mod_isFree_64 : decode c_Mod_isFree 64 = .ok (.iload_n 2, 1) := by decide +kernel
theorem d_Mod_isFree_65 : decode c_Mod_isFree 65 = .ok (.if_icmp .ne 38, 3) := by decide +kernel
theorem d_Mod_isFree_68 : decode c_Mod_isFree 68 = .ok (.aload_n 0, 1) := by decide +kernel
theorem d_Mod_isFree_69 : decode c_Mod_isFree 69 = .ok (.getfield 53, 3) := by decide +kernel
theorem d_Mod_isFree_72 : decode c_Mod_isFree 72 = .ok (.iload 7, 2) := by decide +kernel
theorem d_Mod_isFree_74 : decode c_Mod_isFree 74 = .ok (.iaload, 1) := by decide +kernel
theorem d_Mod_isFree_75 : decode c_Mod_isFree 75 = .ok (.iload_n 3, 1) := by decide +kernel
theorem d_Mod_isFree_76 : decode c_Mod_isFree 76 = .ok (.if_icmp .ge 27, 3) := by decide +kernel
theorem d_Mod_isFree_79 : decode c_Mod_isFree 79 = .ok (.aload_n 0, 1) := by decide +kernel
theorem d_Mod_isFree_80 : decode c_Mod_isFree 80 = .ok (.getfield 65, 3) := by decide +kernel
theorem d_Mod_isFree_83 : decode c_Mod_isFree 83 = .ok (.iload 5, 2) := by decide +kernel
theorem d_Mod_isFree_85 : decode c_Mod_isFree 85 = .ok (.iaload, 1) := by decide +kernel
theorem d_Mod_isFree_86 : decode c_Mod_isFree 86 = .ok (.aload_n 0, 1) := by decide +kernel
theorem d_Mod_isFree_87 : decode c_Mod_isFree 87 = .ok (.getfield 41, 3) := by decide +kernel
theorem d_Mod_isFree_90 : decode c_Mod_isFree 90 = .ok (.iload 4, 2) := by decide +kernel
theorem d_Mod_isFree_92 : decode c_Mod_isFree 92 = .ok (.iaload, 1) := by decide +kernel
theorem d_Mod_isFree_93 : decode c_Mod_isFree 93 = .ok (.iload 6, 2) := by decide +kernel
theorem d_Mod_isFree_95 : decode c_Mod_isFree 95 = .ok (.iadd, 1) := by decide +kernel
theorem d_Mod_isFree_96 : decode c_Mod_isFree 96 = .ok (.iconst 1, 1) := by decide +kernel
theorem d_Mod_isFree_97 : decode c_Mod_isFree 97 = .ok (.iadd, 1) := by decide +kernel
theorem d_Mod_isFree_98 : decode c_Mod_isFree 98 = .ok (.if_icmp .gt 5, 3) := by decide +kernel
theorem d_Mod_isFree_101 : decode c_Mod_isFree 101 = .ok (.iconst 0, 1) := by decide +kernel
theorem d_Mod_isFree_102 : decode c_Mod_isFree 102 = .ok (.ireturn, 1) := by decide +kernel
theorem d_Mod_isFree_103 : decode c_Mod_isFree 103 = .ok (.iinc 6 1, 3) := by decide +kernel
theorem d_Mod_isFree_106 : decode c_Mod_isFree 106 = .ok (.goto (-73), 3) := by decide +kernel
theorem d_Mod_isFree_109 : decode c_Mod_isFree 109 = .ok (.iinc 4 1, 3) := by decide +kernel
theorem d_Mod_isFree_112 : decode c_Mod_isFree 112 = .ok (.goto (-109), 3) := by decide +kernel
theorem d_Mod_isFree_115 : decode c_Mod_isFree 115 = .ok (.iconst 1, 1) := by decide +kernel
theorem d_Mod_isFree_116 : decode c_Mod_isFree 116 = .ok (.ireturn, 1) := by decide +kernel
abbrev c_Mod_grant : ByteArray := prog_11_method_28_code
abbrev y_Mod_grant : MethodName := ⟨"FleetFloorModel", "grant", "(I)V"⟩
theorem d_Mod_grant_0 : decode c_Mod_grant 0 = .ok (.aload_n 0, 1) := by decide +kernel
theorem d_Mod_grant_1 : decode c_Mod_grant 1 = .ok (.getfield 68, 3) := by decide +kernel
theorem d_Mod_grant_4 : decode c_Mod_grant 4 = .ok (.iload_n 1, 1) := by decide +kernel
theorem d_Mod_grant_5 : decode c_Mod_grant 5 = .ok (.iaload, 1) := by decide +kernel
theorem d_Mod_grant_6 : decode c_Mod_grant 6 = .ok (.istore_n 2, 1) := by decide +kernel
theorem d_Mod_grant_7 : decode c_Mod_grant 7 = .ok (.iconst 1, 1) := by decide +kernel
theorem d_Mod_grant_8 : decode c_Mod_grant 8 = .ok (.istore_n 3, 1) := by decide +kernel
theorem d_Mod_grant_9 : decode c_Mod_grant 9 = .ok (.iload_n 3, 1) := by decide +kernel
theorem d_Mod_grant_10 : decode c_Mod_grant 10 = .ok (.ifCond .eq 103, 3) := by decide +kernel
theorem d_Mod_grant_13 : decode c_Mod_grant 13 = .ok (.aload_n 0, 1) := by decide +kernel
theorem d_Mod_grant_14 : decode c_Mod_grant 14 = .ok (.getfield 68, 3) := by decide +kernel
theorem d_Mod_grant_17 : decode c_Mod_grant 17 = .ok (.iload_n 1, 1) := by decide +kernel
theorem d_Mod_grant_18 : decode c_Mod_grant 18 = .ok (.iaload, 1) := by decide +kernel
theorem d_Mod_grant_19 : decode c_Mod_grant 19 = .ok (.aload_n 0, 1) := by decide +kernel
theorem d_Mod_grant_20 : decode c_Mod_grant 20 = .ok (.getfield 71, 3) := by decide +kernel
theorem d_Mod_grant_23 : decode c_Mod_grant 23 = .ok (.iload_n 1, 1) := by decide +kernel
theorem d_Mod_grant_24 : decode c_Mod_grant 24 = .ok (.iaload, 1) := by decide +kernel
theorem d_Mod_grant_25 : decode c_Mod_grant 25 = .ok (.if_icmp .ge 88, 3) := by decide +kernel
theorem d_Mod_grant_28 : decode c_Mod_grant 28 = .ok (.aload_n 0, 1) := by decide +kernel
theorem d_Mod_grant_29 : decode c_Mod_grant 29 = .ok (.iload_n 1, 1) := by decide +kernel
theorem d_Mod_grant_30 : decode c_Mod_grant 30 = .ok (.aload_n 0, 1) := by decide +kernel
theorem d_Mod_grant_31 : decode c_Mod_grant 31 = .ok (.getfield 68, 3) := by decide +kernel
theorem d_Mod_grant_34 : decode c_Mod_grant 34 = .ok (.iload_n 1, 1) := by decide +kernel
theorem d_Mod_grant_35 : decode c_Mod_grant 35 = .ok (.iaload, 1) := by decide +kernel
theorem d_Mod_grant_36 : decode c_Mod_grant 36 = .ok (.invokevirtual 139, 3) := by decide +kernel
theorem d_Mod_grant_39 : decode c_Mod_grant 39 = .ok (.istore 4, 2) := by decide +kernel
theorem d_Mod_grant_41 : decode c_Mod_grant 41 = .ok (.aload_n 0, 1) := by decide +kernel
theorem d_Mod_grant_42 : decode c_Mod_grant 42 = .ok (.iload_n 1, 1) := by decide +kernel
theorem d_Mod_grant_43 : decode c_Mod_grant 43 = .ok (.aload_n 0, 1) := by decide +kernel
theorem d_Mod_grant_44 : decode c_Mod_grant 44 = .ok (.getfield 50, 3) := by decide +kernel
theorem d_Mod_grant_47 : decode c_Mod_grant 47 = .ok (.iload 4, 2) := by decide +kernel
theorem d_Mod_grant_49 : decode c_Mod_grant 49 = .ok (.iaload, 1) := by decide +kernel
theorem d_Mod_grant_50 : decode c_Mod_grant 50 = .ok (.aload_n 0, 1) := by decide +kernel
theorem d_Mod_grant_51 : decode c_Mod_grant 51 = .ok (.getfield 53, 3) := by decide +kernel
theorem d_Mod_grant_54 : decode c_Mod_grant 54 = .ok (.iload 4, 2) := by decide +kernel
theorem d_Mod_grant_56 : decode c_Mod_grant 56 = .ok (.iaload, 1) := by decide +kernel
theorem d_Mod_grant_57 : decode c_Mod_grant 57 = .ok (.invokevirtual 202, 3) := by decide +kernel
theorem d_Mod_grant_60 : decode c_Mod_grant 60 = .ok (.istore_n 3, 1) := by decide +kernel
theorem d_Mod_grant_61 : decode c_Mod_grant 61 = .ok (.iload_n 3, 1) := by decide +kernel
theorem d_Mod_grant_62 : decode c_Mod_grant 62 = .ok (.ifCond .ne 6, 3) := by decide +kernel
theorem d_Mod_grant_65 : decode c_Mod_grant 65 = .ok (.goto (-56), 3) := by decide +kernel
theorem d_Mod_grant_68 : decode c_Mod_grant 68 = .ok (.aload_n 0, 1) := by decide +kernel
theorem d_Mod_grant_69 : decode c_Mod_grant 69 = .ok (.getfield 68, 3) := by decide +kernel
theorem d_Mod_grant_72 : decode c_Mod_grant 72 = .ok (.iload_n 1, 1) := by decide +kernel
theorem d_Mod_grant_73 : decode c_Mod_grant 73 = .ok (.dup2, 1) := by decide +kernel
theorem d_Mod_grant_74 : decode c_Mod_grant 74 = .ok (.iaload, 1) := by decide +kernel
theorem d_Mod_grant_75 : decode c_Mod_grant 75 = .ok (.iconst 1, 1) := by decide +kernel
theorem d_Mod_grant_76 : decode c_Mod_grant 76 = .ok (.iadd, 1) := by decide +kernel
theorem d_Mod_grant_77 : decode c_Mod_grant 77 = .ok (.iastore, 1) := by decide +kernel
theorem d_Mod_grant_78 : decode c_Mod_grant 78 = .ok (.aload_n 0, 1) := by decide +kernel
theorem d_Mod_grant_79 : decode c_Mod_grant 79 = .ok (.aload_n 0, 1) := by decide +kernel
theorem d_Mod_grant_80 : decode c_Mod_grant 80 = .ok (.getfield 53, 3) := by decide +kernel
theorem d_Mod_grant_83 : decode c_Mod_grant 83 = .ok (.iload 4, 2) := by decide +kernel
theorem d_Mod_grant_85 : decode c_Mod_grant 85 = .ok (.iaload, 1) := by decide +kernel
theorem d_Mod_grant_86 : decode c_Mod_grant 86 = .ok (.aload_n 0, 1) := by decide +kernel
theorem d_Mod_grant_87 : decode c_Mod_grant 87 = .ok (.getfield 136, 3) := by decide +kernel
theorem d_Mod_grant_90 : decode c_Mod_grant 90 = .ok (.if_icmp .le 13, 3) := by decide +kernel
theorem d_Mod_grant_93 : decode c_Mod_grant 93 = .ok (.aload_n 0, 1) := by decide +kernel
theorem d_Mod_grant_94 : decode c_Mod_grant 94 = .ok (.getfield 53, 3) := by decide +kernel
theorem d_Mod_grant_97 : decode c_Mod_grant 97 = .ok (.iload 4, 2) := by decide +kernel
theorem d_Mod_grant_99 : decode c_Mod_grant 99 = .ok (.iaload, 1) := by decide +kernel
theorem d_Mod_grant_100 : decode c_Mod_grant 100 = .ok (.goto 7, 3) := by decide +kernel
theorem d_Mod_grant_103 : decode c_Mod_grant 103 = .ok (.aload_n 0, 1) := by decide +kernel
theorem d_Mod_grant_104 : decode c_Mod_grant 104 = .ok (.getfield 136, 3) := by decide +kernel
theorem d_Mod_grant_107 : decode c_Mod_grant 107 = .ok (.putfield 136, 3) := by decide +kernel
theorem d_Mod_grant_110 : decode c_Mod_grant 110 = .ok (.goto (-101), 3) := by decide +kernel
theorem d_Mod_grant_113 : decode c_Mod_grant 113 = .ok (.aload_n 0, 1) := by decide +kernel
theorem d_Mod_grant_114 : decode c_Mod_grant 114 = .ok (.getfield 68, 3) := by decide +kernel
theorem d_Mod_grant_117 : decode c_Mod_grant 117 = .ok (.iload_n 1, 1) := by decide +kernel
theorem d_Mod_grant_118 : decode c_Mod_grant 118 = .ok (.iaload, 1) := by decide +kernel
theorem d_Mod_grant_119 : decode c_Mod_grant 119 = .ok (.iload_n 2, 1) := by decide +kernel
theorem d_Mod_grant_120 : decode c_Mod_grant 120 = .ok (.if_icmp .gt 11, 3) := by decide +kernel
theorem d_Mod_grant_123 : decode c_Mod_grant 123 = .ok (.aload_n 0, 1) := by decide +kernel
theorem d_Mod_grant_124 : decode c_Mod_grant 124 = .ok (.iload_n 1, 1) := by decide +kernel
theorem d_Mod_grant_125 : decode c_Mod_grant 125 = .ok (.invokevirtual 205, 3) := by decide +kernel
theorem d_Mod_grant_128 : decode c_Mod_grant 128 = .ok (.ifCond .eq 15, 3) := by decide +kernel
theorem d_Mod_grant_131 : decode c_Mod_grant 131 = .ok (.aload_n 0, 1) := by decide +kernel
theorem d_Mod_grant_132 : decode c_Mod_grant 132 = .ok (.iconst 0, 1) := by decide +kernel
theorem d_Mod_grant_133 : decode c_Mod_grant 133 = .ok (.iload_n 1, 1) := by decide +kernel
theorem d_Mod_grant_134 : decode c_Mod_grant 134 = .ok (.aload_n 0, 1) := by decide +kernel
theorem d_Mod_grant_135 : decode c_Mod_grant 135 = .ok (.getfield 68, 3) := by decide +kernel
theorem d_Mod_grant_138 : decode c_Mod_grant 138 = .ok (.iload_n 1, 1) := by decide +kernel
theorem d_Mod_grant_139 : decode c_Mod_grant 139 = .ok (.iaload, 1) := by decide +kernel
theorem d_Mod_grant_140 : decode c_Mod_grant 140 = .ok (.invokevirtual 208, 3) := by decide +kernel
theorem d_Mod_grant_143 : decode c_Mod_grant 143 = .ok (.return_, 1) := by decide +kernel
abbrev c_Mod_isTurn : ByteArray := prog_11_method_29_code
abbrev y_Mod_isTurn : MethodName := ⟨"FleetFloorModel", "isTurn", "(I)Z"⟩
theorem d_Mod_isTurn_0 : decode c_Mod_isTurn 0 = .ok (.aload_n 0, 1) := by decide +kernel
theorem d_Mod_isTurn_1 : decode c_Mod_isTurn 1 = .ok (.getfield 212, 3) := by decide +kernel
theorem d_Mod_isTurn_4 : decode c_Mod_isTurn 4 = .ok (.bipush 8, 2) := by decide +kernel
theorem d_Mod_isTurn_6 : decode c_Mod_isTurn 6 = .ok (.irem, 1) := by decide +kernel
theorem d_Mod_isTurn_7 : decode c_Mod_isTurn 7 = .ok (.iload_n 1, 1) := by decide +kernel
theorem d_Mod_isTurn_8 : decode c_Mod_isTurn 8 = .ok (.bipush 8, 2) := by decide +kernel
theorem d_Mod_isTurn_10 : decode c_Mod_isTurn 10 = .ok (.irem, 1) := by decide +kernel
theorem d_Mod_isTurn_11 : decode c_Mod_isTurn 11 = .ok (.if_icmp .ne 7, 3) := by decide +kernel
theorem d_Mod_isTurn_14 : decode c_Mod_isTurn 14 = .ok (.iconst 1, 1) := by decide +kernel
theorem d_Mod_isTurn_15 : decode c_Mod_isTurn 15 = .ok (.goto 4, 3) := by decide +kernel
theorem d_Mod_isTurn_18 : decode c_Mod_isTurn 18 = .ok (.iconst 0, 1) := by decide +kernel
theorem d_Mod_isTurn_19 : decode c_Mod_isTurn 19 = .ok (.ireturn, 1) := by decide +kernel
abbrev c_Mod_send : ByteArray := prog_11_method_30_code
abbrev y_Mod_send : MethodName := ⟨"FleetFloorModel", "send", "(III)V"⟩
theorem d_Mod_send_0 : decode c_Mod_send 0 = .ok (.aload_n 0, 1) := by decide +kernel
theorem d_Mod_send_1 : decode c_Mod_send 1 = .ok (.getfield 215, 3) := by decide +kernel
theorem d_Mod_send_4 : decode c_Mod_send 4 = .ok (.bipush 60, 2) := by decide +kernel
theorem d_Mod_send_6 : decode c_Mod_send 6 = .ok (.if_icmp .ne 4, 3) := by decide +kernel
theorem d_Mod_send_9 : decode c_Mod_send 9 = .ok (.return_, 1) := by decide +kernel
theorem d_Mod_send_10 : decode c_Mod_send 10 = .ok (.aload_n 0, 1) := by decide +kernel
theorem d_Mod_send_11 : decode c_Mod_send 11 = .ok (.getfield 77, 3) := by decide +kernel
theorem d_Mod_send_14 : decode c_Mod_send 14 = .ok (.aload_n 0, 1) := by decide +kernel
theorem d_Mod_send_15 : decode c_Mod_send 15 = .ok (.getfield 215, 3) := by decide +kernel
theorem d_Mod_send_18 : decode c_Mod_send 18 = .ok (.iload_n 1, 1) := by decide +kernel
theorem d_Mod_send_19 : decode c_Mod_send 19 = .ok (.iastore, 1) := by decide +kernel
theorem d_Mod_send_20 : decode c_Mod_send 20 = .ok (.aload_n 0, 1) := by decide +kernel
theorem d_Mod_send_21 : decode c_Mod_send 21 = .ok (.getfield 80, 3) := by decide +kernel
theorem d_Mod_send_24 : decode c_Mod_send 24 = .ok (.aload_n 0, 1) := by decide +kernel
theorem d_Mod_send_25 : decode c_Mod_send 25 = .ok (.getfield 215, 3) := by decide +kernel
theorem d_Mod_send_28 : decode c_Mod_send 28 = .ok (.iload_n 2, 1) := by decide +kernel
theorem d_Mod_send_29 : decode c_Mod_send 29 = .ok (.iastore, 1) := by decide +kernel
theorem d_Mod_send_30 : decode c_Mod_send 30 = .ok (.aload_n 0, 1) := by decide +kernel
theorem d_Mod_send_31 : decode c_Mod_send 31 = .ok (.getfield 83, 3) := by decide +kernel
theorem d_Mod_send_34 : decode c_Mod_send 34 = .ok (.aload_n 0, 1) := by decide +kernel
theorem d_Mod_send_35 : decode c_Mod_send 35 = .ok (.getfield 215, 3) := by decide +kernel
theorem d_Mod_send_38 : decode c_Mod_send 38 = .ok (.iload_n 3, 1) := by decide +kernel
theorem d_Mod_send_39 : decode c_Mod_send 39 = .ok (.iastore, 1) := by decide +kernel
theorem d_Mod_send_40 : decode c_Mod_send 40 = .ok (.aload_n 0, 1) := by decide +kernel
theorem d_Mod_send_41 : decode c_Mod_send 41 = .ok (.dup, 1) := by decide +kernel
theorem d_Mod_send_42 : decode c_Mod_send 42 = .ok (.getfield 215, 3) := by decide +kernel
theorem d_Mod_send_45 : decode c_Mod_send 45 = .ok (.iconst 1, 1) := by decide +kernel
theorem d_Mod_send_46 : decode c_Mod_send 46 = .ok (.iadd, 1) := by decide +kernel
theorem d_Mod_send_47 : decode c_Mod_send 47 = .ok (.putfield 215, 3) := by decide +kernel
theorem d_Mod_send_50 : decode c_Mod_send 50 = .ok (.return_, 1) := by decide +kernel
abbrev c_Mod_letters : ByteArray := prog_11_method_31_code
abbrev y_Mod_letters : MethodName := ⟨"FleetFloorModel", "letters", "()I"⟩
theorem d_Mod_letters_0 : decode c_Mod_letters 0 = .ok (.aload_n 0, 1) := by decide +kernel
theorem d_Mod_letters_1 : decode c_Mod_letters 1 = .ok (.iconst 0, 1) := by decide +kernel
theorem d_Mod_letters_2 : decode c_Mod_letters 2 = .ok (.putfield 96, 3) := by decide +kernel
theorem d_Mod_letters_5 : decode c_Mod_letters 5 = .ok (.aload_n 0, 1) := by decide +kernel
theorem d_Mod_letters_6 : decode c_Mod_letters 6 = .ok (.getfield 215, 3) := by decide +kernel
theorem d_Mod_letters_9 : decode c_Mod_letters 9 = .ok (.ireturn, 1) := by decide +kernel
abbrev c_Mod_isLetter : ByteArray := prog_11_method_32_code
abbrev y_Mod_isLetter : MethodName := ⟨"FleetFloorModel", "isLetter", "(I)Z"⟩
theorem d_Mod_isLetter_0 : decode c_Mod_isLetter 0 = .ok (.iload_n 1, 1) := by decide +kernel
theorem d_Mod_isLetter_1 : decode c_Mod_isLetter 1 = .ok (.iconst 0, 1) := by decide +kernel
theorem d_Mod_isLetter_2 : decode c_Mod_isLetter 2 = .ok (.aload_n 0, 1) := by decide +kernel
theorem d_Mod_isLetter_3 : decode c_Mod_isLetter 3 = .ok (.getfield 215, 3) := by decide +kernel
theorem d_Mod_isLetter_6 : decode c_Mod_isLetter 6 = .ok (.iconst 1, 1) := by decide +kernel
theorem d_Mod_isLetter_7 : decode c_Mod_isLetter 7 = .ok (.isub, 1) := by decide +kernel
theorem d_Mod_isLetter_8 : decode c_Mod_isLetter 8 = .ok (.invokestatic 104, 3) := by decide +kernel
theorem d_Mod_isLetter_11 : decode c_Mod_isLetter 11 = .ok (.ireturn, 1) := by decide +kernel
abbrev c_Mod_letter : ByteArray := prog_11_method_33_code
abbrev y_Mod_letter : MethodName := ⟨"FleetFloorModel", "letter", "(II)I"⟩
theorem d_Mod_letter_0 : decode c_Mod_letter 0 = .ok (.aload_n 0, 1) := by decide +kernel
theorem d_Mod_letter_1 : decode c_Mod_letter 1 = .ok (.iconst 0, 1) := by decide +kernel
theorem d_Mod_letter_2 : decode c_Mod_letter 2 = .ok (.putfield 96, 3) := by decide +kernel
theorem d_Mod_letter_5 : decode c_Mod_letter 5 = .ok (.aload_n 0, 1) := by decide +kernel
theorem d_Mod_letter_6 : decode c_Mod_letter 6 = .ok (.iload_n 1, 1) := by decide +kernel
theorem d_Mod_letter_7 : decode c_Mod_letter 7 = .ok (.invokevirtual 218, 3) := by decide +kernel
theorem d_Mod_letter_10 : decode c_Mod_letter 10 = .ok (.ifCond .ne 5, 3) := by decide +kernel
theorem d_Mod_letter_13 : decode c_Mod_letter 13 = .ok (.iconst (-1), 1) := by decide +kernel
theorem d_Mod_letter_14 : decode c_Mod_letter 14 = .ok (.ireturn, 1) := by decide +kernel
theorem d_Mod_letter_15 : decode c_Mod_letter 15 = .ok (.iload_n 2, 1) := by decide +kernel
theorem d_Mod_letter_16 : decode c_Mod_letter 16 = .ok (.ifCond .ne 12, 3) := by decide +kernel
theorem d_Mod_letter_19 : decode c_Mod_letter 19 = .ok (.aload_n 0, 1) := by decide +kernel
theorem d_Mod_letter_20 : decode c_Mod_letter 20 = .ok (.getfield 77, 3) := by decide +kernel
theorem d_Mod_letter_23 : decode c_Mod_letter 23 = .ok (.iload_n 1, 1) := by decide +kernel
theorem d_Mod_letter_24 : decode c_Mod_letter 24 = .ok (.iaload, 1) := by decide +kernel
theorem d_Mod_letter_25 : decode c_Mod_letter 25 = .ok (.goto 32, 3) := by decide +kernel
theorem d_Mod_letter_28 : decode c_Mod_letter 28 = .ok (.iload_n 2, 1) := by decide +kernel
theorem d_Mod_letter_29 : decode c_Mod_letter 29 = .ok (.iconst 1, 1) := by decide +kernel
theorem d_Mod_letter_30 : decode c_Mod_letter 30 = .ok (.if_icmp .ne 12, 3) := by decide +kernel
theorem d_Mod_letter_33 : decode c_Mod_letter 33 = .ok (.aload_n 0, 1) := by decide +kernel
theorem d_Mod_letter_34 : decode c_Mod_letter 34 = .ok (.getfield 80, 3) := by decide +kernel
theorem d_Mod_letter_37 : decode c_Mod_letter 37 = .ok (.iload_n 1, 1) := by decide +kernel
theorem d_Mod_letter_38 : decode c_Mod_letter 38 = .ok (.iaload, 1) := by decide +kernel
theorem d_Mod_letter_39 : decode c_Mod_letter 39 = .ok (.goto 18, 3) := by decide +kernel
theorem d_Mod_letter_42 : decode c_Mod_letter 42 = .ok (.iload_n 2, 1) := by decide +kernel
theorem d_Mod_letter_43 : decode c_Mod_letter 43 = .ok (.iconst 2, 1) := by decide +kernel
theorem d_Mod_letter_44 : decode c_Mod_letter 44 = .ok (.if_icmp .ne 12, 3) := by decide +kernel
theorem d_Mod_letter_47 : decode c_Mod_letter 47 = .ok (.aload_n 0, 1) := by decide +kernel
theorem d_Mod_letter_48 : decode c_Mod_letter 48 = .ok (.getfield 83, 3) := by decide +kernel
theorem d_Mod_letter_51 : decode c_Mod_letter 51 = .ok (.iload_n 1, 1) := by decide +kernel
theorem d_Mod_letter_52 : decode c_Mod_letter 52 = .ok (.iaload, 1) := by decide +kernel
theorem d_Mod_letter_53 : decode c_Mod_letter 53 = .ok (.goto 4, 3) := by decide +kernel
theorem d_Mod_letter_56 : decode c_Mod_letter 56 = .ok (.iconst (-1), 1) := by decide +kernel
theorem d_Mod_letter_57 : decode c_Mod_letter 57 = .ok (.ireturn, 1) := by decide +kernel
abbrev c_Mod_remove : ByteArray := prog_11_method_34_code
abbrev y_Mod_remove : MethodName := ⟨"FleetFloorModel", "remove", "(I)V"⟩
theorem d_Mod_remove_0 : decode c_Mod_remove 0 = .ok (.aload_n 0, 1) := by decide +kernel
theorem d_Mod_remove_1 : decode c_Mod_remove 1 = .ok (.dup, 1) := by decide +kernel
theorem d_Mod_remove_2 : decode c_Mod_remove 2 = .ok (.getfield 215, 3) := by decide +kernel
theorem d_Mod_remove_5 : decode c_Mod_remove 5 = .ok (.iconst 1, 1) := by decide +kernel
theorem d_Mod_remove_6 : decode c_Mod_remove 6 = .ok (.isub, 1) := by decide +kernel
theorem d_Mod_remove_7 : decode c_Mod_remove 7 = .ok (.putfield 215, 3) := by decide +kernel
theorem d_Mod_remove_10 : decode c_Mod_remove 10 = .ok (.iload_n 1, 1) := by decide +kernel
theorem d_Mod_remove_11 : decode c_Mod_remove 11 = .ok (.istore_n 2, 1) := by decide +kernel
theorem d_Mod_remove_12 : decode c_Mod_remove 12 = .ok (.iload_n 2, 1) := by decide +kernel
theorem d_Mod_remove_13 : decode c_Mod_remove 13 = .ok (.aload_n 0, 1) := by decide +kernel
theorem d_Mod_remove_14 : decode c_Mod_remove 14 = .ok (.getfield 215, 3) := by decide +kernel
theorem d_Mod_remove_17 : decode c_Mod_remove 17 = .ok (.if_icmp .ge 51, 3) := by decide +kernel
theorem d_Mod_remove_20 : decode c_Mod_remove 20 = .ok (.aload_n 0, 1) := by decide +kernel
theorem d_Mod_remove_21 : decode c_Mod_remove 21 = .ok (.getfield 77, 3) := by decide +kernel
theorem d_Mod_remove_24 : decode c_Mod_remove 24 = .ok (.iload_n 2, 1) := by decide +kernel
theorem d_Mod_remove_25 : decode c_Mod_remove 25 = .ok (.aload_n 0, 1) := by decide +kernel
theorem d_Mod_remove_26 : decode c_Mod_remove 26 = .ok (.getfield 77, 3) := by decide +kernel
theorem d_Mod_remove_29 : decode c_Mod_remove 29 = .ok (.iload_n 2, 1) := by decide +kernel
theorem d_Mod_remove_30 : decode c_Mod_remove 30 = .ok (.iconst 1, 1) := by decide +kernel
theorem d_Mod_remove_31 : decode c_Mod_remove 31 = .ok (.iadd, 1) := by decide +kernel
theorem d_Mod_remove_32 : decode c_Mod_remove 32 = .ok (.iaload, 1) := by decide +kernel
theorem d_Mod_remove_33 : decode c_Mod_remove 33 = .ok (.iastore, 1) := by decide +kernel
theorem d_Mod_remove_34 : decode c_Mod_remove 34 = .ok (.aload_n 0, 1) := by decide +kernel
theorem d_Mod_remove_35 : decode c_Mod_remove 35 = .ok (.getfield 80, 3) := by decide +kernel
theorem d_Mod_remove_38 : decode c_Mod_remove 38 = .ok (.iload_n 2, 1) := by decide +kernel
theorem d_Mod_remove_39 : decode c_Mod_remove 39 = .ok (.aload_n 0, 1) := by decide +kernel
theorem d_Mod_remove_40 : decode c_Mod_remove 40 = .ok (.getfield 80, 3) := by decide +kernel
theorem d_Mod_remove_43 : decode c_Mod_remove 43 = .ok (.iload_n 2, 1) := by decide +kernel
theorem d_Mod_remove_44 : decode c_Mod_remove 44 = .ok (.iconst 1, 1) := by decide +kernel
theorem d_Mod_remove_45 : decode c_Mod_remove 45 = .ok (.iadd, 1) := by decide +kernel
theorem d_Mod_remove_46 : decode c_Mod_remove 46 = .ok (.iaload, 1) := by decide +kernel
theorem d_Mod_remove_47 : decode c_Mod_remove 47 = .ok (.iastore, 1) := by decide +kernel
theorem d_Mod_remove_48 : decode c_Mod_remove 48 = .ok (.aload_n 0, 1) := by decide +kernel
theorem d_Mod_remove_49 : decode c_Mod_remove 49 = .ok (.getfield 83, 3) := by decide +kernel
theorem d_Mod_remove_52 : decode c_Mod_remove 52 = .ok (.iload_n 2, 1) := by decide +kernel
theorem d_Mod_remove_53 : decode c_Mod_remove 53 = .ok (.aload_n 0, 1) := by decide +kernel
theorem d_Mod_remove_54 : decode c_Mod_remove 54 = .ok (.getfield 83, 3) := by decide +kernel
theorem d_Mod_remove_57 : decode c_Mod_remove 57 = .ok (.iload_n 2, 1) := by decide +kernel
theorem d_Mod_remove_58 : decode c_Mod_remove 58 = .ok (.iconst 1, 1) := by decide +kernel
theorem d_Mod_remove_59 : decode c_Mod_remove 59 = .ok (.iadd, 1) := by decide +kernel
theorem d_Mod_remove_60 : decode c_Mod_remove 60 = .ok (.iaload, 1) := by decide +kernel
theorem d_Mod_remove_61 : decode c_Mod_remove 61 = .ok (.iastore, 1) := by decide +kernel
theorem d_Mod_remove_62 : decode c_Mod_remove 62 = .ok (.iinc 2 1, 3) := by decide +kernel
theorem d_Mod_remove_65 : decode c_Mod_remove 65 = .ok (.goto (-53), 3) := by decide +kernel
theorem d_Mod_remove_68 : decode c_Mod_remove 68 = .ok (.return_, 1) := by decide +kernel
abbrev c_Mod_deliver : ByteArray := prog_11_method_35_code
abbrev y_Mod_deliver : MethodName := ⟨"FleetFloorModel", "deliver", "(I)Z"⟩
theorem d_Mod_deliver_0 : decode c_Mod_deliver 0 = .ok (.aload_n 0, 1) := by decide +kernel
theorem d_Mod_deliver_1 : decode c_Mod_deliver 1 = .ok (.iconst 0, 1) := by decide +kernel
theorem d_Mod_deliver_2 : decode c_Mod_deliver 2 = .ok (.putfield 96, 3) := by decide +kernel
theorem d_Mod_deliver_5 : decode c_Mod_deliver 5 = .ok (.aload_n 0, 1) := by decide +kernel
theorem d_Mod_deliver_6 : decode c_Mod_deliver 6 = .ok (.iload_n 1, 1) := by decide +kernel
theorem d_Mod_deliver_7 : decode c_Mod_deliver 7 = .ok (.invokevirtual 218, 3) := by decide +kernel
theorem d_Mod_deliver_10 : decode c_Mod_deliver 10 = .ok (.ifCond .ne 5, 3) := by decide +kernel
theorem d_Mod_deliver_13 : decode c_Mod_deliver 13 = .ok (.iconst 0, 1) := by decide +kernel
theorem d_Mod_deliver_14 : decode c_Mod_deliver 14 = .ok (.ireturn, 1) := by decide +kernel
theorem d_Mod_deliver_15 : decode c_Mod_deliver 15 = .ok (.aload_n 0, 1) := by decide +kernel
theorem d_Mod_deliver_16 : decode c_Mod_deliver 16 = .ok (.getfield 80, 3) := by decide +kernel
theorem d_Mod_deliver_19 : decode c_Mod_deliver 19 = .ok (.iload_n 1, 1) := by decide +kernel
theorem d_Mod_deliver_20 : decode c_Mod_deliver 20 = .ok (.iaload, 1) := by decide +kernel
theorem d_Mod_deliver_21 : decode c_Mod_deliver 21 = .ok (.istore_n 2, 1) := by decide +kernel
theorem d_Mod_deliver_22 : decode c_Mod_deliver 22 = .ok (.aload_n 0, 1) := by decide +kernel
theorem d_Mod_deliver_23 : decode c_Mod_deliver 23 = .ok (.getfield 83, 3) := by decide +kernel
theorem d_Mod_deliver_26 : decode c_Mod_deliver 26 = .ok (.iload_n 1, 1) := by decide +kernel
theorem d_Mod_deliver_27 : decode c_Mod_deliver 27 = .ok (.iaload, 1) := by decide +kernel
theorem d_Mod_deliver_28 : decode c_Mod_deliver 28 = .ok (.istore_n 3, 1) := by decide +kernel
theorem d_Mod_deliver_29 : decode c_Mod_deliver 29 = .ok (.aload_n 0, 1) := by decide +kernel
theorem d_Mod_deliver_30 : decode c_Mod_deliver 30 = .ok (.getfield 77, 3) := by decide +kernel
theorem d_Mod_deliver_33 : decode c_Mod_deliver 33 = .ok (.iload_n 1, 1) := by decide +kernel
theorem d_Mod_deliver_34 : decode c_Mod_deliver 34 = .ok (.iaload, 1) := by decide +kernel
theorem d_Mod_deliver_35 : decode c_Mod_deliver 35 = .ok (.ifCond .ne 32, 3) := by decide +kernel
theorem d_Mod_deliver_38 : decode c_Mod_deliver 38 = .ok (.aload_n 0, 1) := by decide +kernel
theorem d_Mod_deliver_39 : decode c_Mod_deliver 39 = .ok (.getfield 62, 3) := by decide +kernel
theorem d_Mod_deliver_42 : decode c_Mod_deliver 42 = .ok (.iload_n 2, 1) := by decide +kernel
theorem d_Mod_deliver_43 : decode c_Mod_deliver 43 = .ok (.iload_n 3, 1) := by decide +kernel
theorem d_Mod_deliver_44 : decode c_Mod_deliver 44 = .ok (.aload_n 0, 1) := by decide +kernel
theorem d_Mod_deliver_45 : decode c_Mod_deliver 45 = .ok (.getfield 62, 3) := by decide +kernel
theorem d_Mod_deliver_48 : decode c_Mod_deliver 48 = .ok (.iload_n 2, 1) := by decide +kernel
theorem d_Mod_deliver_49 : decode c_Mod_deliver 49 = .ok (.iaload, 1) := by decide +kernel
theorem d_Mod_deliver_50 : decode c_Mod_deliver 50 = .ok (.if_icmp .le 7, 3) := by decide +kernel
theorem d_Mod_deliver_53 : decode c_Mod_deliver 53 = .ok (.iload_n 3, 1) := by decide +kernel
theorem d_Mod_deliver_54 : decode c_Mod_deliver 54 = .ok (.goto 9, 3) := by decide +kernel
theorem d_Mod_deliver_57 : decode c_Mod_deliver 57 = .ok (.aload_n 0, 1) := by decide +kernel
theorem d_Mod_deliver_58 : decode c_Mod_deliver 58 = .ok (.getfield 62, 3) := by decide +kernel
theorem d_Mod_deliver_61 : decode c_Mod_deliver 61 = .ok (.iload_n 2, 1) := by decide +kernel
theorem d_Mod_deliver_62 : decode c_Mod_deliver 62 = .ok (.iaload, 1) := by decide +kernel
theorem d_Mod_deliver_63 : decode c_Mod_deliver 63 = .ok (.iastore, 1) := by decide +kernel
theorem d_Mod_deliver_64 : decode c_Mod_deliver 64 = .ok (.goto 29, 3) := by decide +kernel
theorem d_Mod_deliver_67 : decode c_Mod_deliver 67 = .ok (.aload_n 0, 1) := by decide +kernel
theorem d_Mod_deliver_68 : decode c_Mod_deliver 68 = .ok (.getfield 65, 3) := by decide +kernel
theorem d_Mod_deliver_71 : decode c_Mod_deliver 71 = .ok (.iload_n 2, 1) := by decide +kernel
theorem d_Mod_deliver_72 : decode c_Mod_deliver 72 = .ok (.iload_n 3, 1) := by decide +kernel
theorem d_Mod_deliver_73 : decode c_Mod_deliver 73 = .ok (.aload_n 0, 1) := by decide +kernel
theorem d_Mod_deliver_74 : decode c_Mod_deliver 74 = .ok (.getfield 65, 3) := by decide +kernel
theorem d_Mod_deliver_77 : decode c_Mod_deliver 77 = .ok (.iload_n 2, 1) := by decide +kernel
theorem d_Mod_deliver_78 : decode c_Mod_deliver 78 = .ok (.iaload, 1) := by decide +kernel
theorem d_Mod_deliver_79 : decode c_Mod_deliver 79 = .ok (.if_icmp .le 7, 3) := by decide +kernel
theorem d_Mod_deliver_82 : decode c_Mod_deliver 82 = .ok (.iload_n 3, 1) := by decide +kernel
theorem d_Mod_deliver_83 : decode c_Mod_deliver 83 = .ok (.goto 9, 3) := by decide +kernel
theorem d_Mod_deliver_86 : decode c_Mod_deliver 86 = .ok (.aload_n 0, 1) := by decide +kernel
theorem d_Mod_deliver_87 : decode c_Mod_deliver 87 = .ok (.getfield 65, 3) := by decide +kernel
theorem d_Mod_deliver_90 : decode c_Mod_deliver 90 = .ok (.iload_n 2, 1) := by decide +kernel
theorem d_Mod_deliver_91 : decode c_Mod_deliver 91 = .ok (.iaload, 1) := by decide +kernel
theorem d_Mod_deliver_92 : decode c_Mod_deliver 92 = .ok (.iastore, 1) := by decide +kernel
theorem d_Mod_deliver_93 : decode c_Mod_deliver 93 = .ok (.aload_n 0, 1) := by decide +kernel
theorem d_Mod_deliver_94 : decode c_Mod_deliver 94 = .ok (.iload_n 1, 1) := by decide +kernel
theorem d_Mod_deliver_95 : decode c_Mod_deliver 95 = .ok (.invokevirtual 221, 3) := by decide +kernel
theorem d_Mod_deliver_98 : decode c_Mod_deliver 98 = .ok (.iconst 1, 1) := by decide +kernel
theorem d_Mod_deliver_99 : decode c_Mod_deliver 99 = .ok (.ireturn, 1) := by decide +kernel
abbrev c_Mod_lose : ByteArray := prog_11_method_36_code
abbrev y_Mod_lose : MethodName := ⟨"FleetFloorModel", "lose", "(I)Z"⟩
theorem d_Mod_lose_0 : decode c_Mod_lose 0 = .ok (.aload_n 0, 1) := by decide +kernel
theorem d_Mod_lose_1 : decode c_Mod_lose 1 = .ok (.iconst 0, 1) := by decide +kernel
theorem d_Mod_lose_2 : decode c_Mod_lose 2 = .ok (.putfield 96, 3) := by decide +kernel
theorem d_Mod_lose_5 : decode c_Mod_lose 5 = .ok (.aload_n 0, 1) := by decide +kernel
theorem d_Mod_lose_6 : decode c_Mod_lose 6 = .ok (.iload_n 1, 1) := by decide +kernel
theorem d_Mod_lose_7 : decode c_Mod_lose 7 = .ok (.invokevirtual 218, 3) := by decide +kernel
theorem d_Mod_lose_10 : decode c_Mod_lose 10 = .ok (.ifCond .ne 5, 3) := by decide +kernel
theorem d_Mod_lose_13 : decode c_Mod_lose 13 = .ok (.iconst 0, 1) := by decide +kernel
theorem d_Mod_lose_14 : decode c_Mod_lose 14 = .ok (.ireturn, 1) := by decide +kernel
theorem d_Mod_lose_15 : decode c_Mod_lose 15 = .ok (.aload_n 0, 1) := by decide +kernel
theorem d_Mod_lose_16 : decode c_Mod_lose 16 = .ok (.iload_n 1, 1) := by decide +kernel
theorem d_Mod_lose_17 : decode c_Mod_lose 17 = .ok (.invokevirtual 221, 3) := by decide +kernel
theorem d_Mod_lose_20 : decode c_Mod_lose 20 = .ok (.iconst 1, 1) := by decide +kernel
theorem d_Mod_lose_21 : decode c_Mod_lose 21 = .ok (.ireturn, 1) := by decide +kernel
abbrev c_Mod_twin : ByteArray := prog_11_method_37_code
abbrev y_Mod_twin : MethodName := ⟨"FleetFloorModel", "twin", "(I)Z"⟩
theorem d_Mod_twin_0 : decode c_Mod_twin 0 = .ok (.aload_n 0, 1) := by decide +kernel
theorem d_Mod_twin_1 : decode c_Mod_twin 1 = .ok (.iconst 0, 1) := by decide +kernel
theorem d_Mod_twin_2 : decode c_Mod_twin 2 = .ok (.putfield 96, 3) := by decide +kernel
theorem d_Mod_twin_5 : decode c_Mod_twin 5 = .ok (.aload_n 0, 1) := by decide +kernel
theorem d_Mod_twin_6 : decode c_Mod_twin 6 = .ok (.iload_n 1, 1) := by decide +kernel
theorem d_Mod_twin_7 : decode c_Mod_twin 7 = .ok (.invokevirtual 218, 3) := by decide +kernel
theorem d_Mod_twin_10 : decode c_Mod_twin 10 = .ok (.ifCond .eq 12, 3) := by decide +kernel
theorem d_Mod_twin_13 : decode c_Mod_twin 13 = .ok (.aload_n 0, 1) := by decide +kernel
theorem d_Mod_twin_14 : decode c_Mod_twin 14 = .ok (.getfield 215, 3) := by decide +kernel
theorem d_Mod_twin_17 : decode c_Mod_twin 17 = .ok (.bipush 60, 2) := by decide +kernel
theorem d_Mod_twin_19 : decode c_Mod_twin 19 = .ok (.if_icmp .ne 5, 3) := by decide +kernel
theorem d_Mod_twin_22 : decode c_Mod_twin 22 = .ok (.iconst 0, 1) := by decide +kernel
theorem d_Mod_twin_23 : decode c_Mod_twin 23 = .ok (.ireturn, 1) := by decide +kernel
theorem d_Mod_twin_24 : decode c_Mod_twin 24 = .ok (.aload_n 0, 1) := by decide +kernel
theorem d_Mod_twin_25 : decode c_Mod_twin 25 = .ok (.aload_n 0, 1) := by decide +kernel
theorem d_Mod_twin_26 : decode c_Mod_twin 26 = .ok (.getfield 77, 3) := by decide +kernel
theorem d_Mod_twin_29 : decode c_Mod_twin 29 = .ok (.iload_n 1, 1) := by decide +kernel
theorem d_Mod_twin_30 : decode c_Mod_twin 30 = .ok (.iaload, 1) := by decide +kernel
theorem d_Mod_twin_31 : decode c_Mod_twin 31 = .ok (.aload_n 0, 1) := by decide +kernel
theorem d_Mod_twin_32 : decode c_Mod_twin 32 = .ok (.getfield 80, 3) := by decide +kernel
theorem d_Mod_twin_35 : decode c_Mod_twin 35 = .ok (.iload_n 1, 1) := by decide +kernel
theorem d_Mod_twin_36 : decode c_Mod_twin 36 = .ok (.iaload, 1) := by decide +kernel
theorem d_Mod_twin_37 : decode c_Mod_twin 37 = .ok (.aload_n 0, 1) := by decide +kernel
theorem d_Mod_twin_38 : decode c_Mod_twin 38 = .ok (.getfield 83, 3) := by decide +kernel
theorem d_Mod_twin_41 : decode c_Mod_twin 41 = .ok (.iload_n 1, 1) := by decide +kernel
theorem d_Mod_twin_42 : decode c_Mod_twin 42 = .ok (.iaload, 1) := by decide +kernel
theorem d_Mod_twin_43 : decode c_Mod_twin 43 = .ok (.invokevirtual 208, 3) := by decide +kernel
theorem d_Mod_twin_46 : decode c_Mod_twin 46 = .ok (.iconst 1, 1) := by decide +kernel
theorem d_Mod_twin_47 : decode c_Mod_twin 47 = .ok (.ireturn, 1) := by decide +kernel
abbrev c_Mod_go : ByteArray := prog_11_method_38_code
abbrev y_Mod_go : MethodName := ⟨"FleetFloorModel", "go", "(I)V"⟩
theorem d_Mod_go_0 : decode c_Mod_go 0 = .ok (.aload_n 0, 1) := by decide +kernel
theorem d_Mod_go_1 : decode c_Mod_go 1 = .ok (.getfield 56, 3) := by decide +kernel
theorem d_Mod_go_4 : decode c_Mod_go 4 = .ok (.iload_n 1, 1) := by decide +kernel
theorem d_Mod_go_5 : decode c_Mod_go 5 = .ok (.aload_n 0, 1) := by decide +kernel
theorem d_Mod_go_6 : decode c_Mod_go 6 = .ok (.getfield 50, 3) := by decide +kernel
theorem d_Mod_go_9 : decode c_Mod_go 9 = .ok (.aload_n 0, 1) := by decide +kernel
theorem d_Mod_go_10 : decode c_Mod_go 10 = .ok (.iload_n 1, 1) := by decide +kernel
theorem d_Mod_go_11 : decode c_Mod_go 11 = .ok (.aload_n 0, 1) := by decide +kernel
theorem d_Mod_go_12 : decode c_Mod_go 12 = .ok (.getfield 59, 3) := by decide +kernel
theorem d_Mod_go_15 : decode c_Mod_go 15 = .ok (.iload_n 1, 1) := by decide +kernel
theorem d_Mod_go_16 : decode c_Mod_go 16 = .ok (.iaload, 1) := by decide +kernel
theorem d_Mod_go_17 : decode c_Mod_go 17 = .ok (.invokevirtual 139, 3) := by decide +kernel
theorem d_Mod_go_20 : decode c_Mod_go 20 = .ok (.iaload, 1) := by decide +kernel
theorem d_Mod_go_21 : decode c_Mod_go 21 = .ok (.iastore, 1) := by decide +kernel
theorem d_Mod_go_22 : decode c_Mod_go 22 = .ok (.iconst 0, 1) := by decide +kernel
theorem d_Mod_go_23 : decode c_Mod_go 23 = .ok (.istore_n 2, 1) := by decide +kernel
theorem d_Mod_go_24 : decode c_Mod_go 24 = .ok (.iload_n 2, 1) := by decide +kernel
theorem d_Mod_go_25 : decode c_Mod_go 25 = .ok (.aload_n 0, 1) := by decide +kernel
theorem d_Mod_go_26 : decode c_Mod_go 26 = .ok (.getfield 133, 3) := by decide +kernel
theorem d_Mod_go_29 : decode c_Mod_go 29 = .ok (.if_icmp .ge 44, 3) := by decide +kernel
theorem d_Mod_go_32 : decode c_Mod_go 32 = .ok (.aload_n 0, 1) := by decide +kernel
theorem d_Mod_go_33 : decode c_Mod_go 33 = .ok (.getfield 32, 3) := by decide +kernel
theorem d_Mod_go_36 : decode c_Mod_go 36 = .ok (.iload_n 2, 1) := by decide +kernel
theorem d_Mod_go_37 : decode c_Mod_go 37 = .ok (.iaload, 1) := by decide +kernel
theorem d_Mod_go_38 : decode c_Mod_go 38 = .ok (.iload_n 1, 1) := by decide +kernel
theorem d_Mod_go_39 : decode c_Mod_go 39 = .ok (.if_icmp .ne 28, 3) := by decide +kernel
theorem d_Mod_go_42 : decode c_Mod_go 42 = .ok (.aload_n 0, 1) := by decide +kernel
theorem d_Mod_go_43 : decode c_Mod_go 43 = .ok (.getfield 44, 3) := by decide +kernel
theorem d_Mod_go_46 : decode c_Mod_go 46 = .ok (.iload_n 2, 1) := by decide +kernel
theorem d_Mod_go_47 : decode c_Mod_go 47 = .ok (.iaload, 1) := by decide +kernel
theorem d_Mod_go_48 : decode c_Mod_go 48 = .ok (.aload_n 0, 1) := by decide +kernel
theorem d_Mod_go_49 : decode c_Mod_go 49 = .ok (.getfield 59, 3) := by decide +kernel
theorem d_Mod_go_52 : decode c_Mod_go 52 = .ok (.iload_n 1, 1) := by decide +kernel
theorem d_Mod_go_53 : decode c_Mod_go 53 = .ok (.iaload, 1) := by decide +kernel
theorem d_Mod_go_54 : decode c_Mod_go 54 = .ok (.if_icmp .ne 13, 3) := by decide +kernel
theorem d_Mod_go_57 : decode c_Mod_go 57 = .ok (.aload_n 0, 1) := by decide +kernel
theorem d_Mod_go_58 : decode c_Mod_go 58 = .ok (.getfield 47, 3) := by decide +kernel
theorem d_Mod_go_61 : decode c_Mod_go 61 = .ok (.iload_n 2, 1) := by decide +kernel
theorem d_Mod_go_62 : decode c_Mod_go 62 = .ok (.aload_n 0, 1) := by decide +kernel
theorem d_Mod_go_63 : decode c_Mod_go 63 = .ok (.getfield 212, 3) := by decide +kernel
theorem d_Mod_go_66 : decode c_Mod_go 66 = .ok (.iastore, 1) := by decide +kernel
theorem d_Mod_go_67 : decode c_Mod_go 67 = .ok (.iinc 2 1, 3) := by decide +kernel
theorem d_Mod_go_70 : decode c_Mod_go 70 = .ok (.goto (-46), 3) := by decide +kernel
theorem d_Mod_go_73 : decode c_Mod_go 73 = .ok (.aload_n 0, 1) := by decide +kernel
theorem d_Mod_go_74 : decode c_Mod_go 74 = .ok (.getfield 59, 3) := by decide +kernel
theorem d_Mod_go_77 : decode c_Mod_go 77 = .ok (.iload_n 1, 1) := by decide +kernel
theorem d_Mod_go_78 : decode c_Mod_go 78 = .ok (.dup2, 1) := by decide +kernel
theorem d_Mod_go_79 : decode c_Mod_go 79 = .ok (.iaload, 1) := by decide +kernel
theorem d_Mod_go_80 : decode c_Mod_go 80 = .ok (.iconst 1, 1) := by decide +kernel
theorem d_Mod_go_81 : decode c_Mod_go 81 = .ok (.iadd, 1) := by decide +kernel
theorem d_Mod_go_82 : decode c_Mod_go 82 = .ok (.iastore, 1) := by decide +kernel
theorem d_Mod_go_83 : decode c_Mod_go 83 = .ok (.return_, 1) := by decide +kernel
abbrev c_Mod_tick : ByteArray := prog_11_method_39_code
abbrev y_Mod_tick : MethodName := ⟨"FleetFloorModel", "tick", "()I"⟩
theorem d_Mod_tick_0 : decode c_Mod_tick 0 = .ok (.aload_n 0, 1) := by decide +kernel
theorem d_Mod_tick_1 : decode c_Mod_tick 1 = .ok (.aload_n 0, 1) := by decide +kernel
theorem d_Mod_tick_2 : decode c_Mod_tick 2 = .ok (.getfield 100, 3) := by decide +kernel
theorem d_Mod_tick_5 : decode c_Mod_tick 5 = .ok (.ifCond .ne 7, 3) := by decide +kernel
theorem d_Mod_tick_8 : decode c_Mod_tick 8 = .ok (.iconst 1, 1) := by decide +kernel
theorem d_Mod_tick_9 : decode c_Mod_tick 9 = .ok (.goto 4, 3) := by decide +kernel
theorem d_Mod_tick_12 : decode c_Mod_tick 12 = .ok (.iconst 0, 1) := by decide +kernel
theorem d_Mod_tick_13 : decode c_Mod_tick 13 = .ok (.iconst 0, 1) := by decide +kernel
theorem d_Mod_tick_14 : decode c_Mod_tick 14 = .ok (.invokevirtual 120, 3) := by decide +kernel
theorem d_Mod_tick_17 : decode c_Mod_tick 17 = .ok (.ifCond .eq 5, 3) := by decide +kernel
theorem d_Mod_tick_20 : decode c_Mod_tick 20 = .ok (.iconst 0, 1) := by decide +kernel
theorem d_Mod_tick_21 : decode c_Mod_tick 21 = .ok (.ireturn, 1) := by decide +kernel
theorem d_Mod_tick_22 : decode c_Mod_tick 22 = .ok (.iconst 0, 1) := by decide +kernel
theorem d_Mod_tick_23 : decode c_Mod_tick 23 = .ok (.istore_n 1, 1) := by decide +kernel
theorem d_Mod_tick_24 : decode c_Mod_tick 24 = .ok (.iconst 0, 1) := by decide +kernel
theorem d_Mod_tick_25 : decode c_Mod_tick 25 = .ok (.istore_n 2, 1) := by decide +kernel
theorem d_Mod_tick_26 : decode c_Mod_tick 26 = .ok (.iload_n 2, 1) := by decide +kernel
theorem d_Mod_tick_27 : decode c_Mod_tick 27 = .ok (.aload_n 0, 1) := by decide +kernel
theorem d_Mod_tick_28 : decode c_Mod_tick 28 = .ok (.getfield 127, 3) := by decide +kernel
theorem d_Mod_tick_31 : decode c_Mod_tick 31 = .ok (.if_icmp .ge 75, 3) := by decide +kernel
theorem d_Mod_tick_34 : decode c_Mod_tick 34 = .ok (.aload_n 0, 1) := by decide +kernel
theorem d_Mod_tick_35 : decode c_Mod_tick 35 = .ok (.getfield 59, 3) := by decide +kernel
theorem d_Mod_tick_38 : decode c_Mod_tick 38 = .ok (.iload_n 2, 1) := by decide +kernel
theorem d_Mod_tick_39 : decode c_Mod_tick 39 = .ok (.iaload, 1) := by decide +kernel
theorem d_Mod_tick_40 : decode c_Mod_tick 40 = .ok (.aload_n 0, 1) := by decide +kernel
theorem d_Mod_tick_41 : decode c_Mod_tick 41 = .ok (.getfield 62, 3) := by decide +kernel
theorem d_Mod_tick_44 : decode c_Mod_tick 44 = .ok (.iload_n 2, 1) := by decide +kernel
theorem d_Mod_tick_45 : decode c_Mod_tick 45 = .ok (.iaload, 1) := by decide +kernel
theorem d_Mod_tick_46 : decode c_Mod_tick 46 = .ok (.if_icmp .ge 7, 3) := by decide +kernel
theorem d_Mod_tick_49 : decode c_Mod_tick 49 = .ok (.iconst 1, 1) := by decide +kernel
theorem d_Mod_tick_50 : decode c_Mod_tick 50 = .ok (.goto 4, 3) := by decide +kernel
theorem d_Mod_tick_53 : decode c_Mod_tick 53 = .ok (.iconst 0, 1) := by decide +kernel
theorem d_Mod_tick_54 : decode c_Mod_tick 54 = .ok (.istore_n 3, 1) := by decide +kernel
theorem d_Mod_tick_55 : decode c_Mod_tick 55 = .ok (.iload_n 3, 1) := by decide +kernel
theorem d_Mod_tick_56 : decode c_Mod_tick 56 = .ok (.ifCond .eq 8, 3) := by decide +kernel
theorem d_Mod_tick_59 : decode c_Mod_tick 59 = .ok (.aload_n 0, 1) := by decide +kernel
theorem d_Mod_tick_60 : decode c_Mod_tick 60 = .ok (.iload_n 2, 1) := by decide +kernel
theorem d_Mod_tick_61 : decode c_Mod_tick 61 = .ok (.invokevirtual 224, 3) := by decide +kernel
theorem d_Mod_tick_64 : decode c_Mod_tick 64 = .ok (.iload_n 3, 1) := by decide +kernel
theorem d_Mod_tick_65 : decode c_Mod_tick 65 = .ok (.ifCond .ne 11, 3) := by decide +kernel
theorem d_Mod_tick_68 : decode c_Mod_tick 68 = .ok (.aload_n 0, 1) := by decide +kernel
theorem d_Mod_tick_69 : decode c_Mod_tick 69 = .ok (.iload_n 2, 1) := by decide +kernel
theorem d_Mod_tick_70 : decode c_Mod_tick 70 = .ok (.invokevirtual 205, 3) := by decide +kernel
theorem d_Mod_tick_73 : decode c_Mod_tick 73 = .ok (.ifCond .eq 15, 3) := by decide +kernel
theorem d_Mod_tick_76 : decode c_Mod_tick 76 = .ok (.aload_n 0, 1) := by decide +kernel
theorem d_Mod_tick_77 : decode c_Mod_tick 77 = .ok (.iconst 1, 1) := by decide +kernel
theorem d_Mod_tick_78 : decode c_Mod_tick 78 = .ok (.iload_n 2, 1) := by decide +kernel
theorem d_Mod_tick_79 : decode c_Mod_tick 79 = .ok (.aload_n 0, 1) := by decide +kernel
theorem d_Mod_tick_80 : decode c_Mod_tick 80 = .ok (.getfield 59, 3) := by decide +kernel
theorem d_Mod_tick_83 : decode c_Mod_tick 83 = .ok (.iload_n 2, 1) := by decide +kernel
theorem d_Mod_tick_84 : decode c_Mod_tick 84 = .ok (.iaload, 1) := by decide +kernel
theorem d_Mod_tick_85 : decode c_Mod_tick 85 = .ok (.invokevirtual 208, 3) := by decide +kernel
theorem d_Mod_tick_88 : decode c_Mod_tick 88 = .ok (.iload_n 1, 1) := by decide +kernel
theorem d_Mod_tick_89 : decode c_Mod_tick 89 = .ok (.iload_n 3, 1) := by decide +kernel
theorem d_Mod_tick_90 : decode c_Mod_tick 90 = .ok (.ifCond .eq 7, 3) := by decide +kernel
theorem d_Mod_tick_93 : decode c_Mod_tick 93 = .ok (.iconst 1, 1) := by decide +kernel
theorem d_Mod_tick_94 : decode c_Mod_tick 94 = .ok (.goto 4, 3) := by decide +kernel
theorem d_Mod_tick_97 : decode c_Mod_tick 97 = .ok (.iconst 0, 1) := by decide +kernel
theorem d_Mod_tick_98 : decode c_Mod_tick 98 = .ok (.iadd, 1) := by decide +kernel
theorem d_Mod_tick_99 : decode c_Mod_tick 99 = .ok (.istore_n 1, 1) := by decide +kernel
theorem d_Mod_tick_100 : decode c_Mod_tick 100 = .ok (.iinc 2 1, 3) := by decide +kernel
theorem d_Mod_tick_103 : decode c_Mod_tick 103 = .ok (.goto (-77), 3) := by decide +kernel
theorem d_Mod_tick_106 : decode c_Mod_tick 106 = .ok (.aload_n 0, 1) := by decide +kernel
theorem d_Mod_tick_107 : decode c_Mod_tick 107 = .ok (.getfield 212, 3) := by decide +kernel
theorem d_Mod_tick_110 : decode c_Mod_tick 110 = .ok (.iconst 4, 1) := by decide +kernel
theorem d_Mod_tick_111 : decode c_Mod_tick 111 = .ok (.irem, 1) := by decide +kernel
theorem d_Mod_tick_112 : decode c_Mod_tick 112 = .ok (.ifCond .ne 7, 3) := by decide +kernel
theorem d_Mod_tick_115 : decode c_Mod_tick 115 = .ok (.aload_n 0, 1) := by decide +kernel
theorem d_Mod_tick_116 : decode c_Mod_tick 116 = .ok (.invokevirtual 227, 3) := by decide +kernel
theorem d_Mod_tick_119 : decode c_Mod_tick 119 = .ok (.iconst 0, 1) := by decide +kernel
theorem d_Mod_tick_120 : decode c_Mod_tick 120 = .ok (.istore_n 2, 1) := by decide +kernel
theorem d_Mod_tick_121 : decode c_Mod_tick 121 = .ok (.iload_n 2, 1) := by decide +kernel
theorem d_Mod_tick_122 : decode c_Mod_tick 122 = .ok (.aload_n 0, 1) := by decide +kernel
theorem d_Mod_tick_123 : decode c_Mod_tick 123 = .ok (.getfield 127, 3) := by decide +kernel
theorem d_Mod_tick_126 : decode c_Mod_tick 126 = .ok (.if_icmp .ge 14, 3) := by decide +kernel
theorem d_Mod_tick_129 : decode c_Mod_tick 129 = .ok (.aload_n 0, 1) := by decide +kernel
theorem d_Mod_tick_130 : decode c_Mod_tick 130 = .ok (.iload_n 2, 1) := by decide +kernel
theorem d_Mod_tick_131 : decode c_Mod_tick 131 = .ok (.invokevirtual 230, 3) := by decide +kernel
theorem d_Mod_tick_134 : decode c_Mod_tick 134 = .ok (.iinc 2 1, 3) := by decide +kernel
theorem d_Mod_tick_137 : decode c_Mod_tick 137 = .ok (.goto (-16), 3) := by decide +kernel
theorem d_Mod_tick_140 : decode c_Mod_tick 140 = .ok (.aload_n 0, 1) := by decide +kernel
theorem d_Mod_tick_141 : decode c_Mod_tick 141 = .ok (.dup, 1) := by decide +kernel
theorem d_Mod_tick_142 : decode c_Mod_tick 142 = .ok (.getfield 212, 3) := by decide +kernel
theorem d_Mod_tick_145 : decode c_Mod_tick 145 = .ok (.iconst 1, 1) := by decide +kernel
theorem d_Mod_tick_146 : decode c_Mod_tick 146 = .ok (.iadd, 1) := by decide +kernel
theorem d_Mod_tick_147 : decode c_Mod_tick 147 = .ok (.putfield 212, 3) := by decide +kernel
theorem d_Mod_tick_150 : decode c_Mod_tick 150 = .ok (.iload_n 1, 1) := by decide +kernel
theorem d_Mod_tick_151 : decode c_Mod_tick 151 = .ok (.ireturn, 1) := by decide +kernel
abbrev c_Mod_vehicle : ByteArray := prog_11_method_40_code
abbrev y_Mod_vehicle : MethodName := ⟨"FleetFloorModel", "vehicle", "(II)I"⟩
theorem d_Mod_vehicle_0 : decode c_Mod_vehicle 0 = .ok (.aload_n 0, 1) := by decide +kernel
theorem d_Mod_vehicle_1 : decode c_Mod_vehicle 1 = .ok (.iconst 0, 1) := by decide +kernel
theorem d_Mod_vehicle_2 : decode c_Mod_vehicle 2 = .ok (.putfield 96, 3) := by decide +kernel
theorem d_Mod_vehicle_5 : decode c_Mod_vehicle 5 = .ok (.iload_n 1, 1) := by decide +kernel
theorem d_Mod_vehicle_6 : decode c_Mod_vehicle 6 = .ok (.iconst 0, 1) := by decide +kernel
theorem d_Mod_vehicle_7 : decode c_Mod_vehicle 7 = .ok (.aload_n 0, 1) := by decide +kernel
theorem d_Mod_vehicle_8 : decode c_Mod_vehicle 8 = .ok (.getfield 127, 3) := by decide +kernel
theorem d_Mod_vehicle_11 : decode c_Mod_vehicle 11 = .ok (.iconst 1, 1) := by decide +kernel
theorem d_Mod_vehicle_12 : decode c_Mod_vehicle 12 = .ok (.isub, 1) := by decide +kernel
theorem d_Mod_vehicle_13 : decode c_Mod_vehicle 13 = .ok (.invokestatic 104, 3) := by decide +kernel
theorem d_Mod_vehicle_16 : decode c_Mod_vehicle 16 = .ok (.ifCond .ne 5, 3) := by decide +kernel
theorem d_Mod_vehicle_19 : decode c_Mod_vehicle 19 = .ok (.iconst (-1), 1) := by decide +kernel
theorem d_Mod_vehicle_20 : decode c_Mod_vehicle 20 = .ok (.ireturn, 1) := by decide +kernel
theorem d_Mod_vehicle_21 : decode c_Mod_vehicle 21 = .ok (.iload_n 2, 1) := by decide +kernel
theorem d_Mod_vehicle_22 : decode c_Mod_vehicle 22 = .ok (.tableswitch 91 0 6 #[42, 49, 56, 63, 70, 77, 84], 42) := by decide +kernel
theorem d_Mod_vehicle_64 : decode c_Mod_vehicle 64 = .ok (.aload_n 0, 1) := by decide +kernel
theorem d_Mod_vehicle_65 : decode c_Mod_vehicle 65 = .ok (.getfield 56, 3) := by decide +kernel
theorem d_Mod_vehicle_68 : decode c_Mod_vehicle 68 = .ok (.iload_n 1, 1) := by decide +kernel
theorem d_Mod_vehicle_69 : decode c_Mod_vehicle 69 = .ok (.iaload, 1) := by decide +kernel
theorem d_Mod_vehicle_70 : decode c_Mod_vehicle 70 = .ok (.ireturn, 1) := by decide +kernel
theorem d_Mod_vehicle_71 : decode c_Mod_vehicle 71 = .ok (.aload_n 0, 1) := by decide +kernel
theorem d_Mod_vehicle_72 : decode c_Mod_vehicle 72 = .ok (.getfield 59, 3) := by decide +kernel
theorem d_Mod_vehicle_75 : decode c_Mod_vehicle 75 = .ok (.iload_n 1, 1) := by decide +kernel
theorem d_Mod_vehicle_76 : decode c_Mod_vehicle 76 = .ok (.iaload, 1) := by decide +kernel
theorem d_Mod_vehicle_77 : decode c_Mod_vehicle 77 = .ok (.ireturn, 1) := by decide +kernel
theorem d_Mod_vehicle_78 : decode c_Mod_vehicle 78 = .ok (.aload_n 0, 1) := by decide +kernel
theorem d_Mod_vehicle_79 : decode c_Mod_vehicle 79 = .ok (.getfield 62, 3) := by decide +kernel
theorem d_Mod_vehicle_82 : decode c_Mod_vehicle 82 = .ok (.iload_n 1, 1) := by decide +kernel
theorem d_Mod_vehicle_83 : decode c_Mod_vehicle 83 = .ok (.iaload, 1) := by decide +kernel
theorem d_Mod_vehicle_84 : decode c_Mod_vehicle 84 = .ok (.ireturn, 1) := by decide +kernel
theorem d_Mod_vehicle_85 : decode c_Mod_vehicle 85 = .ok (.aload_n 0, 1) := by decide +kernel
theorem d_Mod_vehicle_86 : decode c_Mod_vehicle 86 = .ok (.getfield 65, 3) := by decide +kernel
theorem d_Mod_vehicle_89 : decode c_Mod_vehicle 89 = .ok (.iload_n 1, 1) := by decide +kernel
theorem d_Mod_vehicle_90 : decode c_Mod_vehicle 90 = .ok (.iaload, 1) := by decide +kernel
theorem d_Mod_vehicle_91 : decode c_Mod_vehicle 91 = .ok (.ireturn, 1) := by decide +kernel
theorem d_Mod_vehicle_92 : decode c_Mod_vehicle 92 = .ok (.aload_n 0, 1) := by decide +kernel
theorem d_Mod_vehicle_93 : decode c_Mod_vehicle 93 = .ok (.getfield 68, 3) := by decide +kernel
theorem d_Mod_vehicle_96 : decode c_Mod_vehicle 96 = .ok (.iload_n 1, 1) := by decide +kernel
theorem d_Mod_vehicle_97 : decode c_Mod_vehicle 97 = .ok (.iaload, 1) := by decide +kernel
theorem d_Mod_vehicle_98 : decode c_Mod_vehicle 98 = .ok (.ireturn, 1) := by decide +kernel
theorem d_Mod_vehicle_99 : decode c_Mod_vehicle 99 = .ok (.aload_n 0, 1) := by decide +kernel
theorem d_Mod_vehicle_100 : decode c_Mod_vehicle 100 = .ok (.getfield 71, 3) := by decide +kernel
theorem d_Mod_vehicle_103 : decode c_Mod_vehicle 103 = .ok (.iload_n 1, 1) := by decide +kernel
theorem d_Mod_vehicle_104 : decode c_Mod_vehicle 104 = .ok (.iaload, 1) := by decide +kernel
theorem d_Mod_vehicle_105 : decode c_Mod_vehicle 105 = .ok (.ireturn, 1) := by decide +kernel
theorem d_Mod_vehicle_106 : decode c_Mod_vehicle 106 = .ok (.aload_n 0, 1) := by decide +kernel
theorem d_Mod_vehicle_107 : decode c_Mod_vehicle 107 = .ok (.getfield 74, 3) := by decide +kernel
theorem d_Mod_vehicle_110 : decode c_Mod_vehicle 110 = .ok (.iload_n 1, 1) := by decide +kernel
theorem d_Mod_vehicle_111 : decode c_Mod_vehicle 111 = .ok (.iaload, 1) := by decide +kernel
theorem d_Mod_vehicle_112 : decode c_Mod_vehicle 112 = .ok (.ireturn, 1) := by decide +kernel
theorem d_Mod_vehicle_113 : decode c_Mod_vehicle 113 = .ok (.iconst (-1), 1) := by decide +kernel
theorem d_Mod_vehicle_114 : decode c_Mod_vehicle 114 = .ok (.ireturn, 1) := by decide +kernel
abbrev c_Mod_move : ByteArray := prog_11_method_41_code
abbrev y_Mod_move : MethodName := ⟨"FleetFloorModel", "move", "(III)I"⟩
theorem d_Mod_move_0 : decode c_Mod_move 0 = .ok (.aload_n 0, 1) := by decide +kernel
theorem d_Mod_move_1 : decode c_Mod_move 1 = .ok (.iconst 0, 1) := by decide +kernel
theorem d_Mod_move_2 : decode c_Mod_move 2 = .ok (.putfield 96, 3) := by decide +kernel
theorem d_Mod_move_5 : decode c_Mod_move 5 = .ok (.iload_n 1, 1) := by decide +kernel
theorem d_Mod_move_6 : decode c_Mod_move 6 = .ok (.iconst 0, 1) := by decide +kernel
theorem d_Mod_move_7 : decode c_Mod_move 7 = .ok (.aload_n 0, 1) := by decide +kernel
theorem d_Mod_move_8 : decode c_Mod_move 8 = .ok (.getfield 127, 3) := by decide +kernel
theorem d_Mod_move_11 : decode c_Mod_move 11 = .ok (.iconst 1, 1) := by decide +kernel
theorem d_Mod_move_12 : decode c_Mod_move 12 = .ok (.isub, 1) := by decide +kernel
theorem d_Mod_move_13 : decode c_Mod_move 13 = .ok (.invokestatic 104, 3) := by decide +kernel
theorem d_Mod_move_16 : decode c_Mod_move 16 = .ok (.ifCond .eq 28, 3) := by decide +kernel
theorem d_Mod_move_19 : decode c_Mod_move 19 = .ok (.iload_n 2, 1) := by decide +kernel
theorem d_Mod_move_20 : decode c_Mod_move 20 = .ok (.iconst 0, 1) := by decide +kernel
theorem d_Mod_move_21 : decode c_Mod_move 21 = .ok (.aload_n 0, 1) := by decide +kernel
theorem d_Mod_move_22 : decode c_Mod_move 22 = .ok (.getfield 71, 3) := by decide +kernel
theorem d_Mod_move_25 : decode c_Mod_move 25 = .ok (.iload_n 1, 1) := by decide +kernel
theorem d_Mod_move_26 : decode c_Mod_move 26 = .ok (.iaload, 1) := by decide +kernel
theorem d_Mod_move_27 : decode c_Mod_move 27 = .ok (.iconst 1, 1) := by decide +kernel
theorem d_Mod_move_28 : decode c_Mod_move 28 = .ok (.isub, 1) := by decide +kernel
theorem d_Mod_move_29 : decode c_Mod_move 29 = .ok (.invokestatic 104, 3) := by decide +kernel
theorem d_Mod_move_32 : decode c_Mod_move 32 = .ok (.ifCond .eq 12, 3) := by decide +kernel
theorem d_Mod_move_35 : decode c_Mod_move 35 = .ok (.iload_n 3, 1) := by decide +kernel
theorem d_Mod_move_36 : decode c_Mod_move 36 = .ok (.iconst 0, 1) := by decide +kernel
theorem d_Mod_move_37 : decode c_Mod_move 37 = .ok (.iconst 1, 1) := by decide +kernel
theorem d_Mod_move_38 : decode c_Mod_move 38 = .ok (.invokestatic 104, 3) := by decide +kernel
theorem d_Mod_move_41 : decode c_Mod_move 41 = .ok (.ifCond .ne 5, 3) := by decide +kernel
theorem d_Mod_move_44 : decode c_Mod_move 44 = .ok (.iconst (-1), 1) := by decide +kernel
theorem d_Mod_move_45 : decode c_Mod_move 45 = .ok (.ireturn, 1) := by decide +kernel
theorem d_Mod_move_46 : decode c_Mod_move 46 = .ok (.aload_n 0, 1) := by decide +kernel
theorem d_Mod_move_47 : decode c_Mod_move 47 = .ok (.iload_n 1, 1) := by decide +kernel
theorem d_Mod_move_48 : decode c_Mod_move 48 = .ok (.iload_n 2, 1) := by decide +kernel
theorem d_Mod_move_49 : decode c_Mod_move 49 = .ok (.invokevirtual 139, 3) := by decide +kernel
theorem d_Mod_move_52 : decode c_Mod_move 52 = .ok (.istore 4, 2) := by decide +kernel
theorem d_Mod_move_54 : decode c_Mod_move 54 = .ok (.iload_n 3, 1) := by decide +kernel
theorem d_Mod_move_55 : decode c_Mod_move 55 = .ok (.ifCond .ne 13, 3) := by decide +kernel
theorem d_Mod_move_58 : decode c_Mod_move 58 = .ok (.aload_n 0, 1) := by decide +kernel
theorem d_Mod_move_59 : decode c_Mod_move 59 = .ok (.getfield 50, 3) := by decide +kernel
theorem d_Mod_move_62 : decode c_Mod_move 62 = .ok (.iload 4, 2) := by decide +kernel
theorem d_Mod_move_64 : decode c_Mod_move 64 = .ok (.iaload, 1) := by decide +kernel
theorem d_Mod_move_65 : decode c_Mod_move 65 = .ok (.goto 10, 3) := by decide +kernel
theorem d_Mod_move_68 : decode c_Mod_move 68 = .ok (.aload_n 0, 1) := by decide +kernel
theorem d_Mod_move_69 : decode c_Mod_move 69 = .ok (.getfield 53, 3) := by decide +kernel
theorem d_Mod_move_72 : decode c_Mod_move 72 = .ok (.iload 4, 2) := by decide +kernel
theorem d_Mod_move_74 : decode c_Mod_move 74 = .ok (.iaload, 1) := by decide +kernel
theorem d_Mod_move_75 : decode c_Mod_move 75 = .ok (.ireturn, 1) := by decide +kernel
abbrev c_Mod_taskOf : ByteArray := prog_11_method_42_code
abbrev y_Mod_taskOf : MethodName := ⟨"FleetFloorModel", "taskOf", "(II)I"⟩
theorem d_Mod_taskOf_0 : decode c_Mod_taskOf 0 = .ok (.aload_n 0, 1) := by decide +kernel
theorem d_Mod_taskOf_1 : decode c_Mod_taskOf 1 = .ok (.iconst 0, 1) := by decide +kernel
theorem d_Mod_taskOf_2 : decode c_Mod_taskOf 2 = .ok (.putfield 96, 3) := by decide +kernel
theorem d_Mod_taskOf_5 : decode c_Mod_taskOf 5 = .ok (.iload_n 1, 1) := by decide +kernel
theorem d_Mod_taskOf_6 : decode c_Mod_taskOf 6 = .ok (.iconst 0, 1) := by decide +kernel
theorem d_Mod_taskOf_7 : decode c_Mod_taskOf 7 = .ok (.aload_n 0, 1) := by decide +kernel
theorem d_Mod_taskOf_8 : decode c_Mod_taskOf 8 = .ok (.getfield 130, 3) := by decide +kernel
theorem d_Mod_taskOf_11 : decode c_Mod_taskOf 11 = .ok (.iconst 1, 1) := by decide +kernel
theorem d_Mod_taskOf_12 : decode c_Mod_taskOf 12 = .ok (.isub, 1) := by decide +kernel
theorem d_Mod_taskOf_13 : decode c_Mod_taskOf 13 = .ok (.invokestatic 104, 3) := by decide +kernel
theorem d_Mod_taskOf_16 : decode c_Mod_taskOf 16 = .ok (.ifCond .ne 5, 3) := by decide +kernel
theorem d_Mod_taskOf_19 : decode c_Mod_taskOf 19 = .ok (.iconst (-1), 1) := by decide +kernel
theorem d_Mod_taskOf_20 : decode c_Mod_taskOf 20 = .ok (.ireturn, 1) := by decide +kernel
theorem d_Mod_taskOf_21 : decode c_Mod_taskOf 21 = .ok (.iload_n 2, 1) := by decide +kernel
theorem d_Mod_taskOf_22 : decode c_Mod_taskOf 22 = .ok (.ifCond .ne 12, 3) := by decide +kernel
theorem d_Mod_taskOf_25 : decode c_Mod_taskOf 25 = .ok (.aload_n 0, 1) := by decide +kernel
theorem d_Mod_taskOf_26 : decode c_Mod_taskOf 26 = .ok (.getfield 32, 3) := by decide +kernel
theorem d_Mod_taskOf_29 : decode c_Mod_taskOf 29 = .ok (.iload_n 1, 1) := by decide +kernel
theorem d_Mod_taskOf_30 : decode c_Mod_taskOf 30 = .ok (.iaload, 1) := by decide +kernel
theorem d_Mod_taskOf_31 : decode c_Mod_taskOf 31 = .ok (.goto 18, 3) := by decide +kernel
theorem d_Mod_taskOf_34 : decode c_Mod_taskOf 34 = .ok (.iload_n 2, 1) := by decide +kernel
theorem d_Mod_taskOf_35 : decode c_Mod_taskOf 35 = .ok (.iconst 1, 1) := by decide +kernel
theorem d_Mod_taskOf_36 : decode c_Mod_taskOf 36 = .ok (.if_icmp .ne 12, 3) := by decide +kernel
theorem d_Mod_taskOf_39 : decode c_Mod_taskOf 39 = .ok (.aload_n 0, 1) := by decide +kernel
theorem d_Mod_taskOf_40 : decode c_Mod_taskOf 40 = .ok (.getfield 47, 3) := by decide +kernel
theorem d_Mod_taskOf_43 : decode c_Mod_taskOf 43 = .ok (.iload_n 1, 1) := by decide +kernel
theorem d_Mod_taskOf_44 : decode c_Mod_taskOf 44 = .ok (.iaload, 1) := by decide +kernel
theorem d_Mod_taskOf_45 : decode c_Mod_taskOf 45 = .ok (.goto 4, 3) := by decide +kernel
theorem d_Mod_taskOf_48 : decode c_Mod_taskOf 48 = .ok (.iconst (-1), 1) := by decide +kernel
theorem d_Mod_taskOf_49 : decode c_Mod_taskOf 49 = .ok (.ireturn, 1) := by decide +kernel
abbrev c_Mod_count : ByteArray := prog_11_method_43_code
abbrev y_Mod_count : MethodName := ⟨"FleetFloorModel", "count", "(I)I"⟩
theorem d_Mod_count_0 : decode c_Mod_count 0 = .ok (.aload_n 0, 1) := by decide +kernel
theorem d_Mod_count_1 : decode c_Mod_count 1 = .ok (.iconst 0, 1) := by decide +kernel
theorem d_Mod_count_2 : decode c_Mod_count 2 = .ok (.putfield 96, 3) := by decide +kernel
theorem d_Mod_count_5 : decode c_Mod_count 5 = .ok (.aload_n 0, 1) := by decide +kernel
theorem d_Mod_count_6 : decode c_Mod_count 6 = .ok (.getfield 100, 3) := by decide +kernel
theorem d_Mod_count_9 : decode c_Mod_count 9 = .ok (.ifCond .ne 5, 3) := by decide +kernel
theorem d_Mod_count_12 : decode c_Mod_count 12 = .ok (.iconst (-1), 1) := by decide +kernel
theorem d_Mod_count_13 : decode c_Mod_count 13 = .ok (.ireturn, 1) := by decide +kernel
theorem d_Mod_count_14 : decode c_Mod_count 14 = .ok (.iload_n 1, 1) := by decide +kernel
theorem d_Mod_count_15 : decode c_Mod_count 15 = .ok (.tableswitch 63 0 4 #[33, 43, 48, 53, 58], 33) := by decide +kernel
theorem d_Mod_count_48 : decode c_Mod_count 48 = .ok (.aload_n 0, 1) := by decide +kernel
theorem d_Mod_count_49 : decode c_Mod_count 49 = .ok (.getfield 130, 3) := by decide +kernel
theorem d_Mod_count_52 : decode c_Mod_count 52 = .ok (.aload_n 0, 1) := by decide +kernel
theorem d_Mod_count_53 : decode c_Mod_count 53 = .ok (.getfield 133, 3) := by decide +kernel
theorem d_Mod_count_56 : decode c_Mod_count 56 = .ok (.isub, 1) := by decide +kernel
theorem d_Mod_count_57 : decode c_Mod_count 57 = .ok (.ireturn, 1) := by decide +kernel
theorem d_Mod_count_58 : decode c_Mod_count 58 = .ok (.aload_n 0, 1) := by decide +kernel
theorem d_Mod_count_59 : decode c_Mod_count 59 = .ok (.getfield 130, 3) := by decide +kernel
theorem d_Mod_count_62 : decode c_Mod_count 62 = .ok (.ireturn, 1) := by decide +kernel
theorem d_Mod_count_63 : decode c_Mod_count 63 = .ok (.aload_n 0, 1) := by decide +kernel
theorem d_Mod_count_64 : decode c_Mod_count 64 = .ok (.getfield 212, 3) := by decide +kernel
theorem d_Mod_count_67 : decode c_Mod_count 67 = .ok (.ireturn, 1) := by decide +kernel
theorem d_Mod_count_68 : decode c_Mod_count 68 = .ok (.aload_n 0, 1) := by decide +kernel
theorem d_Mod_count_69 : decode c_Mod_count 69 = .ok (.getfield 136, 3) := by decide +kernel
theorem d_Mod_count_72 : decode c_Mod_count 72 = .ok (.ireturn, 1) := by decide +kernel
theorem d_Mod_count_73 : decode c_Mod_count 73 = .ok (.aload_n 0, 1) := by decide +kernel
theorem d_Mod_count_74 : decode c_Mod_count 74 = .ok (.getfield 124, 3) := by decide +kernel
theorem d_Mod_count_77 : decode c_Mod_count 77 = .ok (.ireturn, 1) := by decide +kernel
theorem d_Mod_count_78 : decode c_Mod_count 78 = .ok (.iconst (-1), 1) := by decide +kernel
theorem d_Mod_count_79 : decode c_Mod_count 79 = .ok (.ireturn, 1) := by decide +kernel
end
section
abbrev c_FF_init : ByteArray := prog_1_method_1_code
abbrev y_FF_init : MethodName := ⟨"FleetFloor", "<init>", "()V"⟩
theorem d_FF_init_0 : decode c_FF_init 0 = .ok (.aload_n 0, 1) := by decide +kernel
theorem d_FF_init_1 : decode c_FF_init 1 = .ok (.invokespecial 3, 3) := by decide +kernel
theorem d_FF_init_4 : decode c_FF_init 4 = .ok (.aload_n 0, 1) := by decide +kernel
theorem d_FF_init_5 : decode c_FF_init 5 = .ok (.new 9, 3) := by decide +kernel
theorem d_FF_init_8 : decode c_FF_init 8 = .ok (.dup, 1) := by decide +kernel
theorem d_FF_init_9 : decode c_FF_init 9 = .ok (.invokespecial 11, 3) := by decide +kernel
theorem d_FF_init_12 : decode c_FF_init 12 = .ok (.putfield 12, 3) := by decide +kernel
theorem d_FF_init_15 : decode c_FF_init 15 = .ok (.aload_n 0, 1) := by decide +kernel
theorem d_FF_init_16 : decode c_FF_init 16 = .ok (.new 16, 3) := by decide +kernel
theorem d_FF_init_19 : decode c_FF_init 19 = .ok (.dup, 1) := by decide +kernel
theorem d_FF_init_20 : decode c_FF_init 20 = .ok (.invokespecial 18, 3) := by decide +kernel
theorem d_FF_init_23 : decode c_FF_init 23 = .ok (.putfield 19, 3) := by decide +kernel
theorem d_FF_init_26 : decode c_FF_init 26 = .ok (.aload_n 0, 1) := by decide +kernel
theorem d_FF_init_27 : decode c_FF_init 27 = .ok (.new 23, 3) := by decide +kernel
theorem d_FF_init_30 : decode c_FF_init 30 = .ok (.dup, 1) := by decide +kernel
theorem d_FF_init_31 : decode c_FF_init 31 = .ok (.invokespecial 25, 3) := by decide +kernel
theorem d_FF_init_34 : decode c_FF_init 34 = .ok (.putfield 26, 3) := by decide +kernel
theorem d_FF_init_37 : decode c_FF_init 37 = .ok (.aload_n 0, 1) := by decide +kernel
theorem d_FF_init_38 : decode c_FF_init 38 = .ok (.iconst 0, 1) := by decide +kernel
theorem d_FF_init_39 : decode c_FF_init 39 = .ok (.anewarray 30, 3) := by decide +kernel
theorem d_FF_init_42 : decode c_FF_init 42 = .ok (.putfield 32, 3) := by decide +kernel
theorem d_FF_init_45 : decode c_FF_init 45 = .ok (.aload_n 0, 1) := by decide +kernel
theorem d_FF_init_46 : decode c_FF_init 46 = .ok (.iconst 0, 1) := by decide +kernel
theorem d_FF_init_47 : decode c_FF_init 47 = .ok (.newarray .int, 2) := by decide +kernel
theorem d_FF_init_49 : decode c_FF_init 49 = .ok (.putfield 36, 3) := by decide +kernel
theorem d_FF_init_52 : decode c_FF_init 52 = .ok (.aload_n 0, 1) := by decide +kernel
theorem d_FF_init_53 : decode c_FF_init 53 = .ok (.aconst_null, 1) := by decide +kernel
theorem d_FF_init_54 : decode c_FF_init 54 = .ok (.putfield 40, 3) := by decide +kernel
theorem d_FF_init_57 : decode c_FF_init 57 = .ok (.aload_n 0, 1) := by decide +kernel
theorem d_FF_init_58 : decode c_FF_init 58 = .ok (.iconst 0, 1) := by decide +kernel
theorem d_FF_init_59 : decode c_FF_init 59 = .ok (.putfield 44, 3) := by decide +kernel
theorem d_FF_init_62 : decode c_FF_init 62 = .ok (.aload_n 0, 1) := by decide +kernel
theorem d_FF_init_63 : decode c_FF_init 63 = .ok (.iconst 0, 1) := by decide +kernel
theorem d_FF_init_64 : decode c_FF_init 64 = .ok (.putfield 48, 3) := by decide +kernel
theorem d_FF_init_67 : decode c_FF_init 67 = .ok (.aload_n 0, 1) := by decide +kernel
theorem d_FF_init_68 : decode c_FF_init 68 = .ok (.iconst 0, 1) := by decide +kernel
theorem d_FF_init_69 : decode c_FF_init 69 = .ok (.putfield 51, 3) := by decide +kernel
theorem d_FF_init_72 : decode c_FF_init 72 = .ok (.return_, 1) := by decide +kernel
abbrev c_FF_cell : ByteArray := prog_1_method_2_code
abbrev y_FF_cell : MethodName := ⟨"FleetFloor", "cell", "(II)Z"⟩
theorem d_FF_cell_0 : decode c_FF_cell 0 = .ok (.aload_n 0, 1) := by decide +kernel
theorem d_FF_cell_1 : decode c_FF_cell 1 = .ok (.invokevirtual 54, 3) := by decide +kernel
theorem d_FF_cell_4 : decode c_FF_cell 4 = .ok (.ifCond .ne 19, 3) := by decide +kernel
theorem d_FF_cell_7 : decode c_FF_cell 7 = .ok (.aload_n 0, 1) := by decide +kernel
theorem d_FF_cell_8 : decode c_FF_cell 8 = .ok (.getfield 12, 3) := by decide +kernel
theorem d_FF_cell_11 : decode c_FF_cell 11 = .ok (.iload_n 1, 1) := by decide +kernel
theorem d_FF_cell_12 : decode c_FF_cell 12 = .ok (.iload_n 2, 1) := by decide +kernel
theorem d_FF_cell_13 : decode c_FF_cell 13 = .ok (.invokevirtual 58, 3) := by decide +kernel
theorem d_FF_cell_16 : decode c_FF_cell 16 = .ok (.ifCond .eq 7, 3) := by decide +kernel
theorem d_FF_cell_19 : decode c_FF_cell 19 = .ok (.iconst 1, 1) := by decide +kernel
theorem d_FF_cell_20 : decode c_FF_cell 20 = .ok (.goto 4, 3) := by decide +kernel
theorem d_FF_cell_23 : decode c_FF_cell 23 = .ok (.iconst 0, 1) := by decide +kernel
theorem d_FF_cell_24 : decode c_FF_cell 24 = .ok (.ireturn, 1) := by decide +kernel
abbrev c_FF_open : ByteArray := prog_1_method_3_code
abbrev y_FF_open : MethodName := ⟨"FleetFloor", "open", "()I"⟩
theorem d_FF_open_0 : decode c_FF_open 0 = .ok (.aload_n 0, 1) := by decide +kernel
theorem d_FF_open_1 : decode c_FF_open 1 = .ok (.invokevirtual 54, 3) := by decide +kernel
theorem d_FF_open_4 : decode c_FF_open 4 = .ok (.ifCond .eq 13, 3) := by decide +kernel
theorem d_FF_open_7 : decode c_FF_open 7 = .ok (.new 62, 3) := by decide +kernel
theorem d_FF_open_10 : decode c_FF_open 10 = .ok (.dup, 1) := by decide +kernel
theorem d_FF_open_11 : decode c_FF_open 11 = .ok (.ldc 64, 2) := by decide +kernel
theorem d_FF_open_13 : decode c_FF_open 13 = .ok (.invokespecial 66, 3) := by decide +kernel
theorem d_FF_open_16 : decode c_FF_open 16 = .ok (.athrow, 1) := by decide +kernel
theorem d_FF_open_17 : decode c_FF_open 17 = .ok (.aload_n 0, 1) := by decide +kernel
theorem d_FF_open_18 : decode c_FF_open 18 = .ok (.getfield 12, 3) := by decide +kernel
theorem d_FF_open_21 : decode c_FF_open 21 = .ok (.invokevirtual 69, 3) := by decide +kernel
theorem d_FF_open_24 : decode c_FF_open 24 = .ok (.ifCond .ne 13, 3) := by decide +kernel
theorem d_FF_open_27 : decode c_FF_open 27 = .ok (.new 72, 3) := by decide +kernel
theorem d_FF_open_30 : decode c_FF_open 30 = .ok (.dup, 1) := by decide +kernel
theorem d_FF_open_31 : decode c_FF_open 31 = .ok (.ldc 74, 2) := by decide +kernel
theorem d_FF_open_33 : decode c_FF_open 33 = .ok (.invokespecial 76, 3) := by decide +kernel
theorem d_FF_open_36 : decode c_FF_open 36 = .ok (.athrow, 1) := by decide +kernel
theorem d_FF_open_37 : decode c_FF_open 37 = .ok (.aload_n 0, 1) := by decide +kernel
theorem d_FF_open_38 : decode c_FF_open 38 = .ok (.aload_n 0, 1) := by decide +kernel
theorem d_FF_open_39 : decode c_FF_open 39 = .ok (.getfield 12, 3) := by decide +kernel
theorem d_FF_open_42 : decode c_FF_open 42 = .ok (.iconst 2, 1) := by decide +kernel
theorem d_FF_open_43 : decode c_FF_open 43 = .ok (.invokevirtual 77, 3) := by decide +kernel
theorem d_FF_open_46 : decode c_FF_open 46 = .ok (.putfield 36, 3) := by decide +kernel
theorem d_FF_open_49 : decode c_FF_open 49 = .ok (.aload_n 0, 1) := by decide +kernel
theorem d_FF_open_50 : decode c_FF_open 50 = .ok (.getfield 12, 3) := by decide +kernel
theorem d_FF_open_53 : decode c_FF_open 53 = .ok (.iconst 3, 1) := by decide +kernel
theorem d_FF_open_54 : decode c_FF_open 54 = .ok (.invokevirtual 77, 3) := by decide +kernel
theorem d_FF_open_57 : decode c_FF_open 57 = .ok (.astore_n 1, 1) := by decide +kernel
theorem d_FF_open_58 : decode c_FF_open 58 = .ok (.aload_n 0, 1) := by decide +kernel
theorem d_FF_open_59 : decode c_FF_open 59 = .ok (.aload_n 1, 1) := by decide +kernel
theorem d_FF_open_60 : decode c_FF_open 60 = .ok (.arraylength, 1) := by decide +kernel
theorem d_FF_open_61 : decode c_FF_open 61 = .ok (.anewarray 30, 3) := by decide +kernel
theorem d_FF_open_64 : decode c_FF_open 64 = .ok (.putfield 32, 3) := by decide +kernel
theorem d_FF_open_67 : decode c_FF_open 67 = .ok (.iconst 0, 1) := by decide +kernel
theorem d_FF_open_68 : decode c_FF_open 68 = .ok (.istore_n 2, 1) := by decide +kernel
theorem d_FF_open_69 : decode c_FF_open 69 = .ok (.iload_n 2, 1) := by decide +kernel
theorem d_FF_open_70 : decode c_FF_open 70 = .ok (.aload_n 1, 1) := by decide +kernel
theorem d_FF_open_71 : decode c_FF_open 71 = .ok (.arraylength, 1) := by decide +kernel
theorem d_FF_open_72 : decode c_FF_open 72 = .ok (.if_icmp .ge 26, 3) := by decide +kernel
theorem d_FF_open_75 : decode c_FF_open 75 = .ok (.aload_n 0, 1) := by decide +kernel
theorem d_FF_open_76 : decode c_FF_open 76 = .ok (.getfield 32, 3) := by decide +kernel
theorem d_FF_open_79 : decode c_FF_open 79 = .ok (.iload_n 2, 1) := by decide +kernel
theorem d_FF_open_80 : decode c_FF_open 80 = .ok (.new 30, 3) := by decide +kernel
theorem d_FF_open_83 : decode c_FF_open 83 = .ok (.dup, 1) := by decide +kernel
theorem d_FF_open_84 : decode c_FF_open 84 = .ok (.iload_n 2, 1) := by decide +kernel
theorem d_FF_open_85 : decode c_FF_open 85 = .ok (.aload_n 1, 1) := by decide +kernel
theorem d_FF_open_86 : decode c_FF_open 86 = .ok (.iload_n 2, 1) := by decide +kernel
theorem d_FF_open_87 : decode c_FF_open 87 = .ok (.iaload, 1) := by decide +kernel
theorem d_FF_open_88 : decode c_FF_open 88 = .ok (.invokespecial 81, 3) := by decide +kernel
theorem d_FF_open_91 : decode c_FF_open 91 = .ok (.aastore, 1) := by decide +kernel
theorem d_FF_open_92 : decode c_FF_open 92 = .ok (.iinc 2 1, 3) := by decide +kernel
theorem d_FF_open_95 : decode c_FF_open 95 = .ok (.goto (-26), 3) := by decide +kernel
theorem d_FF_open_98 : decode c_FF_open 98 = .ok (.new 84, 3) := by decide +kernel
theorem d_FF_open_101 : decode c_FF_open 101 = .ok (.dup, 1) := by decide +kernel
theorem d_FF_open_102 : decode c_FF_open 102 = .ok (.invokespecial 86, 3) := by decide +kernel
theorem d_FF_open_105 : decode c_FF_open 105 = .ok (.astore_n 2, 1) := by decide +kernel
theorem d_FF_open_106 : decode c_FF_open 106 = .ok (.aload_n 0, 1) := by decide +kernel
theorem d_FF_open_107 : decode c_FF_open 107 = .ok (.getfield 12, 3) := by decide +kernel
theorem d_FF_open_110 : decode c_FF_open 110 = .ok (.iconst 1, 1) := by decide +kernel
theorem d_FF_open_111 : decode c_FF_open 111 = .ok (.aload_n 2, 1) := by decide +kernel
theorem d_FF_open_112 : decode c_FF_open 112 = .ok (.invokevirtual 87, 3) := by decide +kernel
theorem d_FF_open_115 : decode c_FF_open 115 = .ok (.aload_n 0, 1) := by decide +kernel
theorem d_FF_open_116 : decode c_FF_open 116 = .ok (.getfield 12, 3) := by decide +kernel
theorem d_FF_open_119 : decode c_FF_open 119 = .ok (.iconst 2, 1) := by decide +kernel
theorem d_FF_open_120 : decode c_FF_open 120 = .ok (.aload_n 2, 1) := by decide +kernel
theorem d_FF_open_121 : decode c_FF_open 121 = .ok (.invokevirtual 87, 3) := by decide +kernel
theorem d_FF_open_124 : decode c_FF_open 124 = .ok (.aload_n 0, 1) := by decide +kernel
theorem d_FF_open_125 : decode c_FF_open 125 = .ok (.new 91, 3) := by decide +kernel
theorem d_FF_open_128 : decode c_FF_open 128 = .ok (.dup, 1) := by decide +kernel
theorem d_FF_open_129 : decode c_FF_open 129 = .ok (.aload_n 2, 1) := by decide +kernel
theorem d_FF_open_130 : decode c_FF_open 130 = .ok (.aload_n 0, 1) := by decide +kernel
theorem d_FF_open_131 : decode c_FF_open 131 = .ok (.getfield 32, 3) := by decide +kernel
theorem d_FF_open_134 : decode c_FF_open 134 = .ok (.invokespecial 93, 3) := by decide +kernel
theorem d_FF_open_137 : decode c_FF_open 137 = .ok (.putfield 40, 3) := by decide +kernel
theorem d_FF_open_140 : decode c_FF_open 140 = .ok (.aload_n 0, 1) := by decide +kernel
theorem d_FF_open_141 : decode c_FF_open 141 = .ok (.getfield 32, 3) := by decide +kernel
theorem d_FF_open_144 : decode c_FF_open 144 = .ok (.arraylength, 1) := by decide +kernel
theorem d_FF_open_145 : decode c_FF_open 145 = .ok (.ireturn, 1) := by decide +kernel
abbrev c_FF_task : ByteArray := prog_1_method_4_code
abbrev y_FF_task : MethodName := ⟨"FleetFloor", "task", "(II)I"⟩
theorem d_FF_task_0 : decode c_FF_task 0 = .ok (.aload_n 0, 1) := by decide +kernel
theorem d_FF_task_1 : decode c_FF_task 1 = .ok (.invokevirtual 54, 3) := by decide +kernel
theorem d_FF_task_4 : decode c_FF_task 4 = .ok (.ifCond .eq 15, 3) := by decide +kernel
theorem d_FF_task_7 : decode c_FF_task 7 = .ok (.aload_n 0, 1) := by decide +kernel
theorem d_FF_task_8 : decode c_FF_task 8 = .ok (.getfield 26, 3) := by decide +kernel
theorem d_FF_task_11 : decode c_FF_task 11 = .ok (.invokevirtual 96, 3) := by decide +kernel
theorem d_FF_task_14 : decode c_FF_task 14 = .ok (.bipush 24, 2) := by decide +kernel
theorem d_FF_task_16 : decode c_FF_task 16 = .ok (.if_icmp .lt 13, 3) := by decide +kernel
theorem d_FF_task_19 : decode c_FF_task 19 = .ok (.new 62, 3) := by decide +kernel
theorem d_FF_task_22 : decode c_FF_task 22 = .ok (.dup, 1) := by decide +kernel
theorem d_FF_task_23 : decode c_FF_task 23 = .ok (.ldc 100, 2) := by decide +kernel
theorem d_FF_task_25 : decode c_FF_task 25 = .ok (.invokespecial 66, 3) := by decide +kernel
theorem d_FF_task_28 : decode c_FF_task 28 = .ok (.athrow, 1) := by decide +kernel
theorem d_FF_task_29 : decode c_FF_task 29 = .ok (.aload_n 0, 1) := by decide +kernel
theorem d_FF_task_30 : decode c_FF_task 30 = .ok (.iload_n 1, 1) := by decide +kernel
theorem d_FF_task_31 : decode c_FF_task 31 = .ok (.invokevirtual 102, 3) := by decide +kernel
theorem d_FF_task_34 : decode c_FF_task 34 = .ok (.ifCond .eq 11, 3) := by decide +kernel
theorem d_FF_task_37 : decode c_FF_task 37 = .ok (.aload_n 0, 1) := by decide +kernel
theorem d_FF_task_38 : decode c_FF_task 38 = .ok (.iload_n 2, 1) := by decide +kernel
theorem d_FF_task_39 : decode c_FF_task 39 = .ok (.invokevirtual 102, 3) := by decide +kernel
theorem d_FF_task_42 : decode c_FF_task 42 = .ok (.ifCond .ne 13, 3) := by decide +kernel
theorem d_FF_task_45 : decode c_FF_task 45 = .ok (.new 72, 3) := by decide +kernel
theorem d_FF_task_48 : decode c_FF_task 48 = .ok (.dup, 1) := by decide +kernel
theorem d_FF_task_49 : decode c_FF_task 49 = .ok (.ldc 106, 2) := by decide +kernel
theorem d_FF_task_51 : decode c_FF_task 51 = .ok (.invokespecial 76, 3) := by decide +kernel
theorem d_FF_task_54 : decode c_FF_task 54 = .ok (.athrow, 1) := by decide +kernel
theorem d_FF_task_55 : decode c_FF_task 55 = .ok (.aload_n 0, 1) := by decide +kernel
theorem d_FF_task_56 : decode c_FF_task 56 = .ok (.getfield 26, 3) := by decide +kernel
theorem d_FF_task_59 : decode c_FF_task 59 = .ok (.new 108, 3) := by decide +kernel
theorem d_FF_task_62 : decode c_FF_task 62 = .ok (.dup, 1) := by decide +kernel
theorem d_FF_task_63 : decode c_FF_task 63 = .ok (.aload_n 0, 1) := by decide +kernel
theorem d_FF_task_64 : decode c_FF_task 64 = .ok (.getfield 36, 3) := by decide +kernel
theorem d_FF_task_67 : decode c_FF_task 67 = .ok (.iload_n 1, 1) := by decide +kernel
theorem d_FF_task_68 : decode c_FF_task 68 = .ok (.iaload, 1) := by decide +kernel
theorem d_FF_task_69 : decode c_FF_task 69 = .ok (.aload_n 0, 1) := by decide +kernel
theorem d_FF_task_70 : decode c_FF_task 70 = .ok (.getfield 36, 3) := by decide +kernel
theorem d_FF_task_73 : decode c_FF_task 73 = .ok (.iload_n 2, 1) := by decide +kernel
theorem d_FF_task_74 : decode c_FF_task 74 = .ok (.iaload, 1) := by decide +kernel
theorem d_FF_task_75 : decode c_FF_task 75 = .ok (.invokespecial 110, 3) := by decide +kernel
theorem d_FF_task_78 : decode c_FF_task 78 = .ok (.invokevirtual 111, 3) := by decide +kernel
theorem d_FF_task_81 : decode c_FF_task 81 = .ok (.pop, 1) := by decide +kernel
theorem d_FF_task_82 : decode c_FF_task 82 = .ok (.aload_n 0, 1) := by decide +kernel
theorem d_FF_task_83 : decode c_FF_task 83 = .ok (.getfield 26, 3) := by decide +kernel
theorem d_FF_task_86 : decode c_FF_task 86 = .ok (.invokevirtual 96, 3) := by decide +kernel
theorem d_FF_task_89 : decode c_FF_task 89 = .ok (.iconst 1, 1) := by decide +kernel
theorem d_FF_task_90 : decode c_FF_task 90 = .ok (.isub, 1) := by decide +kernel
theorem d_FF_task_91 : decode c_FF_task 91 = .ok (.ireturn, 1) := by decide +kernel
abbrev c_FF_tick : ByteArray := prog_1_method_5_code
abbrev y_FF_tick : MethodName := ⟨"FleetFloor", "tick", "()I"⟩
theorem d_FF_tick_0 : decode c_FF_tick 0 = .ok (.aload_n 0, 1) := by decide +kernel
theorem d_FF_tick_1 : decode c_FF_tick 1 = .ok (.invokevirtual 54, 3) := by decide +kernel
theorem d_FF_tick_4 : decode c_FF_tick 4 = .ok (.ifCond .ne 13, 3) := by decide +kernel
theorem d_FF_tick_7 : decode c_FF_tick 7 = .ok (.new 62, 3) := by decide +kernel
theorem d_FF_tick_10 : decode c_FF_tick 10 = .ok (.dup, 1) := by decide +kernel
theorem d_FF_tick_11 : decode c_FF_tick 11 = .ok (.ldc 115, 2) := by decide +kernel
theorem d_FF_tick_13 : decode c_FF_tick 13 = .ok (.invokespecial 66, 3) := by decide +kernel
theorem d_FF_tick_16 : decode c_FF_tick 16 = .ok (.athrow, 1) := by decide +kernel
theorem d_FF_tick_17 : decode c_FF_tick 17 = .ok (.aload_n 0, 1) := by decide +kernel
theorem d_FF_tick_18 : decode c_FF_tick 18 = .ok (.invokevirtual 117, 3) := by decide +kernel
theorem d_FF_tick_21 : decode c_FF_tick 21 = .ok (.istore_n 1, 1) := by decide +kernel
theorem d_FF_tick_22 : decode c_FF_tick 22 = .ok (.aload_n 0, 1) := by decide +kernel
theorem d_FF_tick_23 : decode c_FF_tick 23 = .ok (.invokevirtual 120, 3) := by decide +kernel
theorem d_FF_tick_26 : decode c_FF_tick 26 = .ok (.aload_n 0, 1) := by decide +kernel
theorem d_FF_tick_27 : decode c_FF_tick 27 = .ok (.getfield 48, 3) := by decide +kernel
theorem d_FF_tick_30 : decode c_FF_tick 30 = .ok (.iconst 4, 1) := by decide +kernel
theorem d_FF_tick_31 : decode c_FF_tick 31 = .ok (.irem, 1) := by decide +kernel
theorem d_FF_tick_32 : decode c_FF_tick 32 = .ok (.ifCond .ne 7, 3) := by decide +kernel
theorem d_FF_tick_35 : decode c_FF_tick 35 = .ok (.aload_n 0, 1) := by decide +kernel
theorem d_FF_tick_36 : decode c_FF_tick 36 = .ok (.invokevirtual 123, 3) := by decide +kernel
theorem d_FF_tick_39 : decode c_FF_tick 39 = .ok (.aload_n 0, 1) := by decide +kernel
theorem d_FF_tick_40 : decode c_FF_tick 40 = .ok (.invokevirtual 126, 3) := by decide +kernel
theorem d_FF_tick_43 : decode c_FF_tick 43 = .ok (.aload_n 0, 1) := by decide +kernel
theorem d_FF_tick_44 : decode c_FF_tick 44 = .ok (.dup, 1) := by decide +kernel
theorem d_FF_tick_45 : decode c_FF_tick 45 = .ok (.getfield 48, 3) := by decide +kernel
theorem d_FF_tick_48 : decode c_FF_tick 48 = .ok (.iconst 1, 1) := by decide +kernel
theorem d_FF_tick_49 : decode c_FF_tick 49 = .ok (.iadd, 1) := by decide +kernel
theorem d_FF_tick_50 : decode c_FF_tick 50 = .ok (.putfield 48, 3) := by decide +kernel
theorem d_FF_tick_53 : decode c_FF_tick 53 = .ok (.iload_n 1, 1) := by decide +kernel
theorem d_FF_tick_54 : decode c_FF_tick 54 = .ok (.ireturn, 1) := by decide +kernel
abbrev c_FF_letters : ByteArray := prog_1_method_6_code
abbrev y_FF_letters : MethodName := ⟨"FleetFloor", "letters", "()I"⟩
theorem d_FF_letters_0 : decode c_FF_letters 0 = .ok (.aload_n 0, 1) := by decide +kernel
theorem d_FF_letters_1 : decode c_FF_letters 1 = .ok (.getfield 19, 3) := by decide +kernel
theorem d_FF_letters_4 : decode c_FF_letters 4 = .ok (.invokevirtual 129, 3) := by decide +kernel
theorem d_FF_letters_7 : decode c_FF_letters 7 = .ok (.ireturn, 1) := by decide +kernel
abbrev c_FF_letter : ByteArray := prog_1_method_7_code
abbrev y_FF_letter : MethodName := ⟨"FleetFloor", "letter", "(II)I"⟩
theorem d_FF_letter_0 : decode c_FF_letter 0 = .ok (.aload_n 0, 1) := by decide +kernel
theorem d_FF_letter_1 : decode c_FF_letter 1 = .ok (.getfield 19, 3) := by decide +kernel
theorem d_FF_letter_4 : decode c_FF_letter 4 = .ok (.iload_n 1, 1) := by decide +kernel
theorem d_FF_letter_5 : decode c_FF_letter 5 = .ok (.invokevirtual 130, 3) := by decide +kernel
theorem d_FF_letter_8 : decode c_FF_letter 8 = .ok (.astore_n 3, 1) := by decide +kernel
theorem d_FF_letter_9 : decode c_FF_letter 9 = .ok (.aload_n 3, 1) := by decide +kernel
theorem d_FF_letter_10 : decode c_FF_letter 10 = .ok (.ifnonnull 5, 3) := by decide +kernel
theorem d_FF_letter_13 : decode c_FF_letter 13 = .ok (.iconst (-1), 1) := by decide +kernel
theorem d_FF_letter_14 : decode c_FF_letter 14 = .ok (.ireturn, 1) := by decide +kernel
theorem d_FF_letter_15 : decode c_FF_letter 15 = .ok (.iload_n 2, 1) := by decide +kernel
theorem d_FF_letter_16 : decode c_FF_letter 16 = .ok (.tableswitch 43 0 2 #[28, 33, 38], 28) := by decide +kernel
theorem d_FF_letter_44 : decode c_FF_letter 44 = .ok (.aload_n 3, 1) := by decide +kernel
theorem d_FF_letter_45 : decode c_FF_letter 45 = .ok (.invokevirtual 134, 3) := by decide +kernel
theorem d_FF_letter_48 : decode c_FF_letter 48 = .ok (.ireturn, 1) := by decide +kernel
theorem d_FF_letter_49 : decode c_FF_letter 49 = .ok (.aload_n 3, 1) := by decide +kernel
theorem d_FF_letter_50 : decode c_FF_letter 50 = .ok (.invokevirtual 139, 3) := by decide +kernel
theorem d_FF_letter_53 : decode c_FF_letter 53 = .ok (.ireturn, 1) := by decide +kernel
theorem d_FF_letter_54 : decode c_FF_letter 54 = .ok (.aload_n 3, 1) := by decide +kernel
theorem d_FF_letter_55 : decode c_FF_letter 55 = .ok (.invokevirtual 142, 3) := by decide +kernel
theorem d_FF_letter_58 : decode c_FF_letter 58 = .ok (.ireturn, 1) := by decide +kernel
theorem d_FF_letter_59 : decode c_FF_letter 59 = .ok (.iconst (-1), 1) := by decide +kernel
theorem d_FF_letter_60 : decode c_FF_letter 60 = .ok (.ireturn, 1) := by decide +kernel
abbrev c_FF_deliver : ByteArray := prog_1_method_8_code
abbrev y_FF_deliver : MethodName := ⟨"FleetFloor", "deliver", "(I)Z"⟩
theorem d_FF_deliver_0 : decode c_FF_deliver 0 = .ok (.aload_n 0, 1) := by decide +kernel
theorem d_FF_deliver_1 : decode c_FF_deliver 1 = .ok (.getfield 19, 3) := by decide +kernel
theorem d_FF_deliver_4 : decode c_FF_deliver 4 = .ok (.iload_n 1, 1) := by decide +kernel
theorem d_FF_deliver_5 : decode c_FF_deliver 5 = .ok (.invokevirtual 130, 3) := by decide +kernel
theorem d_FF_deliver_8 : decode c_FF_deliver 8 = .ok (.astore_n 2, 1) := by decide +kernel
theorem d_FF_deliver_9 : decode c_FF_deliver 9 = .ok (.aload_n 2, 1) := by decide +kernel
theorem d_FF_deliver_10 : decode c_FF_deliver 10 = .ok (.ifnonnull 5, 3) := by decide +kernel
theorem d_FF_deliver_13 : decode c_FF_deliver 13 = .ok (.iconst 0, 1) := by decide +kernel
theorem d_FF_deliver_14 : decode c_FF_deliver 14 = .ok (.ireturn, 1) := by decide +kernel
theorem d_FF_deliver_15 : decode c_FF_deliver 15 = .ok (.aload_n 0, 1) := by decide +kernel
theorem d_FF_deliver_16 : decode c_FF_deliver 16 = .ok (.aload_n 2, 1) := by decide +kernel
theorem d_FF_deliver_17 : decode c_FF_deliver 17 = .ok (.invokevirtual 139, 3) := by decide +kernel
theorem d_FF_deliver_20 : decode c_FF_deliver 20 = .ok (.invokevirtual 145, 3) := by decide +kernel
theorem d_FF_deliver_23 : decode c_FF_deliver 23 = .ok (.astore_n 3, 1) := by decide +kernel
theorem d_FF_deliver_24 : decode c_FF_deliver 24 = .ok (.aload_n 3, 1) := by decide +kernel
theorem d_FF_deliver_25 : decode c_FF_deliver 25 = .ok (.ifnull 8, 3) := by decide +kernel
theorem d_FF_deliver_28 : decode c_FF_deliver 28 = .ok (.aload_n 3, 1) := by decide +kernel
theorem d_FF_deliver_29 : decode c_FF_deliver 29 = .ok (.aload_n 2, 1) := by decide +kernel
theorem d_FF_deliver_30 : decode c_FF_deliver 30 = .ok (.invokevirtual 149, 3) := by decide +kernel
theorem d_FF_deliver_33 : decode c_FF_deliver 33 = .ok (.aload_n 0, 1) := by decide +kernel
theorem d_FF_deliver_34 : decode c_FF_deliver 34 = .ok (.getfield 19, 3) := by decide +kernel
theorem d_FF_deliver_37 : decode c_FF_deliver 37 = .ok (.iload_n 1, 1) := by decide +kernel
theorem d_FF_deliver_38 : decode c_FF_deliver 38 = .ok (.invokevirtual 153, 3) := by decide +kernel
theorem d_FF_deliver_41 : decode c_FF_deliver 41 = .ok (.ireturn, 1) := by decide +kernel
abbrev c_FF_lose : ByteArray := prog_1_method_9_code
abbrev y_FF_lose : MethodName := ⟨"FleetFloor", "lose", "(I)Z"⟩
theorem d_FF_lose_0 : decode c_FF_lose 0 = .ok (.aload_n 0, 1) := by decide +kernel
theorem d_FF_lose_1 : decode c_FF_lose 1 = .ok (.getfield 19, 3) := by decide +kernel
theorem d_FF_lose_4 : decode c_FF_lose 4 = .ok (.iload_n 1, 1) := by decide +kernel
theorem d_FF_lose_5 : decode c_FF_lose 5 = .ok (.invokevirtual 153, 3) := by decide +kernel
theorem d_FF_lose_8 : decode c_FF_lose 8 = .ok (.ireturn, 1) := by decide +kernel
abbrev c_FF_twin : ByteArray := prog_1_method_10_code
abbrev y_FF_twin : MethodName := ⟨"FleetFloor", "twin", "(I)Z"⟩
theorem d_FF_twin_0 : decode c_FF_twin 0 = .ok (.aload_n 0, 1) := by decide +kernel
theorem d_FF_twin_1 : decode c_FF_twin 1 = .ok (.getfield 19, 3) := by decide +kernel
theorem d_FF_twin_4 : decode c_FF_twin 4 = .ok (.iload_n 1, 1) := by decide +kernel
theorem d_FF_twin_5 : decode c_FF_twin 5 = .ok (.invokevirtual 130, 3) := by decide +kernel
theorem d_FF_twin_8 : decode c_FF_twin 8 = .ok (.astore_n 2, 1) := by decide +kernel
theorem d_FF_twin_9 : decode c_FF_twin 9 = .ok (.aload_n 2, 1) := by decide +kernel
theorem d_FF_twin_10 : decode c_FF_twin 10 = .ok (.ifnull 18, 3) := by decide +kernel
theorem d_FF_twin_13 : decode c_FF_twin 13 = .ok (.aload_n 0, 1) := by decide +kernel
theorem d_FF_twin_14 : decode c_FF_twin 14 = .ok (.getfield 19, 3) := by decide +kernel
theorem d_FF_twin_17 : decode c_FF_twin 17 = .ok (.aload_n 2, 1) := by decide +kernel
theorem d_FF_twin_18 : decode c_FF_twin 18 = .ok (.invokevirtual 156, 3) := by decide +kernel
theorem d_FF_twin_21 : decode c_FF_twin 21 = .ok (.ifCond .eq 7, 3) := by decide +kernel
theorem d_FF_twin_24 : decode c_FF_twin 24 = .ok (.iconst 1, 1) := by decide +kernel
theorem d_FF_twin_25 : decode c_FF_twin 25 = .ok (.goto 4, 3) := by decide +kernel
theorem d_FF_twin_28 : decode c_FF_twin 28 = .ok (.iconst 0, 1) := by decide +kernel
theorem d_FF_twin_29 : decode c_FF_twin 29 = .ok (.ireturn, 1) := by decide +kernel
abbrev c_FF_vehicle : ByteArray := prog_1_method_11_code
abbrev y_FF_vehicle : MethodName := ⟨"FleetFloor", "vehicle", "(II)I"⟩
theorem d_FF_vehicle_0 : decode c_FF_vehicle 0 = .ok (.aload_n 0, 1) := by decide +kernel
theorem d_FF_vehicle_1 : decode c_FF_vehicle 1 = .ok (.iload_n 1, 1) := by decide +kernel
theorem d_FF_vehicle_2 : decode c_FF_vehicle 2 = .ok (.invokevirtual 145, 3) := by decide +kernel
theorem d_FF_vehicle_5 : decode c_FF_vehicle 5 = .ok (.astore_n 3, 1) := by decide +kernel
theorem d_FF_vehicle_6 : decode c_FF_vehicle 6 = .ok (.aload_n 3, 1) := by decide +kernel
theorem d_FF_vehicle_7 : decode c_FF_vehicle 7 = .ok (.ifnonnull 5, 3) := by decide +kernel
theorem d_FF_vehicle_10 : decode c_FF_vehicle 10 = .ok (.iconst (-1), 1) := by decide +kernel
theorem d_FF_vehicle_11 : decode c_FF_vehicle 11 = .ok (.ireturn, 1) := by decide +kernel
theorem d_FF_vehicle_12 : decode c_FF_vehicle 12 = .ok (.iload_n 2, 1) := by decide +kernel
theorem d_FF_vehicle_13 : decode c_FF_vehicle 13 = .ok (.tableswitch 85 0 6 #[43, 52, 57, 62, 67, 72, 80], 43) := by decide +kernel
theorem d_FF_vehicle_56 : decode c_FF_vehicle 56 = .ok (.aload_n 3, 1) := by decide +kernel
theorem d_FF_vehicle_57 : decode c_FF_vehicle 57 = .ok (.aload_n 3, 1) := by decide +kernel
theorem d_FF_vehicle_58 : decode c_FF_vehicle 58 = .ok (.getfield 160, 3) := by decide +kernel
theorem d_FF_vehicle_61 : decode c_FF_vehicle 61 = .ok (.invokevirtual 163, 3) := by decide +kernel
theorem d_FF_vehicle_64 : decode c_FF_vehicle 64 = .ok (.ireturn, 1) := by decide +kernel
theorem d_FF_vehicle_65 : decode c_FF_vehicle 65 = .ok (.aload_n 3, 1) := by decide +kernel
theorem d_FF_vehicle_66 : decode c_FF_vehicle 66 = .ok (.getfield 160, 3) := by decide +kernel
theorem d_FF_vehicle_69 : decode c_FF_vehicle 69 = .ok (.ireturn, 1) := by decide +kernel
theorem d_FF_vehicle_70 : decode c_FF_vehicle 70 = .ok (.aload_n 3, 1) := by decide +kernel
theorem d_FF_vehicle_71 : decode c_FF_vehicle 71 = .ok (.getfield 167, 3) := by decide +kernel
theorem d_FF_vehicle_74 : decode c_FF_vehicle 74 = .ok (.ireturn, 1) := by decide +kernel
theorem d_FF_vehicle_75 : decode c_FF_vehicle 75 = .ok (.aload_n 3, 1) := by decide +kernel
theorem d_FF_vehicle_76 : decode c_FF_vehicle 76 = .ok (.getfield 170, 3) := by decide +kernel
theorem d_FF_vehicle_79 : decode c_FF_vehicle 79 = .ok (.ireturn, 1) := by decide +kernel
theorem d_FF_vehicle_80 : decode c_FF_vehicle 80 = .ok (.aload_n 3, 1) := by decide +kernel
theorem d_FF_vehicle_81 : decode c_FF_vehicle 81 = .ok (.getfield 173, 3) := by decide +kernel
theorem d_FF_vehicle_84 : decode c_FF_vehicle 84 = .ok (.ireturn, 1) := by decide +kernel
theorem d_FF_vehicle_85 : decode c_FF_vehicle 85 = .ok (.aload_n 3, 1) := by decide +kernel
theorem d_FF_vehicle_86 : decode c_FF_vehicle 86 = .ok (.getfield 176, 3) := by decide +kernel
theorem d_FF_vehicle_89 : decode c_FF_vehicle 89 = .ok (.invokevirtual 96, 3) := by decide +kernel
theorem d_FF_vehicle_92 : decode c_FF_vehicle 92 = .ok (.ireturn, 1) := by decide +kernel
theorem d_FF_vehicle_93 : decode c_FF_vehicle 93 = .ok (.aload_n 3, 1) := by decide +kernel
theorem d_FF_vehicle_94 : decode c_FF_vehicle 94 = .ok (.getfield 179, 3) := by decide +kernel
theorem d_FF_vehicle_97 : decode c_FF_vehicle 97 = .ok (.ireturn, 1) := by decide +kernel
theorem d_FF_vehicle_98 : decode c_FF_vehicle 98 = .ok (.iconst (-1), 1) := by decide +kernel
theorem d_FF_vehicle_99 : decode c_FF_vehicle 99 = .ok (.ireturn, 1) := by decide +kernel
abbrev c_FF_move : ByteArray := prog_1_method_12_code
abbrev y_FF_move : MethodName := ⟨"FleetFloor", "move", "(III)I"⟩
theorem d_FF_move_0 : decode c_FF_move 0 = .ok (.aload_n 0, 1) := by decide +kernel
theorem d_FF_move_1 : decode c_FF_move 1 = .ok (.iload_n 1, 1) := by decide +kernel
theorem d_FF_move_2 : decode c_FF_move 2 = .ok (.invokevirtual 145, 3) := by decide +kernel
theorem d_FF_move_5 : decode c_FF_move 5 = .ok (.astore 4, 2) := by decide +kernel
theorem d_FF_move_7 : decode c_FF_move 7 = .ok (.aload 4, 2) := by decide +kernel
theorem d_FF_move_9 : decode c_FF_move 9 = .ok (.ifnull 19, 3) := by decide +kernel
theorem d_FF_move_12 : decode c_FF_move 12 = .ok (.iload_n 2, 1) := by decide +kernel
theorem d_FF_move_13 : decode c_FF_move 13 = .ok (.ifCond .lt 15, 3) := by decide +kernel
theorem d_FF_move_16 : decode c_FF_move 16 = .ok (.iload_n 2, 1) := by decide +kernel
theorem d_FF_move_17 : decode c_FF_move 17 = .ok (.aload 4, 2) := by decide +kernel
theorem d_FF_move_19 : decode c_FF_move 19 = .ok (.getfield 176, 3) := by decide +kernel
theorem d_FF_move_22 : decode c_FF_move 22 = .ok (.invokevirtual 96, 3) := by decide +kernel
theorem d_FF_move_25 : decode c_FF_move 25 = .ok (.if_icmp .lt 5, 3) := by decide +kernel
theorem d_FF_move_28 : decode c_FF_move 28 = .ok (.iconst (-1), 1) := by decide +kernel
theorem d_FF_move_29 : decode c_FF_move 29 = .ok (.ireturn, 1) := by decide +kernel
theorem d_FF_move_30 : decode c_FF_move 30 = .ok (.aload 4, 2) := by decide +kernel
theorem d_FF_move_32 : decode c_FF_move 32 = .ok (.getfield 176, 3) := by decide +kernel
theorem d_FF_move_35 : decode c_FF_move 35 = .ok (.iload_n 2, 1) := by decide +kernel
theorem d_FF_move_36 : decode c_FF_move 36 = .ok (.invokevirtual 182, 3) := by decide +kernel
theorem d_FF_move_39 : decode c_FF_move 39 = .ok (.checkcast 186, 3) := by decide +kernel
theorem d_FF_move_42 : decode c_FF_move 42 = .ok (.astore 5, 2) := by decide +kernel
theorem d_FF_move_44 : decode c_FF_move 44 = .ok (.iload_n 3, 1) := by decide +kernel
theorem d_FF_move_45 : decode c_FF_move 45 = .ok (.lookupswitch 39 #[(0, 27), (1, 33)], 27) := by decide +kernel
theorem d_FF_move_72 : decode c_FF_move 72 = .ok (.aload 5, 2) := by decide +kernel
theorem d_FF_move_74 : decode c_FF_move 74 = .ok (.invokevirtual 188, 3) := by decide +kernel
theorem d_FF_move_77 : decode c_FF_move 77 = .ok (.ireturn, 1) := by decide +kernel
theorem d_FF_move_78 : decode c_FF_move 78 = .ok (.aload 5, 2) := by decide +kernel
theorem d_FF_move_80 : decode c_FF_move 80 = .ok (.invokevirtual 191, 3) := by decide +kernel
theorem d_FF_move_83 : decode c_FF_move 83 = .ok (.ireturn, 1) := by decide +kernel
theorem d_FF_move_84 : decode c_FF_move 84 = .ok (.iconst (-1), 1) := by decide +kernel
theorem d_FF_move_85 : decode c_FF_move 85 = .ok (.ireturn, 1) := by decide +kernel
abbrev c_FF_taskOf : ByteArray := prog_1_method_13_code
abbrev y_FF_taskOf : MethodName := ⟨"FleetFloor", "taskOf", "(II)I"⟩
theorem d_FF_taskOf_0 : decode c_FF_taskOf 0 = .ok (.iload_n 1, 1) := by decide +kernel
theorem d_FF_taskOf_1 : decode c_FF_taskOf 1 = .ok (.ifCond .lt 14, 3) := by decide +kernel
theorem d_FF_taskOf_4 : decode c_FF_taskOf 4 = .ok (.iload_n 1, 1) := by decide +kernel
theorem d_FF_taskOf_5 : decode c_FF_taskOf 5 = .ok (.aload_n 0, 1) := by decide +kernel
theorem d_FF_taskOf_6 : decode c_FF_taskOf 6 = .ok (.getfield 26, 3) := by decide +kernel
theorem d_FF_taskOf_9 : decode c_FF_taskOf 9 = .ok (.invokevirtual 96, 3) := by decide +kernel
theorem d_FF_taskOf_12 : decode c_FF_taskOf 12 = .ok (.if_icmp .lt 5, 3) := by decide +kernel
theorem d_FF_taskOf_15 : decode c_FF_taskOf 15 = .ok (.iconst (-1), 1) := by decide +kernel
theorem d_FF_taskOf_16 : decode c_FF_taskOf 16 = .ok (.ireturn, 1) := by decide +kernel
theorem d_FF_taskOf_17 : decode c_FF_taskOf 17 = .ok (.aload_n 0, 1) := by decide +kernel
theorem d_FF_taskOf_18 : decode c_FF_taskOf 18 = .ok (.getfield 26, 3) := by decide +kernel
theorem d_FF_taskOf_21 : decode c_FF_taskOf 21 = .ok (.iload_n 1, 1) := by decide +kernel
theorem d_FF_taskOf_22 : decode c_FF_taskOf 22 = .ok (.invokevirtual 182, 3) := by decide +kernel
theorem d_FF_taskOf_25 : decode c_FF_taskOf 25 = .ok (.checkcast 108, 3) := by decide +kernel
theorem d_FF_taskOf_28 : decode c_FF_taskOf 28 = .ok (.astore_n 3, 1) := by decide +kernel
theorem d_FF_taskOf_29 : decode c_FF_taskOf 29 = .ok (.iload_n 2, 1) := by decide +kernel
theorem d_FF_taskOf_30 : decode c_FF_taskOf 30 = .ok (.lookupswitch 36 #[(0, 26), (1, 31)], 26) := by decide +kernel
theorem d_FF_taskOf_56 : decode c_FF_taskOf 56 = .ok (.aload_n 3, 1) := by decide +kernel
theorem d_FF_taskOf_57 : decode c_FF_taskOf 57 = .ok (.getfield 194, 3) := by decide +kernel
theorem d_FF_taskOf_60 : decode c_FF_taskOf 60 = .ok (.ireturn, 1) := by decide +kernel
theorem d_FF_taskOf_61 : decode c_FF_taskOf 61 = .ok (.aload_n 3, 1) := by decide +kernel
theorem d_FF_taskOf_62 : decode c_FF_taskOf 62 = .ok (.getfield 197, 3) := by decide +kernel
theorem d_FF_taskOf_65 : decode c_FF_taskOf 65 = .ok (.ireturn, 1) := by decide +kernel
theorem d_FF_taskOf_66 : decode c_FF_taskOf 66 = .ok (.iconst (-1), 1) := by decide +kernel
theorem d_FF_taskOf_67 : decode c_FF_taskOf 67 = .ok (.ireturn, 1) := by decide +kernel
abbrev c_FF_count : ByteArray := prog_1_method_14_code
abbrev y_FF_count : MethodName := ⟨"FleetFloor", "count", "(I)I"⟩
theorem d_FF_count_0 : decode c_FF_count 0 = .ok (.aload_n 0, 1) := by decide +kernel
theorem d_FF_count_1 : decode c_FF_count 1 = .ok (.invokevirtual 54, 3) := by decide +kernel
theorem d_FF_count_4 : decode c_FF_count 4 = .ok (.ifCond .ne 5, 3) := by decide +kernel
theorem d_FF_count_7 : decode c_FF_count 7 = .ok (.iconst (-1), 1) := by decide +kernel
theorem d_FF_count_8 : decode c_FF_count 8 = .ok (.ireturn, 1) := by decide +kernel
theorem d_FF_count_9 : decode c_FF_count 9 = .ok (.iload_n 1, 1) := by decide +kernel
theorem d_FF_count_10 : decode c_FF_count 10 = .ok (.tableswitch 71 0 4 #[34, 47, 55, 60, 65], 34) := by decide +kernel
theorem d_FF_count_44 : decode c_FF_count 44 = .ok (.aload_n 0, 1) := by decide +kernel
theorem d_FF_count_45 : decode c_FF_count 45 = .ok (.getfield 26, 3) := by decide +kernel
theorem d_FF_count_48 : decode c_FF_count 48 = .ok (.invokevirtual 96, 3) := by decide +kernel
theorem d_FF_count_51 : decode c_FF_count 51 = .ok (.aload_n 0, 1) := by decide +kernel
theorem d_FF_count_52 : decode c_FF_count 52 = .ok (.getfield 44, 3) := by decide +kernel
theorem d_FF_count_55 : decode c_FF_count 55 = .ok (.isub, 1) := by decide +kernel
theorem d_FF_count_56 : decode c_FF_count 56 = .ok (.ireturn, 1) := by decide +kernel
theorem d_FF_count_57 : decode c_FF_count 57 = .ok (.aload_n 0, 1) := by decide +kernel
theorem d_FF_count_58 : decode c_FF_count 58 = .ok (.getfield 26, 3) := by decide +kernel
theorem d_FF_count_61 : decode c_FF_count 61 = .ok (.invokevirtual 96, 3) := by decide +kernel
theorem d_FF_count_64 : decode c_FF_count 64 = .ok (.ireturn, 1) := by decide +kernel
theorem d_FF_count_65 : decode c_FF_count 65 = .ok (.aload_n 0, 1) := by decide +kernel
theorem d_FF_count_66 : decode c_FF_count 66 = .ok (.getfield 48, 3) := by decide +kernel
theorem d_FF_count_69 : decode c_FF_count 69 = .ok (.ireturn, 1) := by decide +kernel
theorem d_FF_count_70 : decode c_FF_count 70 = .ok (.aload_n 0, 1) := by decide +kernel
theorem d_FF_count_71 : decode c_FF_count 71 = .ok (.getfield 51, 3) := by decide +kernel
theorem d_FF_count_74 : decode c_FF_count 74 = .ok (.ireturn, 1) := by decide +kernel
theorem d_FF_count_75 : decode c_FF_count 75 = .ok (.aload_n 0, 1) := by decide +kernel
theorem d_FF_count_76 : decode c_FF_count 76 = .ok (.getfield 36, 3) := by decide +kernel
theorem d_FF_count_79 : decode c_FF_count 79 = .ok (.arraylength, 1) := by decide +kernel
theorem d_FF_count_80 : decode c_FF_count 80 = .ok (.ireturn, 1) := by decide +kernel
theorem d_FF_count_81 : decode c_FF_count 81 = .ok (.iconst (-1), 1) := by decide +kernel
theorem d_FF_count_82 : decode c_FF_count 82 = .ok (.ireturn, 1) := by decide +kernel
abbrev c_FF_isOpen : ByteArray := prog_1_method_15_code
abbrev y_FF_isOpen : MethodName := ⟨"FleetFloor", "isOpen", "()Z"⟩
theorem d_FF_isOpen_0 : decode c_FF_isOpen 0 = .ok (.aload_n 0, 1) := by decide +kernel
theorem d_FF_isOpen_1 : decode c_FF_isOpen 1 = .ok (.getfield 40, 3) := by decide +kernel
theorem d_FF_isOpen_4 : decode c_FF_isOpen 4 = .ok (.ifnull 7, 3) := by decide +kernel
theorem d_FF_isOpen_7 : decode c_FF_isOpen 7 = .ok (.iconst 1, 1) := by decide +kernel
theorem d_FF_isOpen_8 : decode c_FF_isOpen 8 = .ok (.goto 4, 3) := by decide +kernel
theorem d_FF_isOpen_11 : decode c_FF_isOpen 11 = .ok (.iconst 0, 1) := by decide +kernel
theorem d_FF_isOpen_12 : decode c_FF_isOpen 12 = .ok (.ireturn, 1) := by decide +kernel
abbrev c_FF_isStation : ByteArray := prog_1_method_16_code
abbrev y_FF_isStation : MethodName := ⟨"FleetFloor", "isStation", "(I)Z"⟩
theorem d_FF_isStation_0 : decode c_FF_isStation 0 = .ok (.iload_n 1, 1) := by decide +kernel
theorem d_FF_isStation_1 : decode c_FF_isStation 1 = .ok (.ifCond .lt 16, 3) := by decide +kernel
theorem d_FF_isStation_4 : decode c_FF_isStation 4 = .ok (.iload_n 1, 1) := by decide +kernel
theorem d_FF_isStation_5 : decode c_FF_isStation 5 = .ok (.aload_n 0, 1) := by decide +kernel
theorem d_FF_isStation_6 : decode c_FF_isStation 6 = .ok (.getfield 36, 3) := by decide +kernel
theorem d_FF_isStation_9 : decode c_FF_isStation 9 = .ok (.arraylength, 1) := by decide +kernel
theorem d_FF_isStation_10 : decode c_FF_isStation 10 = .ok (.if_icmp .ge 7, 3) := by decide +kernel
theorem d_FF_isStation_13 : decode c_FF_isStation 13 = .ok (.iconst 1, 1) := by decide +kernel
theorem d_FF_isStation_14 : decode c_FF_isStation 14 = .ok (.goto 4, 3) := by decide +kernel
theorem d_FF_isStation_17 : decode c_FF_isStation 17 = .ok (.iconst 0, 1) := by decide +kernel
theorem d_FF_isStation_18 : decode c_FF_isStation 18 = .ok (.ireturn, 1) := by decide +kernel
abbrev c_FF_vehicleNumbered : ByteArray := prog_1_method_17_code
abbrev y_FF_vehicleNumbered : MethodName := ⟨"FleetFloor", "vehicleNumbered", "(I)LFleetFloor$Vehicle;"⟩
theorem d_FF_vehicleNumbered_0 : decode c_FF_vehicleNumbered 0 = .ok (.iload_n 1, 1) := by decide +kernel
theorem d_FF_vehicleNumbered_1 : decode c_FF_vehicleNumbered 1 = .ok (.ifCond .lt 21, 3) := by decide +kernel
theorem d_FF_vehicleNumbered_4 : decode c_FF_vehicleNumbered 4 = .ok (.iload_n 1, 1) := by decide +kernel
theorem d_FF_vehicleNumbered_5 : decode c_FF_vehicleNumbered 5 = .ok (.aload_n 0, 1) := by decide +kernel
theorem d_FF_vehicleNumbered_6 : decode c_FF_vehicleNumbered 6 = .ok (.getfield 32, 3) := by decide +kernel
theorem d_FF_vehicleNumbered_9 : decode c_FF_vehicleNumbered 9 = .ok (.arraylength, 1) := by decide +kernel
theorem d_FF_vehicleNumbered_10 : decode c_FF_vehicleNumbered 10 = .ok (.if_icmp .ge 12, 3) := by decide +kernel
theorem d_FF_vehicleNumbered_13 : decode c_FF_vehicleNumbered 13 = .ok (.aload_n 0, 1) := by decide +kernel
theorem d_FF_vehicleNumbered_14 : decode c_FF_vehicleNumbered 14 = .ok (.getfield 32, 3) := by decide +kernel
theorem d_FF_vehicleNumbered_17 : decode c_FF_vehicleNumbered 17 = .ok (.iload_n 1, 1) := by decide +kernel
theorem d_FF_vehicleNumbered_18 : decode c_FF_vehicleNumbered 18 = .ok (.aaload, 1) := by decide +kernel
theorem d_FF_vehicleNumbered_19 : decode c_FF_vehicleNumbered 19 = .ok (.goto 4, 3) := by decide +kernel
theorem d_FF_vehicleNumbered_22 : decode c_FF_vehicleNumbered 22 = .ok (.aconst_null, 1) := by decide +kernel
theorem d_FF_vehicleNumbered_23 : decode c_FF_vehicleNumbered 23 = .ok (.areturn, 1) := by decide +kernel
abbrev c_FF_makeMoves : ByteArray := prog_1_method_18_code
abbrev y_FF_makeMoves : MethodName := ⟨"FleetFloor", "makeMoves", "()I"⟩
theorem d_FF_makeMoves_0 : decode c_FF_makeMoves 0 = .ok (.iconst 0, 1) := by decide +kernel
theorem d_FF_makeMoves_1 : decode c_FF_makeMoves 1 = .ok (.istore_n 1, 1) := by decide +kernel
theorem d_FF_makeMoves_2 : decode c_FF_makeMoves 2 = .ok (.iconst 0, 1) := by decide +kernel
theorem d_FF_makeMoves_3 : decode c_FF_makeMoves 3 = .ok (.istore_n 2, 1) := by decide +kernel
theorem d_FF_makeMoves_4 : decode c_FF_makeMoves 4 = .ok (.iload_n 2, 1) := by decide +kernel
theorem d_FF_makeMoves_5 : decode c_FF_makeMoves 5 = .ok (.aload_n 0, 1) := by decide +kernel
theorem d_FF_makeMoves_6 : decode c_FF_makeMoves 6 = .ok (.getfield 32, 3) := by decide +kernel
theorem d_FF_makeMoves_9 : decode c_FF_makeMoves 9 = .ok (.arraylength, 1) := by decide +kernel
theorem d_FF_makeMoves_10 : decode c_FF_makeMoves 10 = .ok (.if_icmp .ge 49, 3) := by decide +kernel
theorem d_FF_makeMoves_13 : decode c_FF_makeMoves 13 = .ok (.aload_n 0, 1) := by decide +kernel
theorem d_FF_makeMoves_14 : decode c_FF_makeMoves 14 = .ok (.getfield 32, 3) := by decide +kernel
theorem d_FF_makeMoves_17 : decode c_FF_makeMoves 17 = .ok (.iload_n 2, 1) := by decide +kernel
theorem d_FF_makeMoves_18 : decode c_FF_makeMoves 18 = .ok (.aaload, 1) := by decide +kernel
theorem d_FF_makeMoves_19 : decode c_FF_makeMoves 19 = .ok (.astore_n 3, 1) := by decide +kernel
theorem d_FF_makeMoves_20 : decode c_FF_makeMoves 20 = .ok (.aload_n 3, 1) := by decide +kernel
theorem d_FF_makeMoves_21 : decode c_FF_makeMoves 21 = .ok (.aload_n 3, 1) := by decide +kernel
theorem d_FF_makeMoves_22 : decode c_FF_makeMoves 22 = .ok (.invokevirtual 200, 3) := by decide +kernel
theorem d_FF_makeMoves_25 : decode c_FF_makeMoves 25 = .ok (.putfield 203, 3) := by decide +kernel
theorem d_FF_makeMoves_28 : decode c_FF_makeMoves 28 = .ok (.aload_n 3, 1) := by decide +kernel
theorem d_FF_makeMoves_29 : decode c_FF_makeMoves 29 = .ok (.getfield 203, 3) := by decide +kernel
theorem d_FF_makeMoves_32 : decode c_FF_makeMoves 32 = .ok (.ifCond .eq 21, 3) := by decide +kernel
theorem d_FF_makeMoves_35 : decode c_FF_makeMoves 35 = .ok (.iinc 1 1, 3) := by decide +kernel
theorem d_FF_makeMoves_38 : decode c_FF_makeMoves 38 = .ok (.aload_n 3, 1) := by decide +kernel
theorem d_FF_makeMoves_39 : decode c_FF_makeMoves 39 = .ok (.dup, 1) := by decide +kernel
theorem d_FF_makeMoves_40 : decode c_FF_makeMoves 40 = .ok (.getfield 160, 3) := by decide +kernel
theorem d_FF_makeMoves_43 : decode c_FF_makeMoves 43 = .ok (.iconst 1, 1) := by decide +kernel
theorem d_FF_makeMoves_44 : decode c_FF_makeMoves 44 = .ok (.iadd, 1) := by decide +kernel
theorem d_FF_makeMoves_45 : decode c_FF_makeMoves 45 = .ok (.putfield 160, 3) := by decide +kernel
theorem d_FF_makeMoves_48 : decode c_FF_makeMoves 48 = .ok (.aload_n 0, 1) := by decide +kernel
theorem d_FF_makeMoves_49 : decode c_FF_makeMoves 49 = .ok (.aload_n 3, 1) := by decide +kernel
theorem d_FF_makeMoves_50 : decode c_FF_makeMoves 50 = .ok (.invokevirtual 207, 3) := by decide +kernel
theorem d_FF_makeMoves_53 : decode c_FF_makeMoves 53 = .ok (.iinc 2 1, 3) := by decide +kernel
theorem d_FF_makeMoves_56 : decode c_FF_makeMoves 56 = .ok (.goto (-52), 3) := by decide +kernel
theorem d_FF_makeMoves_59 : decode c_FF_makeMoves 59 = .ok (.iload_n 1, 1) := by decide +kernel
theorem d_FF_makeMoves_60 : decode c_FF_makeMoves 60 = .ok (.ireturn, 1) := by decide +kernel
abbrev c_FF_noteFinish : ByteArray := prog_1_method_19_code
abbrev y_FF_noteFinish : MethodName := ⟨"FleetFloor", "noteFinish", "(LFleetFloor$Vehicle;)V"⟩
theorem d_FF_noteFinish_0 : decode c_FF_noteFinish 0 = .ok (.aload_n 1, 1) := by decide +kernel
theorem d_FF_noteFinish_1 : decode c_FF_noteFinish 1 = .ok (.getfield 160, 3) := by decide +kernel
theorem d_FF_noteFinish_4 : decode c_FF_noteFinish 4 = .ok (.aload_n 1, 1) := by decide +kernel
theorem d_FF_noteFinish_5 : decode c_FF_noteFinish 5 = .ok (.getfield 211, 3) := by decide +kernel
theorem d_FF_noteFinish_8 : decode c_FF_noteFinish 8 = .ok (.if_icmp .ne 45, 3) := by decide +kernel
theorem d_FF_noteFinish_11 : decode c_FF_noteFinish 11 = .ok (.aload_n 1, 1) := by decide +kernel
theorem d_FF_noteFinish_12 : decode c_FF_noteFinish 12 = .ok (.getfield 179, 3) := by decide +kernel
theorem d_FF_noteFinish_15 : decode c_FF_noteFinish 15 = .ok (.ifCond .lt 38, 3) := by decide +kernel
theorem d_FF_noteFinish_18 : decode c_FF_noteFinish 18 = .ok (.aload_n 1, 1) := by decide +kernel
theorem d_FF_noteFinish_19 : decode c_FF_noteFinish 19 = .ok (.getfield 179, 3) := by decide +kernel
theorem d_FF_noteFinish_22 : decode c_FF_noteFinish 22 = .ok (.aload_n 0, 1) := by decide +kernel
theorem d_FF_noteFinish_23 : decode c_FF_noteFinish 23 = .ok (.getfield 26, 3) := by decide +kernel
theorem d_FF_noteFinish_26 : decode c_FF_noteFinish 26 = .ok (.invokevirtual 96, 3) := by decide +kernel
theorem d_FF_noteFinish_29 : decode c_FF_noteFinish 29 = .ok (.if_icmp .ge 24, 3) := by decide +kernel
theorem d_FF_noteFinish_32 : decode c_FF_noteFinish 32 = .ok (.aload_n 0, 1) := by decide +kernel
theorem d_FF_noteFinish_33 : decode c_FF_noteFinish 33 = .ok (.getfield 26, 3) := by decide +kernel
theorem d_FF_noteFinish_36 : decode c_FF_noteFinish 36 = .ok (.aload_n 1, 1) := by decide +kernel
theorem d_FF_noteFinish_37 : decode c_FF_noteFinish 37 = .ok (.getfield 179, 3) := by decide +kernel
theorem d_FF_noteFinish_40 : decode c_FF_noteFinish 40 = .ok (.invokevirtual 182, 3) := by decide +kernel
theorem d_FF_noteFinish_43 : decode c_FF_noteFinish 43 = .ok (.checkcast 108, 3) := by decide +kernel
theorem d_FF_noteFinish_46 : decode c_FF_noteFinish 46 = .ok (.aload_n 0, 1) := by decide +kernel
theorem d_FF_noteFinish_47 : decode c_FF_noteFinish 47 = .ok (.getfield 48, 3) := by decide +kernel
theorem d_FF_noteFinish_50 : decode c_FF_noteFinish 50 = .ok (.putfield 197, 3) := by decide +kernel
theorem d_FF_noteFinish_53 : decode c_FF_noteFinish 53 = .ok (.return_, 1) := by decide +kernel
abbrev c_FF_sendDones : ByteArray := prog_1_method_20_code
abbrev y_FF_sendDones : MethodName := ⟨"FleetFloor", "sendDones", "()V"⟩
theorem d_FF_sendDones_0 : decode c_FF_sendDones 0 = .ok (.iconst 0, 1) := by decide +kernel
theorem d_FF_sendDones_1 : decode c_FF_sendDones 1 = .ok (.istore_n 1, 1) := by decide +kernel
theorem d_FF_sendDones_2 : decode c_FF_sendDones 2 = .ok (.iload_n 1, 1) := by decide +kernel
theorem d_FF_sendDones_3 : decode c_FF_sendDones 3 = .ok (.aload_n 0, 1) := by decide +kernel
theorem d_FF_sendDones_4 : decode c_FF_sendDones 4 = .ok (.getfield 32, 3) := by decide +kernel
theorem d_FF_sendDones_7 : decode c_FF_sendDones 7 = .ok (.arraylength, 1) := by decide +kernel
theorem d_FF_sendDones_8 : decode c_FF_sendDones 8 = .ok (.if_icmp .ge 55, 3) := by decide +kernel
theorem d_FF_sendDones_11 : decode c_FF_sendDones 11 = .ok (.aload_n 0, 1) := by decide +kernel
theorem d_FF_sendDones_12 : decode c_FF_sendDones 12 = .ok (.getfield 32, 3) := by decide +kernel
theorem d_FF_sendDones_15 : decode c_FF_sendDones 15 = .ok (.iload_n 1, 1) := by decide +kernel
theorem d_FF_sendDones_16 : decode c_FF_sendDones 16 = .ok (.aaload, 1) := by decide +kernel
theorem d_FF_sendDones_17 : decode c_FF_sendDones 17 = .ok (.astore_n 2, 1) := by decide +kernel
theorem d_FF_sendDones_18 : decode c_FF_sendDones 18 = .ok (.aload_n 2, 1) := by decide +kernel
theorem d_FF_sendDones_19 : decode c_FF_sendDones 19 = .ok (.getfield 203, 3) := by decide +kernel
theorem d_FF_sendDones_22 : decode c_FF_sendDones 22 = .ok (.ifCond .ne 11, 3) := by decide +kernel
theorem d_FF_sendDones_25 : decode c_FF_sendDones 25 = .ok (.aload_n 0, 1) := by decide +kernel
theorem d_FF_sendDones_26 : decode c_FF_sendDones 26 = .ok (.aload_n 2, 1) := by decide +kernel
theorem d_FF_sendDones_27 : decode c_FF_sendDones 27 = .ok (.invokevirtual 214, 3) := by decide +kernel
theorem d_FF_sendDones_30 : decode c_FF_sendDones 30 = .ok (.ifCond .eq 27, 3) := by decide +kernel
theorem d_FF_sendDones_33 : decode c_FF_sendDones 33 = .ok (.aload_n 0, 1) := by decide +kernel
theorem d_FF_sendDones_34 : decode c_FF_sendDones 34 = .ok (.getfield 19, 3) := by decide +kernel
theorem d_FF_sendDones_37 : decode c_FF_sendDones 37 = .ok (.new 135, 3) := by decide +kernel
theorem d_FF_sendDones_40 : decode c_FF_sendDones 40 = .ok (.dup, 1) := by decide +kernel
theorem d_FF_sendDones_41 : decode c_FF_sendDones 41 = .ok (.iconst 1, 1) := by decide +kernel
theorem d_FF_sendDones_42 : decode c_FF_sendDones 42 = .ok (.aload_n 2, 1) := by decide +kernel
theorem d_FF_sendDones_43 : decode c_FF_sendDones 43 = .ok (.getfield 218, 3) := by decide +kernel
theorem d_FF_sendDones_46 : decode c_FF_sendDones 46 = .ok (.aload_n 2, 1) := by decide +kernel
theorem d_FF_sendDones_47 : decode c_FF_sendDones 47 = .ok (.getfield 160, 3) := by decide +kernel
theorem d_FF_sendDones_50 : decode c_FF_sendDones 50 = .ok (.invokespecial 220, 3) := by decide +kernel
theorem d_FF_sendDones_53 : decode c_FF_sendDones 53 = .ok (.invokevirtual 156, 3) := by decide +kernel
theorem d_FF_sendDones_56 : decode c_FF_sendDones 56 = .ok (.pop, 1) := by decide +kernel
theorem d_FF_sendDones_57 : decode c_FF_sendDones 57 = .ok (.iinc 1 1, 3) := by decide +kernel
theorem d_FF_sendDones_60 : decode c_FF_sendDones 60 = .ok (.goto (-58), 3) := by decide +kernel
theorem d_FF_sendDones_63 : decode c_FF_sendDones 63 = .ok (.return_, 1) := by decide +kernel
abbrev c_FF_reportsNow : ByteArray := prog_1_method_21_code
abbrev y_FF_reportsNow : MethodName := ⟨"FleetFloor", "reportsNow", "(LFleetFloor$Vehicle;)Z"⟩
theorem d_FF_reportsNow_0 : decode c_FF_reportsNow 0 = .ok (.aload_n 0, 1) := by decide +kernel
theorem d_FF_reportsNow_1 : decode c_FF_reportsNow 1 = .ok (.getfield 48, 3) := by decide +kernel
theorem d_FF_reportsNow_4 : decode c_FF_reportsNow 4 = .ok (.bipush 8, 2) := by decide +kernel
theorem d_FF_reportsNow_6 : decode c_FF_reportsNow 6 = .ok (.irem, 1) := by decide +kernel
theorem d_FF_reportsNow_7 : decode c_FF_reportsNow 7 = .ok (.aload_n 1, 1) := by decide +kernel
theorem d_FF_reportsNow_8 : decode c_FF_reportsNow 8 = .ok (.getfield 218, 3) := by decide +kernel
theorem d_FF_reportsNow_11 : decode c_FF_reportsNow 11 = .ok (.bipush 8, 2) := by decide +kernel
theorem d_FF_reportsNow_13 : decode c_FF_reportsNow 13 = .ok (.irem, 1) := by decide +kernel
theorem d_FF_reportsNow_14 : decode c_FF_reportsNow 14 = .ok (.if_icmp .ne 7, 3) := by decide +kernel
theorem d_FF_reportsNow_17 : decode c_FF_reportsNow 17 = .ok (.iconst 1, 1) := by decide +kernel
theorem d_FF_reportsNow_18 : decode c_FF_reportsNow 18 = .ok (.goto 4, 3) := by decide +kernel
theorem d_FF_reportsNow_21 : decode c_FF_reportsNow 21 = .ok (.iconst 0, 1) := by decide +kernel
theorem d_FF_reportsNow_22 : decode c_FF_reportsNow 22 = .ok (.ireturn, 1) := by decide +kernel
abbrev c_FF_makePlans : ByteArray := prog_1_method_22_code
abbrev y_FF_makePlans : MethodName := ⟨"FleetFloor", "makePlans", "()V"⟩
theorem d_FF_makePlans_0 : decode c_FF_makePlans 0 = .ok (.aload_n 0, 1) := by decide +kernel
theorem d_FF_makePlans_1 : decode c_FF_makePlans 1 = .ok (.getfield 44, 3) := by decide +kernel
theorem d_FF_makePlans_4 : decode c_FF_makePlans 4 = .ok (.istore_n 1, 1) := by decide +kernel
theorem d_FF_makePlans_5 : decode c_FF_makePlans 5 = .ok (.iload_n 1, 1) := by decide +kernel
theorem d_FF_makePlans_6 : decode c_FF_makePlans 6 = .ok (.aload_n 0, 1) := by decide +kernel
theorem d_FF_makePlans_7 : decode c_FF_makePlans 7 = .ok (.getfield 26, 3) := by decide +kernel
theorem d_FF_makePlans_10 : decode c_FF_makePlans 10 = .ok (.invokevirtual 96, 3) := by decide +kernel
theorem d_FF_makePlans_13 : decode c_FF_makePlans 13 = .ok (.if_icmp .ge 94, 3) := by decide +kernel
theorem d_FF_makePlans_16 : decode c_FF_makePlans 16 = .ok (.aload_n 0, 1) := by decide +kernel
theorem d_FF_makePlans_17 : decode c_FF_makePlans 17 = .ok (.invokevirtual 223, 3) := by decide +kernel
theorem d_FF_makePlans_20 : decode c_FF_makePlans 20 = .ok (.astore_n 2, 1) := by decide +kernel
theorem d_FF_makePlans_21 : decode c_FF_makePlans 21 = .ok (.aload_n 0, 1) := by decide +kernel
theorem d_FF_makePlans_22 : decode c_FF_makePlans 22 = .ok (.getfield 40, 3) := by decide +kernel
theorem d_FF_makePlans_25 : decode c_FF_makePlans 25 = .ok (.ifnull 33, 3) := by decide +kernel
theorem d_FF_makePlans_28 : decode c_FF_makePlans 28 = .ok (.aload_n 2, 1) := by decide +kernel
theorem d_FF_makePlans_29 : decode c_FF_makePlans 29 = .ok (.ifnull 29, 3) := by decide +kernel
theorem d_FF_makePlans_32 : decode c_FF_makePlans 32 = .ok (.aload_n 0, 1) := by decide +kernel
theorem d_FF_makePlans_33 : decode c_FF_makePlans 33 = .ok (.getfield 40, 3) := by decide +kernel
theorem d_FF_makePlans_36 : decode c_FF_makePlans 36 = .ok (.aload_n 2, 1) := by decide +kernel
theorem d_FF_makePlans_37 : decode c_FF_makePlans 37 = .ok (.aload_n 0, 1) := by decide +kernel
theorem d_FF_makePlans_38 : decode c_FF_makePlans 38 = .ok (.getfield 26, 3) := by decide +kernel
theorem d_FF_makePlans_41 : decode c_FF_makePlans 41 = .ok (.iload_n 1, 1) := by decide +kernel
theorem d_FF_makePlans_42 : decode c_FF_makePlans 42 = .ok (.invokevirtual 182, 3) := by decide +kernel
theorem d_FF_makePlans_45 : decode c_FF_makePlans 45 = .ok (.checkcast 108, 3) := by decide +kernel
theorem d_FF_makePlans_48 : decode c_FF_makePlans 48 = .ok (.aload_n 0, 1) := by decide +kernel
theorem d_FF_makePlans_49 : decode c_FF_makePlans 49 = .ok (.getfield 51, 3) := by decide +kernel
theorem d_FF_makePlans_52 : decode c_FF_makePlans 52 = .ok (.invokevirtual 227, 3) := by decide +kernel
theorem d_FF_makePlans_55 : decode c_FF_makePlans 55 = .ok (.ifCond .ne 4, 3) := by decide +kernel
theorem d_FF_makePlans_58 : decode c_FF_makePlans 58 = .ok (.return_, 1) := by decide +kernel
theorem d_FF_makePlans_59 : decode c_FF_makePlans 59 = .ok (.aload_n 0, 1) := by decide +kernel
theorem d_FF_makePlans_60 : decode c_FF_makePlans 60 = .ok (.getfield 40, 3) := by decide +kernel
theorem d_FF_makePlans_63 : decode c_FF_makePlans 63 = .ok (.aload_n 2, 1) := by decide +kernel
theorem d_FF_makePlans_64 : decode c_FF_makePlans 64 = .ok (.aload_n 0, 1) := by decide +kernel
theorem d_FF_makePlans_65 : decode c_FF_makePlans 65 = .ok (.getfield 51, 3) := by decide +kernel
theorem d_FF_makePlans_68 : decode c_FF_makePlans 68 = .ok (.invokevirtual 231, 3) := by decide +kernel
theorem d_FF_makePlans_71 : decode c_FF_makePlans 71 = .ok (.aload_n 2, 1) := by decide +kernel
theorem d_FF_makePlans_72 : decode c_FF_makePlans 72 = .ok (.iload_n 1, 1) := by decide +kernel
theorem d_FF_makePlans_73 : decode c_FF_makePlans 73 = .ok (.putfield 179, 3) := by decide +kernel
theorem d_FF_makePlans_76 : decode c_FF_makePlans 76 = .ok (.aload_n 0, 1) := by decide +kernel
theorem d_FF_makePlans_77 : decode c_FF_makePlans 77 = .ok (.getfield 26, 3) := by decide +kernel
theorem d_FF_makePlans_80 : decode c_FF_makePlans 80 = .ok (.iload_n 1, 1) := by decide +kernel
theorem d_FF_makePlans_81 : decode c_FF_makePlans 81 = .ok (.invokevirtual 182, 3) := by decide +kernel
theorem d_FF_makePlans_84 : decode c_FF_makePlans 84 = .ok (.checkcast 108, 3) := by decide +kernel
theorem d_FF_makePlans_87 : decode c_FF_makePlans 87 = .ok (.aload_n 2, 1) := by decide +kernel
theorem d_FF_makePlans_88 : decode c_FF_makePlans 88 = .ok (.getfield 218, 3) := by decide +kernel
theorem d_FF_makePlans_91 : decode c_FF_makePlans 91 = .ok (.putfield 194, 3) := by decide +kernel
theorem d_FF_makePlans_94 : decode c_FF_makePlans 94 = .ok (.aload_n 0, 1) := by decide +kernel
theorem d_FF_makePlans_95 : decode c_FF_makePlans 95 = .ok (.iload_n 1, 1) := by decide +kernel
theorem d_FF_makePlans_96 : decode c_FF_makePlans 96 = .ok (.iconst 1, 1) := by decide +kernel
theorem d_FF_makePlans_97 : decode c_FF_makePlans 97 = .ok (.iadd, 1) := by decide +kernel
theorem d_FF_makePlans_98 : decode c_FF_makePlans 98 = .ok (.putfield 44, 3) := by decide +kernel
theorem d_FF_makePlans_101 : decode c_FF_makePlans 101 = .ok (.iinc 1 1, 3) := by decide +kernel
theorem d_FF_makePlans_104 : decode c_FF_makePlans 104 = .ok (.goto (-99), 3) := by decide +kernel
theorem d_FF_makePlans_107 : decode c_FF_makePlans 107 = .ok (.return_, 1) := by decide +kernel
abbrev c_FF_lowestIdle : ByteArray := prog_1_method_23_code
abbrev y_FF_lowestIdle : MethodName := ⟨"FleetFloor", "lowestIdle", "()LFleetFloor$Vehicle;"⟩
theorem d_FF_lowestIdle_0 : decode c_FF_lowestIdle 0 = .ok (.iconst 0, 1) := by decide +kernel
theorem d_FF_lowestIdle_1 : decode c_FF_lowestIdle 1 = .ok (.istore_n 1, 1) := by decide +kernel
theorem d_FF_lowestIdle_2 : decode c_FF_lowestIdle 2 = .ok (.iload_n 1, 1) := by decide +kernel
theorem d_FF_lowestIdle_3 : decode c_FF_lowestIdle 3 = .ok (.aload_n 0, 1) := by decide +kernel
theorem d_FF_lowestIdle_4 : decode c_FF_lowestIdle 4 = .ok (.getfield 32, 3) := by decide +kernel
theorem d_FF_lowestIdle_7 : decode c_FF_lowestIdle 7 = .ok (.arraylength, 1) := by decide +kernel
theorem d_FF_lowestIdle_8 : decode c_FF_lowestIdle 8 = .ok (.if_icmp .ge 28, 3) := by decide +kernel
theorem d_FF_lowestIdle_11 : decode c_FF_lowestIdle 11 = .ok (.aload_n 0, 1) := by decide +kernel
theorem d_FF_lowestIdle_12 : decode c_FF_lowestIdle 12 = .ok (.getfield 32, 3) := by decide +kernel
theorem d_FF_lowestIdle_15 : decode c_FF_lowestIdle 15 = .ok (.iload_n 1, 1) := by decide +kernel
theorem d_FF_lowestIdle_16 : decode c_FF_lowestIdle 16 = .ok (.aaload, 1) := by decide +kernel
theorem d_FF_lowestIdle_17 : decode c_FF_lowestIdle 17 = .ok (.invokevirtual 235, 3) := by decide +kernel
theorem d_FF_lowestIdle_20 : decode c_FF_lowestIdle 20 = .ok (.ifCond .eq 10, 3) := by decide +kernel
theorem d_FF_lowestIdle_23 : decode c_FF_lowestIdle 23 = .ok (.aload_n 0, 1) := by decide +kernel
theorem d_FF_lowestIdle_24 : decode c_FF_lowestIdle 24 = .ok (.getfield 32, 3) := by decide +kernel
theorem d_FF_lowestIdle_27 : decode c_FF_lowestIdle 27 = .ok (.iload_n 1, 1) := by decide +kernel
theorem d_FF_lowestIdle_28 : decode c_FF_lowestIdle 28 = .ok (.aaload, 1) := by decide +kernel
theorem d_FF_lowestIdle_29 : decode c_FF_lowestIdle 29 = .ok (.areturn, 1) := by decide +kernel
theorem d_FF_lowestIdle_30 : decode c_FF_lowestIdle 30 = .ok (.iinc 1 1, 3) := by decide +kernel
theorem d_FF_lowestIdle_33 : decode c_FF_lowestIdle 33 = .ok (.goto (-31), 3) := by decide +kernel
theorem d_FF_lowestIdle_36 : decode c_FF_lowestIdle 36 = .ok (.aconst_null, 1) := by decide +kernel
theorem d_FF_lowestIdle_37 : decode c_FF_lowestIdle 37 = .ok (.areturn, 1) := by decide +kernel
abbrev c_FF_grantMoves : ByteArray := prog_1_method_24_code
abbrev y_FF_grantMoves : MethodName := ⟨"FleetFloor", "grantMoves", "()V"⟩
theorem d_FF_grantMoves_0 : decode c_FF_grantMoves 0 = .ok (.iconst 0, 1) := by decide +kernel
theorem d_FF_grantMoves_1 : decode c_FF_grantMoves 1 = .ok (.istore_n 1, 1) := by decide +kernel
theorem d_FF_grantMoves_2 : decode c_FF_grantMoves 2 = .ok (.iload_n 1, 1) := by decide +kernel
theorem d_FF_grantMoves_3 : decode c_FF_grantMoves 3 = .ok (.aload_n 0, 1) := by decide +kernel
theorem d_FF_grantMoves_4 : decode c_FF_grantMoves 4 = .ok (.getfield 32, 3) := by decide +kernel
theorem d_FF_grantMoves_7 : decode c_FF_grantMoves 7 = .ok (.arraylength, 1) := by decide +kernel
theorem d_FF_grantMoves_8 : decode c_FF_grantMoves 8 = .ok (.if_icmp .ge 136, 3) := by decide +kernel
theorem d_FF_grantMoves_11 : decode c_FF_grantMoves 11 = .ok (.aload_n 0, 1) := by decide +kernel
theorem d_FF_grantMoves_12 : decode c_FF_grantMoves 12 = .ok (.getfield 32, 3) := by decide +kernel
theorem d_FF_grantMoves_15 : decode c_FF_grantMoves 15 = .ok (.iload_n 1, 1) := by decide +kernel
theorem d_FF_grantMoves_16 : decode c_FF_grantMoves 16 = .ok (.aaload, 1) := by decide +kernel
theorem d_FF_grantMoves_17 : decode c_FF_grantMoves 17 = .ok (.astore_n 2, 1) := by decide +kernel
theorem d_FF_grantMoves_18 : decode c_FF_grantMoves 18 = .ok (.aload_n 2, 1) := by decide +kernel
theorem d_FF_grantMoves_19 : decode c_FF_grantMoves 19 = .ok (.getfield 173, 3) := by decide +kernel
theorem d_FF_grantMoves_22 : decode c_FF_grantMoves 22 = .ok (.istore_n 3, 1) := by decide +kernel
theorem d_FF_grantMoves_23 : decode c_FF_grantMoves 23 = .ok (.iload_n 3, 1) := by decide +kernel
theorem d_FF_grantMoves_24 : decode c_FF_grantMoves 24 = .ok (.istore 4, 2) := by decide +kernel
theorem d_FF_grantMoves_26 : decode c_FF_grantMoves 26 = .ok (.iload 4, 2) := by decide +kernel
theorem d_FF_grantMoves_28 : decode c_FF_grantMoves 28 = .ok (.aload_n 2, 1) := by decide +kernel
theorem d_FF_grantMoves_29 : decode c_FF_grantMoves 29 = .ok (.getfield 176, 3) := by decide +kernel
theorem d_FF_grantMoves_32 : decode c_FF_grantMoves 32 = .ok (.invokevirtual 96, 3) := by decide +kernel
theorem d_FF_grantMoves_35 : decode c_FF_grantMoves 35 = .ok (.if_icmp .ge 63, 3) := by decide +kernel
theorem d_FF_grantMoves_38 : decode c_FF_grantMoves 38 = .ok (.aload_n 0, 1) := by decide +kernel
theorem d_FF_grantMoves_39 : decode c_FF_grantMoves 39 = .ok (.aload_n 2, 1) := by decide +kernel
theorem d_FF_grantMoves_40 : decode c_FF_grantMoves 40 = .ok (.aload_n 2, 1) := by decide +kernel
theorem d_FF_grantMoves_41 : decode c_FF_grantMoves 41 = .ok (.getfield 176, 3) := by decide +kernel
theorem d_FF_grantMoves_44 : decode c_FF_grantMoves 44 = .ok (.iload 4, 2) := by decide +kernel
theorem d_FF_grantMoves_46 : decode c_FF_grantMoves 46 = .ok (.invokevirtual 182, 3) := by decide +kernel
theorem d_FF_grantMoves_49 : decode c_FF_grantMoves 49 = .ok (.checkcast 186, 3) := by decide +kernel
theorem d_FF_grantMoves_52 : decode c_FF_grantMoves 52 = .ok (.invokevirtual 238, 3) := by decide +kernel
theorem d_FF_grantMoves_55 : decode c_FF_grantMoves 55 = .ok (.ifCond .eq 43, 3) := by decide +kernel
theorem d_FF_grantMoves_58 : decode c_FF_grantMoves 58 = .ok (.aload_n 2, 1) := by decide +kernel
theorem d_FF_grantMoves_59 : decode c_FF_grantMoves 59 = .ok (.iload 4, 2) := by decide +kernel
theorem d_FF_grantMoves_61 : decode c_FF_grantMoves 61 = .ok (.iconst 1, 1) := by decide +kernel
theorem d_FF_grantMoves_62 : decode c_FF_grantMoves 62 = .ok (.iadd, 1) := by decide +kernel
theorem d_FF_grantMoves_63 : decode c_FF_grantMoves 63 = .ok (.putfield 173, 3) := by decide +kernel
theorem d_FF_grantMoves_66 : decode c_FF_grantMoves 66 = .ok (.aload_n 0, 1) := by decide +kernel
theorem d_FF_grantMoves_67 : decode c_FF_grantMoves 67 = .ok (.aload_n 0, 1) := by decide +kernel
theorem d_FF_grantMoves_68 : decode c_FF_grantMoves 68 = .ok (.getfield 51, 3) := by decide +kernel
theorem d_FF_grantMoves_71 : decode c_FF_grantMoves 71 = .ok (.aload_n 2, 1) := by decide +kernel
theorem d_FF_grantMoves_72 : decode c_FF_grantMoves 72 = .ok (.getfield 176, 3) := by decide +kernel
theorem d_FF_grantMoves_75 : decode c_FF_grantMoves 75 = .ok (.iload 4, 2) := by decide +kernel
theorem d_FF_grantMoves_77 : decode c_FF_grantMoves 77 = .ok (.invokevirtual 182, 3) := by decide +kernel
theorem d_FF_grantMoves_80 : decode c_FF_grantMoves 80 = .ok (.checkcast 186, 3) := by decide +kernel
theorem d_FF_grantMoves_83 : decode c_FF_grantMoves 83 = .ok (.invokevirtual 191, 3) := by decide +kernel
theorem d_FF_grantMoves_86 : decode c_FF_grantMoves 86 = .ok (.invokestatic 242, 3) := by decide +kernel
theorem d_FF_grantMoves_89 : decode c_FF_grantMoves 89 = .ok (.putfield 51, 3) := by decide +kernel
theorem d_FF_grantMoves_92 : decode c_FF_grantMoves 92 = .ok (.iinc 4 1, 3) := by decide +kernel
theorem d_FF_grantMoves_95 : decode c_FF_grantMoves 95 = .ok (.goto (-69), 3) := by decide +kernel
theorem d_FF_grantMoves_98 : decode c_FF_grantMoves 98 = .ok (.aload_n 2, 1) := by decide +kernel
theorem d_FF_grantMoves_99 : decode c_FF_grantMoves 99 = .ok (.getfield 173, 3) := by decide +kernel
theorem d_FF_grantMoves_102 : decode c_FF_grantMoves 102 = .ok (.iload_n 3, 1) := by decide +kernel
theorem d_FF_grantMoves_103 : decode c_FF_grantMoves 103 = .ok (.if_icmp .gt 11, 3) := by decide +kernel
theorem d_FF_grantMoves_106 : decode c_FF_grantMoves 106 = .ok (.aload_n 0, 1) := by decide +kernel
theorem d_FF_grantMoves_107 : decode c_FF_grantMoves 107 = .ok (.aload_n 2, 1) := by decide +kernel
theorem d_FF_grantMoves_108 : decode c_FF_grantMoves 108 = .ok (.invokevirtual 214, 3) := by decide +kernel
theorem d_FF_grantMoves_111 : decode c_FF_grantMoves 111 = .ok (.ifCond .eq 27, 3) := by decide +kernel
theorem d_FF_grantMoves_114 : decode c_FF_grantMoves 114 = .ok (.aload_n 0, 1) := by decide +kernel
theorem d_FF_grantMoves_115 : decode c_FF_grantMoves 115 = .ok (.getfield 19, 3) := by decide +kernel
theorem d_FF_grantMoves_118 : decode c_FF_grantMoves 118 = .ok (.new 135, 3) := by decide +kernel
theorem d_FF_grantMoves_121 : decode c_FF_grantMoves 121 = .ok (.dup, 1) := by decide +kernel
theorem d_FF_grantMoves_122 : decode c_FF_grantMoves 122 = .ok (.iconst 0, 1) := by decide +kernel
theorem d_FF_grantMoves_123 : decode c_FF_grantMoves 123 = .ok (.aload_n 2, 1) := by decide +kernel
theorem d_FF_grantMoves_124 : decode c_FF_grantMoves 124 = .ok (.getfield 218, 3) := by decide +kernel
theorem d_FF_grantMoves_127 : decode c_FF_grantMoves 127 = .ok (.aload_n 2, 1) := by decide +kernel
theorem d_FF_grantMoves_128 : decode c_FF_grantMoves 128 = .ok (.getfield 173, 3) := by decide +kernel
theorem d_FF_grantMoves_131 : decode c_FF_grantMoves 131 = .ok (.invokespecial 220, 3) := by decide +kernel
theorem d_FF_grantMoves_134 : decode c_FF_grantMoves 134 = .ok (.invokevirtual 156, 3) := by decide +kernel
theorem d_FF_grantMoves_137 : decode c_FF_grantMoves 137 = .ok (.pop, 1) := by decide +kernel
theorem d_FF_grantMoves_138 : decode c_FF_grantMoves 138 = .ok (.iinc 1 1, 3) := by decide +kernel
theorem d_FF_grantMoves_141 : decode c_FF_grantMoves 141 = .ok (.goto (-139), 3) := by decide +kernel
theorem d_FF_grantMoves_144 : decode c_FF_grantMoves 144 = .ok (.return_, 1) := by decide +kernel
abbrev c_FF_isFree : ByteArray := prog_1_method_25_code
abbrev y_FF_isFree : MethodName := ⟨"FleetFloor", "isFree", "(LFleetFloor$Vehicle;LFleetFloor$Move;)Z"⟩
theorem d_FF_isFree_0 : decode c_FF_isFree 0 = .ok (.iconst 0, 1) := by decide +kernel
theorem d_FF_isFree_1 : decode c_FF_isFree 1 = .ok (.istore_n 3, 1) := by decide +kernel
theorem d_FF_isFree_2 : decode c_FF_isFree 2 = .ok (.iload_n 3, 1) := by decide +kernel
theorem d_FF_isFree_3 : decode c_FF_isFree 3 = .ok (.aload_n 0, 1) := by decide +kernel
theorem d_FF_isFree_4 : decode c_FF_isFree 4 = .ok (.getfield 32, 3) := by decide +kernel
theorem d_FF_isFree_7 : decode c_FF_isFree 7 = .ok (.arraylength, 1) := by decide +kernel
theorem d_FF_isFree_8 : decode c_FF_isFree 8 = .ok (.if_icmp .ge 34, 3) := by decide +kernel
theorem d_FF_isFree_11 : decode c_FF_isFree 11 = .ok (.aload_n 0, 1) := by decide +kernel
theorem d_FF_isFree_12 : decode c_FF_isFree 12 = .ok (.getfield 32, 3) := by decide +kernel
theorem d_FF_isFree_15 : decode c_FF_isFree 15 = .ok (.iload_n 3, 1) := by decide +kernel
theorem d_FF_isFree_16 : decode c_FF_isFree 16 = .ok (.aaload, 1) := by decide +kernel
theorem d_FF_isFree_17 : decode c_FF_isFree 17 = .ok (.aload_n 1, 1) := by decide +kernel
theorem d_FF_isFree_18 : decode c_FF_isFree 18 = .ok (.if_acmp .eq 18, 3) := by decide +kernel
theorem d_FF_isFree_21 : decode c_FF_isFree 21 = .ok (.aload_n 0, 1) := by decide +kernel
theorem d_FF_isFree_22 : decode c_FF_isFree 22 = .ok (.getfield 32, 3) := by decide +kernel
theorem d_FF_isFree_25 : decode c_FF_isFree 25 = .ok (.iload_n 3, 1) := by decide +kernel
theorem d_FF_isFree_26 : decode c_FF_isFree 26 = .ok (.aaload, 1) := by decide +kernel
theorem d_FF_isFree_27 : decode c_FF_isFree 27 = .ok (.aload_n 2, 1) := by decide +kernel
theorem d_FF_isFree_28 : decode c_FF_isFree 28 = .ok (.invokevirtual 248, 3) := by decide +kernel
theorem d_FF_isFree_31 : decode c_FF_isFree 31 = .ok (.ifCond .eq 5, 3) := by decide +kernel
theorem d_FF_isFree_34 : decode c_FF_isFree 34 = .ok (.iconst 0, 1) := by decide +kernel
theorem d_FF_isFree_35 : decode c_FF_isFree 35 = .ok (.ireturn, 1) := by decide +kernel
theorem d_FF_isFree_36 : decode c_FF_isFree 36 = .ok (.iinc 3 1, 3) := by decide +kernel
theorem d_FF_isFree_39 : decode c_FF_isFree 39 = .ok (.goto (-37), 3) := by decide +kernel
theorem d_FF_isFree_42 : decode c_FF_isFree 42 = .ok (.iconst 1, 1) := by decide +kernel
theorem d_FF_isFree_43 : decode c_FF_isFree 43 = .ok (.ireturn, 1) := by decide +kernel
abbrev c_FF_neighbour : ByteArray := prog_1_method_26_code
abbrev y_FF_neighbour : MethodName := ⟨"FleetFloor", "neighbour", "(II)I"⟩
theorem d_FF_neighbour_0 : decode c_FF_neighbour 0 = .ok (.iload_n 0, 1) := by decide +kernel
theorem d_FF_neighbour_1 : decode c_FF_neighbour 1 = .ok (.bipush 12, 2) := by decide +kernel
theorem d_FF_neighbour_3 : decode c_FF_neighbour 3 = .ok (.irem, 1) := by decide +kernel
theorem d_FF_neighbour_4 : decode c_FF_neighbour 4 = .ok (.istore_n 2, 1) := by decide +kernel
theorem d_FF_neighbour_5 : decode c_FF_neighbour 5 = .ok (.iload_n 0, 1) := by decide +kernel
theorem d_FF_neighbour_6 : decode c_FF_neighbour 6 = .ok (.bipush 12, 2) := by decide +kernel
theorem d_FF_neighbour_8 : decode c_FF_neighbour 8 = .ok (.idiv, 1) := by decide +kernel
theorem d_FF_neighbour_9 : decode c_FF_neighbour 9 = .ok (.istore_n 3, 1) := by decide +kernel
theorem d_FF_neighbour_10 : decode c_FF_neighbour 10 = .ok (.iload_n 1, 1) := by decide +kernel
theorem d_FF_neighbour_11 : decode c_FF_neighbour 11 = .ok (.tableswitch 83 0 3 #[29, 42, 56, 71], 29) := by decide +kernel
theorem d_FF_neighbour_40 : decode c_FF_neighbour 40 = .ok (.iload_n 3, 1) := by decide +kernel
theorem d_FF_neighbour_41 : decode c_FF_neighbour 41 = .ok (.ifCond .le 10, 3) := by decide +kernel
theorem d_FF_neighbour_44 : decode c_FF_neighbour 44 = .ok (.iload_n 0, 1) := by decide +kernel
theorem d_FF_neighbour_45 : decode c_FF_neighbour 45 = .ok (.bipush 12, 2) := by decide +kernel
theorem d_FF_neighbour_47 : decode c_FF_neighbour 47 = .ok (.isub, 1) := by decide +kernel
theorem d_FF_neighbour_48 : decode c_FF_neighbour 48 = .ok (.goto 4, 3) := by decide +kernel
theorem d_FF_neighbour_51 : decode c_FF_neighbour 51 = .ok (.iconst (-1), 1) := by decide +kernel
theorem d_FF_neighbour_52 : decode c_FF_neighbour 52 = .ok (.ireturn, 1) := by decide +kernel
theorem d_FF_neighbour_53 : decode c_FF_neighbour 53 = .ok (.iload_n 2, 1) := by decide +kernel
theorem d_FF_neighbour_54 : decode c_FF_neighbour 54 = .ok (.bipush 11, 2) := by decide +kernel
theorem d_FF_neighbour_56 : decode c_FF_neighbour 56 = .ok (.if_icmp .ge 9, 3) := by decide +kernel
theorem d_FF_neighbour_59 : decode c_FF_neighbour 59 = .ok (.iload_n 0, 1) := by decide +kernel
theorem d_FF_neighbour_60 : decode c_FF_neighbour 60 = .ok (.iconst 1, 1) := by decide +kernel
theorem d_FF_neighbour_61 : decode c_FF_neighbour 61 = .ok (.iadd, 1) := by decide +kernel
theorem d_FF_neighbour_62 : decode c_FF_neighbour 62 = .ok (.goto 4, 3) := by decide +kernel
theorem d_FF_neighbour_65 : decode c_FF_neighbour 65 = .ok (.iconst (-1), 1) := by decide +kernel
theorem d_FF_neighbour_66 : decode c_FF_neighbour 66 = .ok (.ireturn, 1) := by decide +kernel
theorem d_FF_neighbour_67 : decode c_FF_neighbour 67 = .ok (.iload_n 3, 1) := by decide +kernel
theorem d_FF_neighbour_68 : decode c_FF_neighbour 68 = .ok (.bipush 7, 2) := by decide +kernel
theorem d_FF_neighbour_70 : decode c_FF_neighbour 70 = .ok (.if_icmp .ge 10, 3) := by decide +kernel
theorem d_FF_neighbour_73 : decode c_FF_neighbour 73 = .ok (.iload_n 0, 1) := by decide +kernel
theorem d_FF_neighbour_74 : decode c_FF_neighbour 74 = .ok (.bipush 12, 2) := by decide +kernel
theorem d_FF_neighbour_76 : decode c_FF_neighbour 76 = .ok (.iadd, 1) := by decide +kernel
theorem d_FF_neighbour_77 : decode c_FF_neighbour 77 = .ok (.goto 4, 3) := by decide +kernel
theorem d_FF_neighbour_80 : decode c_FF_neighbour 80 = .ok (.iconst (-1), 1) := by decide +kernel
theorem d_FF_neighbour_81 : decode c_FF_neighbour 81 = .ok (.ireturn, 1) := by decide +kernel
theorem d_FF_neighbour_82 : decode c_FF_neighbour 82 = .ok (.iload_n 2, 1) := by decide +kernel
theorem d_FF_neighbour_83 : decode c_FF_neighbour 83 = .ok (.ifCond .le 9, 3) := by decide +kernel
theorem d_FF_neighbour_86 : decode c_FF_neighbour 86 = .ok (.iload_n 0, 1) := by decide +kernel
theorem d_FF_neighbour_87 : decode c_FF_neighbour 87 = .ok (.iconst 1, 1) := by decide +kernel
theorem d_FF_neighbour_88 : decode c_FF_neighbour 88 = .ok (.isub, 1) := by decide +kernel
theorem d_FF_neighbour_89 : decode c_FF_neighbour 89 = .ok (.goto 4, 3) := by decide +kernel
theorem d_FF_neighbour_92 : decode c_FF_neighbour 92 = .ok (.iconst (-1), 1) := by decide +kernel
theorem d_FF_neighbour_93 : decode c_FF_neighbour 93 = .ok (.ireturn, 1) := by decide +kernel
theorem d_FF_neighbour_94 : decode c_FF_neighbour 94 = .ok (.iconst (-1), 1) := by decide +kernel
theorem d_FF_neighbour_95 : decode c_FF_neighbour 95 = .ok (.ireturn, 1) := by decide +kernel
abbrev c_Air_init : ByteArray := prog_2_method_1_code
abbrev y_Air_init : MethodName := ⟨"FleetFloor$Air", "<init>", "()V"⟩
theorem d_Air_init_0 : decode c_Air_init 0 = .ok (.aload_n 0, 1) := by decide +kernel
theorem d_Air_init_1 : decode c_Air_init 1 = .ok (.invokespecial 3, 3) := by decide +kernel
theorem d_Air_init_4 : decode c_Air_init 4 = .ok (.aload_n 0, 1) := by decide +kernel
theorem d_Air_init_5 : decode c_Air_init 5 = .ok (.new 9, 3) := by decide +kernel
theorem d_Air_init_8 : decode c_Air_init 8 = .ok (.dup, 1) := by decide +kernel
theorem d_Air_init_9 : decode c_Air_init 9 = .ok (.invokespecial 11, 3) := by decide +kernel
theorem d_Air_init_12 : decode c_Air_init 12 = .ok (.putfield 12, 3) := by decide +kernel
theorem d_Air_init_15 : decode c_Air_init 15 = .ok (.return_, 1) := by decide +kernel
abbrev c_Air_size : ByteArray := prog_2_method_2_code
abbrev y_Air_size : MethodName := ⟨"FleetFloor$Air", "size", "()I"⟩
theorem d_Air_size_0 : decode c_Air_size 0 = .ok (.aload_n 0, 1) := by decide +kernel
theorem d_Air_size_1 : decode c_Air_size 1 = .ok (.getfield 12, 3) := by decide +kernel
theorem d_Air_size_4 : decode c_Air_size 4 = .ok (.invokevirtual 18, 3) := by decide +kernel
theorem d_Air_size_7 : decode c_Air_size 7 = .ok (.ireturn, 1) := by decide +kernel
abbrev c_Air_look : ByteArray := prog_2_method_3_code
abbrev y_Air_look : MethodName := ⟨"FleetFloor$Air", "look", "(I)LFleetFloor$Letter;"⟩
theorem d_Air_look_0 : decode c_Air_look 0 = .ok (.iload_n 1, 1) := by decide +kernel
theorem d_Air_look_1 : decode c_Air_look 1 = .ok (.ifCond .lt 28, 3) := by decide +kernel
theorem d_Air_look_4 : decode c_Air_look 4 = .ok (.iload_n 1, 1) := by decide +kernel
theorem d_Air_look_5 : decode c_Air_look 5 = .ok (.aload_n 0, 1) := by decide +kernel
theorem d_Air_look_6 : decode c_Air_look 6 = .ok (.getfield 12, 3) := by decide +kernel
theorem d_Air_look_9 : decode c_Air_look 9 = .ok (.invokevirtual 18, 3) := by decide +kernel
theorem d_Air_look_12 : decode c_Air_look 12 = .ok (.if_icmp .ge 17, 3) := by decide +kernel
theorem d_Air_look_15 : decode c_Air_look 15 = .ok (.aload_n 0, 1) := by decide +kernel
theorem d_Air_look_16 : decode c_Air_look 16 = .ok (.getfield 12, 3) := by decide +kernel
theorem d_Air_look_19 : decode c_Air_look 19 = .ok (.iload_n 1, 1) := by decide +kernel
theorem d_Air_look_20 : decode c_Air_look 20 = .ok (.invokevirtual 22, 3) := by decide +kernel
theorem d_Air_look_23 : decode c_Air_look 23 = .ok (.checkcast 26, 3) := by decide +kernel
theorem d_Air_look_26 : decode c_Air_look 26 = .ok (.goto 4, 3) := by decide +kernel
theorem d_Air_look_29 : decode c_Air_look 29 = .ok (.aconst_null, 1) := by decide +kernel
theorem d_Air_look_30 : decode c_Air_look 30 = .ok (.areturn, 1) := by decide +kernel
abbrev c_Air_send : ByteArray := prog_2_method_4_code
abbrev y_Air_send : MethodName := ⟨"FleetFloor$Air", "send", "(LFleetFloor$Letter;)Z"⟩
theorem d_Air_send_0 : decode c_Air_send 0 = .ok (.aload_n 0, 1) := by decide +kernel
theorem d_Air_send_1 : decode c_Air_send 1 = .ok (.getfield 12, 3) := by decide +kernel
theorem d_Air_send_4 : decode c_Air_send 4 = .ok (.invokevirtual 18, 3) := by decide +kernel
theorem d_Air_send_7 : decode c_Air_send 7 = .ok (.bipush 60, 2) := by decide +kernel
theorem d_Air_send_9 : decode c_Air_send 9 = .ok (.if_icmp .lt 5, 3) := by decide +kernel
theorem d_Air_send_12 : decode c_Air_send 12 = .ok (.iconst 0, 1) := by decide +kernel
theorem d_Air_send_13 : decode c_Air_send 13 = .ok (.ireturn, 1) := by decide +kernel
theorem d_Air_send_14 : decode c_Air_send 14 = .ok (.aload_n 0, 1) := by decide +kernel
theorem d_Air_send_15 : decode c_Air_send 15 = .ok (.getfield 12, 3) := by decide +kernel
theorem d_Air_send_18 : decode c_Air_send 18 = .ok (.aload_n 1, 1) := by decide +kernel
theorem d_Air_send_19 : decode c_Air_send 19 = .ok (.invokevirtual 28, 3) := by decide +kernel
theorem d_Air_send_22 : decode c_Air_send 22 = .ok (.pop, 1) := by decide +kernel
theorem d_Air_send_23 : decode c_Air_send 23 = .ok (.iconst 1, 1) := by decide +kernel
theorem d_Air_send_24 : decode c_Air_send 24 = .ok (.ireturn, 1) := by decide +kernel
abbrev c_Air_remove : ByteArray := prog_2_method_5_code
abbrev y_Air_remove : MethodName := ⟨"FleetFloor$Air", "remove", "(I)Z"⟩
theorem d_Air_remove_0 : decode c_Air_remove 0 = .ok (.iload_n 1, 1) := by decide +kernel
theorem d_Air_remove_1 : decode c_Air_remove 1 = .ok (.ifCond .lt 14, 3) := by decide +kernel
theorem d_Air_remove_4 : decode c_Air_remove 4 = .ok (.iload_n 1, 1) := by decide +kernel
theorem d_Air_remove_5 : decode c_Air_remove 5 = .ok (.aload_n 0, 1) := by decide +kernel
theorem d_Air_remove_6 : decode c_Air_remove 6 = .ok (.getfield 12, 3) := by decide +kernel
theorem d_Air_remove_9 : decode c_Air_remove 9 = .ok (.invokevirtual 18, 3) := by decide +kernel
theorem d_Air_remove_12 : decode c_Air_remove 12 = .ok (.if_icmp .lt 5, 3) := by decide +kernel
theorem d_Air_remove_15 : decode c_Air_remove 15 = .ok (.iconst 0, 1) := by decide +kernel
theorem d_Air_remove_16 : decode c_Air_remove 16 = .ok (.ireturn, 1) := by decide +kernel
theorem d_Air_remove_17 : decode c_Air_remove 17 = .ok (.aload_n 0, 1) := by decide +kernel
theorem d_Air_remove_18 : decode c_Air_remove 18 = .ok (.getfield 12, 3) := by decide +kernel
theorem d_Air_remove_21 : decode c_Air_remove 21 = .ok (.iload_n 1, 1) := by decide +kernel
theorem d_Air_remove_22 : decode c_Air_remove 22 = .ok (.invokevirtual 32, 3) := by decide +kernel
theorem d_Air_remove_25 : decode c_Air_remove 25 = .ok (.pop, 1) := by decide +kernel
theorem d_Air_remove_26 : decode c_Air_remove 26 = .ok (.iconst 1, 1) := by decide +kernel
theorem d_Air_remove_27 : decode c_Air_remove 27 = .ok (.ireturn, 1) := by decide +kernel
abbrev c_Cel_init : ByteArray := prog_3_method_1_code
abbrev y_Cel_init : MethodName := ⟨"FleetFloor$Cells", "<init>", "()V"⟩
theorem d_Cel_init_0 : decode c_Cel_init 0 = .ok (.aload_n 0, 1) := by decide +kernel
theorem d_Cel_init_1 : decode c_Cel_init 1 = .ok (.invokespecial 5, 3) := by decide +kernel
theorem d_Cel_init_4 : decode c_Cel_init 4 = .ok (.return_, 1) := by decide +kernel
abbrev c_Cel_clear : ByteArray := prog_3_method_2_code
abbrev y_Cel_clear : MethodName := ⟨"FleetFloor$Cells", "clear", "()V"⟩
theorem d_Cel_clear_0 : decode c_Cel_clear 0 = .ok (.aload_n 0, 1) := by decide +kernel
theorem d_Cel_clear_1 : decode c_Cel_clear 1 = .ok (.lconst 0, 1) := by decide +kernel
theorem d_Cel_clear_2 : decode c_Cel_clear 2 = .ok (.putfield 11, 3) := by decide +kernel
theorem d_Cel_clear_5 : decode c_Cel_clear 5 = .ok (.aload_n 0, 1) := by decide +kernel
theorem d_Cel_clear_6 : decode c_Cel_clear 6 = .ok (.lconst 0, 1) := by decide +kernel
theorem d_Cel_clear_7 : decode c_Cel_clear 7 = .ok (.putfield 15, 3) := by decide +kernel
theorem d_Cel_clear_10 : decode c_Cel_clear 10 = .ok (.return_, 1) := by decide +kernel
abbrev c_Cel_copy : ByteArray := prog_3_method_3_code
abbrev y_Cel_copy : MethodName := ⟨"FleetFloor$Cells", "copy", "(LFleetFloor$Cells;)V"⟩
theorem d_Cel_copy_0 : decode c_Cel_copy 0 = .ok (.aload_n 0, 1) := by decide +kernel
theorem d_Cel_copy_1 : decode c_Cel_copy 1 = .ok (.aload_n 1, 1) := by decide +kernel
theorem d_Cel_copy_2 : decode c_Cel_copy 2 = .ok (.getfield 11, 3) := by decide +kernel
theorem d_Cel_copy_5 : decode c_Cel_copy 5 = .ok (.putfield 11, 3) := by decide +kernel
theorem d_Cel_copy_8 : decode c_Cel_copy 8 = .ok (.aload_n 0, 1) := by decide +kernel
theorem d_Cel_copy_9 : decode c_Cel_copy 9 = .ok (.aload_n 1, 1) := by decide +kernel
theorem d_Cel_copy_10 : decode c_Cel_copy 10 = .ok (.getfield 15, 3) := by decide +kernel
theorem d_Cel_copy_13 : decode c_Cel_copy 13 = .ok (.putfield 15, 3) := by decide +kernel
theorem d_Cel_copy_16 : decode c_Cel_copy 16 = .ok (.return_, 1) := by decide +kernel
abbrev c_Cel_has : ByteArray := prog_3_method_4_code
abbrev y_Cel_has : MethodName := ⟨"FleetFloor$Cells", "has", "(I)Z"⟩
theorem d_Cel_has_0 : decode c_Cel_has 0 = .ok (.iload_n 1, 1) := by decide +kernel
theorem d_Cel_has_1 : decode c_Cel_has 1 = .ok (.bipush 48, 2) := by decide +kernel
theorem d_Cel_has_3 : decode c_Cel_has 3 = .ok (.if_icmp .ge 12, 3) := by decide +kernel
theorem d_Cel_has_6 : decode c_Cel_has 6 = .ok (.aload_n 0, 1) := by decide +kernel
theorem d_Cel_has_7 : decode c_Cel_has 7 = .ok (.getfield 11, 3) := by decide +kernel
theorem d_Cel_has_10 : decode c_Cel_has 10 = .ok (.iload_n 1, 1) := by decide +kernel
theorem d_Cel_has_11 : decode c_Cel_has 11 = .ok (.lushr, 1) := by decide +kernel
theorem d_Cel_has_12 : decode c_Cel_has 12 = .ok (.goto 12, 3) := by decide +kernel
theorem d_Cel_has_15 : decode c_Cel_has 15 = .ok (.aload_n 0, 1) := by decide +kernel
theorem d_Cel_has_16 : decode c_Cel_has 16 = .ok (.getfield 15, 3) := by decide +kernel
theorem d_Cel_has_19 : decode c_Cel_has 19 = .ok (.iload_n 1, 1) := by decide +kernel
theorem d_Cel_has_20 : decode c_Cel_has 20 = .ok (.bipush 48, 2) := by decide +kernel
theorem d_Cel_has_22 : decode c_Cel_has 22 = .ok (.isub, 1) := by decide +kernel
theorem d_Cel_has_23 : decode c_Cel_has 23 = .ok (.lushr, 1) := by decide +kernel
theorem d_Cel_has_24 : decode c_Cel_has 24 = .ok (.lconst 1, 1) := by decide +kernel
theorem d_Cel_has_25 : decode c_Cel_has 25 = .ok (.land, 1) := by decide +kernel
theorem d_Cel_has_26 : decode c_Cel_has 26 = .ok (.lconst 0, 1) := by decide +kernel
theorem d_Cel_has_27 : decode c_Cel_has 27 = .ok (.lcmp, 1) := by decide +kernel
theorem d_Cel_has_28 : decode c_Cel_has 28 = .ok (.ifCond .eq 7, 3) := by decide +kernel
theorem d_Cel_has_31 : decode c_Cel_has 31 = .ok (.iconst 1, 1) := by decide +kernel
theorem d_Cel_has_32 : decode c_Cel_has 32 = .ok (.goto 4, 3) := by decide +kernel
theorem d_Cel_has_35 : decode c_Cel_has 35 = .ok (.iconst 0, 1) := by decide +kernel
theorem d_Cel_has_36 : decode c_Cel_has 36 = .ok (.ireturn, 1) := by decide +kernel
abbrev c_Cel_put : ByteArray := prog_3_method_5_code
abbrev y_Cel_put : MethodName := ⟨"FleetFloor$Cells", "put", "(I)V"⟩
theorem d_Cel_put_0 : decode c_Cel_put 0 = .ok (.iload_n 1, 1) := by decide +kernel
theorem d_Cel_put_1 : decode c_Cel_put 1 = .ok (.bipush 48, 2) := by decide +kernel
theorem d_Cel_put_3 : decode c_Cel_put 3 = .ok (.if_icmp .ge 18, 3) := by decide +kernel
theorem d_Cel_put_6 : decode c_Cel_put 6 = .ok (.aload_n 0, 1) := by decide +kernel
theorem d_Cel_put_7 : decode c_Cel_put 7 = .ok (.dup, 1) := by decide +kernel
theorem d_Cel_put_8 : decode c_Cel_put 8 = .ok (.getfield 11, 3) := by decide +kernel
theorem d_Cel_put_11 : decode c_Cel_put 11 = .ok (.lconst 1, 1) := by decide +kernel
theorem d_Cel_put_12 : decode c_Cel_put 12 = .ok (.iload_n 1, 1) := by decide +kernel
theorem d_Cel_put_13 : decode c_Cel_put 13 = .ok (.lshl, 1) := by decide +kernel
theorem d_Cel_put_14 : decode c_Cel_put 14 = .ok (.lor, 1) := by decide +kernel
theorem d_Cel_put_15 : decode c_Cel_put 15 = .ok (.putfield 11, 3) := by decide +kernel
theorem d_Cel_put_18 : decode c_Cel_put 18 = .ok (.goto 18, 3) := by decide +kernel
theorem d_Cel_put_21 : decode c_Cel_put 21 = .ok (.aload_n 0, 1) := by decide +kernel
theorem d_Cel_put_22 : decode c_Cel_put 22 = .ok (.dup, 1) := by decide +kernel
theorem d_Cel_put_23 : decode c_Cel_put 23 = .ok (.getfield 15, 3) := by decide +kernel
theorem d_Cel_put_26 : decode c_Cel_put 26 = .ok (.lconst 1, 1) := by decide +kernel
theorem d_Cel_put_27 : decode c_Cel_put 27 = .ok (.iload_n 1, 1) := by decide +kernel
theorem d_Cel_put_28 : decode c_Cel_put 28 = .ok (.bipush 48, 2) := by decide +kernel
theorem d_Cel_put_30 : decode c_Cel_put 30 = .ok (.isub, 1) := by decide +kernel
theorem d_Cel_put_31 : decode c_Cel_put 31 = .ok (.lshl, 1) := by decide +kernel
theorem d_Cel_put_32 : decode c_Cel_put 32 = .ok (.lor, 1) := by decide +kernel
theorem d_Cel_put_33 : decode c_Cel_put 33 = .ok (.putfield 15, 3) := by decide +kernel
theorem d_Cel_put_36 : decode c_Cel_put 36 = .ok (.return_, 1) := by decide +kernel
abbrev c_Cel_drop : ByteArray := prog_3_method_6_code
abbrev y_Cel_drop : MethodName := ⟨"FleetFloor$Cells", "drop", "(I)V"⟩
theorem d_Cel_drop_0 : decode c_Cel_drop 0 = .ok (.iload_n 1, 1) := by decide +kernel
theorem d_Cel_drop_1 : decode c_Cel_drop 1 = .ok (.bipush 48, 2) := by decide +kernel
theorem d_Cel_drop_3 : decode c_Cel_drop 3 = .ok (.if_icmp .ge 22, 3) := by decide +kernel
theorem d_Cel_drop_6 : decode c_Cel_drop 6 = .ok (.aload_n 0, 1) := by decide +kernel
theorem d_Cel_drop_7 : decode c_Cel_drop 7 = .ok (.dup, 1) := by decide +kernel
theorem d_Cel_drop_8 : decode c_Cel_drop 8 = .ok (.getfield 11, 3) := by decide +kernel
theorem d_Cel_drop_11 : decode c_Cel_drop 11 = .ok (.lconst 1, 1) := by decide +kernel
theorem d_Cel_drop_12 : decode c_Cel_drop 12 = .ok (.iload_n 1, 1) := by decide +kernel
theorem d_Cel_drop_13 : decode c_Cel_drop 13 = .ok (.lshl, 1) := by decide +kernel
theorem d_Cel_drop_14 : decode c_Cel_drop 14 = .ok (.ldc2_w 18, 3) := by decide +kernel
theorem d_Cel_drop_17 : decode c_Cel_drop 17 = .ok (.lxor, 1) := by decide +kernel
theorem d_Cel_drop_18 : decode c_Cel_drop 18 = .ok (.land, 1) := by decide +kernel
theorem d_Cel_drop_19 : decode c_Cel_drop 19 = .ok (.putfield 11, 3) := by decide +kernel
theorem d_Cel_drop_22 : decode c_Cel_drop 22 = .ok (.goto 22, 3) := by decide +kernel
theorem d_Cel_drop_25 : decode c_Cel_drop 25 = .ok (.aload_n 0, 1) := by decide +kernel
theorem d_Cel_drop_26 : decode c_Cel_drop 26 = .ok (.dup, 1) := by decide +kernel
theorem d_Cel_drop_27 : decode c_Cel_drop 27 = .ok (.getfield 15, 3) := by decide +kernel
theorem d_Cel_drop_30 : decode c_Cel_drop 30 = .ok (.lconst 1, 1) := by decide +kernel
theorem d_Cel_drop_31 : decode c_Cel_drop 31 = .ok (.iload_n 1, 1) := by decide +kernel
theorem d_Cel_drop_32 : decode c_Cel_drop 32 = .ok (.bipush 48, 2) := by decide +kernel
theorem d_Cel_drop_34 : decode c_Cel_drop 34 = .ok (.isub, 1) := by decide +kernel
theorem d_Cel_drop_35 : decode c_Cel_drop 35 = .ok (.lshl, 1) := by decide +kernel
theorem d_Cel_drop_36 : decode c_Cel_drop 36 = .ok (.ldc2_w 18, 3) := by decide +kernel
theorem d_Cel_drop_39 : decode c_Cel_drop 39 = .ok (.lxor, 1) := by decide +kernel
theorem d_Cel_drop_40 : decode c_Cel_drop 40 = .ok (.land, 1) := by decide +kernel
theorem d_Cel_drop_41 : decode c_Cel_drop 41 = .ok (.putfield 15, 3) := by decide +kernel
theorem d_Cel_drop_44 : decode c_Cel_drop 44 = .ok (.return_, 1) := by decide +kernel
abbrev c_Cel_join : ByteArray := prog_3_method_7_code
abbrev y_Cel_join : MethodName := ⟨"FleetFloor$Cells", "join", "(LFleetFloor$Cells;)V"⟩
theorem d_Cel_join_0 : decode c_Cel_join 0 = .ok (.aload_n 0, 1) := by decide +kernel
theorem d_Cel_join_1 : decode c_Cel_join 1 = .ok (.dup, 1) := by decide +kernel
theorem d_Cel_join_2 : decode c_Cel_join 2 = .ok (.getfield 11, 3) := by decide +kernel
theorem d_Cel_join_5 : decode c_Cel_join 5 = .ok (.aload_n 1, 1) := by decide +kernel
theorem d_Cel_join_6 : decode c_Cel_join 6 = .ok (.getfield 11, 3) := by decide +kernel
theorem d_Cel_join_9 : decode c_Cel_join 9 = .ok (.lor, 1) := by decide +kernel
theorem d_Cel_join_10 : decode c_Cel_join 10 = .ok (.putfield 11, 3) := by decide +kernel
theorem d_Cel_join_13 : decode c_Cel_join 13 = .ok (.aload_n 0, 1) := by decide +kernel
theorem d_Cel_join_14 : decode c_Cel_join 14 = .ok (.dup, 1) := by decide +kernel
theorem d_Cel_join_15 : decode c_Cel_join 15 = .ok (.getfield 15, 3) := by decide +kernel
theorem d_Cel_join_18 : decode c_Cel_join 18 = .ok (.aload_n 1, 1) := by decide +kernel
theorem d_Cel_join_19 : decode c_Cel_join 19 = .ok (.getfield 15, 3) := by decide +kernel
theorem d_Cel_join_22 : decode c_Cel_join 22 = .ok (.lor, 1) := by decide +kernel
theorem d_Cel_join_23 : decode c_Cel_join 23 = .ok (.putfield 15, 3) := by decide +kernel
theorem d_Cel_join_26 : decode c_Cel_join 26 = .ok (.return_, 1) := by decide +kernel
abbrev c_Cel_keep : ByteArray := prog_3_method_8_code
abbrev y_Cel_keep : MethodName := ⟨"FleetFloor$Cells", "keep", "(LFleetFloor$Cells;)V"⟩
theorem d_Cel_keep_0 : decode c_Cel_keep 0 = .ok (.aload_n 0, 1) := by decide +kernel
theorem d_Cel_keep_1 : decode c_Cel_keep 1 = .ok (.dup, 1) := by decide +kernel
theorem d_Cel_keep_2 : decode c_Cel_keep 2 = .ok (.getfield 11, 3) := by decide +kernel
theorem d_Cel_keep_5 : decode c_Cel_keep 5 = .ok (.aload_n 1, 1) := by decide +kernel
theorem d_Cel_keep_6 : decode c_Cel_keep 6 = .ok (.getfield 11, 3) := by decide +kernel
theorem d_Cel_keep_9 : decode c_Cel_keep 9 = .ok (.land, 1) := by decide +kernel
theorem d_Cel_keep_10 : decode c_Cel_keep 10 = .ok (.putfield 11, 3) := by decide +kernel
theorem d_Cel_keep_13 : decode c_Cel_keep 13 = .ok (.aload_n 0, 1) := by decide +kernel
theorem d_Cel_keep_14 : decode c_Cel_keep 14 = .ok (.dup, 1) := by decide +kernel
theorem d_Cel_keep_15 : decode c_Cel_keep 15 = .ok (.getfield 15, 3) := by decide +kernel
theorem d_Cel_keep_18 : decode c_Cel_keep 18 = .ok (.aload_n 1, 1) := by decide +kernel
theorem d_Cel_keep_19 : decode c_Cel_keep 19 = .ok (.getfield 15, 3) := by decide +kernel
theorem d_Cel_keep_22 : decode c_Cel_keep 22 = .ok (.land, 1) := by decide +kernel
theorem d_Cel_keep_23 : decode c_Cel_keep 23 = .ok (.putfield 15, 3) := by decide +kernel
theorem d_Cel_keep_26 : decode c_Cel_keep 26 = .ok (.return_, 1) := by decide +kernel
abbrev c_Cel_hasAll : ByteArray := prog_3_method_9_code
abbrev y_Cel_hasAll : MethodName := ⟨"FleetFloor$Cells", "hasAll", "(LFleetFloor$Cells;)Z"⟩
theorem d_Cel_hasAll_0 : decode c_Cel_hasAll 0 = .ok (.aload_n 1, 1) := by decide +kernel
theorem d_Cel_hasAll_1 : decode c_Cel_hasAll 1 = .ok (.getfield 11, 3) := by decide +kernel
theorem d_Cel_hasAll_4 : decode c_Cel_hasAll 4 = .ok (.aload_n 0, 1) := by decide +kernel
theorem d_Cel_hasAll_5 : decode c_Cel_hasAll 5 = .ok (.getfield 11, 3) := by decide +kernel
theorem d_Cel_hasAll_8 : decode c_Cel_hasAll 8 = .ok (.ldc2_w 18, 3) := by decide +kernel
theorem d_Cel_hasAll_11 : decode c_Cel_hasAll 11 = .ok (.lxor, 1) := by decide +kernel
theorem d_Cel_hasAll_12 : decode c_Cel_hasAll 12 = .ok (.land, 1) := by decide +kernel
theorem d_Cel_hasAll_13 : decode c_Cel_hasAll 13 = .ok (.lconst 0, 1) := by decide +kernel
theorem d_Cel_hasAll_14 : decode c_Cel_hasAll 14 = .ok (.lcmp, 1) := by decide +kernel
theorem d_Cel_hasAll_15 : decode c_Cel_hasAll 15 = .ok (.ifCond .ne 25, 3) := by decide +kernel
theorem d_Cel_hasAll_18 : decode c_Cel_hasAll 18 = .ok (.aload_n 1, 1) := by decide +kernel
theorem d_Cel_hasAll_19 : decode c_Cel_hasAll 19 = .ok (.getfield 15, 3) := by decide +kernel
theorem d_Cel_hasAll_22 : decode c_Cel_hasAll 22 = .ok (.aload_n 0, 1) := by decide +kernel
theorem d_Cel_hasAll_23 : decode c_Cel_hasAll 23 = .ok (.getfield 15, 3) := by decide +kernel
theorem d_Cel_hasAll_26 : decode c_Cel_hasAll 26 = .ok (.ldc2_w 18, 3) := by decide +kernel
theorem d_Cel_hasAll_29 : decode c_Cel_hasAll 29 = .ok (.lxor, 1) := by decide +kernel
theorem d_Cel_hasAll_30 : decode c_Cel_hasAll 30 = .ok (.land, 1) := by decide +kernel
theorem d_Cel_hasAll_31 : decode c_Cel_hasAll 31 = .ok (.lconst 0, 1) := by decide +kernel
theorem d_Cel_hasAll_32 : decode c_Cel_hasAll 32 = .ok (.lcmp, 1) := by decide +kernel
theorem d_Cel_hasAll_33 : decode c_Cel_hasAll 33 = .ok (.ifCond .ne 7, 3) := by decide +kernel
theorem d_Cel_hasAll_36 : decode c_Cel_hasAll 36 = .ok (.iconst 1, 1) := by decide +kernel
theorem d_Cel_hasAll_37 : decode c_Cel_hasAll 37 = .ok (.goto 4, 3) := by decide +kernel
theorem d_Cel_hasAll_40 : decode c_Cel_hasAll 40 = .ok (.iconst 0, 1) := by decide +kernel
theorem d_Cel_hasAll_41 : decode c_Cel_hasAll 41 = .ok (.ireturn, 1) := by decide +kernel
abbrev c_Cel_becomeNeighboursOf : ByteArray := prog_3_method_10_code
abbrev y_Cel_becomeNeighboursOf : MethodName := ⟨"FleetFloor$Cells", "becomeNeighboursOf", "(LFleetFloor$Cells;)V"⟩
theorem d_Cel_becomeNeighboursOf_0 : decode c_Cel_becomeNeighboursOf 0 = .ok (.aload_n 1, 1) := by decide +kernel
theorem d_Cel_becomeNeighboursOf_1 : decode c_Cel_becomeNeighboursOf 1 = .ok (.getfield 11, 3) := by decide +kernel
theorem d_Cel_becomeNeighboursOf_4 : decode c_Cel_becomeNeighboursOf 4 = .ok (.lstore_n 2, 1) := by decide +kernel
theorem d_Cel_becomeNeighboursOf_5 : decode c_Cel_becomeNeighboursOf 5 = .ok (.aload_n 1, 1) := by decide +kernel
theorem d_Cel_becomeNeighboursOf_6 : decode c_Cel_becomeNeighboursOf 6 = .ok (.getfield 15, 3) := by decide +kernel
theorem d_Cel_becomeNeighboursOf_9 : decode c_Cel_becomeNeighboursOf 9 = .ok (.lstore 4, 2) := by decide +kernel
theorem d_Cel_becomeNeighboursOf_11 : decode c_Cel_becomeNeighboursOf 11 = .ok (.aload_n 0, 1) := by decide +kernel
theorem d_Cel_becomeNeighboursOf_12 : decode c_Cel_becomeNeighboursOf 12 = .ok (.lload_n 2, 1) := by decide +kernel
theorem d_Cel_becomeNeighboursOf_13 : decode c_Cel_becomeNeighboursOf 13 = .ok (.invokestatic 20, 3) := by decide +kernel
theorem d_Cel_becomeNeighboursOf_16 : decode c_Cel_becomeNeighboursOf 16 = .ok (.lload 4, 2) := by decide +kernel
theorem d_Cel_becomeNeighboursOf_18 : decode c_Cel_becomeNeighboursOf 18 = .ok (.bipush 36, 2) := by decide +kernel
theorem d_Cel_becomeNeighboursOf_20 : decode c_Cel_becomeNeighboursOf 20 = .ok (.lshl, 1) := by decide +kernel
theorem d_Cel_becomeNeighboursOf_21 : decode c_Cel_becomeNeighboursOf 21 = .ok (.ldc2_w 24, 3) := by decide +kernel
theorem d_Cel_becomeNeighboursOf_24 : decode c_Cel_becomeNeighboursOf 24 = .ok (.land, 1) := by decide +kernel
theorem d_Cel_becomeNeighboursOf_25 : decode c_Cel_becomeNeighboursOf 25 = .ok (.lor, 1) := by decide +kernel
theorem d_Cel_becomeNeighboursOf_26 : decode c_Cel_becomeNeighboursOf 26 = .ok (.putfield 11, 3) := by decide +kernel
theorem d_Cel_becomeNeighboursOf_29 : decode c_Cel_becomeNeighboursOf 29 = .ok (.aload_n 0, 1) := by decide +kernel
theorem d_Cel_becomeNeighboursOf_30 : decode c_Cel_becomeNeighboursOf 30 = .ok (.lload 4, 2) := by decide +kernel
theorem d_Cel_becomeNeighboursOf_32 : decode c_Cel_becomeNeighboursOf 32 = .ok (.invokestatic 20, 3) := by decide +kernel
theorem d_Cel_becomeNeighboursOf_35 : decode c_Cel_becomeNeighboursOf 35 = .ok (.lload_n 2, 1) := by decide +kernel
theorem d_Cel_becomeNeighboursOf_36 : decode c_Cel_becomeNeighboursOf 36 = .ok (.bipush 36, 2) := by decide +kernel
theorem d_Cel_becomeNeighboursOf_38 : decode c_Cel_becomeNeighboursOf 38 = .ok (.lushr, 1) := by decide +kernel
theorem d_Cel_becomeNeighboursOf_39 : decode c_Cel_becomeNeighboursOf 39 = .ok (.lor, 1) := by decide +kernel
theorem d_Cel_becomeNeighboursOf_40 : decode c_Cel_becomeNeighboursOf 40 = .ok (.putfield 15, 3) := by decide +kernel
theorem d_Cel_becomeNeighboursOf_43 : decode c_Cel_becomeNeighboursOf 43 = .ok (.return_, 1) := by decide +kernel
abbrev c_Cel_neighboursInHalf : ByteArray := prog_3_method_11_code
abbrev y_Cel_neighboursInHalf : MethodName := ⟨"FleetFloor$Cells", "neighboursInHalf", "(J)J"⟩
theorem d_Cel_neighboursInHalf_0 : decode c_Cel_neighboursInHalf 0 = .ok (.lload_n 0, 1) := by decide +kernel
theorem d_Cel_neighboursInHalf_1 : decode c_Cel_neighboursInHalf 1 = .ok (.bipush 12, 2) := by decide +kernel
theorem d_Cel_neighboursInHalf_3 : decode c_Cel_neighboursInHalf 3 = .ok (.lshl, 1) := by decide +kernel
theorem d_Cel_neighboursInHalf_4 : decode c_Cel_neighboursInHalf 4 = .ok (.ldc2_w 24, 3) := by decide +kernel
theorem d_Cel_neighboursInHalf_7 : decode c_Cel_neighboursInHalf 7 = .ok (.land, 1) := by decide +kernel
theorem d_Cel_neighboursInHalf_8 : decode c_Cel_neighboursInHalf 8 = .ok (.lload_n 0, 1) := by decide +kernel
theorem d_Cel_neighboursInHalf_9 : decode c_Cel_neighboursInHalf 9 = .ok (.bipush 12, 2) := by decide +kernel
theorem d_Cel_neighboursInHalf_11 : decode c_Cel_neighboursInHalf 11 = .ok (.lushr, 1) := by decide +kernel
theorem d_Cel_neighboursInHalf_12 : decode c_Cel_neighboursInHalf 12 = .ok (.lor, 1) := by decide +kernel
theorem d_Cel_neighboursInHalf_13 : decode c_Cel_neighboursInHalf 13 = .ok (.lload_n 0, 1) := by decide +kernel
theorem d_Cel_neighboursInHalf_14 : decode c_Cel_neighboursInHalf 14 = .ok (.ldc2_w 26, 3) := by decide +kernel
theorem d_Cel_neighboursInHalf_17 : decode c_Cel_neighboursInHalf 17 = .ok (.land, 1) := by decide +kernel
theorem d_Cel_neighboursInHalf_18 : decode c_Cel_neighboursInHalf 18 = .ok (.iconst 1, 1) := by decide +kernel
theorem d_Cel_neighboursInHalf_19 : decode c_Cel_neighboursInHalf 19 = .ok (.lshl, 1) := by decide +kernel
theorem d_Cel_neighboursInHalf_20 : decode c_Cel_neighboursInHalf 20 = .ok (.lor, 1) := by decide +kernel
theorem d_Cel_neighboursInHalf_21 : decode c_Cel_neighboursInHalf 21 = .ok (.lload_n 0, 1) := by decide +kernel
theorem d_Cel_neighboursInHalf_22 : decode c_Cel_neighboursInHalf 22 = .ok (.ldc2_w 28, 3) := by decide +kernel
theorem d_Cel_neighboursInHalf_25 : decode c_Cel_neighboursInHalf 25 = .ok (.land, 1) := by decide +kernel
theorem d_Cel_neighboursInHalf_26 : decode c_Cel_neighboursInHalf 26 = .ok (.iconst 1, 1) := by decide +kernel
theorem d_Cel_neighboursInHalf_27 : decode c_Cel_neighboursInHalf 27 = .ok (.lushr, 1) := by decide +kernel
theorem d_Cel_neighboursInHalf_28 : decode c_Cel_neighboursInHalf 28 = .ok (.lor, 1) := by decide +kernel
theorem d_Cel_neighboursInHalf_29 : decode c_Cel_neighboursInHalf 29 = .ok (.lreturn, 1) := by decide +kernel
abbrev c_Map_init : ByteArray := prog_4_method_1_code
abbrev y_Map_init : MethodName := ⟨"FleetFloor$FloorMap", "<init>", "()V"⟩
theorem d_Map_init_0 : decode c_Map_init 0 = .ok (.aload_n 0, 1) := by decide +kernel
theorem d_Map_init_1 : decode c_Map_init 1 = .ok (.invokespecial 3, 3) := by decide +kernel
theorem d_Map_init_4 : decode c_Map_init 4 = .ok (.aload_n 0, 1) := by decide +kernel
theorem d_Map_init_5 : decode c_Map_init 5 = .ok (.bipush 96, 2) := by decide +kernel
theorem d_Map_init_7 : decode c_Map_init 7 = .ok (.newarray .int, 2) := by decide +kernel
theorem d_Map_init_9 : decode c_Map_init 9 = .ok (.putfield 9, 3) := by decide +kernel
theorem d_Map_init_12 : decode c_Map_init 12 = .ok (.return_, 1) := by decide +kernel
abbrev c_Map_change : ByteArray := prog_4_method_2_code
abbrev y_Map_change : MethodName := ⟨"FleetFloor$FloorMap", "change", "(II)Z"⟩
theorem d_Map_change_0 : decode c_Map_change 0 = .ok (.iload_n 1, 1) := by decide +kernel
theorem d_Map_change_1 : decode c_Map_change 1 = .ok (.ifCond .lt 18, 3) := by decide +kernel
theorem d_Map_change_4 : decode c_Map_change 4 = .ok (.iload_n 1, 1) := by decide +kernel
theorem d_Map_change_5 : decode c_Map_change 5 = .ok (.bipush 96, 2) := by decide +kernel
theorem d_Map_change_7 : decode c_Map_change 7 = .ok (.if_icmp .ge 12, 3) := by decide +kernel
theorem d_Map_change_10 : decode c_Map_change 10 = .ok (.iload_n 2, 1) := by decide +kernel
theorem d_Map_change_11 : decode c_Map_change 11 = .ok (.ifCond .lt 8, 3) := by decide +kernel
theorem d_Map_change_14 : decode c_Map_change 14 = .ok (.iload_n 2, 1) := by decide +kernel
theorem d_Map_change_15 : decode c_Map_change 15 = .ok (.iconst 3, 1) := by decide +kernel
theorem d_Map_change_16 : decode c_Map_change 16 = .ok (.if_icmp .le 5, 3) := by decide +kernel
theorem d_Map_change_19 : decode c_Map_change 19 = .ok (.iconst 0, 1) := by decide +kernel
theorem d_Map_change_20 : decode c_Map_change 20 = .ok (.ireturn, 1) := by decide +kernel
theorem d_Map_change_21 : decode c_Map_change 21 = .ok (.aload_n 0, 1) := by decide +kernel
theorem d_Map_change_22 : decode c_Map_change 22 = .ok (.getfield 9, 3) := by decide +kernel
theorem d_Map_change_25 : decode c_Map_change 25 = .ok (.iload_n 1, 1) := by decide +kernel
theorem d_Map_change_26 : decode c_Map_change 26 = .ok (.iload_n 2, 1) := by decide +kernel
theorem d_Map_change_27 : decode c_Map_change 27 = .ok (.iastore, 1) := by decide +kernel
theorem d_Map_change_28 : decode c_Map_change 28 = .ok (.iconst 1, 1) := by decide +kernel
theorem d_Map_change_29 : decode c_Map_change 29 = .ok (.ireturn, 1) := by decide +kernel
abbrev c_Map_cellsOf : ByteArray := prog_4_method_3_code
abbrev y_Map_cellsOf : MethodName := ⟨"FleetFloor$FloorMap", "cellsOf", "(I)[I"⟩
theorem d_Map_cellsOf_0 : decode c_Map_cellsOf 0 = .ok (.aload_n 0, 1) := by decide +kernel
theorem d_Map_cellsOf_1 : decode c_Map_cellsOf 1 = .ok (.iload_n 1, 1) := by decide +kernel
theorem d_Map_cellsOf_2 : decode c_Map_cellsOf 2 = .ok (.invokevirtual 15, 3) := by decide +kernel
theorem d_Map_cellsOf_5 : decode c_Map_cellsOf 5 = .ok (.newarray .int, 2) := by decide +kernel
theorem d_Map_cellsOf_7 : decode c_Map_cellsOf 7 = .ok (.astore_n 2, 1) := by decide +kernel
theorem d_Map_cellsOf_8 : decode c_Map_cellsOf 8 = .ok (.iconst 0, 1) := by decide +kernel
theorem d_Map_cellsOf_9 : decode c_Map_cellsOf 9 = .ok (.istore_n 3, 1) := by decide +kernel
theorem d_Map_cellsOf_10 : decode c_Map_cellsOf 10 = .ok (.iconst 0, 1) := by decide +kernel
theorem d_Map_cellsOf_11 : decode c_Map_cellsOf 11 = .ok (.istore 4, 2) := by decide +kernel
theorem d_Map_cellsOf_13 : decode c_Map_cellsOf 13 = .ok (.iload 4, 2) := by decide +kernel
theorem d_Map_cellsOf_15 : decode c_Map_cellsOf 15 = .ok (.bipush 96, 2) := by decide +kernel
theorem d_Map_cellsOf_17 : decode c_Map_cellsOf 17 = .ok (.if_icmp .ge 34, 3) := by decide +kernel
theorem d_Map_cellsOf_20 : decode c_Map_cellsOf 20 = .ok (.iload_n 3, 1) := by decide +kernel
theorem d_Map_cellsOf_21 : decode c_Map_cellsOf 21 = .ok (.aload_n 2, 1) := by decide +kernel
theorem d_Map_cellsOf_22 : decode c_Map_cellsOf 22 = .ok (.arraylength, 1) := by decide +kernel
theorem d_Map_cellsOf_23 : decode c_Map_cellsOf 23 = .ok (.if_icmp .ge 28, 3) := by decide +kernel
theorem d_Map_cellsOf_26 : decode c_Map_cellsOf 26 = .ok (.aload_n 0, 1) := by decide +kernel
theorem d_Map_cellsOf_27 : decode c_Map_cellsOf 27 = .ok (.getfield 9, 3) := by decide +kernel
theorem d_Map_cellsOf_30 : decode c_Map_cellsOf 30 = .ok (.iload 4, 2) := by decide +kernel
theorem d_Map_cellsOf_32 : decode c_Map_cellsOf 32 = .ok (.iaload, 1) := by decide +kernel
theorem d_Map_cellsOf_33 : decode c_Map_cellsOf 33 = .ok (.iload_n 1, 1) := by decide +kernel
theorem d_Map_cellsOf_34 : decode c_Map_cellsOf 34 = .ok (.if_icmp .ne 11, 3) := by decide +kernel
theorem d_Map_cellsOf_37 : decode c_Map_cellsOf 37 = .ok (.aload_n 2, 1) := by decide +kernel
theorem d_Map_cellsOf_38 : decode c_Map_cellsOf 38 = .ok (.iload_n 3, 1) := by decide +kernel
theorem d_Map_cellsOf_39 : decode c_Map_cellsOf 39 = .ok (.iload 4, 2) := by decide +kernel
theorem d_Map_cellsOf_41 : decode c_Map_cellsOf 41 = .ok (.iastore, 1) := by decide +kernel
theorem d_Map_cellsOf_42 : decode c_Map_cellsOf 42 = .ok (.iinc 3 1, 3) := by decide +kernel
theorem d_Map_cellsOf_45 : decode c_Map_cellsOf 45 = .ok (.iinc 4 1, 3) := by decide +kernel
theorem d_Map_cellsOf_48 : decode c_Map_cellsOf 48 = .ok (.goto (-35), 3) := by decide +kernel
theorem d_Map_cellsOf_51 : decode c_Map_cellsOf 51 = .ok (.aload_n 2, 1) := by decide +kernel
theorem d_Map_cellsOf_52 : decode c_Map_cellsOf 52 = .ok (.areturn, 1) := by decide +kernel
abbrev c_Map_collect : ByteArray := prog_4_method_4_code
abbrev y_Map_collect : MethodName := ⟨"FleetFloor$FloorMap", "collect", "(ILFleetFloor$Cells;)V"⟩
theorem d_Map_collect_0 : decode c_Map_collect 0 = .ok (.iconst 0, 1) := by decide +kernel
theorem d_Map_collect_1 : decode c_Map_collect 1 = .ok (.istore_n 3, 1) := by decide +kernel
theorem d_Map_collect_2 : decode c_Map_collect 2 = .ok (.iload_n 3, 1) := by decide +kernel
theorem d_Map_collect_3 : decode c_Map_collect 3 = .ok (.bipush 96, 2) := by decide +kernel
theorem d_Map_collect_5 : decode c_Map_collect 5 = .ok (.if_icmp .ge 24, 3) := by decide +kernel
theorem d_Map_collect_8 : decode c_Map_collect 8 = .ok (.aload_n 0, 1) := by decide +kernel
theorem d_Map_collect_9 : decode c_Map_collect 9 = .ok (.getfield 9, 3) := by decide +kernel
theorem d_Map_collect_12 : decode c_Map_collect 12 = .ok (.iload_n 3, 1) := by decide +kernel
theorem d_Map_collect_13 : decode c_Map_collect 13 = .ok (.iaload, 1) := by decide +kernel
theorem d_Map_collect_14 : decode c_Map_collect 14 = .ok (.iload_n 1, 1) := by decide +kernel
theorem d_Map_collect_15 : decode c_Map_collect 15 = .ok (.if_icmp .ne 8, 3) := by decide +kernel
theorem d_Map_collect_18 : decode c_Map_collect 18 = .ok (.aload_n 2, 1) := by decide +kernel
theorem d_Map_collect_19 : decode c_Map_collect 19 = .ok (.iload_n 3, 1) := by decide +kernel
theorem d_Map_collect_20 : decode c_Map_collect 20 = .ok (.invokevirtual 19, 3) := by decide +kernel
theorem d_Map_collect_23 : decode c_Map_collect 23 = .ok (.iinc 3 1, 3) := by decide +kernel
theorem d_Map_collect_26 : decode c_Map_collect 26 = .ok (.goto (-24), 3) := by decide +kernel
theorem d_Map_collect_29 : decode c_Map_collect 29 = .ok (.return_, 1) := by decide +kernel
abbrev c_Map_isGood : ByteArray := prog_4_method_5_code
abbrev y_Map_isGood : MethodName := ⟨"FleetFloor$FloorMap", "isGood", "()Z"⟩
theorem d_Map_isGood_0 : decode c_Map_isGood 0 = .ok (.aload_n 0, 1) := by decide +kernel
theorem d_Map_isGood_1 : decode c_Map_isGood 1 = .ok (.iconst 3, 1) := by decide +kernel
theorem d_Map_isGood_2 : decode c_Map_isGood 2 = .ok (.invokevirtual 15, 3) := by decide +kernel
theorem d_Map_isGood_5 : decode c_Map_isGood 5 = .ok (.istore_n 1, 1) := by decide +kernel
theorem d_Map_isGood_6 : decode c_Map_isGood 6 = .ok (.aload_n 0, 1) := by decide +kernel
theorem d_Map_isGood_7 : decode c_Map_isGood 7 = .ok (.iconst 2, 1) := by decide +kernel
theorem d_Map_isGood_8 : decode c_Map_isGood 8 = .ok (.invokevirtual 15, 3) := by decide +kernel
theorem d_Map_isGood_11 : decode c_Map_isGood 11 = .ok (.istore_n 2, 1) := by decide +kernel
theorem d_Map_isGood_12 : decode c_Map_isGood 12 = .ok (.iload_n 1, 1) := by decide +kernel
theorem d_Map_isGood_13 : decode c_Map_isGood 13 = .ok (.iconst 1, 1) := by decide +kernel
theorem d_Map_isGood_14 : decode c_Map_isGood 14 = .ok (.if_icmp .lt 31, 3) := by decide +kernel
theorem d_Map_isGood_17 : decode c_Map_isGood 17 = .ok (.iload_n 1, 1) := by decide +kernel
theorem d_Map_isGood_18 : decode c_Map_isGood 18 = .ok (.bipush 6, 2) := by decide +kernel
theorem d_Map_isGood_20 : decode c_Map_isGood 20 = .ok (.if_icmp .gt 25, 3) := by decide +kernel
theorem d_Map_isGood_23 : decode c_Map_isGood 23 = .ok (.iload_n 2, 1) := by decide +kernel
theorem d_Map_isGood_24 : decode c_Map_isGood 24 = .ok (.iconst 2, 1) := by decide +kernel
theorem d_Map_isGood_25 : decode c_Map_isGood 25 = .ok (.if_icmp .lt 20, 3) := by decide +kernel
theorem d_Map_isGood_28 : decode c_Map_isGood 28 = .ok (.iload_n 2, 1) := by decide +kernel
theorem d_Map_isGood_29 : decode c_Map_isGood 29 = .ok (.bipush 16, 2) := by decide +kernel
theorem d_Map_isGood_31 : decode c_Map_isGood 31 = .ok (.if_icmp .gt 14, 3) := by decide +kernel
theorem d_Map_isGood_34 : decode c_Map_isGood 34 = .ok (.aload_n 0, 1) := by decide +kernel
theorem d_Map_isGood_35 : decode c_Map_isGood 35 = .ok (.invokevirtual 25, 3) := by decide +kernel
theorem d_Map_isGood_38 : decode c_Map_isGood 38 = .ok (.ifCond .eq 7, 3) := by decide +kernel
theorem d_Map_isGood_41 : decode c_Map_isGood 41 = .ok (.iconst 1, 1) := by decide +kernel
theorem d_Map_isGood_42 : decode c_Map_isGood 42 = .ok (.goto 4, 3) := by decide +kernel
theorem d_Map_isGood_45 : decode c_Map_isGood 45 = .ok (.iconst 0, 1) := by decide +kernel
theorem d_Map_isGood_46 : decode c_Map_isGood 46 = .ok (.ireturn, 1) := by decide +kernel
abbrev c_Map_countOf : ByteArray := prog_4_method_6_code
abbrev y_Map_countOf : MethodName := ⟨"FleetFloor$FloorMap", "countOf", "(I)I"⟩
theorem d_Map_countOf_0 : decode c_Map_countOf 0 = .ok (.iconst 0, 1) := by decide +kernel
theorem d_Map_countOf_1 : decode c_Map_countOf 1 = .ok (.istore_n 2, 1) := by decide +kernel
theorem d_Map_countOf_2 : decode c_Map_countOf 2 = .ok (.iconst 0, 1) := by decide +kernel
theorem d_Map_countOf_3 : decode c_Map_countOf 3 = .ok (.istore_n 3, 1) := by decide +kernel
theorem d_Map_countOf_4 : decode c_Map_countOf 4 = .ok (.iload_n 3, 1) := by decide +kernel
theorem d_Map_countOf_5 : decode c_Map_countOf 5 = .ok (.bipush 96, 2) := by decide +kernel
theorem d_Map_countOf_7 : decode c_Map_countOf 7 = .ok (.if_icmp .ge 22, 3) := by decide +kernel
theorem d_Map_countOf_10 : decode c_Map_countOf 10 = .ok (.aload_n 0, 1) := by decide +kernel
theorem d_Map_countOf_11 : decode c_Map_countOf 11 = .ok (.getfield 9, 3) := by decide +kernel
theorem d_Map_countOf_14 : decode c_Map_countOf 14 = .ok (.iload_n 3, 1) := by decide +kernel
theorem d_Map_countOf_15 : decode c_Map_countOf 15 = .ok (.iaload, 1) := by decide +kernel
theorem d_Map_countOf_16 : decode c_Map_countOf 16 = .ok (.iload_n 1, 1) := by decide +kernel
theorem d_Map_countOf_17 : decode c_Map_countOf 17 = .ok (.if_icmp .ne 6, 3) := by decide +kernel
theorem d_Map_countOf_20 : decode c_Map_countOf 20 = .ok (.iinc 2 1, 3) := by decide +kernel
theorem d_Map_countOf_23 : decode c_Map_countOf 23 = .ok (.iinc 3 1, 3) := by decide +kernel
theorem d_Map_countOf_26 : decode c_Map_countOf 26 = .ok (.goto (-22), 3) := by decide +kernel
theorem d_Map_countOf_29 : decode c_Map_countOf 29 = .ok (.iload_n 2, 1) := by decide +kernel
theorem d_Map_countOf_30 : decode c_Map_countOf 30 = .ok (.ireturn, 1) := by decide +kernel
abbrev c_Map_isJoined : ByteArray := prog_4_method_7_code
abbrev y_Map_isJoined : MethodName := ⟨"FleetFloor$FloorMap", "isJoined", "()Z"⟩
theorem d_Map_isJoined_0 : decode c_Map_isJoined 0 = .ok (.new 20, 3) := by decide +kernel
theorem d_Map_isJoined_3 : decode c_Map_isJoined 3 = .ok (.dup, 1) := by decide +kernel
theorem d_Map_isJoined_4 : decode c_Map_isJoined 4 = .ok (.invokespecial 29, 3) := by decide +kernel
theorem d_Map_isJoined_7 : decode c_Map_isJoined 7 = .ok (.astore_n 1, 1) := by decide +kernel
theorem d_Map_isJoined_8 : decode c_Map_isJoined 8 = .ok (.aload_n 0, 1) := by decide +kernel
theorem d_Map_isJoined_9 : decode c_Map_isJoined 9 = .ok (.iconst 1, 1) := by decide +kernel
theorem d_Map_isJoined_10 : decode c_Map_isJoined 10 = .ok (.aload_n 1, 1) := by decide +kernel
theorem d_Map_isJoined_11 : decode c_Map_isJoined 11 = .ok (.invokevirtual 30, 3) := by decide +kernel
theorem d_Map_isJoined_14 : decode c_Map_isJoined 14 = .ok (.new 20, 3) := by decide +kernel
theorem d_Map_isJoined_17 : decode c_Map_isJoined 17 = .ok (.dup, 1) := by decide +kernel
theorem d_Map_isJoined_18 : decode c_Map_isJoined 18 = .ok (.invokespecial 29, 3) := by decide +kernel
theorem d_Map_isJoined_21 : decode c_Map_isJoined 21 = .ok (.astore_n 2, 1) := by decide +kernel
theorem d_Map_isJoined_22 : decode c_Map_isJoined 22 = .ok (.aload_n 0, 1) := by decide +kernel
theorem d_Map_isJoined_23 : decode c_Map_isJoined 23 = .ok (.iconst 2, 1) := by decide +kernel
theorem d_Map_isJoined_24 : decode c_Map_isJoined 24 = .ok (.aload_n 2, 1) := by decide +kernel
theorem d_Map_isJoined_25 : decode c_Map_isJoined 25 = .ok (.invokevirtual 30, 3) := by decide +kernel
theorem d_Map_isJoined_28 : decode c_Map_isJoined 28 = .ok (.aload_n 0, 1) := by decide +kernel
theorem d_Map_isJoined_29 : decode c_Map_isJoined 29 = .ok (.iconst 3, 1) := by decide +kernel
theorem d_Map_isJoined_30 : decode c_Map_isJoined 30 = .ok (.aload_n 2, 1) := by decide +kernel
theorem d_Map_isJoined_31 : decode c_Map_isJoined 31 = .ok (.invokevirtual 30, 3) := by decide +kernel
theorem d_Map_isJoined_34 : decode c_Map_isJoined 34 = .ok (.iconst 0, 1) := by decide +kernel
theorem d_Map_isJoined_35 : decode c_Map_isJoined 35 = .ok (.istore_n 3, 1) := by decide +kernel
theorem d_Map_isJoined_36 : decode c_Map_isJoined 36 = .ok (.iload_n 3, 1) := by decide +kernel
theorem d_Map_isJoined_37 : decode c_Map_isJoined 37 = .ok (.bipush 96, 2) := by decide +kernel
theorem d_Map_isJoined_39 : decode c_Map_isJoined 39 = .ok (.if_icmp .ge 28, 3) := by decide +kernel
theorem d_Map_isJoined_42 : decode c_Map_isJoined 42 = .ok (.aload_n 2, 1) := by decide +kernel
theorem d_Map_isJoined_43 : decode c_Map_isJoined 43 = .ok (.iload_n 3, 1) := by decide +kernel
theorem d_Map_isJoined_44 : decode c_Map_isJoined 44 = .ok (.invokevirtual 34, 3) := by decide +kernel
theorem d_Map_isJoined_47 : decode c_Map_isJoined 47 = .ok (.ifCond .eq 14, 3) := by decide +kernel
theorem d_Map_isJoined_50 : decode c_Map_isJoined 50 = .ok (.iload_n 3, 1) := by decide +kernel
theorem d_Map_isJoined_51 : decode c_Map_isJoined 51 = .ok (.aload_n 1, 1) := by decide +kernel
theorem d_Map_isJoined_52 : decode c_Map_isJoined 52 = .ok (.aload_n 2, 1) := by decide +kernel
theorem d_Map_isJoined_53 : decode c_Map_isJoined 53 = .ok (.invokestatic 38, 3) := by decide +kernel
theorem d_Map_isJoined_56 : decode c_Map_isJoined 56 = .ok (.ifCond .ne 5, 3) := by decide +kernel
theorem d_Map_isJoined_59 : decode c_Map_isJoined 59 = .ok (.iconst 0, 1) := by decide +kernel
theorem d_Map_isJoined_60 : decode c_Map_isJoined 60 = .ok (.ireturn, 1) := by decide +kernel
theorem d_Map_isJoined_61 : decode c_Map_isJoined 61 = .ok (.iinc 3 1, 3) := by decide +kernel
theorem d_Map_isJoined_64 : decode c_Map_isJoined 64 = .ok (.goto (-28), 3) := by decide +kernel
theorem d_Map_isJoined_67 : decode c_Map_isJoined 67 = .ok (.iconst 1, 1) := by decide +kernel
theorem d_Map_isJoined_68 : decode c_Map_isJoined 68 = .ok (.ireturn, 1) := by decide +kernel
abbrev c_Map_reachesAll : ByteArray := prog_4_method_8_code
abbrev y_Map_reachesAll : MethodName := ⟨"FleetFloor$FloorMap", "reachesAll", "(ILFleetFloor$Cells;LFleetFloor$Cells;)Z"⟩
theorem d_Map_reachesAll_0 : decode c_Map_reachesAll 0 = .ok (.new 20, 3) := by decide +kernel
theorem d_Map_reachesAll_3 : decode c_Map_reachesAll 3 = .ok (.dup, 1) := by decide +kernel
theorem d_Map_reachesAll_4 : decode c_Map_reachesAll 4 = .ok (.invokespecial 29, 3) := by decide +kernel
theorem d_Map_reachesAll_7 : decode c_Map_reachesAll 7 = .ok (.astore_n 3, 1) := by decide +kernel
theorem d_Map_reachesAll_8 : decode c_Map_reachesAll 8 = .ok (.aload_n 3, 1) := by decide +kernel
theorem d_Map_reachesAll_9 : decode c_Map_reachesAll 9 = .ok (.iload_n 0, 1) := by decide +kernel
theorem d_Map_reachesAll_10 : decode c_Map_reachesAll 10 = .ok (.invokevirtual 19, 3) := by decide +kernel
theorem d_Map_reachesAll_13 : decode c_Map_reachesAll 13 = .ok (.new 20, 3) := by decide +kernel
theorem d_Map_reachesAll_16 : decode c_Map_reachesAll 16 = .ok (.dup, 1) := by decide +kernel
theorem d_Map_reachesAll_17 : decode c_Map_reachesAll 17 = .ok (.invokespecial 29, 3) := by decide +kernel
theorem d_Map_reachesAll_20 : decode c_Map_reachesAll 20 = .ok (.astore 4, 2) := by decide +kernel
theorem d_Map_reachesAll_22 : decode c_Map_reachesAll 22 = .ok (.iconst 0, 1) := by decide +kernel
theorem d_Map_reachesAll_23 : decode c_Map_reachesAll 23 = .ok (.istore 5, 2) := by decide +kernel
theorem d_Map_reachesAll_25 : decode c_Map_reachesAll 25 = .ok (.iload 5, 2) := by decide +kernel
theorem d_Map_reachesAll_27 : decode c_Map_reachesAll 27 = .ok (.bipush 96, 2) := by decide +kernel
theorem d_Map_reachesAll_29 : decode c_Map_reachesAll 29 = .ok (.if_icmp .ge 55, 3) := by decide +kernel
theorem d_Map_reachesAll_32 : decode c_Map_reachesAll 32 = .ok (.aload 4, 2) := by decide +kernel
theorem d_Map_reachesAll_34 : decode c_Map_reachesAll 34 = .ok (.aload_n 3, 1) := by decide +kernel
theorem d_Map_reachesAll_35 : decode c_Map_reachesAll 35 = .ok (.invokevirtual 42, 3) := by decide +kernel
theorem d_Map_reachesAll_38 : decode c_Map_reachesAll 38 = .ok (.aload 4, 2) := by decide +kernel
theorem d_Map_reachesAll_40 : decode c_Map_reachesAll 40 = .ok (.iload_n 0, 1) := by decide +kernel
theorem d_Map_reachesAll_41 : decode c_Map_reachesAll 41 = .ok (.invokevirtual 19, 3) := by decide +kernel
theorem d_Map_reachesAll_44 : decode c_Map_reachesAll 44 = .ok (.aload 4, 2) := by decide +kernel
theorem d_Map_reachesAll_46 : decode c_Map_reachesAll 46 = .ok (.aload_n 2, 1) := by decide +kernel
theorem d_Map_reachesAll_47 : decode c_Map_reachesAll 47 = .ok (.invokevirtual 46, 3) := by decide +kernel
theorem d_Map_reachesAll_50 : decode c_Map_reachesAll 50 = .ok (.ifCond .eq 5, 3) := by decide +kernel
theorem d_Map_reachesAll_53 : decode c_Map_reachesAll 53 = .ok (.iconst 1, 1) := by decide +kernel
theorem d_Map_reachesAll_54 : decode c_Map_reachesAll 54 = .ok (.ireturn, 1) := by decide +kernel
theorem d_Map_reachesAll_55 : decode c_Map_reachesAll 55 = .ok (.aload 4, 2) := by decide +kernel
theorem d_Map_reachesAll_57 : decode c_Map_reachesAll 57 = .ok (.aload_n 1, 1) := by decide +kernel
theorem d_Map_reachesAll_58 : decode c_Map_reachesAll 58 = .ok (.invokevirtual 50, 3) := by decide +kernel
theorem d_Map_reachesAll_61 : decode c_Map_reachesAll 61 = .ok (.aload_n 3, 1) := by decide +kernel
theorem d_Map_reachesAll_62 : decode c_Map_reachesAll 62 = .ok (.aload 4, 2) := by decide +kernel
theorem d_Map_reachesAll_64 : decode c_Map_reachesAll 64 = .ok (.invokevirtual 46, 3) := by decide +kernel
theorem d_Map_reachesAll_67 : decode c_Map_reachesAll 67 = .ok (.ifCond .eq 5, 3) := by decide +kernel
theorem d_Map_reachesAll_70 : decode c_Map_reachesAll 70 = .ok (.iconst 0, 1) := by decide +kernel
theorem d_Map_reachesAll_71 : decode c_Map_reachesAll 71 = .ok (.ireturn, 1) := by decide +kernel
theorem d_Map_reachesAll_72 : decode c_Map_reachesAll 72 = .ok (.aload_n 3, 1) := by decide +kernel
theorem d_Map_reachesAll_73 : decode c_Map_reachesAll 73 = .ok (.aload 4, 2) := by decide +kernel
theorem d_Map_reachesAll_75 : decode c_Map_reachesAll 75 = .ok (.invokevirtual 53, 3) := by decide +kernel
theorem d_Map_reachesAll_78 : decode c_Map_reachesAll 78 = .ok (.iinc 5 1, 3) := by decide +kernel
theorem d_Map_reachesAll_81 : decode c_Map_reachesAll 81 = .ok (.goto (-56), 3) := by decide +kernel
theorem d_Map_reachesAll_84 : decode c_Map_reachesAll 84 = .ok (.iconst 0, 1) := by decide +kernel
theorem d_Map_reachesAll_85 : decode c_Map_reachesAll 85 = .ok (.ireturn, 1) := by decide +kernel
abbrev c_Let_init : ByteArray := prog_5_method_1_code
abbrev y_Let_init : MethodName := ⟨"FleetFloor$Letter", "<init>", "(III)V"⟩
theorem d_Let_init_0 : decode c_Let_init 0 = .ok (.aload_n 0, 1) := by decide +kernel
theorem d_Let_init_1 : decode c_Let_init 1 = .ok (.invokespecial 1, 3) := by decide +kernel
theorem d_Let_init_4 : decode c_Let_init 4 = .ok (.aload_n 0, 1) := by decide +kernel
theorem d_Let_init_5 : decode c_Let_init 5 = .ok (.iload_n 1, 1) := by decide +kernel
theorem d_Let_init_6 : decode c_Let_init 6 = .ok (.putfield 7, 3) := by decide +kernel
theorem d_Let_init_9 : decode c_Let_init 9 = .ok (.aload_n 0, 1) := by decide +kernel
theorem d_Let_init_10 : decode c_Let_init 10 = .ok (.iload_n 2, 1) := by decide +kernel
theorem d_Let_init_11 : decode c_Let_init 11 = .ok (.putfield 13, 3) := by decide +kernel
theorem d_Let_init_14 : decode c_Let_init 14 = .ok (.aload_n 0, 1) := by decide +kernel
theorem d_Let_init_15 : decode c_Let_init 15 = .ok (.iload_n 3, 1) := by decide +kernel
theorem d_Let_init_16 : decode c_Let_init 16 = .ok (.putfield 16, 3) := by decide +kernel
theorem d_Let_init_19 : decode c_Let_init 19 = .ok (.return_, 1) := by decide +kernel
abbrev c_Let_kind : ByteArray := prog_5_method_5_code
abbrev y_Let_kind : MethodName := ⟨"FleetFloor$Letter", "kind", "()I"⟩
theorem d_Let_kind_0 : decode c_Let_kind 0 = .ok (.aload_n 0, 1) := by decide +kernel
theorem d_Let_kind_1 : decode c_Let_kind 1 = .ok (.getfield 7, 3) := by decide +kernel
theorem d_Let_kind_4 : decode c_Let_kind 4 = .ok (.ireturn, 1) := by decide +kernel
abbrev c_Let_owner : ByteArray := prog_5_method_6_code
abbrev y_Let_owner : MethodName := ⟨"FleetFloor$Letter", "owner", "()I"⟩
theorem d_Let_owner_0 : decode c_Let_owner 0 = .ok (.aload_n 0, 1) := by decide +kernel
theorem d_Let_owner_1 : decode c_Let_owner 1 = .ok (.getfield 13, 3) := by decide +kernel
theorem d_Let_owner_4 : decode c_Let_owner 4 = .ok (.ireturn, 1) := by decide +kernel
abbrev c_Let_number : ByteArray := prog_5_method_7_code
abbrev y_Let_number : MethodName := ⟨"FleetFloor$Letter", "number", "()I"⟩
theorem d_Let_number_0 : decode c_Let_number 0 = .ok (.aload_n 0, 1) := by decide +kernel
theorem d_Let_number_1 : decode c_Let_number 1 = .ok (.getfield 16, 3) := by decide +kernel
theorem d_Let_number_4 : decode c_Let_number 4 = .ok (.ireturn, 1) := by decide +kernel
abbrev c_Mov_init : ByteArray := prog_6_method_1_code
abbrev y_Mov_init : MethodName := ⟨"FleetFloor$Move", "<init>", "(II)V"⟩
theorem d_Mov_init_0 : decode c_Mov_init 0 = .ok (.aload_n 0, 1) := by decide +kernel
theorem d_Mov_init_1 : decode c_Mov_init 1 = .ok (.invokespecial 1, 3) := by decide +kernel
theorem d_Mov_init_4 : decode c_Mov_init 4 = .ok (.aload_n 0, 1) := by decide +kernel
theorem d_Mov_init_5 : decode c_Mov_init 5 = .ok (.iload_n 1, 1) := by decide +kernel
theorem d_Mov_init_6 : decode c_Mov_init 6 = .ok (.putfield 7, 3) := by decide +kernel
theorem d_Mov_init_9 : decode c_Mov_init 9 = .ok (.aload_n 0, 1) := by decide +kernel
theorem d_Mov_init_10 : decode c_Mov_init 10 = .ok (.iload_n 2, 1) := by decide +kernel
theorem d_Mov_init_11 : decode c_Mov_init 11 = .ok (.putfield 13, 3) := by decide +kernel
theorem d_Mov_init_14 : decode c_Mov_init 14 = .ok (.return_, 1) := by decide +kernel
abbrev c_Mov_place : ByteArray := prog_6_method_5_code
abbrev y_Mov_place : MethodName := ⟨"FleetFloor$Move", "place", "()I"⟩
theorem d_Mov_place_0 : decode c_Mov_place 0 = .ok (.aload_n 0, 1) := by decide +kernel
theorem d_Mov_place_1 : decode c_Mov_place 1 = .ok (.getfield 7, 3) := by decide +kernel
theorem d_Mov_place_4 : decode c_Mov_place 4 = .ok (.ireturn, 1) := by decide +kernel
abbrev c_Mov_time : ByteArray := prog_6_method_6_code
abbrev y_Mov_time : MethodName := ⟨"FleetFloor$Move", "time", "()I"⟩
theorem d_Mov_time_0 : decode c_Mov_time 0 = .ok (.aload_n 0, 1) := by decide +kernel
theorem d_Mov_time_1 : decode c_Mov_time 1 = .ok (.getfield 13, 3) := by decide +kernel
theorem d_Mov_time_4 : decode c_Mov_time 4 = .ok (.ireturn, 1) := by decide +kernel
abbrev c_Tsk_init : ByteArray := prog_8_method_1_code
abbrev y_Tsk_init : MethodName := ⟨"FleetFloor$Task", "<init>", "(II)V"⟩
theorem d_Tsk_init_0 : decode c_Tsk_init 0 = .ok (.aload_n 0, 1) := by decide +kernel
theorem d_Tsk_init_1 : decode c_Tsk_init 1 = .ok (.invokespecial 3, 3) := by decide +kernel
theorem d_Tsk_init_4 : decode c_Tsk_init 4 = .ok (.aload_n 0, 1) := by decide +kernel
theorem d_Tsk_init_5 : decode c_Tsk_init 5 = .ok (.iload_n 1, 1) := by decide +kernel
theorem d_Tsk_init_6 : decode c_Tsk_init 6 = .ok (.putfield 9, 3) := by decide +kernel
theorem d_Tsk_init_9 : decode c_Tsk_init 9 = .ok (.aload_n 0, 1) := by decide +kernel
theorem d_Tsk_init_10 : decode c_Tsk_init 10 = .ok (.iload_n 2, 1) := by decide +kernel
theorem d_Tsk_init_11 : decode c_Tsk_init 11 = .ok (.putfield 15, 3) := by decide +kernel
theorem d_Tsk_init_14 : decode c_Tsk_init 14 = .ok (.aload_n 0, 1) := by decide +kernel
theorem d_Tsk_init_15 : decode c_Tsk_init 15 = .ok (.iconst (-1), 1) := by decide +kernel
theorem d_Tsk_init_16 : decode c_Tsk_init 16 = .ok (.putfield 18, 3) := by decide +kernel
theorem d_Tsk_init_19 : decode c_Tsk_init 19 = .ok (.aload_n 0, 1) := by decide +kernel
theorem d_Tsk_init_20 : decode c_Tsk_init 20 = .ok (.iconst (-1), 1) := by decide +kernel
theorem d_Tsk_init_21 : decode c_Tsk_init 21 = .ok (.putfield 21, 3) := by decide +kernel
theorem d_Tsk_init_24 : decode c_Tsk_init 24 = .ok (.return_, 1) := by decide +kernel
abbrev c_Veh_init : ByteArray := prog_9_method_1_code
abbrev y_Veh_init : MethodName := ⟨"FleetFloor$Vehicle", "<init>", "(II)V"⟩
theorem d_Veh_init_0 : decode c_Veh_init 0 = .ok (.aload_n 0, 1) := by decide +kernel
theorem d_Veh_init_1 : decode c_Veh_init 1 = .ok (.invokespecial 3, 3) := by decide +kernel
theorem d_Veh_init_4 : decode c_Veh_init 4 = .ok (.aload_n 0, 1) := by decide +kernel
theorem d_Veh_init_5 : decode c_Veh_init 5 = .ok (.iload_n 1, 1) := by decide +kernel
theorem d_Veh_init_6 : decode c_Veh_init 6 = .ok (.putfield 9, 3) := by decide +kernel
theorem d_Veh_init_9 : decode c_Veh_init 9 = .ok (.aload_n 0, 1) := by decide +kernel
theorem d_Veh_init_10 : decode c_Veh_init 10 = .ok (.iload_n 2, 1) := by decide +kernel
theorem d_Veh_init_11 : decode c_Veh_init 11 = .ok (.putfield 15, 3) := by decide +kernel
theorem d_Veh_init_14 : decode c_Veh_init 14 = .ok (.aload_n 0, 1) := by decide +kernel
theorem d_Veh_init_15 : decode c_Veh_init 15 = .ok (.new 18, 3) := by decide +kernel
theorem d_Veh_init_18 : decode c_Veh_init 18 = .ok (.dup, 1) := by decide +kernel
theorem d_Veh_init_19 : decode c_Veh_init 19 = .ok (.invokespecial 20, 3) := by decide +kernel
theorem d_Veh_init_22 : decode c_Veh_init 22 = .ok (.putfield 21, 3) := by decide +kernel
theorem d_Veh_init_25 : decode c_Veh_init 25 = .ok (.aload_n 0, 1) := by decide +kernel
theorem d_Veh_init_26 : decode c_Veh_init 26 = .ok (.iconst 0, 1) := by decide +kernel
theorem d_Veh_init_27 : decode c_Veh_init 27 = .ok (.putfield 25, 3) := by decide +kernel
theorem d_Veh_init_30 : decode c_Veh_init 30 = .ok (.aload_n 0, 1) := by decide +kernel
theorem d_Veh_init_31 : decode c_Veh_init 31 = .ok (.iconst 0, 1) := by decide +kernel
theorem d_Veh_init_32 : decode c_Veh_init 32 = .ok (.putfield 28, 3) := by decide +kernel
theorem d_Veh_init_35 : decode c_Veh_init 35 = .ok (.aload_n 0, 1) := by decide +kernel
theorem d_Veh_init_36 : decode c_Veh_init 36 = .ok (.iconst 0, 1) := by decide +kernel
theorem d_Veh_init_37 : decode c_Veh_init 37 = .ok (.putfield 31, 3) := by decide +kernel
theorem d_Veh_init_40 : decode c_Veh_init 40 = .ok (.aload_n 0, 1) := by decide +kernel
theorem d_Veh_init_41 : decode c_Veh_init 41 = .ok (.iconst 0, 1) := by decide +kernel
theorem d_Veh_init_42 : decode c_Veh_init 42 = .ok (.putfield 34, 3) := by decide +kernel
theorem d_Veh_init_45 : decode c_Veh_init 45 = .ok (.aload_n 0, 1) := by decide +kernel
theorem d_Veh_init_46 : decode c_Veh_init 46 = .ok (.iconst (-1), 1) := by decide +kernel
theorem d_Veh_init_47 : decode c_Veh_init 47 = .ok (.putfield 37, 3) := by decide +kernel
theorem d_Veh_init_50 : decode c_Veh_init 50 = .ok (.aload_n 0, 1) := by decide +kernel
theorem d_Veh_init_51 : decode c_Veh_init 51 = .ok (.iconst (-1), 1) := by decide +kernel
theorem d_Veh_init_52 : decode c_Veh_init 52 = .ok (.putfield 40, 3) := by decide +kernel
theorem d_Veh_init_55 : decode c_Veh_init 55 = .ok (.aload_n 0, 1) := by decide +kernel
theorem d_Veh_init_56 : decode c_Veh_init 56 = .ok (.iconst 0, 1) := by decide +kernel
theorem d_Veh_init_57 : decode c_Veh_init 57 = .ok (.putfield 43, 3) := by decide +kernel
theorem d_Veh_init_60 : decode c_Veh_init 60 = .ok (.return_, 1) := by decide +kernel
abbrev c_Veh_isIdle : ByteArray := prog_9_method_2_code
abbrev y_Veh_isIdle : MethodName := ⟨"FleetFloor$Vehicle", "isIdle", "()Z"⟩
theorem d_Veh_isIdle_0 : decode c_Veh_isIdle 0 = .ok (.aload_n 0, 1) := by decide +kernel
theorem d_Veh_isIdle_1 : decode c_Veh_isIdle 1 = .ok (.getfield 31, 3) := by decide +kernel
theorem d_Veh_isIdle_4 : decode c_Veh_isIdle 4 = .ok (.aload_n 0, 1) := by decide +kernel
theorem d_Veh_isIdle_5 : decode c_Veh_isIdle 5 = .ok (.getfield 21, 3) := by decide +kernel
theorem d_Veh_isIdle_8 : decode c_Veh_isIdle 8 = .ok (.invokevirtual 47, 3) := by decide +kernel
theorem d_Veh_isIdle_11 : decode c_Veh_isIdle 11 = .ok (.if_icmp .ne 7, 3) := by decide +kernel
theorem d_Veh_isIdle_14 : decode c_Veh_isIdle 14 = .ok (.iconst 1, 1) := by decide +kernel
theorem d_Veh_isIdle_15 : decode c_Veh_isIdle 15 = .ok (.goto 4, 3) := by decide +kernel
theorem d_Veh_isIdle_18 : decode c_Veh_isIdle 18 = .ok (.iconst 0, 1) := by decide +kernel
theorem d_Veh_isIdle_19 : decode c_Veh_isIdle 19 = .ok (.ireturn, 1) := by decide +kernel
abbrev c_Veh_canMove : ByteArray := prog_9_method_3_code
abbrev y_Veh_canMove : MethodName := ⟨"FleetFloor$Vehicle", "canMove", "()Z"⟩
theorem d_Veh_canMove_0 : decode c_Veh_canMove 0 = .ok (.aload_n 0, 1) := by decide +kernel
theorem d_Veh_canMove_1 : decode c_Veh_canMove 1 = .ok (.getfield 25, 3) := by decide +kernel
theorem d_Veh_canMove_4 : decode c_Veh_canMove 4 = .ok (.aload_n 0, 1) := by decide +kernel
theorem d_Veh_canMove_5 : decode c_Veh_canMove 5 = .ok (.getfield 28, 3) := by decide +kernel
theorem d_Veh_canMove_8 : decode c_Veh_canMove 8 = .ok (.if_icmp .ge 21, 3) := by decide +kernel
theorem d_Veh_canMove_11 : decode c_Veh_canMove 11 = .ok (.aload_n 0, 1) := by decide +kernel
theorem d_Veh_canMove_12 : decode c_Veh_canMove 12 = .ok (.getfield 25, 3) := by decide +kernel
theorem d_Veh_canMove_15 : decode c_Veh_canMove 15 = .ok (.aload_n 0, 1) := by decide +kernel
theorem d_Veh_canMove_16 : decode c_Veh_canMove 16 = .ok (.getfield 21, 3) := by decide +kernel
theorem d_Veh_canMove_19 : decode c_Veh_canMove 19 = .ok (.invokevirtual 47, 3) := by decide +kernel
theorem d_Veh_canMove_22 : decode c_Veh_canMove 22 = .ok (.if_icmp .ge 7, 3) := by decide +kernel
theorem d_Veh_canMove_25 : decode c_Veh_canMove 25 = .ok (.iconst 1, 1) := by decide +kernel
theorem d_Veh_canMove_26 : decode c_Veh_canMove 26 = .ok (.goto 4, 3) := by decide +kernel
theorem d_Veh_canMove_29 : decode c_Veh_canMove 29 = .ok (.iconst 0, 1) := by decide +kernel
theorem d_Veh_canMove_30 : decode c_Veh_canMove 30 = .ok (.ireturn, 1) := by decide +kernel
abbrev c_Veh_placeAfter : ByteArray := prog_9_method_4_code
abbrev y_Veh_placeAfter : MethodName := ⟨"FleetFloor$Vehicle", "placeAfter", "(I)I"⟩
theorem d_Veh_placeAfter_0 : decode c_Veh_placeAfter 0 = .ok (.iload_n 1, 1) := by decide +kernel
theorem d_Veh_placeAfter_1 : decode c_Veh_placeAfter 1 = .ok (.iconst 1, 1) := by decide +kernel
theorem d_Veh_placeAfter_2 : decode c_Veh_placeAfter 2 = .ok (.if_icmp .lt 33, 3) := by decide +kernel
theorem d_Veh_placeAfter_5 : decode c_Veh_placeAfter 5 = .ok (.iload_n 1, 1) := by decide +kernel
theorem d_Veh_placeAfter_6 : decode c_Veh_placeAfter 6 = .ok (.aload_n 0, 1) := by decide +kernel
theorem d_Veh_placeAfter_7 : decode c_Veh_placeAfter 7 = .ok (.getfield 21, 3) := by decide +kernel
theorem d_Veh_placeAfter_10 : decode c_Veh_placeAfter 10 = .ok (.invokevirtual 47, 3) := by decide +kernel
theorem d_Veh_placeAfter_13 : decode c_Veh_placeAfter 13 = .ok (.if_icmp .gt 22, 3) := by decide +kernel
theorem d_Veh_placeAfter_16 : decode c_Veh_placeAfter 16 = .ok (.aload_n 0, 1) := by decide +kernel
theorem d_Veh_placeAfter_17 : decode c_Veh_placeAfter 17 = .ok (.getfield 21, 3) := by decide +kernel
theorem d_Veh_placeAfter_20 : decode c_Veh_placeAfter 20 = .ok (.iload_n 1, 1) := by decide +kernel
theorem d_Veh_placeAfter_21 : decode c_Veh_placeAfter 21 = .ok (.iconst 1, 1) := by decide +kernel
theorem d_Veh_placeAfter_22 : decode c_Veh_placeAfter 22 = .ok (.isub, 1) := by decide +kernel
theorem d_Veh_placeAfter_23 : decode c_Veh_placeAfter 23 = .ok (.invokevirtual 51, 3) := by decide +kernel
theorem d_Veh_placeAfter_26 : decode c_Veh_placeAfter 26 = .ok (.checkcast 55, 3) := by decide +kernel
theorem d_Veh_placeAfter_29 : decode c_Veh_placeAfter 29 = .ok (.invokevirtual 57, 3) := by decide +kernel
theorem d_Veh_placeAfter_32 : decode c_Veh_placeAfter 32 = .ok (.goto 7, 3) := by decide +kernel
theorem d_Veh_placeAfter_35 : decode c_Veh_placeAfter 35 = .ok (.aload_n 0, 1) := by decide +kernel
theorem d_Veh_placeAfter_36 : decode c_Veh_placeAfter 36 = .ok (.getfield 15, 3) := by decide +kernel
theorem d_Veh_placeAfter_39 : decode c_Veh_placeAfter 39 = .ok (.ireturn, 1) := by decide +kernel
abbrev c_Veh_movesUpTo : ByteArray := prog_9_method_5_code
abbrev y_Veh_movesUpTo : MethodName := ⟨"FleetFloor$Vehicle", "movesUpTo", "(I)I"⟩
theorem d_Veh_movesUpTo_0 : decode c_Veh_movesUpTo 0 = .ok (.aload_n 0, 1) := by decide +kernel
theorem d_Veh_movesUpTo_1 : decode c_Veh_movesUpTo 1 = .ok (.getfield 21, 3) := by decide +kernel
theorem d_Veh_movesUpTo_4 : decode c_Veh_movesUpTo 4 = .ok (.invokevirtual 47, 3) := by decide +kernel
theorem d_Veh_movesUpTo_7 : decode c_Veh_movesUpTo 7 = .ok (.istore_n 2, 1) := by decide +kernel
theorem d_Veh_movesUpTo_8 : decode c_Veh_movesUpTo 8 = .ok (.iload_n 2, 1) := by decide +kernel
theorem d_Veh_movesUpTo_9 : decode c_Veh_movesUpTo 9 = .ok (.ifCond .le 29, 3) := by decide +kernel
theorem d_Veh_movesUpTo_12 : decode c_Veh_movesUpTo 12 = .ok (.aload_n 0, 1) := by decide +kernel
theorem d_Veh_movesUpTo_13 : decode c_Veh_movesUpTo 13 = .ok (.getfield 21, 3) := by decide +kernel
theorem d_Veh_movesUpTo_16 : decode c_Veh_movesUpTo 16 = .ok (.iload_n 2, 1) := by decide +kernel
theorem d_Veh_movesUpTo_17 : decode c_Veh_movesUpTo 17 = .ok (.iconst 1, 1) := by decide +kernel
theorem d_Veh_movesUpTo_18 : decode c_Veh_movesUpTo 18 = .ok (.isub, 1) := by decide +kernel
theorem d_Veh_movesUpTo_19 : decode c_Veh_movesUpTo 19 = .ok (.invokevirtual 51, 3) := by decide +kernel
theorem d_Veh_movesUpTo_22 : decode c_Veh_movesUpTo 22 = .ok (.checkcast 55, 3) := by decide +kernel
theorem d_Veh_movesUpTo_25 : decode c_Veh_movesUpTo 25 = .ok (.invokevirtual 60, 3) := by decide +kernel
theorem d_Veh_movesUpTo_28 : decode c_Veh_movesUpTo 28 = .ok (.iload_n 1, 1) := by decide +kernel
theorem d_Veh_movesUpTo_29 : decode c_Veh_movesUpTo 29 = .ok (.if_icmp .le 9, 3) := by decide +kernel
theorem d_Veh_movesUpTo_32 : decode c_Veh_movesUpTo 32 = .ok (.iinc 2 (-1), 3) := by decide +kernel
theorem d_Veh_movesUpTo_35 : decode c_Veh_movesUpTo 35 = .ok (.goto (-27), 3) := by decide +kernel
theorem d_Veh_movesUpTo_38 : decode c_Veh_movesUpTo 38 = .ok (.iload_n 2, 1) := by decide +kernel
theorem d_Veh_movesUpTo_39 : decode c_Veh_movesUpTo 39 = .ok (.ireturn, 1) := by decide +kernel
abbrev c_Veh_take : ByteArray := prog_9_method_6_code
abbrev y_Veh_take : MethodName := ⟨"FleetFloor$Vehicle", "take", "(LFleetFloor$Letter;)V"⟩
theorem d_Veh_take_0 : decode c_Veh_take 0 = .ok (.aload_n 1, 1) := by decide +kernel
theorem d_Veh_take_1 : decode c_Veh_take 1 = .ok (.invokevirtual 63, 3) := by decide +kernel
theorem d_Veh_take_4 : decode c_Veh_take 4 = .ok (.ifCond .ne 21, 3) := by decide +kernel
theorem d_Veh_take_7 : decode c_Veh_take 7 = .ok (.aload_n 0, 1) := by decide +kernel
theorem d_Veh_take_8 : decode c_Veh_take 8 = .ok (.aload_n 0, 1) := by decide +kernel
theorem d_Veh_take_9 : decode c_Veh_take 9 = .ok (.getfield 28, 3) := by decide +kernel
theorem d_Veh_take_12 : decode c_Veh_take 12 = .ok (.aload_n 1, 1) := by decide +kernel
theorem d_Veh_take_13 : decode c_Veh_take 13 = .ok (.invokevirtual 68, 3) := by decide +kernel
theorem d_Veh_take_16 : decode c_Veh_take 16 = .ok (.invokestatic 70, 3) := by decide +kernel
theorem d_Veh_take_19 : decode c_Veh_take 19 = .ok (.putfield 28, 3) := by decide +kernel
theorem d_Veh_take_22 : decode c_Veh_take 22 = .ok (.goto 18, 3) := by decide +kernel
theorem d_Veh_take_25 : decode c_Veh_take 25 = .ok (.aload_n 0, 1) := by decide +kernel
theorem d_Veh_take_26 : decode c_Veh_take 26 = .ok (.aload_n 0, 1) := by decide +kernel
theorem d_Veh_take_27 : decode c_Veh_take 27 = .ok (.getfield 31, 3) := by decide +kernel
theorem d_Veh_take_30 : decode c_Veh_take 30 = .ok (.aload_n 1, 1) := by decide +kernel
theorem d_Veh_take_31 : decode c_Veh_take 31 = .ok (.invokevirtual 68, 3) := by decide +kernel
theorem d_Veh_take_34 : decode c_Veh_take 34 = .ok (.invokestatic 70, 3) := by decide +kernel
theorem d_Veh_take_37 : decode c_Veh_take 37 = .ok (.putfield 31, 3) := by decide +kernel
theorem d_Veh_take_40 : decode c_Veh_take 40 = .ok (.return_, 1) := by decide +kernel
abbrev c_Veh_comesBefore : ByteArray := prog_9_method_7_code
abbrev y_Veh_comesBefore : MethodName := ⟨"FleetFloor$Vehicle", "comesBefore", "(LFleetFloor$Move;)Z"⟩
theorem d_Veh_comesBefore_0 : decode c_Veh_comesBefore 0 = .ok (.iconst 0, 1) := by decide +kernel
theorem d_Veh_comesBefore_1 : decode c_Veh_comesBefore 1 = .ok (.aload_n 0, 1) := by decide +kernel
theorem d_Veh_comesBefore_2 : decode c_Veh_comesBefore 2 = .ok (.getfield 31, 3) := by decide +kernel
theorem d_Veh_comesBefore_5 : decode c_Veh_comesBefore 5 = .ok (.iconst 1, 1) := by decide +kernel
theorem d_Veh_comesBefore_6 : decode c_Veh_comesBefore 6 = .ok (.isub, 1) := by decide +kernel
theorem d_Veh_comesBefore_7 : decode c_Veh_comesBefore 7 = .ok (.invokestatic 70, 3) := by decide +kernel
theorem d_Veh_comesBefore_10 : decode c_Veh_comesBefore 10 = .ok (.istore_n 2, 1) := by decide +kernel
theorem d_Veh_comesBefore_11 : decode c_Veh_comesBefore 11 = .ok (.iload_n 2, 1) := by decide +kernel
theorem d_Veh_comesBefore_12 : decode c_Veh_comesBefore 12 = .ok (.aload_n 0, 1) := by decide +kernel
theorem d_Veh_comesBefore_13 : decode c_Veh_comesBefore 13 = .ok (.getfield 21, 3) := by decide +kernel
theorem d_Veh_comesBefore_16 : decode c_Veh_comesBefore 16 = .ok (.invokevirtual 47, 3) := by decide +kernel
theorem d_Veh_comesBefore_19 : decode c_Veh_comesBefore 19 = .ok (.if_icmp .ge 45, 3) := by decide +kernel
theorem d_Veh_comesBefore_22 : decode c_Veh_comesBefore 22 = .ok (.aload_n 0, 1) := by decide +kernel
theorem d_Veh_comesBefore_23 : decode c_Veh_comesBefore 23 = .ok (.getfield 21, 3) := by decide +kernel
theorem d_Veh_comesBefore_26 : decode c_Veh_comesBefore 26 = .ok (.iload_n 2, 1) := by decide +kernel
theorem d_Veh_comesBefore_27 : decode c_Veh_comesBefore 27 = .ok (.invokevirtual 51, 3) := by decide +kernel
theorem d_Veh_comesBefore_30 : decode c_Veh_comesBefore 30 = .ok (.checkcast 55, 3) := by decide +kernel
theorem d_Veh_comesBefore_33 : decode c_Veh_comesBefore 33 = .ok (.astore_n 3, 1) := by decide +kernel
theorem d_Veh_comesBefore_34 : decode c_Veh_comesBefore 34 = .ok (.aload_n 3, 1) := by decide +kernel
theorem d_Veh_comesBefore_35 : decode c_Veh_comesBefore 35 = .ok (.invokevirtual 57, 3) := by decide +kernel
theorem d_Veh_comesBefore_38 : decode c_Veh_comesBefore 38 = .ok (.aload_n 1, 1) := by decide +kernel
theorem d_Veh_comesBefore_39 : decode c_Veh_comesBefore 39 = .ok (.invokevirtual 57, 3) := by decide +kernel
theorem d_Veh_comesBefore_42 : decode c_Veh_comesBefore 42 = .ok (.if_icmp .ne 16, 3) := by decide +kernel
theorem d_Veh_comesBefore_45 : decode c_Veh_comesBefore 45 = .ok (.aload_n 3, 1) := by decide +kernel
theorem d_Veh_comesBefore_46 : decode c_Veh_comesBefore 46 = .ok (.invokevirtual 60, 3) := by decide +kernel
theorem d_Veh_comesBefore_49 : decode c_Veh_comesBefore 49 = .ok (.aload_n 1, 1) := by decide +kernel
theorem d_Veh_comesBefore_50 : decode c_Veh_comesBefore 50 = .ok (.invokevirtual 60, 3) := by decide +kernel
theorem d_Veh_comesBefore_53 : decode c_Veh_comesBefore 53 = .ok (.if_icmp .ge 5, 3) := by decide +kernel
theorem d_Veh_comesBefore_56 : decode c_Veh_comesBefore 56 = .ok (.iconst 1, 1) := by decide +kernel
theorem d_Veh_comesBefore_57 : decode c_Veh_comesBefore 57 = .ok (.ireturn, 1) := by decide +kernel
theorem d_Veh_comesBefore_58 : decode c_Veh_comesBefore 58 = .ok (.iinc 2 1, 3) := by decide +kernel
theorem d_Veh_comesBefore_61 : decode c_Veh_comesBefore 61 = .ok (.goto (-50), 3) := by decide +kernel
theorem d_Veh_comesBefore_64 : decode c_Veh_comesBefore 64 = .ok (.iconst 0, 1) := by decide +kernel
theorem d_Veh_comesBefore_65 : decode c_Veh_comesBefore 65 = .ok (.ireturn, 1) := by decide +kernel
abbrev c_Mth_max : ByteArray := prog_18_method_65_code
abbrev y_Mth_max : MethodName := ⟨"java/lang/Math", "max", "(II)I"⟩
theorem d_Mth_max_0 : decode c_Mth_max 0 = .ok (.iload_n 0, 1) := by decide +kernel
theorem d_Mth_max_1 : decode c_Mth_max 1 = .ok (.iload_n 1, 1) := by decide +kernel
theorem d_Mth_max_2 : decode c_Mth_max 2 = .ok (.if_icmp .lt 7, 3) := by decide +kernel
theorem d_Mth_max_5 : decode c_Mth_max 5 = .ok (.iload_n 0, 1) := by decide +kernel
theorem d_Mth_max_6 : decode c_Mth_max 6 = .ok (.goto 4, 3) := by decide +kernel
theorem d_Mth_max_9 : decode c_Mth_max 9 = .ok (.iload_n 1, 1) := by decide +kernel
theorem d_Mth_max_10 : decode c_Mth_max 10 = .ok (.ireturn, 1) := by decide +kernel
abbrev c_Mth_min : ByteArray := prog_18_method_69_code
abbrev y_Mth_min : MethodName := ⟨"java/lang/Math", "min", "(II)I"⟩
theorem d_Mth_min_0 : decode c_Mth_min 0 = .ok (.iload_n 0, 1) := by decide +kernel
theorem d_Mth_min_1 : decode c_Mth_min 1 = .ok (.iload_n 1, 1) := by decide +kernel
theorem d_Mth_min_2 : decode c_Mth_min 2 = .ok (.if_icmp .gt 7, 3) := by decide +kernel
theorem d_Mth_min_5 : decode c_Mth_min 5 = .ok (.iload_n 0, 1) := by decide +kernel
theorem d_Mth_min_6 : decode c_Mth_min 6 = .ok (.goto 4, 3) := by decide +kernel
theorem d_Mth_min_9 : decode c_Mth_min 9 = .ok (.iload_n 1, 1) := by decide +kernel
theorem d_Mth_min_10 : decode c_Mth_min 10 = .ok (.ireturn, 1) := by decide +kernel
abbrev c_Rec_init : ByteArray := prog_19_method_1_code
abbrev y_Rec_init : MethodName := ⟨"java/lang/Record", "<init>", "()V"⟩
theorem d_Rec_init_0 : decode c_Rec_init 0 = .ok (.aload_n 0, 1) := by decide +kernel
theorem d_Rec_init_1 : decode c_Rec_init 1 = .ok (.invokespecial 1, 3) := by decide +kernel
theorem d_Rec_init_4 : decode c_Rec_init 4 = .ok (.return_, 1) := by decide +kernel
abbrev c_ABC_init : ByteArray := prog_24_method_1_code
abbrev y_ABC_init : MethodName := ⟨"java/util/AbstractCollection", "<init>", "()V"⟩
theorem d_ABC_init_0 : decode c_ABC_init 0 = .ok (.aload_n 0, 1) := by decide +kernel
theorem d_ABC_init_1 : decode c_ABC_init 1 = .ok (.invokespecial 1, 3) := by decide +kernel
theorem d_ABC_init_4 : decode c_ABC_init 4 = .ok (.return_, 1) := by decide +kernel
abbrev c_ABL_init : ByteArray := prog_25_method_1_code
abbrev y_ABL_init : MethodName := ⟨"java/util/AbstractList", "<init>", "()V"⟩
theorem d_ABL_init_0 : decode c_ABL_init 0 = .ok (.aload_n 0, 1) := by decide +kernel
theorem d_ABL_init_1 : decode c_ABL_init 1 = .ok (.invokespecial 1, 3) := by decide +kernel
theorem d_ABL_init_4 : decode c_ABL_init 4 = .ok (.aload_n 0, 1) := by decide +kernel
theorem d_ABL_init_5 : decode c_ABL_init 5 = .ok (.iconst 0, 1) := by decide +kernel
theorem d_ABL_init_6 : decode c_ABL_init 6 = .ok (.putfield 7, 3) := by decide +kernel
theorem d_ABL_init_9 : decode c_ABL_init 9 = .ok (.return_, 1) := by decide +kernel
abbrev c_AL_init : ByteArray := prog_26_method_2_code
abbrev y_AL_init : MethodName := ⟨"java/util/ArrayList", "<init>", "()V"⟩
theorem d_AL_init_0 : decode c_AL_init 0 = .ok (.aload_n 0, 1) := by decide +kernel
theorem d_AL_init_1 : decode c_AL_init 1 = .ok (.invokespecial 1, 3) := by decide +kernel
theorem d_AL_init_4 : decode c_AL_init 4 = .ok (.aload_n 0, 1) := by decide +kernel
theorem d_AL_init_5 : decode c_AL_init 5 = .ok (.getstatic 39, 3) := by decide +kernel
theorem d_AL_init_8 : decode c_AL_init 8 = .ok (.putfield 9, 3) := by decide +kernel
theorem d_AL_init_11 : decode c_AL_init 11 = .ok (.return_, 1) := by decide +kernel
abbrev c_AL_add : ByteArray := prog_26_method_25_code
abbrev y_AL_add : MethodName := ⟨"java/util/ArrayList", "add", "(Ljava/lang/Object;)Z"⟩
theorem d_AL_add_0 : decode c_AL_add 0 = .ok (.aload_n 0, 1) := by decide +kernel
theorem d_AL_add_1 : decode c_AL_add 1 = .ok (.dup, 1) := by decide +kernel
theorem d_AL_add_2 : decode c_AL_add 2 = .ok (.getfield 63, 3) := by decide +kernel
theorem d_AL_add_5 : decode c_AL_add 5 = .ok (.iconst 1, 1) := by decide +kernel
theorem d_AL_add_6 : decode c_AL_add 6 = .ok (.iadd, 1) := by decide +kernel
theorem d_AL_add_7 : decode c_AL_add 7 = .ok (.putfield 63, 3) := by decide +kernel
theorem d_AL_add_10 : decode c_AL_add 10 = .ok (.aload_n 0, 1) := by decide +kernel
theorem d_AL_add_11 : decode c_AL_add 11 = .ok (.aload_n 1, 1) := by decide +kernel
theorem d_AL_add_12 : decode c_AL_add 12 = .ok (.aload_n 0, 1) := by decide +kernel
theorem d_AL_add_13 : decode c_AL_add 13 = .ok (.getfield 9, 3) := by decide +kernel
theorem d_AL_add_16 : decode c_AL_add 16 = .ok (.aload_n 0, 1) := by decide +kernel
theorem d_AL_add_17 : decode c_AL_add 17 = .ok (.getfield 48, 3) := by decide +kernel
theorem d_AL_add_20 : decode c_AL_add 20 = .ok (.invokevirtual 131, 3) := by decide +kernel
theorem d_AL_add_23 : decode c_AL_add 23 = .ok (.iconst 1, 1) := by decide +kernel
theorem d_AL_add_24 : decode c_AL_add 24 = .ok (.ireturn, 1) := by decide +kernel
abbrev c_AL_addA : ByteArray := prog_26_method_24_code
abbrev y_AL_addA : MethodName := ⟨"java/util/ArrayList", "add", "(Ljava/lang/Object;[Ljava/lang/Object;I)V"⟩
theorem d_AL_addA_0 : decode c_AL_addA 0 = .ok (.iload_n 3, 1) := by decide +kernel
theorem d_AL_addA_1 : decode c_AL_addA 1 = .ok (.aload_n 2, 1) := by decide +kernel
theorem d_AL_addA_2 : decode c_AL_addA 2 = .ok (.arraylength, 1) := by decide +kernel
theorem d_AL_addA_3 : decode c_AL_addA 3 = .ok (.if_icmp .ne 8, 3) := by decide +kernel
theorem d_AL_addA_6 : decode c_AL_addA 6 = .ok (.aload_n 0, 1) := by decide +kernel
theorem d_AL_addA_7 : decode c_AL_addA 7 = .ok (.invokevirtual 129, 3) := by decide +kernel
theorem d_AL_addA_10 : decode c_AL_addA 10 = .ok (.astore_n 2, 1) := by decide +kernel
theorem d_AL_addA_11 : decode c_AL_addA 11 = .ok (.aload_n 2, 1) := by decide +kernel
theorem d_AL_addA_12 : decode c_AL_addA 12 = .ok (.iload_n 3, 1) := by decide +kernel
theorem d_AL_addA_13 : decode c_AL_addA 13 = .ok (.aload_n 1, 1) := by decide +kernel
theorem d_AL_addA_14 : decode c_AL_addA 14 = .ok (.aastore, 1) := by decide +kernel
theorem d_AL_addA_15 : decode c_AL_addA 15 = .ok (.aload_n 0, 1) := by decide +kernel
theorem d_AL_addA_16 : decode c_AL_addA 16 = .ok (.iload_n 3, 1) := by decide +kernel
theorem d_AL_addA_17 : decode c_AL_addA 17 = .ok (.iconst 1, 1) := by decide +kernel
theorem d_AL_addA_18 : decode c_AL_addA 18 = .ok (.iadd, 1) := by decide +kernel
theorem d_AL_addA_19 : decode c_AL_addA 19 = .ok (.putfield 48, 3) := by decide +kernel
theorem d_AL_addA_22 : decode c_AL_addA 22 = .ok (.return_, 1) := by decide +kernel
abbrev c_AL_elementData : ByteArray := prog_26_method_18_code
abbrev y_AL_elementData : MethodName := ⟨"java/util/ArrayList", "elementData", "(I)Ljava/lang/Object;"⟩
theorem d_AL_elementData_0 : decode c_AL_elementData 0 = .ok (.aload_n 0, 1) := by decide +kernel
theorem d_AL_elementData_1 : decode c_AL_elementData 1 = .ok (.getfield 9, 3) := by decide +kernel
theorem d_AL_elementData_4 : decode c_AL_elementData 4 = .ok (.iload_n 1, 1) := by decide +kernel
theorem d_AL_elementData_5 : decode c_AL_elementData 5 = .ok (.aaload, 1) := by decide +kernel
theorem d_AL_elementData_6 : decode c_AL_elementData 6 = .ok (.areturn, 1) := by decide +kernel
abbrev c_AL_fastRemove : ByteArray := prog_26_method_39_code
abbrev y_AL_fastRemove : MethodName := ⟨"java/util/ArrayList", "fastRemove", "([Ljava/lang/Object;I)V"⟩
theorem d_AL_fastRemove_0 : decode c_AL_fastRemove 0 = .ok (.aload_n 0, 1) := by decide +kernel
theorem d_AL_fastRemove_1 : decode c_AL_fastRemove 1 = .ok (.dup, 1) := by decide +kernel
theorem d_AL_fastRemove_2 : decode c_AL_fastRemove 2 = .ok (.getfield 63, 3) := by decide +kernel
theorem d_AL_fastRemove_5 : decode c_AL_fastRemove 5 = .ok (.iconst 1, 1) := by decide +kernel
theorem d_AL_fastRemove_6 : decode c_AL_fastRemove 6 = .ok (.iadd, 1) := by decide +kernel
theorem d_AL_fastRemove_7 : decode c_AL_fastRemove 7 = .ok (.putfield 63, 3) := by decide +kernel
theorem d_AL_fastRemove_10 : decode c_AL_fastRemove 10 = .ok (.aload_n 0, 1) := by decide +kernel
theorem d_AL_fastRemove_11 : decode c_AL_fastRemove 11 = .ok (.getfield 48, 3) := by decide +kernel
theorem d_AL_fastRemove_14 : decode c_AL_fastRemove 14 = .ok (.iconst 1, 1) := by decide +kernel
theorem d_AL_fastRemove_15 : decode c_AL_fastRemove 15 = .ok (.isub, 1) := by decide +kernel
theorem d_AL_fastRemove_16 : decode c_AL_fastRemove 16 = .ok (.dup, 1) := by decide +kernel
theorem d_AL_fastRemove_17 : decode c_AL_fastRemove 17 = .ok (.istore_n 3, 1) := by decide +kernel
theorem d_AL_fastRemove_18 : decode c_AL_fastRemove 18 = .ok (.iload_n 2, 1) := by decide +kernel
theorem d_AL_fastRemove_19 : decode c_AL_fastRemove 19 = .ok (.if_icmp .le 15, 3) := by decide +kernel
theorem d_AL_fastRemove_22 : decode c_AL_fastRemove 22 = .ok (.aload_n 1, 1) := by decide +kernel
theorem d_AL_fastRemove_23 : decode c_AL_fastRemove 23 = .ok (.iload_n 2, 1) := by decide +kernel
theorem d_AL_fastRemove_24 : decode c_AL_fastRemove 24 = .ok (.iconst 1, 1) := by decide +kernel
theorem d_AL_fastRemove_25 : decode c_AL_fastRemove 25 = .ok (.iadd, 1) := by decide +kernel
theorem d_AL_fastRemove_26 : decode c_AL_fastRemove 26 = .ok (.aload_n 1, 1) := by decide +kernel
theorem d_AL_fastRemove_27 : decode c_AL_fastRemove 27 = .ok (.iload_n 2, 1) := by decide +kernel
theorem d_AL_fastRemove_28 : decode c_AL_fastRemove 28 = .ok (.iload_n 3, 1) := by decide +kernel
theorem d_AL_fastRemove_29 : decode c_AL_fastRemove 29 = .ok (.iload_n 2, 1) := by decide +kernel
theorem d_AL_fastRemove_30 : decode c_AL_fastRemove 30 = .ok (.isub, 1) := by decide +kernel
theorem d_AL_fastRemove_31 : decode c_AL_fastRemove 31 = .ok (.invokestatic 112, 3) := by decide +kernel
theorem d_AL_fastRemove_34 : decode c_AL_fastRemove 34 = .ok (.aload_n 1, 1) := by decide +kernel
theorem d_AL_fastRemove_35 : decode c_AL_fastRemove 35 = .ok (.aload_n 0, 1) := by decide +kernel
theorem d_AL_fastRemove_36 : decode c_AL_fastRemove 36 = .ok (.iload_n 3, 1) := by decide +kernel
theorem d_AL_fastRemove_37 : decode c_AL_fastRemove 37 = .ok (.dup_x1, 1) := by decide +kernel
theorem d_AL_fastRemove_38 : decode c_AL_fastRemove 38 = .ok (.putfield 48, 3) := by decide +kernel
theorem d_AL_fastRemove_41 : decode c_AL_fastRemove 41 = .ok (.aconst_null, 1) := by decide +kernel
theorem d_AL_fastRemove_42 : decode c_AL_fastRemove 42 = .ok (.aastore, 1) := by decide +kernel
theorem d_AL_fastRemove_43 : decode c_AL_fastRemove 43 = .ok (.return_, 1) := by decide +kernel
abbrev c_AL_get : ByteArray := prog_26_method_20_code
abbrev y_AL_get : MethodName := ⟨"java/util/ArrayList", "get", "(I)Ljava/lang/Object;"⟩
theorem d_AL_get_0 : decode c_AL_get 0 = .ok (.iload_n 1, 1) := by decide +kernel
theorem d_AL_get_1 : decode c_AL_get 1 = .ok (.aload_n 0, 1) := by decide +kernel
theorem d_AL_get_2 : decode c_AL_get 2 = .ok (.getfield 48, 3) := by decide +kernel
theorem d_AL_get_5 : decode c_AL_get 5 = .ok (.invokestatic 118, 3) := by decide +kernel
theorem d_AL_get_8 : decode c_AL_get 8 = .ok (.pop, 1) := by decide +kernel
theorem d_AL_get_9 : decode c_AL_get 9 = .ok (.aload_n 0, 1) := by decide +kernel
theorem d_AL_get_10 : decode c_AL_get 10 = .ok (.iload_n 1, 1) := by decide +kernel
theorem d_AL_get_11 : decode c_AL_get 11 = .ok (.invokevirtual 123, 3) := by decide +kernel
theorem d_AL_get_14 : decode c_AL_get 14 = .ok (.areturn, 1) := by decide +kernel
abbrev c_AL_grow0 : ByteArray := prog_26_method_7_code
abbrev y_AL_grow0 : MethodName := ⟨"java/util/ArrayList", "grow", "()[Ljava/lang/Object;"⟩
theorem d_AL_grow0_0 : decode c_AL_grow0 0 = .ok (.aload_n 0, 1) := by decide +kernel
theorem d_AL_grow0_1 : decode c_AL_grow0 1 = .ok (.aload_n 0, 1) := by decide +kernel
theorem d_AL_grow0_2 : decode c_AL_grow0 2 = .ok (.getfield 48, 3) := by decide +kernel
theorem d_AL_grow0_5 : decode c_AL_grow0 5 = .ok (.iconst 1, 1) := by decide +kernel
theorem d_AL_grow0_6 : decode c_AL_grow0 6 = .ok (.iadd, 1) := by decide +kernel
theorem d_AL_grow0_7 : decode c_AL_grow0 7 = .ok (.invokevirtual 69, 3) := by decide +kernel
theorem d_AL_grow0_10 : decode c_AL_grow0 10 = .ok (.areturn, 1) := by decide +kernel
abbrev c_AL_growI : ByteArray := prog_26_method_6_code
abbrev y_AL_growI : MethodName := ⟨"java/util/ArrayList", "grow", "(I)[Ljava/lang/Object;"⟩
theorem d_AL_growI_0 : decode c_AL_growI 0 = .ok (.aload_n 0, 1) := by decide +kernel
theorem d_AL_growI_1 : decode c_AL_growI 1 = .ok (.getfield 9, 3) := by decide +kernel
theorem d_AL_growI_4 : decode c_AL_growI 4 = .ok (.arraylength, 1) := by decide +kernel
theorem d_AL_growI_5 : decode c_AL_growI 5 = .ok (.istore_n 2, 1) := by decide +kernel
theorem d_AL_growI_6 : decode c_AL_growI 6 = .ok (.iload_n 2, 1) := by decide +kernel
theorem d_AL_growI_7 : decode c_AL_growI 7 = .ok (.ifCond .gt 13, 3) := by decide +kernel
theorem d_AL_growI_10 : decode c_AL_growI 10 = .ok (.aload_n 0, 1) := by decide +kernel
theorem d_AL_growI_11 : decode c_AL_growI 11 = .ok (.getfield 9, 3) := by decide +kernel
theorem d_AL_growI_14 : decode c_AL_growI 14 = .ok (.getstatic 39, 3) := by decide +kernel
theorem d_AL_growI_17 : decode c_AL_growI 17 = .ok (.if_acmp .eq 28, 3) := by decide +kernel
theorem d_AL_growI_20 : decode c_AL_growI 20 = .ok (.iload_n 2, 1) := by decide +kernel
theorem d_AL_growI_21 : decode c_AL_growI 21 = .ok (.iload_n 1, 1) := by decide +kernel
theorem d_AL_growI_22 : decode c_AL_growI 22 = .ok (.iload_n 2, 1) := by decide +kernel
theorem d_AL_growI_23 : decode c_AL_growI 23 = .ok (.isub, 1) := by decide +kernel
theorem d_AL_growI_24 : decode c_AL_growI 24 = .ok (.iload_n 2, 1) := by decide +kernel
theorem d_AL_growI_25 : decode c_AL_growI 25 = .ok (.iconst 1, 1) := by decide +kernel
theorem d_AL_growI_26 : decode c_AL_growI 26 = .ok (.ishr, 1) := by decide +kernel
theorem d_AL_growI_27 : decode c_AL_growI 27 = .ok (.invokestatic 73, 3) := by decide +kernel
theorem d_AL_growI_30 : decode c_AL_growI 30 = .ok (.istore_n 3, 1) := by decide +kernel
theorem d_AL_growI_31 : decode c_AL_growI 31 = .ok (.aload_n 0, 1) := by decide +kernel
theorem d_AL_growI_32 : decode c_AL_growI 32 = .ok (.aload_n 0, 1) := by decide +kernel
theorem d_AL_growI_33 : decode c_AL_growI 33 = .ok (.getfield 9, 3) := by decide +kernel
theorem d_AL_growI_36 : decode c_AL_growI 36 = .ok (.iload_n 3, 1) := by decide +kernel
theorem d_AL_growI_37 : decode c_AL_growI 37 = .ok (.invokestatic 66, 3) := by decide +kernel
theorem d_AL_growI_40 : decode c_AL_growI 40 = .ok (.dup_x1, 1) := by decide +kernel
theorem d_AL_growI_41 : decode c_AL_growI 41 = .ok (.putfield 9, 3) := by decide +kernel
theorem d_AL_growI_44 : decode c_AL_growI 44 = .ok (.areturn, 1) := by decide +kernel
theorem d_AL_growI_45 : decode c_AL_growI 45 = .ok (.aload_n 0, 1) := by decide +kernel
theorem d_AL_growI_46 : decode c_AL_growI 46 = .ok (.bipush 10, 2) := by decide +kernel
theorem d_AL_growI_48 : decode c_AL_growI 48 = .ok (.iload_n 1, 1) := by decide +kernel
theorem d_AL_growI_49 : decode c_AL_growI 49 = .ok (.invokestatic 79, 3) := by decide +kernel
theorem d_AL_growI_52 : decode c_AL_growI 52 = .ok (.anewarray 7, 3) := by decide +kernel
theorem d_AL_growI_55 : decode c_AL_growI 55 = .ok (.dup_x1, 1) := by decide +kernel
theorem d_AL_growI_56 : decode c_AL_growI 56 = .ok (.putfield 9, 3) := by decide +kernel
theorem d_AL_growI_59 : decode c_AL_growI 59 = .ok (.areturn, 1) := by decide +kernel
abbrev c_AL_remove : ByteArray := prog_26_method_29_code
abbrev y_AL_remove : MethodName := ⟨"java/util/ArrayList", "remove", "(I)Ljava/lang/Object;"⟩
theorem d_AL_remove_0 : decode c_AL_remove 0 = .ok (.iload_n 1, 1) := by decide +kernel
theorem d_AL_remove_1 : decode c_AL_remove 1 = .ok (.aload_n 0, 1) := by decide +kernel
theorem d_AL_remove_2 : decode c_AL_remove 2 = .ok (.getfield 48, 3) := by decide +kernel
theorem d_AL_remove_5 : decode c_AL_remove 5 = .ok (.invokestatic 118, 3) := by decide +kernel
theorem d_AL_remove_8 : decode c_AL_remove 8 = .ok (.pop, 1) := by decide +kernel
theorem d_AL_remove_9 : decode c_AL_remove 9 = .ok (.aload_n 0, 1) := by decide +kernel
theorem d_AL_remove_10 : decode c_AL_remove 10 = .ok (.getfield 9, 3) := by decide +kernel
theorem d_AL_remove_13 : decode c_AL_remove 13 = .ok (.astore_n 2, 1) := by decide +kernel
theorem d_AL_remove_14 : decode c_AL_remove 14 = .ok (.aload_n 2, 1) := by decide +kernel
theorem d_AL_remove_15 : decode c_AL_remove 15 = .ok (.iload_n 1, 1) := by decide +kernel
theorem d_AL_remove_16 : decode c_AL_remove 16 = .ok (.aaload, 1) := by decide +kernel
theorem d_AL_remove_17 : decode c_AL_remove 17 = .ok (.astore_n 3, 1) := by decide +kernel
theorem d_AL_remove_18 : decode c_AL_remove 18 = .ok (.aload_n 0, 1) := by decide +kernel
theorem d_AL_remove_19 : decode c_AL_remove 19 = .ok (.aload_n 2, 1) := by decide +kernel
theorem d_AL_remove_20 : decode c_AL_remove 20 = .ok (.iload_n 1, 1) := by decide +kernel
theorem d_AL_remove_21 : decode c_AL_remove 21 = .ok (.invokevirtual 144, 3) := by decide +kernel
theorem d_AL_remove_24 : decode c_AL_remove 24 = .ok (.aload_n 3, 1) := by decide +kernel
theorem d_AL_remove_25 : decode c_AL_remove 25 = .ok (.areturn, 1) := by decide +kernel
abbrev c_AL_size : ByteArray := prog_26_method_8_code
abbrev y_AL_size : MethodName := ⟨"java/util/ArrayList", "size", "()I"⟩
theorem d_AL_size_0 : decode c_AL_size 0 = .ok (.aload_n 0, 1) := by decide +kernel
theorem d_AL_size_1 : decode c_AL_size 1 = .ok (.getfield 48, 3) := by decide +kernel
theorem d_AL_size_4 : decode c_AL_size 4 = .ok (.ireturn, 1) := by decide +kernel
abbrev c_Ars_copyOf : ByteArray := prog_27_method_119_code
abbrev y_Ars_copyOf : MethodName := ⟨"java/util/Arrays", "copyOf", "([Ljava/lang/Object;I)[Ljava/lang/Object;"⟩
theorem d_Ars_copyOf_0 : decode c_Ars_copyOf 0 = .ok (.aload_n 0, 1) := by decide +kernel
theorem d_Ars_copyOf_1 : decode c_Ars_copyOf 1 = .ok (.iload_n 1, 1) := by decide +kernel
theorem d_Ars_copyOf_2 : decode c_Ars_copyOf 2 = .ok (.aload_n 0, 1) := by decide +kernel
theorem d_Ars_copyOf_3 : decode c_Ars_copyOf 3 = .ok (.invokevirtual 86, 3) := by decide +kernel
theorem d_Ars_copyOf_6 : decode c_Ars_copyOf 6 = .ok (.invokestatic 300, 3) := by decide +kernel
theorem d_Ars_copyOf_9 : decode c_Ars_copyOf 9 = .ok (.areturn, 1) := by decide +kernel
abbrev c_Ars_copyOfC : ByteArray := prog_27_method_120_code
abbrev y_Ars_copyOfC : MethodName := ⟨"java/util/Arrays", "copyOf", "([Ljava/lang/Object;ILjava/lang/Class;)[Ljava/lang/Object;"⟩
theorem d_Ars_copyOfC_0 : decode c_Ars_copyOfC 0 = .ok (.aload_n 2, 1) := by decide +kernel
theorem d_Ars_copyOfC_1 : decode c_Ars_copyOfC 1 = .ok (.ldc 110, 2) := by decide +kernel
theorem d_Ars_copyOfC_3 : decode c_Ars_copyOfC 3 = .ok (.if_acmp .ne 10, 3) := by decide +kernel
theorem d_Ars_copyOfC_6 : decode c_Ars_copyOfC 6 = .ok (.iload_n 1, 1) := by decide +kernel
theorem d_Ars_copyOfC_7 : decode c_Ars_copyOfC 7 = .ok (.anewarray 2, 3) := by decide +kernel
theorem d_Ars_copyOfC_10 : decode c_Ars_copyOfC 10 = .ok (.goto 14, 3) := by decide +kernel
theorem d_Ars_copyOfC_13 : decode c_Ars_copyOfC 13 = .ok (.aload_n 2, 1) := by decide +kernel
theorem d_Ars_copyOfC_14 : decode c_Ars_copyOfC 14 = .ok (.invokevirtual 90, 3) := by decide +kernel
theorem d_Ars_copyOfC_17 : decode c_Ars_copyOfC 17 = .ok (.iload_n 1, 1) := by decide +kernel
theorem d_Ars_copyOfC_18 : decode c_Ars_copyOfC 18 = .ok (.invokestatic 95, 3) := by decide +kernel
theorem d_Ars_copyOfC_21 : decode c_Ars_copyOfC 21 = .ok (.checkcast 110, 3) := by decide +kernel
theorem d_Ars_copyOfC_24 : decode c_Ars_copyOfC 24 = .ok (.astore_n 3, 1) := by decide +kernel
theorem d_Ars_copyOfC_25 : decode c_Ars_copyOfC 25 = .ok (.aload_n 0, 1) := by decide +kernel
theorem d_Ars_copyOfC_26 : decode c_Ars_copyOfC 26 = .ok (.iconst 0, 1) := by decide +kernel
theorem d_Ars_copyOfC_27 : decode c_Ars_copyOfC 27 = .ok (.aload_n 3, 1) := by decide +kernel
theorem d_Ars_copyOfC_28 : decode c_Ars_copyOfC 28 = .ok (.iconst 0, 1) := by decide +kernel
theorem d_Ars_copyOfC_29 : decode c_Ars_copyOfC 29 = .ok (.aload_n 0, 1) := by decide +kernel
theorem d_Ars_copyOfC_30 : decode c_Ars_copyOfC 30 = .ok (.arraylength, 1) := by decide +kernel
theorem d_Ars_copyOfC_31 : decode c_Ars_copyOfC 31 = .ok (.iload_n 1, 1) := by decide +kernel
theorem d_Ars_copyOfC_32 : decode c_Ars_copyOfC 32 = .ok (.invokestatic 304, 3) := by decide +kernel
theorem d_Ars_copyOfC_35 : decode c_Ars_copyOfC 35 = .ok (.invokestatic 150, 3) := by decide +kernel
theorem d_Ars_copyOfC_38 : decode c_Ars_copyOfC 38 = .ok (.aload_n 3, 1) := by decide +kernel
theorem d_Ars_copyOfC_39 : decode c_Ars_copyOfC 39 = .ok (.areturn, 1) := by decide +kernel
abbrev c_Obs_checkIndex : ByteArray := prog_30_method_17_code
abbrev y_Obs_checkIndex : MethodName := ⟨"java/util/Objects", "checkIndex", "(II)I"⟩
theorem d_Obs_checkIndex_0 : decode c_Obs_checkIndex 0 = .ok (.iload_n 0, 1) := by decide +kernel
theorem d_Obs_checkIndex_1 : decode c_Obs_checkIndex 1 = .ok (.iload_n 1, 1) := by decide +kernel
theorem d_Obs_checkIndex_2 : decode c_Obs_checkIndex 2 = .ok (.aconst_null, 1) := by decide +kernel
theorem d_Obs_checkIndex_3 : decode c_Obs_checkIndex 3 = .ok (.invokestatic 105, 3) := by decide +kernel
theorem d_Obs_checkIndex_6 : decode c_Obs_checkIndex 6 = .ok (.ireturn, 1) := by decide +kernel
abbrev c_ASu_hugeLength : ByteArray := prog_33_method_28_code
abbrev y_ASu_hugeLength : MethodName := ⟨"jdk/internal/util/ArraysSupport", "hugeLength", "(II)I"⟩
theorem d_ASu_hugeLength_0 : decode c_ASu_hugeLength 0 = .ok (.iload_n 0, 1) := by decide +kernel
theorem d_ASu_hugeLength_1 : decode c_ASu_hugeLength 1 = .ok (.iload_n 1, 1) := by decide +kernel
theorem d_ASu_hugeLength_2 : decode c_ASu_hugeLength 2 = .ok (.iadd, 1) := by decide +kernel
theorem d_ASu_hugeLength_3 : decode c_ASu_hugeLength 3 = .ok (.istore_n 2, 1) := by decide +kernel
theorem d_ASu_hugeLength_4 : decode c_ASu_hugeLength 4 = .ok (.iload_n 2, 1) := by decide +kernel
theorem d_ASu_hugeLength_5 : decode c_ASu_hugeLength 5 = .ok (.ifCond .ge 44, 3) := by decide +kernel
theorem d_ASu_hugeLength_8 : decode c_ASu_hugeLength 8 = .ok (.new 204, 3) := by decide +kernel
theorem d_ASu_hugeLength_11 : decode c_ASu_hugeLength 11 = .ok (.dup, 1) := by decide +kernel
theorem d_ASu_hugeLength_12 : decode c_ASu_hugeLength 12 = .ok (.new 89, 3) := by decide +kernel
theorem d_ASu_hugeLength_15 : decode c_ASu_hugeLength 15 = .ok (.dup, 1) := by decide +kernel
theorem d_ASu_hugeLength_16 : decode c_ASu_hugeLength 16 = .ok (.invokespecial 91, 3) := by decide +kernel
theorem d_ASu_hugeLength_19 : decode c_ASu_hugeLength 19 = .ok (.ldc 206, 2) := by decide +kernel
theorem d_ASu_hugeLength_21 : decode c_ASu_hugeLength 21 = .ok (.invokevirtual 94, 3) := by decide +kernel
theorem d_ASu_hugeLength_24 : decode c_ASu_hugeLength 24 = .ok (.iload_n 0, 1) := by decide +kernel
theorem d_ASu_hugeLength_25 : decode c_ASu_hugeLength 25 = .ok (.invokevirtual 98, 3) := by decide +kernel
theorem d_ASu_hugeLength_28 : decode c_ASu_hugeLength 28 = .ok (.ldc 208, 2) := by decide +kernel
theorem d_ASu_hugeLength_30 : decode c_ASu_hugeLength 30 = .ok (.invokevirtual 94, 3) := by decide +kernel
theorem d_ASu_hugeLength_33 : decode c_ASu_hugeLength 33 = .ok (.iload_n 1, 1) := by decide +kernel
theorem d_ASu_hugeLength_34 : decode c_ASu_hugeLength 34 = .ok (.invokevirtual 98, 3) := by decide +kernel
theorem d_ASu_hugeLength_37 : decode c_ASu_hugeLength 37 = .ok (.ldc 210, 2) := by decide +kernel
theorem d_ASu_hugeLength_39 : decode c_ASu_hugeLength 39 = .ok (.invokevirtual 94, 3) := by decide +kernel
theorem d_ASu_hugeLength_42 : decode c_ASu_hugeLength 42 = .ok (.invokevirtual 101, 3) := by decide +kernel
theorem d_ASu_hugeLength_45 : decode c_ASu_hugeLength 45 = .ok (.invokespecial 212, 3) := by decide +kernel
theorem d_ASu_hugeLength_48 : decode c_ASu_hugeLength 48 = .ok (.athrow, 1) := by decide +kernel
theorem d_ASu_hugeLength_49 : decode c_ASu_hugeLength 49 = .ok (.iload_n 2, 1) := by decide +kernel
theorem d_ASu_hugeLength_50 : decode c_ASu_hugeLength 50 = .ok (.ldc 200, 2) := by decide +kernel
theorem d_ASu_hugeLength_52 : decode c_ASu_hugeLength 52 = .ok (.if_icmp .gt 6, 3) := by decide +kernel
theorem d_ASu_hugeLength_55 : decode c_ASu_hugeLength 55 = .ok (.ldc 200, 2) := by decide +kernel
theorem d_ASu_hugeLength_57 : decode c_ASu_hugeLength 57 = .ok (.ireturn, 1) := by decide +kernel
theorem d_ASu_hugeLength_58 : decode c_ASu_hugeLength 58 = .ok (.iload_n 2, 1) := by decide +kernel
theorem d_ASu_hugeLength_59 : decode c_ASu_hugeLength 59 = .ok (.ireturn, 1) := by decide +kernel
abbrev c_ASu_newLength : ByteArray := prog_33_method_27_code
abbrev y_ASu_newLength : MethodName := ⟨"jdk/internal/util/ArraysSupport", "newLength", "(III)I"⟩
theorem d_ASu_newLength_0 : decode c_ASu_newLength 0 = .ok (.iload_n 0, 1) := by decide +kernel
theorem d_ASu_newLength_1 : decode c_ASu_newLength 1 = .ok (.iload_n 1, 1) := by decide +kernel
theorem d_ASu_newLength_2 : decode c_ASu_newLength 2 = .ok (.iload_n 2, 1) := by decide +kernel
theorem d_ASu_newLength_3 : decode c_ASu_newLength 3 = .ok (.invokestatic 194, 3) := by decide +kernel
theorem d_ASu_newLength_6 : decode c_ASu_newLength 6 = .ok (.iadd, 1) := by decide +kernel
theorem d_ASu_newLength_7 : decode c_ASu_newLength 7 = .ok (.istore_n 3, 1) := by decide +kernel
theorem d_ASu_newLength_8 : decode c_ASu_newLength 8 = .ok (.iconst 0, 1) := by decide +kernel
theorem d_ASu_newLength_9 : decode c_ASu_newLength 9 = .ok (.iload_n 3, 1) := by decide +kernel
theorem d_ASu_newLength_10 : decode c_ASu_newLength 10 = .ok (.if_icmp .ge 11, 3) := by decide +kernel
theorem d_ASu_newLength_13 : decode c_ASu_newLength 13 = .ok (.iload_n 3, 1) := by decide +kernel
theorem d_ASu_newLength_14 : decode c_ASu_newLength 14 = .ok (.ldc 200, 2) := by decide +kernel
theorem d_ASu_newLength_16 : decode c_ASu_newLength 16 = .ok (.if_icmp .gt 5, 3) := by decide +kernel
theorem d_ASu_newLength_19 : decode c_ASu_newLength 19 = .ok (.iload_n 3, 1) := by decide +kernel
theorem d_ASu_newLength_20 : decode c_ASu_newLength 20 = .ok (.ireturn, 1) := by decide +kernel
theorem d_ASu_newLength_21 : decode c_ASu_newLength 21 = .ok (.iload_n 0, 1) := by decide +kernel
theorem d_ASu_newLength_22 : decode c_ASu_newLength 22 = .ok (.iload_n 1, 1) := by decide +kernel
theorem d_ASu_newLength_23 : decode c_ASu_newLength 23 = .ok (.invokestatic 201, 3) := by decide +kernel
theorem d_ASu_newLength_26 : decode c_ASu_newLength 26 = .ok (.ireturn, 1) := by decide +kernel
abbrev c_Pre_checkIndex : ByteArray := prog_34_method_11_code
abbrev y_Pre_checkIndex : MethodName := ⟨"jdk/internal/util/Preconditions", "checkIndex", "(IILjava/util/function/BiFunction;)I"⟩
theorem d_Pre_checkIndex_0 : decode c_Pre_checkIndex 0 = .ok (.iload_n 0, 1) := by decide +kernel
theorem d_Pre_checkIndex_1 : decode c_Pre_checkIndex 1 = .ok (.ifCond .lt 8, 3) := by decide +kernel
theorem d_Pre_checkIndex_4 : decode c_Pre_checkIndex 4 = .ok (.iload_n 0, 1) := by decide +kernel
theorem d_Pre_checkIndex_5 : decode c_Pre_checkIndex 5 = .ok (.iload_n 1, 1) := by decide +kernel
theorem d_Pre_checkIndex_6 : decode c_Pre_checkIndex 6 = .ok (.if_icmp .lt 10, 3) := by decide +kernel
theorem d_Pre_checkIndex_9 : decode c_Pre_checkIndex 9 = .ok (.aload_n 2, 1) := by decide +kernel
theorem d_Pre_checkIndex_10 : decode c_Pre_checkIndex 10 = .ok (.iload_n 0, 1) := by decide +kernel
theorem d_Pre_checkIndex_11 : decode c_Pre_checkIndex 11 = .ok (.iload_n 1, 1) := by decide +kernel
theorem d_Pre_checkIndex_12 : decode c_Pre_checkIndex 12 = .ok (.invokestatic 95, 3) := by decide +kernel
theorem d_Pre_checkIndex_15 : decode c_Pre_checkIndex 15 = .ok (.athrow, 1) := by decide +kernel
theorem d_Pre_checkIndex_16 : decode c_Pre_checkIndex 16 = .ok (.iload_n 0, 1) := by decide +kernel
theorem d_Pre_checkIndex_17 : decode c_Pre_checkIndex 17 = .ok (.ireturn, 1) := by decide +kernel
end
section
abbrev c_Pln_init : ByteArray := prog_7_method_1_code
abbrev y_Pln_init : MethodName := ⟨"FleetFloor$Planner", "<init>", "(LFleetFloor$Cells;[LFleetFloor$Vehicle;)V"⟩
theorem d_Pln_init_0 : decode c_Pln_init 0 = .ok (.aload_n 0, 1) := by decide +kernel
theorem d_Pln_init_1 : decode c_Pln_init 1 = .ok (.invokespecial 3, 3) := by decide +kernel
theorem d_Pln_init_4 : decode c_Pln_init 4 = .ok (.aload_n 0, 1) := by decide +kernel
theorem d_Pln_init_5 : decode c_Pln_init 5 = .ok (.aload_n 1, 1) := by decide +kernel
theorem d_Pln_init_6 : decode c_Pln_init 6 = .ok (.putfield 9, 3) := by decide +kernel
theorem d_Pln_init_9 : decode c_Pln_init 9 = .ok (.aload_n 0, 1) := by decide +kernel
theorem d_Pln_init_10 : decode c_Pln_init 10 = .ok (.aload_n 2, 1) := by decide +kernel
theorem d_Pln_init_11 : decode c_Pln_init 11 = .ok (.putfield 15, 3) := by decide +kernel
theorem d_Pln_init_14 : decode c_Pln_init 14 = .ok (.aload_n 0, 1) := by decide +kernel
theorem d_Pln_init_15 : decode c_Pln_init 15 = .ok (.sipush 153, 3) := by decide +kernel
theorem d_Pln_init_18 : decode c_Pln_init 18 = .ok (.anewarray 19, 3) := by decide +kernel
theorem d_Pln_init_21 : decode c_Pln_init 21 = .ok (.putfield 21, 3) := by decide +kernel
theorem d_Pln_init_24 : decode c_Pln_init 24 = .ok (.aload_n 0, 1) := by decide +kernel
theorem d_Pln_init_25 : decode c_Pln_init 25 = .ok (.sipush 153, 3) := by decide +kernel
theorem d_Pln_init_28 : decode c_Pln_init 28 = .ok (.anewarray 19, 3) := by decide +kernel
theorem d_Pln_init_31 : decode c_Pln_init 31 = .ok (.putfield 25, 3) := by decide +kernel
theorem d_Pln_init_34 : decode c_Pln_init 34 = .ok (.iconst 0, 1) := by decide +kernel
theorem d_Pln_init_35 : decode c_Pln_init 35 = .ok (.istore_n 3, 1) := by decide +kernel
theorem d_Pln_init_36 : decode c_Pln_init 36 = .ok (.iload_n 3, 1) := by decide +kernel
theorem d_Pln_init_37 : decode c_Pln_init 37 = .ok (.sipush 153, 3) := by decide +kernel
theorem d_Pln_init_40 : decode c_Pln_init 40 = .ok (.if_icmp .ge 35, 3) := by decide +kernel
theorem d_Pln_init_43 : decode c_Pln_init 43 = .ok (.aload_n 0, 1) := by decide +kernel
theorem d_Pln_init_44 : decode c_Pln_init 44 = .ok (.getfield 21, 3) := by decide +kernel
theorem d_Pln_init_47 : decode c_Pln_init 47 = .ok (.iload_n 3, 1) := by decide +kernel
theorem d_Pln_init_48 : decode c_Pln_init 48 = .ok (.new 19, 3) := by decide +kernel
theorem d_Pln_init_51 : decode c_Pln_init 51 = .ok (.dup, 1) := by decide +kernel
theorem d_Pln_init_52 : decode c_Pln_init 52 = .ok (.invokespecial 28, 3) := by decide +kernel
theorem d_Pln_init_55 : decode c_Pln_init 55 = .ok (.aastore, 1) := by decide +kernel
theorem d_Pln_init_56 : decode c_Pln_init 56 = .ok (.aload_n 0, 1) := by decide +kernel
theorem d_Pln_init_57 : decode c_Pln_init 57 = .ok (.getfield 25, 3) := by decide +kernel
theorem d_Pln_init_60 : decode c_Pln_init 60 = .ok (.iload_n 3, 1) := by decide +kernel
theorem d_Pln_init_61 : decode c_Pln_init 61 = .ok (.new 19, 3) := by decide +kernel
theorem d_Pln_init_64 : decode c_Pln_init 64 = .ok (.dup, 1) := by decide +kernel
theorem d_Pln_init_65 : decode c_Pln_init 65 = .ok (.invokespecial 28, 3) := by decide +kernel
theorem d_Pln_init_68 : decode c_Pln_init 68 = .ok (.aastore, 1) := by decide +kernel
theorem d_Pln_init_69 : decode c_Pln_init 69 = .ok (.iinc 3 1, 3) := by decide +kernel
theorem d_Pln_init_72 : decode c_Pln_init 72 = .ok (.goto (-36), 3) := by decide +kernel
theorem d_Pln_init_75 : decode c_Pln_init 75 = .ok (.aload_n 0, 1) := by decide +kernel
theorem d_Pln_init_76 : decode c_Pln_init 76 = .ok (.sipush 453, 3) := by decide +kernel
theorem d_Pln_init_79 : decode c_Pln_init 79 = .ok (.anewarray 19, 3) := by decide +kernel
theorem d_Pln_init_82 : decode c_Pln_init 82 = .ok (.putfield 29, 3) := by decide +kernel
theorem d_Pln_init_85 : decode c_Pln_init 85 = .ok (.iconst 0, 1) := by decide +kernel
theorem d_Pln_init_86 : decode c_Pln_init 86 = .ok (.istore_n 3, 1) := by decide +kernel
theorem d_Pln_init_87 : decode c_Pln_init 87 = .ok (.iload_n 3, 1) := by decide +kernel
theorem d_Pln_init_88 : decode c_Pln_init 88 = .ok (.aload_n 0, 1) := by decide +kernel
theorem d_Pln_init_89 : decode c_Pln_init 89 = .ok (.getfield 29, 3) := by decide +kernel
theorem d_Pln_init_92 : decode c_Pln_init 92 = .ok (.arraylength, 1) := by decide +kernel
theorem d_Pln_init_93 : decode c_Pln_init 93 = .ok (.if_icmp .ge 22, 3) := by decide +kernel
theorem d_Pln_init_96 : decode c_Pln_init 96 = .ok (.aload_n 0, 1) := by decide +kernel
theorem d_Pln_init_97 : decode c_Pln_init 97 = .ok (.getfield 29, 3) := by decide +kernel
theorem d_Pln_init_100 : decode c_Pln_init 100 = .ok (.iload_n 3, 1) := by decide +kernel
theorem d_Pln_init_101 : decode c_Pln_init 101 = .ok (.new 19, 3) := by decide +kernel
theorem d_Pln_init_104 : decode c_Pln_init 104 = .ok (.dup, 1) := by decide +kernel
theorem d_Pln_init_105 : decode c_Pln_init 105 = .ok (.invokespecial 28, 3) := by decide +kernel
theorem d_Pln_init_108 : decode c_Pln_init 108 = .ok (.aastore, 1) := by decide +kernel
theorem d_Pln_init_109 : decode c_Pln_init 109 = .ok (.iinc 3 1, 3) := by decide +kernel
theorem d_Pln_init_112 : decode c_Pln_init 112 = .ok (.goto (-25), 3) := by decide +kernel
theorem d_Pln_init_115 : decode c_Pln_init 115 = .ok (.aload_n 0, 1) := by decide +kernel
theorem d_Pln_init_116 : decode c_Pln_init 116 = .ok (.new 19, 3) := by decide +kernel
theorem d_Pln_init_119 : decode c_Pln_init 119 = .ok (.dup, 1) := by decide +kernel
theorem d_Pln_init_120 : decode c_Pln_init 120 = .ok (.invokespecial 28, 3) := by decide +kernel
theorem d_Pln_init_123 : decode c_Pln_init 123 = .ok (.putfield 32, 3) := by decide +kernel
theorem d_Pln_init_126 : decode c_Pln_init 126 = .ok (.aload_n 0, 1) := by decide +kernel
theorem d_Pln_init_127 : decode c_Pln_init 127 = .ok (.new 19, 3) := by decide +kernel
theorem d_Pln_init_130 : decode c_Pln_init 130 = .ok (.dup, 1) := by decide +kernel
theorem d_Pln_init_131 : decode c_Pln_init 131 = .ok (.invokespecial 28, 3) := by decide +kernel
theorem d_Pln_init_134 : decode c_Pln_init 134 = .ok (.putfield 35, 3) := by decide +kernel
theorem d_Pln_init_137 : decode c_Pln_init 137 = .ok (.aload_n 0, 1) := by decide +kernel
theorem d_Pln_init_138 : decode c_Pln_init 138 = .ok (.sipush 151, 3) := by decide +kernel
theorem d_Pln_init_141 : decode c_Pln_init 141 = .ok (.newarray .int, 2) := by decide +kernel
theorem d_Pln_init_143 : decode c_Pln_init 143 = .ok (.putfield 38, 3) := by decide +kernel
theorem d_Pln_init_146 : decode c_Pln_init 146 = .ok (.return_, 1) := by decide +kernel
abbrev c_Pln_find : ByteArray := prog_7_method_2_code
abbrev y_Pln_find : MethodName := ⟨"FleetFloor$Planner", "find", "(LFleetFloor$Vehicle;LFleetFloor$Task;I)Z"⟩
theorem d_Pln_find_0 : decode c_Pln_find 0 = .ok (.aload_n 0, 1) := by decide +kernel
theorem d_Pln_find_1 : decode c_Pln_find 1 = .ok (.aload_n 2, 1) := by decide +kernel
theorem d_Pln_find_2 : decode c_Pln_find 2 = .ok (.getfield 42, 3) := by decide +kernel
theorem d_Pln_find_5 : decode c_Pln_find 5 = .ok (.putfield 48, 3) := by decide +kernel
theorem d_Pln_find_8 : decode c_Pln_find 8 = .ok (.aload_n 0, 1) := by decide +kernel
theorem d_Pln_find_9 : decode c_Pln_find 9 = .ok (.aload_n 2, 1) := by decide +kernel
theorem d_Pln_find_10 : decode c_Pln_find 10 = .ok (.getfield 49, 3) := by decide +kernel
theorem d_Pln_find_13 : decode c_Pln_find 13 = .ok (.putfield 52, 3) := by decide +kernel
theorem d_Pln_find_16 : decode c_Pln_find 16 = .ok (.aload_n 0, 1) := by decide +kernel
theorem d_Pln_find_17 : decode c_Pln_find 17 = .ok (.aload_n 1, 1) := by decide +kernel
theorem d_Pln_find_18 : decode c_Pln_find 18 = .ok (.getfield 53, 3) := by decide +kernel
theorem d_Pln_find_21 : decode c_Pln_find 21 = .ok (.putfield 58, 3) := by decide +kernel
theorem d_Pln_find_24 : decode c_Pln_find 24 = .ok (.aload_n 0, 1) := by decide +kernel
theorem d_Pln_find_25 : decode c_Pln_find 25 = .ok (.aload_n 1, 1) := by decide +kernel
theorem d_Pln_find_26 : decode c_Pln_find 26 = .ok (.iload_n 3, 1) := by decide +kernel
theorem d_Pln_find_27 : decode c_Pln_find 27 = .ok (.invokevirtual 59, 3) := by decide +kernel
theorem d_Pln_find_30 : decode c_Pln_find 30 = .ok (.aload_n 0, 1) := by decide +kernel
theorem d_Pln_find_31 : decode c_Pln_find 31 = .ok (.aload_n 0, 1) := by decide +kernel
theorem d_Pln_find_32 : decode c_Pln_find 32 = .ok (.invokevirtual 63, 3) := by decide +kernel
theorem d_Pln_find_35 : decode c_Pln_find 35 = .ok (.putfield 67, 3) := by decide +kernel
theorem d_Pln_find_38 : decode c_Pln_find 38 = .ok (.aload_n 0, 1) := by decide +kernel
theorem d_Pln_find_39 : decode c_Pln_find 39 = .ok (.getfield 67, 3) := by decide +kernel
theorem d_Pln_find_42 : decode c_Pln_find 42 = .ok (.iconst (-1), 1) := by decide +kernel
theorem d_Pln_find_43 : decode c_Pln_find 43 = .ok (.if_icmp .ne 5, 3) := by decide +kernel
theorem d_Pln_find_46 : decode c_Pln_find 46 = .ok (.iconst 0, 1) := by decide +kernel
theorem d_Pln_find_47 : decode c_Pln_find 47 = .ok (.ireturn, 1) := by decide +kernel
theorem d_Pln_find_48 : decode c_Pln_find 48 = .ok (.aload_n 0, 1) := by decide +kernel
theorem d_Pln_find_49 : decode c_Pln_find 49 = .ok (.invokevirtual 70, 3) := by decide +kernel
theorem d_Pln_find_52 : decode c_Pln_find 52 = .ok (.aload_n 0, 1) := by decide +kernel
theorem d_Pln_find_53 : decode c_Pln_find 53 = .ok (.invokevirtual 73, 3) := by decide +kernel
theorem d_Pln_find_56 : decode c_Pln_find 56 = .ok (.iconst 1, 1) := by decide +kernel
theorem d_Pln_find_57 : decode c_Pln_find 57 = .ok (.ireturn, 1) := by decide +kernel
abbrev c_Pln_append : ByteArray := prog_7_method_3_code
abbrev y_Pln_append : MethodName := ⟨"FleetFloor$Planner", "append", "(LFleetFloor$Vehicle;I)V"⟩
theorem d_Pln_append_0 : decode c_Pln_append 0 = .ok (.iconst 1, 1) := by decide +kernel
theorem d_Pln_append_1 : decode c_Pln_append 1 = .ok (.istore_n 3, 1) := by decide +kernel
theorem d_Pln_append_2 : decode c_Pln_append 2 = .ok (.iload_n 3, 1) := by decide +kernel
theorem d_Pln_append_3 : decode c_Pln_append 3 = .ok (.aload_n 0, 1) := by decide +kernel
theorem d_Pln_append_4 : decode c_Pln_append 4 = .ok (.getfield 67, 3) := by decide +kernel
theorem d_Pln_append_7 : decode c_Pln_append 7 = .ok (.if_icmp .gt 78, 3) := by decide +kernel
theorem d_Pln_append_10 : decode c_Pln_append 10 = .ok (.iload_n 3, 1) := by decide +kernel
theorem d_Pln_append_11 : decode c_Pln_append 11 = .ok (.aload_n 0, 1) := by decide +kernel
theorem d_Pln_append_12 : decode c_Pln_append 12 = .ok (.getfield 38, 3) := by decide +kernel
theorem d_Pln_append_15 : decode c_Pln_append 15 = .ok (.arraylength, 1) := by decide +kernel
theorem d_Pln_append_16 : decode c_Pln_append 16 = .ok (.if_icmp .ge 69, 3) := by decide +kernel
theorem d_Pln_append_19 : decode c_Pln_append 19 = .ok (.aload_n 0, 1) := by decide +kernel
theorem d_Pln_append_20 : decode c_Pln_append 20 = .ok (.getfield 38, 3) := by decide +kernel
theorem d_Pln_append_23 : decode c_Pln_append 23 = .ok (.iload_n 3, 1) := by decide +kernel
theorem d_Pln_append_24 : decode c_Pln_append 24 = .ok (.iaload, 1) := by decide +kernel
theorem d_Pln_append_25 : decode c_Pln_append 25 = .ok (.aload_n 0, 1) := by decide +kernel
theorem d_Pln_append_26 : decode c_Pln_append 26 = .ok (.getfield 38, 3) := by decide +kernel
theorem d_Pln_append_29 : decode c_Pln_append 29 = .ok (.iload_n 3, 1) := by decide +kernel
theorem d_Pln_append_30 : decode c_Pln_append 30 = .ok (.iconst 1, 1) := by decide +kernel
theorem d_Pln_append_31 : decode c_Pln_append 31 = .ok (.isub, 1) := by decide +kernel
theorem d_Pln_append_32 : decode c_Pln_append 32 = .ok (.iaload, 1) := by decide +kernel
theorem d_Pln_append_33 : decode c_Pln_append 33 = .ok (.if_icmp .eq 27, 3) := by decide +kernel
theorem d_Pln_append_36 : decode c_Pln_append 36 = .ok (.aload_n 1, 1) := by decide +kernel
theorem d_Pln_append_37 : decode c_Pln_append 37 = .ok (.getfield 76, 3) := by decide +kernel
theorem d_Pln_append_40 : decode c_Pln_append 40 = .ok (.new 80, 3) := by decide +kernel
theorem d_Pln_append_43 : decode c_Pln_append 43 = .ok (.dup, 1) := by decide +kernel
theorem d_Pln_append_44 : decode c_Pln_append 44 = .ok (.aload_n 0, 1) := by decide +kernel
theorem d_Pln_append_45 : decode c_Pln_append 45 = .ok (.getfield 38, 3) := by decide +kernel
theorem d_Pln_append_48 : decode c_Pln_append 48 = .ok (.iload_n 3, 1) := by decide +kernel
theorem d_Pln_append_49 : decode c_Pln_append 49 = .ok (.iaload, 1) := by decide +kernel
theorem d_Pln_append_50 : decode c_Pln_append 50 = .ok (.iload_n 2, 1) := by decide +kernel
theorem d_Pln_append_51 : decode c_Pln_append 51 = .ok (.iload_n 3, 1) := by decide +kernel
theorem d_Pln_append_52 : decode c_Pln_append 52 = .ok (.iadd, 1) := by decide +kernel
theorem d_Pln_append_53 : decode c_Pln_append 53 = .ok (.invokespecial 82, 3) := by decide +kernel
theorem d_Pln_append_56 : decode c_Pln_append 56 = .ok (.invokevirtual 85, 3) := by decide +kernel
theorem d_Pln_append_59 : decode c_Pln_append 59 = .ok (.pop, 1) := by decide +kernel
theorem d_Pln_append_60 : decode c_Pln_append 60 = .ok (.iload_n 3, 1) := by decide +kernel
theorem d_Pln_append_61 : decode c_Pln_append 61 = .ok (.aload_n 0, 1) := by decide +kernel
theorem d_Pln_append_62 : decode c_Pln_append 62 = .ok (.getfield 91, 3) := by decide +kernel
theorem d_Pln_append_65 : decode c_Pln_append 65 = .ok (.if_icmp .ne 14, 3) := by decide +kernel
theorem d_Pln_append_68 : decode c_Pln_append 68 = .ok (.aload_n 1, 1) := by decide +kernel
theorem d_Pln_append_69 : decode c_Pln_append 69 = .ok (.aload_n 1, 1) := by decide +kernel
theorem d_Pln_append_70 : decode c_Pln_append 70 = .ok (.getfield 76, 3) := by decide +kernel
theorem d_Pln_append_73 : decode c_Pln_append 73 = .ok (.invokevirtual 94, 3) := by decide +kernel
theorem d_Pln_append_76 : decode c_Pln_append 76 = .ok (.putfield 97, 3) := by decide +kernel
theorem d_Pln_append_79 : decode c_Pln_append 79 = .ok (.iinc 3 1, 3) := by decide +kernel
theorem d_Pln_append_82 : decode c_Pln_append 82 = .ok (.goto (-80), 3) := by decide +kernel
theorem d_Pln_append_85 : decode c_Pln_append 85 = .ok (.return_, 1) := by decide +kernel
abbrev c_Pln_layOut : ByteArray := prog_7_method_4_code
abbrev y_Pln_layOut : MethodName := ⟨"FleetFloor$Planner", "layOut", "(LFleetFloor$Vehicle;I)V"⟩
theorem d_Pln_layOut_0 : decode c_Pln_layOut 0 = .ok (.iconst 0, 1) := by decide +kernel
theorem d_Pln_layOut_1 : decode c_Pln_layOut 1 = .ok (.istore_n 3, 1) := by decide +kernel
theorem d_Pln_layOut_2 : decode c_Pln_layOut 2 = .ok (.iload_n 3, 1) := by decide +kernel
theorem d_Pln_layOut_3 : decode c_Pln_layOut 3 = .ok (.sipush 153, 3) := by decide +kernel
theorem d_Pln_layOut_6 : decode c_Pln_layOut 6 = .ok (.if_icmp .ge 50, 3) := by decide +kernel
theorem d_Pln_layOut_9 : decode c_Pln_layOut 9 = .ok (.aload_n 0, 1) := by decide +kernel
theorem d_Pln_layOut_10 : decode c_Pln_layOut 10 = .ok (.getfield 25, 3) := by decide +kernel
theorem d_Pln_layOut_13 : decode c_Pln_layOut 13 = .ok (.iload_n 3, 1) := by decide +kernel
theorem d_Pln_layOut_14 : decode c_Pln_layOut 14 = .ok (.aaload, 1) := by decide +kernel
theorem d_Pln_layOut_15 : decode c_Pln_layOut 15 = .ok (.aload_n 0, 1) := by decide +kernel
theorem d_Pln_layOut_16 : decode c_Pln_layOut 16 = .ok (.getfield 9, 3) := by decide +kernel
theorem d_Pln_layOut_19 : decode c_Pln_layOut 19 = .ok (.invokevirtual 100, 3) := by decide +kernel
theorem d_Pln_layOut_22 : decode c_Pln_layOut 22 = .ok (.aload_n 0, 1) := by decide +kernel
theorem d_Pln_layOut_23 : decode c_Pln_layOut 23 = .ok (.getfield 25, 3) := by decide +kernel
theorem d_Pln_layOut_26 : decode c_Pln_layOut 26 = .ok (.iload_n 3, 1) := by decide +kernel
theorem d_Pln_layOut_27 : decode c_Pln_layOut 27 = .ok (.aaload, 1) := by decide +kernel
theorem d_Pln_layOut_28 : decode c_Pln_layOut 28 = .ok (.aload_n 0, 1) := by decide +kernel
theorem d_Pln_layOut_29 : decode c_Pln_layOut 29 = .ok (.getfield 58, 3) := by decide +kernel
theorem d_Pln_layOut_32 : decode c_Pln_layOut 32 = .ok (.invokevirtual 104, 3) := by decide +kernel
theorem d_Pln_layOut_35 : decode c_Pln_layOut 35 = .ok (.aload_n 0, 1) := by decide +kernel
theorem d_Pln_layOut_36 : decode c_Pln_layOut 36 = .ok (.getfield 21, 3) := by decide +kernel
theorem d_Pln_layOut_39 : decode c_Pln_layOut 39 = .ok (.iload_n 3, 1) := by decide +kernel
theorem d_Pln_layOut_40 : decode c_Pln_layOut 40 = .ok (.aaload, 1) := by decide +kernel
theorem d_Pln_layOut_41 : decode c_Pln_layOut 41 = .ok (.aload_n 0, 1) := by decide +kernel
theorem d_Pln_layOut_42 : decode c_Pln_layOut 42 = .ok (.getfield 25, 3) := by decide +kernel
theorem d_Pln_layOut_45 : decode c_Pln_layOut 45 = .ok (.iload_n 3, 1) := by decide +kernel
theorem d_Pln_layOut_46 : decode c_Pln_layOut 46 = .ok (.aaload, 1) := by decide +kernel
theorem d_Pln_layOut_47 : decode c_Pln_layOut 47 = .ok (.invokevirtual 100, 3) := by decide +kernel
theorem d_Pln_layOut_50 : decode c_Pln_layOut 50 = .ok (.iinc 3 1, 3) := by decide +kernel
theorem d_Pln_layOut_53 : decode c_Pln_layOut 53 = .ok (.goto (-51), 3) := by decide +kernel
theorem d_Pln_layOut_56 : decode c_Pln_layOut 56 = .ok (.iconst 0, 1) := by decide +kernel
theorem d_Pln_layOut_57 : decode c_Pln_layOut 57 = .ok (.istore_n 3, 1) := by decide +kernel
theorem d_Pln_layOut_58 : decode c_Pln_layOut 58 = .ok (.iload_n 3, 1) := by decide +kernel
theorem d_Pln_layOut_59 : decode c_Pln_layOut 59 = .ok (.aload_n 0, 1) := by decide +kernel
theorem d_Pln_layOut_60 : decode c_Pln_layOut 60 = .ok (.getfield 15, 3) := by decide +kernel
theorem d_Pln_layOut_63 : decode c_Pln_layOut 63 = .ok (.arraylength, 1) := by decide +kernel
theorem d_Pln_layOut_64 : decode c_Pln_layOut 64 = .ok (.if_icmp .ge 30, 3) := by decide +kernel
theorem d_Pln_layOut_67 : decode c_Pln_layOut 67 = .ok (.aload_n 0, 1) := by decide +kernel
theorem d_Pln_layOut_68 : decode c_Pln_layOut 68 = .ok (.getfield 15, 3) := by decide +kernel
theorem d_Pln_layOut_71 : decode c_Pln_layOut 71 = .ok (.iload_n 3, 1) := by decide +kernel
theorem d_Pln_layOut_72 : decode c_Pln_layOut 72 = .ok (.aaload, 1) := by decide +kernel
theorem d_Pln_layOut_73 : decode c_Pln_layOut 73 = .ok (.aload_n 1, 1) := by decide +kernel
theorem d_Pln_layOut_74 : decode c_Pln_layOut 74 = .ok (.if_acmp .eq 14, 3) := by decide +kernel
theorem d_Pln_layOut_77 : decode c_Pln_layOut 77 = .ok (.aload_n 0, 1) := by decide +kernel
theorem d_Pln_layOut_78 : decode c_Pln_layOut 78 = .ok (.aload_n 0, 1) := by decide +kernel
theorem d_Pln_layOut_79 : decode c_Pln_layOut 79 = .ok (.getfield 15, 3) := by decide +kernel
theorem d_Pln_layOut_82 : decode c_Pln_layOut 82 = .ok (.iload_n 3, 1) := by decide +kernel
theorem d_Pln_layOut_83 : decode c_Pln_layOut 83 = .ok (.aaload, 1) := by decide +kernel
theorem d_Pln_layOut_84 : decode c_Pln_layOut 84 = .ok (.iload_n 2, 1) := by decide +kernel
theorem d_Pln_layOut_85 : decode c_Pln_layOut 85 = .ok (.invokevirtual 108, 3) := by decide +kernel
theorem d_Pln_layOut_88 : decode c_Pln_layOut 88 = .ok (.iinc 3 1, 3) := by decide +kernel
theorem d_Pln_layOut_91 : decode c_Pln_layOut 91 = .ok (.goto (-33), 3) := by decide +kernel
theorem d_Pln_layOut_94 : decode c_Pln_layOut 94 = .ok (.iconst 0, 1) := by decide +kernel
theorem d_Pln_layOut_95 : decode c_Pln_layOut 95 = .ok (.istore_n 3, 1) := by decide +kernel
theorem d_Pln_layOut_96 : decode c_Pln_layOut 96 = .ok (.iload_n 3, 1) := by decide +kernel
theorem d_Pln_layOut_97 : decode c_Pln_layOut 97 = .ok (.sipush 153, 3) := by decide +kernel
theorem d_Pln_layOut_100 : decode c_Pln_layOut 100 = .ok (.if_icmp .ge 24, 3) := by decide +kernel
theorem d_Pln_layOut_103 : decode c_Pln_layOut 103 = .ok (.aload_n 0, 1) := by decide +kernel
theorem d_Pln_layOut_104 : decode c_Pln_layOut 104 = .ok (.getfield 21, 3) := by decide +kernel
theorem d_Pln_layOut_107 : decode c_Pln_layOut 107 = .ok (.iload_n 3, 1) := by decide +kernel
theorem d_Pln_layOut_108 : decode c_Pln_layOut 108 = .ok (.aaload, 1) := by decide +kernel
theorem d_Pln_layOut_109 : decode c_Pln_layOut 109 = .ok (.aload_n 0, 1) := by decide +kernel
theorem d_Pln_layOut_110 : decode c_Pln_layOut 110 = .ok (.getfield 25, 3) := by decide +kernel
theorem d_Pln_layOut_113 : decode c_Pln_layOut 113 = .ok (.iload_n 3, 1) := by decide +kernel
theorem d_Pln_layOut_114 : decode c_Pln_layOut 114 = .ok (.aaload, 1) := by decide +kernel
theorem d_Pln_layOut_115 : decode c_Pln_layOut 115 = .ok (.invokevirtual 111, 3) := by decide +kernel
theorem d_Pln_layOut_118 : decode c_Pln_layOut 118 = .ok (.iinc 3 1, 3) := by decide +kernel
theorem d_Pln_layOut_121 : decode c_Pln_layOut 121 = .ok (.goto (-25), 3) := by decide +kernel
theorem d_Pln_layOut_124 : decode c_Pln_layOut 124 = .ok (.return_, 1) := by decide +kernel
abbrev c_Pln_keepClearOf : ByteArray := prog_7_method_5_code
abbrev y_Pln_keepClearOf : MethodName := ⟨"FleetFloor$Planner", "keepClearOf", "(LFleetFloor$Vehicle;I)V"⟩
theorem d_Pln_keepClearOf_0 : decode c_Pln_keepClearOf 0 = .ok (.aload_n 1, 1) := by decide +kernel
theorem d_Pln_keepClearOf_1 : decode c_Pln_keepClearOf 1 = .ok (.iload_n 2, 1) := by decide +kernel
theorem d_Pln_keepClearOf_2 : decode c_Pln_keepClearOf 2 = .ok (.invokevirtual 114, 3) := by decide +kernel
theorem d_Pln_keepClearOf_5 : decode c_Pln_keepClearOf 5 = .ok (.istore_n 3, 1) := by decide +kernel
theorem d_Pln_keepClearOf_6 : decode c_Pln_keepClearOf 6 = .ok (.aload_n 1, 1) := by decide +kernel
theorem d_Pln_keepClearOf_7 : decode c_Pln_keepClearOf 7 = .ok (.iload_n 3, 1) := by decide +kernel
theorem d_Pln_keepClearOf_8 : decode c_Pln_keepClearOf 8 = .ok (.invokevirtual 118, 3) := by decide +kernel
theorem d_Pln_keepClearOf_11 : decode c_Pln_keepClearOf 11 = .ok (.istore 4, 2) := by decide +kernel
theorem d_Pln_keepClearOf_13 : decode c_Pln_keepClearOf 13 = .ok (.aload_n 0, 1) := by decide +kernel
theorem d_Pln_keepClearOf_14 : decode c_Pln_keepClearOf 14 = .ok (.getfield 21, 3) := by decide +kernel
theorem d_Pln_keepClearOf_17 : decode c_Pln_keepClearOf 17 = .ok (.iconst 1, 1) := by decide +kernel
theorem d_Pln_keepClearOf_18 : decode c_Pln_keepClearOf 18 = .ok (.aaload, 1) := by decide +kernel
theorem d_Pln_keepClearOf_19 : decode c_Pln_keepClearOf 19 = .ok (.iload 4, 2) := by decide +kernel
theorem d_Pln_keepClearOf_21 : decode c_Pln_keepClearOf 21 = .ok (.invokevirtual 121, 3) := by decide +kernel
theorem d_Pln_keepClearOf_24 : decode c_Pln_keepClearOf 24 = .ok (.iconst 1, 1) := by decide +kernel
theorem d_Pln_keepClearOf_25 : decode c_Pln_keepClearOf 25 = .ok (.istore 5, 2) := by decide +kernel
theorem d_Pln_keepClearOf_27 : decode c_Pln_keepClearOf 27 = .ok (.iload 5, 2) := by decide +kernel
theorem d_Pln_keepClearOf_29 : decode c_Pln_keepClearOf 29 = .ok (.sipush 152, 3) := by decide +kernel
theorem d_Pln_keepClearOf_32 : decode c_Pln_keepClearOf 32 = .ok (.if_icmp .ge 103, 3) := by decide +kernel
theorem d_Pln_keepClearOf_35 : decode c_Pln_keepClearOf 35 = .ok (.iload_n 3, 1) := by decide +kernel
theorem d_Pln_keepClearOf_36 : decode c_Pln_keepClearOf 36 = .ok (.aload_n 1, 1) := by decide +kernel
theorem d_Pln_keepClearOf_37 : decode c_Pln_keepClearOf 37 = .ok (.getfield 76, 3) := by decide +kernel
theorem d_Pln_keepClearOf_40 : decode c_Pln_keepClearOf 40 = .ok (.invokevirtual 94, 3) := by decide +kernel
theorem d_Pln_keepClearOf_43 : decode c_Pln_keepClearOf 43 = .ok (.if_icmp .ge 92, 3) := by decide +kernel
theorem d_Pln_keepClearOf_46 : decode c_Pln_keepClearOf 46 = .ok (.aload_n 1, 1) := by decide +kernel
theorem d_Pln_keepClearOf_47 : decode c_Pln_keepClearOf 47 = .ok (.getfield 76, 3) := by decide +kernel
theorem d_Pln_keepClearOf_50 : decode c_Pln_keepClearOf 50 = .ok (.iload_n 3, 1) := by decide +kernel
theorem d_Pln_keepClearOf_51 : decode c_Pln_keepClearOf 51 = .ok (.invokevirtual 124, 3) := by decide +kernel
theorem d_Pln_keepClearOf_54 : decode c_Pln_keepClearOf 54 = .ok (.checkcast 80, 3) := by decide +kernel
theorem d_Pln_keepClearOf_57 : decode c_Pln_keepClearOf 57 = .ok (.invokevirtual 128, 3) := by decide +kernel
theorem d_Pln_keepClearOf_60 : decode c_Pln_keepClearOf 60 = .ok (.iload_n 2, 1) := by decide +kernel
theorem d_Pln_keepClearOf_61 : decode c_Pln_keepClearOf 61 = .ok (.iload 5, 2) := by decide +kernel
theorem d_Pln_keepClearOf_63 : decode c_Pln_keepClearOf 63 = .ok (.iadd, 1) := by decide +kernel
theorem d_Pln_keepClearOf_64 : decode c_Pln_keepClearOf 64 = .ok (.if_icmp .ne 39, 3) := by decide +kernel
theorem d_Pln_keepClearOf_67 : decode c_Pln_keepClearOf 67 = .ok (.iinc 3 1, 3) := by decide +kernel
theorem d_Pln_keepClearOf_70 : decode c_Pln_keepClearOf 70 = .ok (.aload_n 1, 1) := by decide +kernel
theorem d_Pln_keepClearOf_71 : decode c_Pln_keepClearOf 71 = .ok (.iload_n 3, 1) := by decide +kernel
theorem d_Pln_keepClearOf_72 : decode c_Pln_keepClearOf 72 = .ok (.invokevirtual 118, 3) := by decide +kernel
theorem d_Pln_keepClearOf_75 : decode c_Pln_keepClearOf 75 = .ok (.istore 4, 2) := by decide +kernel
theorem d_Pln_keepClearOf_77 : decode c_Pln_keepClearOf 77 = .ok (.aload_n 0, 1) := by decide +kernel
theorem d_Pln_keepClearOf_78 : decode c_Pln_keepClearOf 78 = .ok (.getfield 25, 3) := by decide +kernel
theorem d_Pln_keepClearOf_81 : decode c_Pln_keepClearOf 81 = .ok (.iload 5, 2) := by decide +kernel
theorem d_Pln_keepClearOf_83 : decode c_Pln_keepClearOf 83 = .ok (.iconst 1, 1) := by decide +kernel
theorem d_Pln_keepClearOf_84 : decode c_Pln_keepClearOf 84 = .ok (.isub, 1) := by decide +kernel
theorem d_Pln_keepClearOf_85 : decode c_Pln_keepClearOf 85 = .ok (.aaload, 1) := by decide +kernel
theorem d_Pln_keepClearOf_86 : decode c_Pln_keepClearOf 86 = .ok (.iload 4, 2) := by decide +kernel
theorem d_Pln_keepClearOf_88 : decode c_Pln_keepClearOf 88 = .ok (.invokevirtual 121, 3) := by decide +kernel
theorem d_Pln_keepClearOf_91 : decode c_Pln_keepClearOf 91 = .ok (.aload_n 0, 1) := by decide +kernel
theorem d_Pln_keepClearOf_92 : decode c_Pln_keepClearOf 92 = .ok (.getfield 25, 3) := by decide +kernel
theorem d_Pln_keepClearOf_95 : decode c_Pln_keepClearOf 95 = .ok (.iload 5, 2) := by decide +kernel
theorem d_Pln_keepClearOf_97 : decode c_Pln_keepClearOf 97 = .ok (.aaload, 1) := by decide +kernel
theorem d_Pln_keepClearOf_98 : decode c_Pln_keepClearOf 98 = .ok (.iload 4, 2) := by decide +kernel
theorem d_Pln_keepClearOf_100 : decode c_Pln_keepClearOf 100 = .ok (.invokevirtual 121, 3) := by decide +kernel
theorem d_Pln_keepClearOf_103 : decode c_Pln_keepClearOf 103 = .ok (.aload_n 0, 1) := by decide +kernel
theorem d_Pln_keepClearOf_104 : decode c_Pln_keepClearOf 104 = .ok (.getfield 21, 3) := by decide +kernel
theorem d_Pln_keepClearOf_107 : decode c_Pln_keepClearOf 107 = .ok (.iload 5, 2) := by decide +kernel
theorem d_Pln_keepClearOf_109 : decode c_Pln_keepClearOf 109 = .ok (.aaload, 1) := by decide +kernel
theorem d_Pln_keepClearOf_110 : decode c_Pln_keepClearOf 110 = .ok (.iload 4, 2) := by decide +kernel
theorem d_Pln_keepClearOf_112 : decode c_Pln_keepClearOf 112 = .ok (.invokevirtual 121, 3) := by decide +kernel
theorem d_Pln_keepClearOf_115 : decode c_Pln_keepClearOf 115 = .ok (.aload_n 0, 1) := by decide +kernel
theorem d_Pln_keepClearOf_116 : decode c_Pln_keepClearOf 116 = .ok (.getfield 21, 3) := by decide +kernel
theorem d_Pln_keepClearOf_119 : decode c_Pln_keepClearOf 119 = .ok (.iload 5, 2) := by decide +kernel
theorem d_Pln_keepClearOf_121 : decode c_Pln_keepClearOf 121 = .ok (.iconst 1, 1) := by decide +kernel
theorem d_Pln_keepClearOf_122 : decode c_Pln_keepClearOf 122 = .ok (.iadd, 1) := by decide +kernel
theorem d_Pln_keepClearOf_123 : decode c_Pln_keepClearOf 123 = .ok (.aaload, 1) := by decide +kernel
theorem d_Pln_keepClearOf_124 : decode c_Pln_keepClearOf 124 = .ok (.iload 4, 2) := by decide +kernel
theorem d_Pln_keepClearOf_126 : decode c_Pln_keepClearOf 126 = .ok (.invokevirtual 121, 3) := by decide +kernel
theorem d_Pln_keepClearOf_129 : decode c_Pln_keepClearOf 129 = .ok (.iinc 5 1, 3) := by decide +kernel
theorem d_Pln_keepClearOf_132 : decode c_Pln_keepClearOf 132 = .ok (.goto (-105), 3) := by decide +kernel
theorem d_Pln_keepClearOf_135 : decode c_Pln_keepClearOf 135 = .ok (.return_, 1) := by decide +kernel
abbrev c_Pln_at : ByteArray := prog_7_method_6_code
abbrev y_Pln_at : MethodName := ⟨"FleetFloor$Planner", "at", "(II)LFleetFloor$Cells;"⟩
theorem d_Pln_at_0 : decode c_Pln_at 0 = .ok (.aload_n 0, 1) := by decide +kernel
theorem d_Pln_at_1 : decode c_Pln_at 1 = .ok (.getfield 29, 3) := by decide +kernel
theorem d_Pln_at_4 : decode c_Pln_at 4 = .ok (.iload_n 1, 1) := by decide +kernel
theorem d_Pln_at_5 : decode c_Pln_at 5 = .ok (.iconst 3, 1) := by decide +kernel
theorem d_Pln_at_6 : decode c_Pln_at 6 = .ok (.imul, 1) := by decide +kernel
theorem d_Pln_at_7 : decode c_Pln_at 7 = .ok (.iload_n 2, 1) := by decide +kernel
theorem d_Pln_at_8 : decode c_Pln_at 8 = .ok (.iadd, 1) := by decide +kernel
theorem d_Pln_at_9 : decode c_Pln_at 9 = .ok (.aaload, 1) := by decide +kernel
theorem d_Pln_at_10 : decode c_Pln_at 10 = .ok (.areturn, 1) := by decide +kernel
abbrev c_Pln_spread : ByteArray := prog_7_method_7_code
abbrev y_Pln_spread : MethodName := ⟨"FleetFloor$Planner", "spread", "()I"⟩
theorem d_Pln_spread_0 : decode c_Pln_spread 0 = .ok (.iconst 0, 1) := by decide +kernel
theorem d_Pln_spread_1 : decode c_Pln_spread 1 = .ok (.istore_n 1, 1) := by decide +kernel
theorem d_Pln_spread_2 : decode c_Pln_spread 2 = .ok (.iload_n 1, 1) := by decide +kernel
theorem d_Pln_spread_3 : decode c_Pln_spread 3 = .ok (.iconst 3, 1) := by decide +kernel
theorem d_Pln_spread_4 : decode c_Pln_spread 4 = .ok (.if_icmp .ge 18, 3) := by decide +kernel
theorem d_Pln_spread_7 : decode c_Pln_spread 7 = .ok (.aload_n 0, 1) := by decide +kernel
theorem d_Pln_spread_8 : decode c_Pln_spread 8 = .ok (.iconst 0, 1) := by decide +kernel
theorem d_Pln_spread_9 : decode c_Pln_spread 9 = .ok (.iload_n 1, 1) := by decide +kernel
theorem d_Pln_spread_10 : decode c_Pln_spread 10 = .ok (.invokevirtual 131, 3) := by decide +kernel
theorem d_Pln_spread_13 : decode c_Pln_spread 13 = .ok (.invokevirtual 135, 3) := by decide +kernel
theorem d_Pln_spread_16 : decode c_Pln_spread 16 = .ok (.iinc 1 1, 3) := by decide +kernel
theorem d_Pln_spread_19 : decode c_Pln_spread 19 = .ok (.goto (-17), 3) := by decide +kernel
theorem d_Pln_spread_22 : decode c_Pln_spread 22 = .ok (.aload_n 0, 1) := by decide +kernel
theorem d_Pln_spread_23 : decode c_Pln_spread 23 = .ok (.iconst 0, 1) := by decide +kernel
theorem d_Pln_spread_24 : decode c_Pln_spread 24 = .ok (.iconst 0, 1) := by decide +kernel
theorem d_Pln_spread_25 : decode c_Pln_spread 25 = .ok (.invokevirtual 131, 3) := by decide +kernel
theorem d_Pln_spread_28 : decode c_Pln_spread 28 = .ok (.aload_n 0, 1) := by decide +kernel
theorem d_Pln_spread_29 : decode c_Pln_spread 29 = .ok (.getfield 58, 3) := by decide +kernel
theorem d_Pln_spread_32 : decode c_Pln_spread 32 = .ok (.invokevirtual 104, 3) := by decide +kernel
theorem d_Pln_spread_35 : decode c_Pln_spread 35 = .ok (.iconst 1, 1) := by decide +kernel
theorem d_Pln_spread_36 : decode c_Pln_spread 36 = .ok (.istore_n 1, 1) := by decide +kernel
theorem d_Pln_spread_37 : decode c_Pln_spread 37 = .ok (.iload_n 1, 1) := by decide +kernel
theorem d_Pln_spread_38 : decode c_Pln_spread 38 = .ok (.sipush 150, 3) := by decide +kernel
theorem d_Pln_spread_41 : decode c_Pln_spread 41 = .ok (.if_icmp .gt 65, 3) := by decide +kernel
theorem d_Pln_spread_44 : decode c_Pln_spread 44 = .ok (.iconst 0, 1) := by decide +kernel
theorem d_Pln_spread_45 : decode c_Pln_spread 45 = .ok (.istore_n 2, 1) := by decide +kernel
theorem d_Pln_spread_46 : decode c_Pln_spread 46 = .ok (.iload_n 2, 1) := by decide +kernel
theorem d_Pln_spread_47 : decode c_Pln_spread 47 = .ok (.iconst 3, 1) := by decide +kernel
theorem d_Pln_spread_48 : decode c_Pln_spread 48 = .ok (.if_icmp .ge 15, 3) := by decide +kernel
theorem d_Pln_spread_51 : decode c_Pln_spread 51 = .ok (.aload_n 0, 1) := by decide +kernel
theorem d_Pln_spread_52 : decode c_Pln_spread 52 = .ok (.iload_n 1, 1) := by decide +kernel
theorem d_Pln_spread_53 : decode c_Pln_spread 53 = .ok (.iload_n 2, 1) := by decide +kernel
theorem d_Pln_spread_54 : decode c_Pln_spread 54 = .ok (.invokevirtual 138, 3) := by decide +kernel
theorem d_Pln_spread_57 : decode c_Pln_spread 57 = .ok (.iinc 2 1, 3) := by decide +kernel
theorem d_Pln_spread_60 : decode c_Pln_spread 60 = .ok (.goto (-14), 3) := by decide +kernel
theorem d_Pln_spread_63 : decode c_Pln_spread 63 = .ok (.iconst 0, 1) := by decide +kernel
theorem d_Pln_spread_64 : decode c_Pln_spread 64 = .ok (.istore_n 2, 1) := by decide +kernel
theorem d_Pln_spread_65 : decode c_Pln_spread 65 = .ok (.iload_n 2, 1) := by decide +kernel
theorem d_Pln_spread_66 : decode c_Pln_spread 66 = .ok (.iconst 2, 1) := by decide +kernel
theorem d_Pln_spread_67 : decode c_Pln_spread 67 = .ok (.if_icmp .ge 15, 3) := by decide +kernel
theorem d_Pln_spread_70 : decode c_Pln_spread 70 = .ok (.aload_n 0, 1) := by decide +kernel
theorem d_Pln_spread_71 : decode c_Pln_spread 71 = .ok (.iload_n 1, 1) := by decide +kernel
theorem d_Pln_spread_72 : decode c_Pln_spread 72 = .ok (.iload_n 2, 1) := by decide +kernel
theorem d_Pln_spread_73 : decode c_Pln_spread 73 = .ok (.invokevirtual 141, 3) := by decide +kernel
theorem d_Pln_spread_76 : decode c_Pln_spread 76 = .ok (.iinc 2 1, 3) := by decide +kernel
theorem d_Pln_spread_79 : decode c_Pln_spread 79 = .ok (.goto (-14), 3) := by decide +kernel
theorem d_Pln_spread_82 : decode c_Pln_spread 82 = .ok (.aload_n 0, 1) := by decide +kernel
theorem d_Pln_spread_83 : decode c_Pln_spread 83 = .ok (.iload_n 1, 1) := by decide +kernel
theorem d_Pln_spread_84 : decode c_Pln_spread 84 = .ok (.iconst 2, 1) := by decide +kernel
theorem d_Pln_spread_85 : decode c_Pln_spread 85 = .ok (.invokevirtual 131, 3) := by decide +kernel
theorem d_Pln_spread_88 : decode c_Pln_spread 88 = .ok (.aload_n 0, 1) := by decide +kernel
theorem d_Pln_spread_89 : decode c_Pln_spread 89 = .ok (.getfield 58, 3) := by decide +kernel
theorem d_Pln_spread_92 : decode c_Pln_spread 92 = .ok (.invokevirtual 144, 3) := by decide +kernel
theorem d_Pln_spread_95 : decode c_Pln_spread 95 = .ok (.ifCond .eq 5, 3) := by decide +kernel
theorem d_Pln_spread_98 : decode c_Pln_spread 98 = .ok (.iload_n 1, 1) := by decide +kernel
theorem d_Pln_spread_99 : decode c_Pln_spread 99 = .ok (.ireturn, 1) := by decide +kernel
theorem d_Pln_spread_100 : decode c_Pln_spread 100 = .ok (.iinc 1 1, 3) := by decide +kernel
theorem d_Pln_spread_103 : decode c_Pln_spread 103 = .ok (.goto (-66), 3) := by decide +kernel
theorem d_Pln_spread_106 : decode c_Pln_spread 106 = .ok (.iconst (-1), 1) := by decide +kernel
theorem d_Pln_spread_107 : decode c_Pln_spread 107 = .ok (.ireturn, 1) := by decide +kernel
abbrev c_Pln_stepOn : ByteArray := prog_7_method_8_code
abbrev y_Pln_stepOn : MethodName := ⟨"FleetFloor$Planner", "stepOn", "(II)V"⟩
theorem d_Pln_stepOn_0 : decode c_Pln_stepOn 0 = .ok (.aload_n 0, 1) := by decide +kernel
theorem d_Pln_stepOn_1 : decode c_Pln_stepOn 1 = .ok (.iload_n 1, 1) := by decide +kernel
theorem d_Pln_stepOn_2 : decode c_Pln_stepOn 2 = .ok (.iconst 1, 1) := by decide +kernel
theorem d_Pln_stepOn_3 : decode c_Pln_stepOn 3 = .ok (.isub, 1) := by decide +kernel
theorem d_Pln_stepOn_4 : decode c_Pln_stepOn 4 = .ok (.iload_n 2, 1) := by decide +kernel
theorem d_Pln_stepOn_5 : decode c_Pln_stepOn 5 = .ok (.invokevirtual 131, 3) := by decide +kernel
theorem d_Pln_stepOn_8 : decode c_Pln_stepOn 8 = .ok (.astore_n 3, 1) := by decide +kernel
theorem d_Pln_stepOn_9 : decode c_Pln_stepOn 9 = .ok (.aload_n 0, 1) := by decide +kernel
theorem d_Pln_stepOn_10 : decode c_Pln_stepOn 10 = .ok (.iload_n 1, 1) := by decide +kernel
theorem d_Pln_stepOn_11 : decode c_Pln_stepOn 11 = .ok (.iload_n 2, 1) := by decide +kernel
theorem d_Pln_stepOn_12 : decode c_Pln_stepOn 12 = .ok (.invokevirtual 131, 3) := by decide +kernel
theorem d_Pln_stepOn_15 : decode c_Pln_stepOn 15 = .ok (.astore 4, 2) := by decide +kernel
theorem d_Pln_stepOn_17 : decode c_Pln_stepOn 17 = .ok (.aload 4, 2) := by decide +kernel
theorem d_Pln_stepOn_19 : decode c_Pln_stepOn 19 = .ok (.aload_n 3, 1) := by decide +kernel
theorem d_Pln_stepOn_20 : decode c_Pln_stepOn 20 = .ok (.invokevirtual 148, 3) := by decide +kernel
theorem d_Pln_stepOn_23 : decode c_Pln_stepOn 23 = .ok (.aload 4, 2) := by decide +kernel
theorem d_Pln_stepOn_25 : decode c_Pln_stepOn 25 = .ok (.aload_n 0, 1) := by decide +kernel
theorem d_Pln_stepOn_26 : decode c_Pln_stepOn 26 = .ok (.getfield 21, 3) := by decide +kernel
theorem d_Pln_stepOn_29 : decode c_Pln_stepOn 29 = .ok (.iload_n 1, 1) := by decide +kernel
theorem d_Pln_stepOn_30 : decode c_Pln_stepOn 30 = .ok (.aaload, 1) := by decide +kernel
theorem d_Pln_stepOn_31 : decode c_Pln_stepOn 31 = .ok (.invokevirtual 111, 3) := by decide +kernel
theorem d_Pln_stepOn_34 : decode c_Pln_stepOn 34 = .ok (.aload_n 0, 1) := by decide +kernel
theorem d_Pln_stepOn_35 : decode c_Pln_stepOn 35 = .ok (.getfield 35, 3) := by decide +kernel
theorem d_Pln_stepOn_38 : decode c_Pln_stepOn 38 = .ok (.aload_n 3, 1) := by decide +kernel
theorem d_Pln_stepOn_39 : decode c_Pln_stepOn 39 = .ok (.invokevirtual 100, 3) := by decide +kernel
theorem d_Pln_stepOn_42 : decode c_Pln_stepOn 42 = .ok (.aload_n 0, 1) := by decide +kernel
theorem d_Pln_stepOn_43 : decode c_Pln_stepOn 43 = .ok (.getfield 35, 3) := by decide +kernel
theorem d_Pln_stepOn_46 : decode c_Pln_stepOn 46 = .ok (.aload_n 0, 1) := by decide +kernel
theorem d_Pln_stepOn_47 : decode c_Pln_stepOn 47 = .ok (.getfield 25, 3) := by decide +kernel
theorem d_Pln_stepOn_50 : decode c_Pln_stepOn 50 = .ok (.iload_n 1, 1) := by decide +kernel
theorem d_Pln_stepOn_51 : decode c_Pln_stepOn 51 = .ok (.aaload, 1) := by decide +kernel
theorem d_Pln_stepOn_52 : decode c_Pln_stepOn 52 = .ok (.invokevirtual 111, 3) := by decide +kernel
theorem d_Pln_stepOn_55 : decode c_Pln_stepOn 55 = .ok (.aload 4, 2) := by decide +kernel
theorem d_Pln_stepOn_57 : decode c_Pln_stepOn 57 = .ok (.aload_n 0, 1) := by decide +kernel
theorem d_Pln_stepOn_58 : decode c_Pln_stepOn 58 = .ok (.getfield 35, 3) := by decide +kernel
theorem d_Pln_stepOn_61 : decode c_Pln_stepOn 61 = .ok (.invokevirtual 151, 3) := by decide +kernel
theorem d_Pln_stepOn_64 : decode c_Pln_stepOn 64 = .ok (.return_, 1) := by decide +kernel
abbrev c_Pln_changeLeg : ByteArray := prog_7_method_9_code
abbrev y_Pln_changeLeg : MethodName := ⟨"FleetFloor$Planner", "changeLeg", "(II)V"⟩
theorem d_Pln_changeLeg_0 : decode c_Pln_changeLeg 0 = .ok (.aload_n 0, 1) := by decide +kernel
theorem d_Pln_changeLeg_1 : decode c_Pln_changeLeg 1 = .ok (.iload_n 1, 1) := by decide +kernel
theorem d_Pln_changeLeg_2 : decode c_Pln_changeLeg 2 = .ok (.iload_n 2, 1) := by decide +kernel
theorem d_Pln_changeLeg_3 : decode c_Pln_changeLeg 3 = .ok (.invokevirtual 131, 3) := by decide +kernel
theorem d_Pln_changeLeg_6 : decode c_Pln_changeLeg 6 = .ok (.aload_n 0, 1) := by decide +kernel
theorem d_Pln_changeLeg_7 : decode c_Pln_changeLeg 7 = .ok (.iload_n 2, 1) := by decide +kernel
theorem d_Pln_changeLeg_8 : decode c_Pln_changeLeg 8 = .ok (.invokevirtual 154, 3) := by decide +kernel
theorem d_Pln_changeLeg_11 : decode c_Pln_changeLeg 11 = .ok (.invokevirtual 144, 3) := by decide +kernel
theorem d_Pln_changeLeg_14 : decode c_Pln_changeLeg 14 = .ok (.ifCond .eq 33, 3) := by decide +kernel
theorem d_Pln_changeLeg_17 : decode c_Pln_changeLeg 17 = .ok (.aload_n 0, 1) := by decide +kernel
theorem d_Pln_changeLeg_18 : decode c_Pln_changeLeg 18 = .ok (.iload_n 1, 1) := by decide +kernel
theorem d_Pln_changeLeg_19 : decode c_Pln_changeLeg 19 = .ok (.iload_n 2, 1) := by decide +kernel
theorem d_Pln_changeLeg_20 : decode c_Pln_changeLeg 20 = .ok (.invokevirtual 131, 3) := by decide +kernel
theorem d_Pln_changeLeg_23 : decode c_Pln_changeLeg 23 = .ok (.aload_n 0, 1) := by decide +kernel
theorem d_Pln_changeLeg_24 : decode c_Pln_changeLeg 24 = .ok (.iload_n 2, 1) := by decide +kernel
theorem d_Pln_changeLeg_25 : decode c_Pln_changeLeg 25 = .ok (.invokevirtual 154, 3) := by decide +kernel
theorem d_Pln_changeLeg_28 : decode c_Pln_changeLeg 28 = .ok (.invokevirtual 121, 3) := by decide +kernel
theorem d_Pln_changeLeg_31 : decode c_Pln_changeLeg 31 = .ok (.aload_n 0, 1) := by decide +kernel
theorem d_Pln_changeLeg_32 : decode c_Pln_changeLeg 32 = .ok (.iload_n 1, 1) := by decide +kernel
theorem d_Pln_changeLeg_33 : decode c_Pln_changeLeg 33 = .ok (.iload_n 2, 1) := by decide +kernel
theorem d_Pln_changeLeg_34 : decode c_Pln_changeLeg 34 = .ok (.iconst 1, 1) := by decide +kernel
theorem d_Pln_changeLeg_35 : decode c_Pln_changeLeg 35 = .ok (.iadd, 1) := by decide +kernel
theorem d_Pln_changeLeg_36 : decode c_Pln_changeLeg 36 = .ok (.invokevirtual 131, 3) := by decide +kernel
theorem d_Pln_changeLeg_39 : decode c_Pln_changeLeg 39 = .ok (.aload_n 0, 1) := by decide +kernel
theorem d_Pln_changeLeg_40 : decode c_Pln_changeLeg 40 = .ok (.iload_n 2, 1) := by decide +kernel
theorem d_Pln_changeLeg_41 : decode c_Pln_changeLeg 41 = .ok (.invokevirtual 154, 3) := by decide +kernel
theorem d_Pln_changeLeg_44 : decode c_Pln_changeLeg 44 = .ok (.invokevirtual 104, 3) := by decide +kernel
theorem d_Pln_changeLeg_47 : decode c_Pln_changeLeg 47 = .ok (.return_, 1) := by decide +kernel
abbrev c_Pln_goalOf : ByteArray := prog_7_method_10_code
abbrev y_Pln_goalOf : MethodName := ⟨"FleetFloor$Planner", "goalOf", "(I)I"⟩
theorem d_Pln_goalOf_0 : decode c_Pln_goalOf 0 = .ok (.iload_n 1, 1) := by decide +kernel
theorem d_Pln_goalOf_1 : decode c_Pln_goalOf 1 = .ok (.ifCond .ne 10, 3) := by decide +kernel
theorem d_Pln_goalOf_4 : decode c_Pln_goalOf 4 = .ok (.aload_n 0, 1) := by decide +kernel
theorem d_Pln_goalOf_5 : decode c_Pln_goalOf 5 = .ok (.getfield 48, 3) := by decide +kernel
theorem d_Pln_goalOf_8 : decode c_Pln_goalOf 8 = .ok (.goto 19, 3) := by decide +kernel
theorem d_Pln_goalOf_11 : decode c_Pln_goalOf 11 = .ok (.iload_n 1, 1) := by decide +kernel
theorem d_Pln_goalOf_12 : decode c_Pln_goalOf 12 = .ok (.iconst 1, 1) := by decide +kernel
theorem d_Pln_goalOf_13 : decode c_Pln_goalOf 13 = .ok (.if_icmp .ne 10, 3) := by decide +kernel
theorem d_Pln_goalOf_16 : decode c_Pln_goalOf 16 = .ok (.aload_n 0, 1) := by decide +kernel
theorem d_Pln_goalOf_17 : decode c_Pln_goalOf 17 = .ok (.getfield 52, 3) := by decide +kernel
theorem d_Pln_goalOf_20 : decode c_Pln_goalOf 20 = .ok (.goto 7, 3) := by decide +kernel
theorem d_Pln_goalOf_23 : decode c_Pln_goalOf 23 = .ok (.aload_n 0, 1) := by decide +kernel
theorem d_Pln_goalOf_24 : decode c_Pln_goalOf 24 = .ok (.getfield 58, 3) := by decide +kernel
theorem d_Pln_goalOf_27 : decode c_Pln_goalOf 27 = .ok (.ireturn, 1) := by decide +kernel
abbrev c_Pln_prune : ByteArray := prog_7_method_11_code
abbrev y_Pln_prune : MethodName := ⟨"FleetFloor$Planner", "prune", "()V"⟩
theorem d_Pln_prune_0 : decode c_Pln_prune 0 = .ok (.iconst 0, 1) := by decide +kernel
theorem d_Pln_prune_1 : decode c_Pln_prune 1 = .ok (.istore_n 1, 1) := by decide +kernel
theorem d_Pln_prune_2 : decode c_Pln_prune 2 = .ok (.iload_n 1, 1) := by decide +kernel
theorem d_Pln_prune_3 : decode c_Pln_prune 3 = .ok (.iconst 3, 1) := by decide +kernel
theorem d_Pln_prune_4 : decode c_Pln_prune 4 = .ok (.if_icmp .ge 21, 3) := by decide +kernel
theorem d_Pln_prune_7 : decode c_Pln_prune 7 = .ok (.aload_n 0, 1) := by decide +kernel
theorem d_Pln_prune_8 : decode c_Pln_prune 8 = .ok (.aload_n 0, 1) := by decide +kernel
theorem d_Pln_prune_9 : decode c_Pln_prune 9 = .ok (.getfield 67, 3) := by decide +kernel
theorem d_Pln_prune_12 : decode c_Pln_prune 12 = .ok (.iload_n 1, 1) := by decide +kernel
theorem d_Pln_prune_13 : decode c_Pln_prune 13 = .ok (.invokevirtual 131, 3) := by decide +kernel
theorem d_Pln_prune_16 : decode c_Pln_prune 16 = .ok (.invokevirtual 135, 3) := by decide +kernel
theorem d_Pln_prune_19 : decode c_Pln_prune 19 = .ok (.iinc 1 1, 3) := by decide +kernel
theorem d_Pln_prune_22 : decode c_Pln_prune 22 = .ok (.goto (-20), 3) := by decide +kernel
theorem d_Pln_prune_25 : decode c_Pln_prune 25 = .ok (.aload_n 0, 1) := by decide +kernel
theorem d_Pln_prune_26 : decode c_Pln_prune 26 = .ok (.aload_n 0, 1) := by decide +kernel
theorem d_Pln_prune_27 : decode c_Pln_prune 27 = .ok (.getfield 67, 3) := by decide +kernel
theorem d_Pln_prune_30 : decode c_Pln_prune 30 = .ok (.iconst 2, 1) := by decide +kernel
theorem d_Pln_prune_31 : decode c_Pln_prune 31 = .ok (.invokevirtual 131, 3) := by decide +kernel
theorem d_Pln_prune_34 : decode c_Pln_prune 34 = .ok (.aload_n 0, 1) := by decide +kernel
theorem d_Pln_prune_35 : decode c_Pln_prune 35 = .ok (.getfield 58, 3) := by decide +kernel
theorem d_Pln_prune_38 : decode c_Pln_prune 38 = .ok (.invokevirtual 104, 3) := by decide +kernel
theorem d_Pln_prune_41 : decode c_Pln_prune 41 = .ok (.aload_n 0, 1) := by decide +kernel
theorem d_Pln_prune_42 : decode c_Pln_prune 42 = .ok (.getfield 67, 3) := by decide +kernel
theorem d_Pln_prune_45 : decode c_Pln_prune 45 = .ok (.iconst 1, 1) := by decide +kernel
theorem d_Pln_prune_46 : decode c_Pln_prune 46 = .ok (.isub, 1) := by decide +kernel
theorem d_Pln_prune_47 : decode c_Pln_prune 47 = .ok (.istore_n 1, 1) := by decide +kernel
theorem d_Pln_prune_48 : decode c_Pln_prune 48 = .ok (.iload_n 1, 1) := by decide +kernel
theorem d_Pln_prune_49 : decode c_Pln_prune 49 = .ok (.ifCond .lt 78, 3) := by decide +kernel
theorem d_Pln_prune_52 : decode c_Pln_prune 52 = .ok (.aload_n 0, 1) := by decide +kernel
theorem d_Pln_prune_53 : decode c_Pln_prune 53 = .ok (.getfield 32, 3) := by decide +kernel
theorem d_Pln_prune_56 : decode c_Pln_prune 56 = .ok (.invokevirtual 135, 3) := by decide +kernel
theorem d_Pln_prune_59 : decode c_Pln_prune 59 = .ok (.iconst 2, 1) := by decide +kernel
theorem d_Pln_prune_60 : decode c_Pln_prune 60 = .ok (.istore_n 2, 1) := by decide +kernel
theorem d_Pln_prune_61 : decode c_Pln_prune 61 = .ok (.iload_n 2, 1) := by decide +kernel
theorem d_Pln_prune_62 : decode c_Pln_prune 62 = .ok (.ifCond .lt 59, 3) := by decide +kernel
theorem d_Pln_prune_65 : decode c_Pln_prune 65 = .ok (.aload_n 0, 1) := by decide +kernel
theorem d_Pln_prune_66 : decode c_Pln_prune 66 = .ok (.getfield 32, 3) := by decide +kernel
theorem d_Pln_prune_69 : decode c_Pln_prune 69 = .ok (.aload_n 0, 1) := by decide +kernel
theorem d_Pln_prune_70 : decode c_Pln_prune 70 = .ok (.iload_n 2, 1) := by decide +kernel
theorem d_Pln_prune_71 : decode c_Pln_prune 71 = .ok (.invokevirtual 154, 3) := by decide +kernel
theorem d_Pln_prune_74 : decode c_Pln_prune 74 = .ok (.invokevirtual 144, 3) := by decide +kernel
theorem d_Pln_prune_77 : decode c_Pln_prune 77 = .ok (.istore_n 3, 1) := by decide +kernel
theorem d_Pln_prune_78 : decode c_Pln_prune 78 = .ok (.aload_n 0, 1) := by decide +kernel
theorem d_Pln_prune_79 : decode c_Pln_prune 79 = .ok (.getfield 32, 3) := by decide +kernel
theorem d_Pln_prune_82 : decode c_Pln_prune 82 = .ok (.aload_n 0, 1) := by decide +kernel
theorem d_Pln_prune_83 : decode c_Pln_prune 83 = .ok (.iload_n 1, 1) := by decide +kernel
theorem d_Pln_prune_84 : decode c_Pln_prune 84 = .ok (.iconst 1, 1) := by decide +kernel
theorem d_Pln_prune_85 : decode c_Pln_prune 85 = .ok (.iadd, 1) := by decide +kernel
theorem d_Pln_prune_86 : decode c_Pln_prune 86 = .ok (.iload_n 2, 1) := by decide +kernel
theorem d_Pln_prune_87 : decode c_Pln_prune 87 = .ok (.invokevirtual 131, 3) := by decide +kernel
theorem d_Pln_prune_90 : decode c_Pln_prune 90 = .ok (.invokevirtual 100, 3) := by decide +kernel
theorem d_Pln_prune_93 : decode c_Pln_prune 93 = .ok (.iload_n 3, 1) := by decide +kernel
theorem d_Pln_prune_94 : decode c_Pln_prune 94 = .ok (.ifCond .eq 15, 3) := by decide +kernel
theorem d_Pln_prune_97 : decode c_Pln_prune 97 = .ok (.aload_n 0, 1) := by decide +kernel
theorem d_Pln_prune_98 : decode c_Pln_prune 98 = .ok (.getfield 32, 3) := by decide +kernel
theorem d_Pln_prune_101 : decode c_Pln_prune 101 = .ok (.aload_n 0, 1) := by decide +kernel
theorem d_Pln_prune_102 : decode c_Pln_prune 102 = .ok (.iload_n 2, 1) := by decide +kernel
theorem d_Pln_prune_103 : decode c_Pln_prune 103 = .ok (.invokevirtual 154, 3) := by decide +kernel
theorem d_Pln_prune_106 : decode c_Pln_prune 106 = .ok (.invokevirtual 104, 3) := by decide +kernel
theorem d_Pln_prune_109 : decode c_Pln_prune 109 = .ok (.aload_n 0, 1) := by decide +kernel
theorem d_Pln_prune_110 : decode c_Pln_prune 110 = .ok (.iload_n 1, 1) := by decide +kernel
theorem d_Pln_prune_111 : decode c_Pln_prune 111 = .ok (.iload_n 2, 1) := by decide +kernel
theorem d_Pln_prune_112 : decode c_Pln_prune 112 = .ok (.invokevirtual 157, 3) := by decide +kernel
theorem d_Pln_prune_115 : decode c_Pln_prune 115 = .ok (.iinc 2 (-1), 3) := by decide +kernel
theorem d_Pln_prune_118 : decode c_Pln_prune 118 = .ok (.goto (-57), 3) := by decide +kernel
theorem d_Pln_prune_121 : decode c_Pln_prune 121 = .ok (.iinc 1 (-1), 3) := by decide +kernel
theorem d_Pln_prune_124 : decode c_Pln_prune 124 = .ok (.goto (-76), 3) := by decide +kernel
theorem d_Pln_prune_127 : decode c_Pln_prune 127 = .ok (.return_, 1) := by decide +kernel
abbrev c_Pln_keepThoseBefore : ByteArray := prog_7_method_12_code
abbrev y_Pln_keepThoseBefore : MethodName := ⟨"FleetFloor$Planner", "keepThoseBefore", "(II)V"⟩
theorem d_Pln_keepThoseBefore_0 : decode c_Pln_keepThoseBefore 0 = .ok (.aload_n 0, 1) := by decide +kernel
theorem d_Pln_keepThoseBefore_1 : decode c_Pln_keepThoseBefore 1 = .ok (.getfield 35, 3) := by decide +kernel
theorem d_Pln_keepThoseBefore_4 : decode c_Pln_keepThoseBefore 4 = .ok (.aload_n 0, 1) := by decide +kernel
theorem d_Pln_keepThoseBefore_5 : decode c_Pln_keepThoseBefore 5 = .ok (.getfield 32, 3) := by decide +kernel
theorem d_Pln_keepThoseBefore_8 : decode c_Pln_keepThoseBefore 8 = .ok (.invokevirtual 148, 3) := by decide +kernel
theorem d_Pln_keepThoseBefore_11 : decode c_Pln_keepThoseBefore 11 = .ok (.aload_n 0, 1) := by decide +kernel
theorem d_Pln_keepThoseBefore_12 : decode c_Pln_keepThoseBefore 12 = .ok (.getfield 35, 3) := by decide +kernel
theorem d_Pln_keepThoseBefore_15 : decode c_Pln_keepThoseBefore 15 = .ok (.aload_n 0, 1) := by decide +kernel
theorem d_Pln_keepThoseBefore_16 : decode c_Pln_keepThoseBefore 16 = .ok (.getfield 32, 3) := by decide +kernel
theorem d_Pln_keepThoseBefore_19 : decode c_Pln_keepThoseBefore 19 = .ok (.invokevirtual 151, 3) := by decide +kernel
theorem d_Pln_keepThoseBefore_22 : decode c_Pln_keepThoseBefore 22 = .ok (.aload_n 0, 1) := by decide +kernel
theorem d_Pln_keepThoseBefore_23 : decode c_Pln_keepThoseBefore 23 = .ok (.iload_n 1, 1) := by decide +kernel
theorem d_Pln_keepThoseBefore_24 : decode c_Pln_keepThoseBefore 24 = .ok (.iload_n 2, 1) := by decide +kernel
theorem d_Pln_keepThoseBefore_25 : decode c_Pln_keepThoseBefore 25 = .ok (.invokevirtual 131, 3) := by decide +kernel
theorem d_Pln_keepThoseBefore_28 : decode c_Pln_keepThoseBefore 28 = .ok (.aload_n 0, 1) := by decide +kernel
theorem d_Pln_keepThoseBefore_29 : decode c_Pln_keepThoseBefore 29 = .ok (.getfield 35, 3) := by decide +kernel
theorem d_Pln_keepThoseBefore_32 : decode c_Pln_keepThoseBefore 32 = .ok (.invokevirtual 111, 3) := by decide +kernel
theorem d_Pln_keepThoseBefore_35 : decode c_Pln_keepThoseBefore 35 = .ok (.return_, 1) := by decide +kernel
abbrev c_Pln_follow : ByteArray := prog_7_method_13_code
abbrev y_Pln_follow : MethodName := ⟨"FleetFloor$Planner", "follow", "()V"⟩
theorem d_Pln_follow_0 : decode c_Pln_follow 0 = .ok (.aload_n 0, 1) := by decide +kernel
theorem d_Pln_follow_1 : decode c_Pln_follow 1 = .ok (.getfield 38, 3) := by decide +kernel
theorem d_Pln_follow_4 : decode c_Pln_follow 4 = .ok (.iconst 0, 1) := by decide +kernel
theorem d_Pln_follow_5 : decode c_Pln_follow 5 = .ok (.aload_n 0, 1) := by decide +kernel
theorem d_Pln_follow_6 : decode c_Pln_follow 6 = .ok (.getfield 58, 3) := by decide +kernel
theorem d_Pln_follow_9 : decode c_Pln_follow 9 = .ok (.iastore, 1) := by decide +kernel
theorem d_Pln_follow_10 : decode c_Pln_follow 10 = .ok (.aload_n 0, 1) := by decide +kernel
theorem d_Pln_follow_11 : decode c_Pln_follow 11 = .ok (.iconst (-1), 1) := by decide +kernel
theorem d_Pln_follow_12 : decode c_Pln_follow 12 = .ok (.putfield 91, 3) := by decide +kernel
theorem d_Pln_follow_15 : decode c_Pln_follow 15 = .ok (.iconst 0, 1) := by decide +kernel
theorem d_Pln_follow_16 : decode c_Pln_follow 16 = .ok (.istore_n 1, 1) := by decide +kernel
theorem d_Pln_follow_17 : decode c_Pln_follow 17 = .ok (.iconst 1, 1) := by decide +kernel
theorem d_Pln_follow_18 : decode c_Pln_follow 18 = .ok (.istore_n 2, 1) := by decide +kernel
theorem d_Pln_follow_19 : decode c_Pln_follow 19 = .ok (.iload_n 2, 1) := by decide +kernel
theorem d_Pln_follow_20 : decode c_Pln_follow 20 = .ok (.aload_n 0, 1) := by decide +kernel
theorem d_Pln_follow_21 : decode c_Pln_follow 21 = .ok (.getfield 67, 3) := by decide +kernel
theorem d_Pln_follow_24 : decode c_Pln_follow 24 = .ok (.if_icmp .gt 67, 3) := by decide +kernel
theorem d_Pln_follow_27 : decode c_Pln_follow 27 = .ok (.iload_n 2, 1) := by decide +kernel
theorem d_Pln_follow_28 : decode c_Pln_follow 28 = .ok (.aload_n 0, 1) := by decide +kernel
theorem d_Pln_follow_29 : decode c_Pln_follow 29 = .ok (.getfield 38, 3) := by decide +kernel
theorem d_Pln_follow_32 : decode c_Pln_follow 32 = .ok (.arraylength, 1) := by decide +kernel
theorem d_Pln_follow_33 : decode c_Pln_follow 33 = .ok (.if_icmp .ge 58, 3) := by decide +kernel
theorem d_Pln_follow_36 : decode c_Pln_follow 36 = .ok (.aload_n 0, 1) := by decide +kernel
theorem d_Pln_follow_37 : decode c_Pln_follow 37 = .ok (.getfield 38, 3) := by decide +kernel
theorem d_Pln_follow_40 : decode c_Pln_follow 40 = .ok (.iload_n 2, 1) := by decide +kernel
theorem d_Pln_follow_41 : decode c_Pln_follow 41 = .ok (.aload_n 0, 1) := by decide +kernel
theorem d_Pln_follow_42 : decode c_Pln_follow 42 = .ok (.iload_n 2, 1) := by decide +kernel
theorem d_Pln_follow_43 : decode c_Pln_follow 43 = .ok (.aload_n 0, 1) := by decide +kernel
theorem d_Pln_follow_44 : decode c_Pln_follow 44 = .ok (.getfield 38, 3) := by decide +kernel
theorem d_Pln_follow_47 : decode c_Pln_follow 47 = .ok (.iload_n 2, 1) := by decide +kernel
theorem d_Pln_follow_48 : decode c_Pln_follow 48 = .ok (.iconst 1, 1) := by decide +kernel
theorem d_Pln_follow_49 : decode c_Pln_follow 49 = .ok (.isub, 1) := by decide +kernel
theorem d_Pln_follow_50 : decode c_Pln_follow 50 = .ok (.iaload, 1) := by decide +kernel
theorem d_Pln_follow_51 : decode c_Pln_follow 51 = .ok (.iload_n 1, 1) := by decide +kernel
theorem d_Pln_follow_52 : decode c_Pln_follow 52 = .ok (.invokevirtual 160, 3) := by decide +kernel
theorem d_Pln_follow_55 : decode c_Pln_follow 55 = .ok (.iastore, 1) := by decide +kernel
theorem d_Pln_follow_56 : decode c_Pln_follow 56 = .ok (.aload_n 0, 1) := by decide +kernel
theorem d_Pln_follow_57 : decode c_Pln_follow 57 = .ok (.aload_n 0, 1) := by decide +kernel
theorem d_Pln_follow_58 : decode c_Pln_follow 58 = .ok (.getfield 38, 3) := by decide +kernel
theorem d_Pln_follow_61 : decode c_Pln_follow 61 = .ok (.iload_n 2, 1) := by decide +kernel
theorem d_Pln_follow_62 : decode c_Pln_follow 62 = .ok (.iaload, 1) := by decide +kernel
theorem d_Pln_follow_63 : decode c_Pln_follow 63 = .ok (.iload_n 1, 1) := by decide +kernel
theorem d_Pln_follow_64 : decode c_Pln_follow 64 = .ok (.invokevirtual 164, 3) := by decide +kernel
theorem d_Pln_follow_67 : decode c_Pln_follow 67 = .ok (.istore_n 3, 1) := by decide +kernel
theorem d_Pln_follow_68 : decode c_Pln_follow 68 = .ok (.iload_n 3, 1) := by decide +kernel
theorem d_Pln_follow_69 : decode c_Pln_follow 69 = .ok (.iconst 2, 1) := by decide +kernel
theorem d_Pln_follow_70 : decode c_Pln_follow 70 = .ok (.if_icmp .ne 13, 3) := by decide +kernel
theorem d_Pln_follow_73 : decode c_Pln_follow 73 = .ok (.iload_n 1, 1) := by decide +kernel
theorem d_Pln_follow_74 : decode c_Pln_follow 74 = .ok (.iconst 2, 1) := by decide +kernel
theorem d_Pln_follow_75 : decode c_Pln_follow 75 = .ok (.if_icmp .eq 8, 3) := by decide +kernel
theorem d_Pln_follow_78 : decode c_Pln_follow 78 = .ok (.aload_n 0, 1) := by decide +kernel
theorem d_Pln_follow_79 : decode c_Pln_follow 79 = .ok (.iload_n 2, 1) := by decide +kernel
theorem d_Pln_follow_80 : decode c_Pln_follow 80 = .ok (.putfield 91, 3) := by decide +kernel
theorem d_Pln_follow_83 : decode c_Pln_follow 83 = .ok (.iload_n 3, 1) := by decide +kernel
theorem d_Pln_follow_84 : decode c_Pln_follow 84 = .ok (.istore_n 1, 1) := by decide +kernel
theorem d_Pln_follow_85 : decode c_Pln_follow 85 = .ok (.iinc 2 1, 3) := by decide +kernel
theorem d_Pln_follow_88 : decode c_Pln_follow 88 = .ok (.goto (-69), 3) := by decide +kernel
theorem d_Pln_follow_91 : decode c_Pln_follow 91 = .ok (.return_, 1) := by decide +kernel
abbrev c_Pln_lowestStep : ByteArray := prog_7_method_14_code
abbrev y_Pln_lowestStep : MethodName := ⟨"FleetFloor$Planner", "lowestStep", "(III)I"⟩
theorem d_Pln_lowestStep_0 : decode c_Pln_lowestStep 0 = .ok (.iconst 0, 1) := by decide +kernel
theorem d_Pln_lowestStep_1 : decode c_Pln_lowestStep 1 = .ok (.istore 4, 2) := by decide +kernel
theorem d_Pln_lowestStep_3 : decode c_Pln_lowestStep 3 = .ok (.iload 4, 2) := by decide +kernel
theorem d_Pln_lowestStep_5 : decode c_Pln_lowestStep 5 = .ok (.iconst 4, 1) := by decide +kernel
theorem d_Pln_lowestStep_6 : decode c_Pln_lowestStep 6 = .ok (.if_icmp .ge 46, 3) := by decide +kernel
theorem d_Pln_lowestStep_9 : decode c_Pln_lowestStep 9 = .ok (.iload_n 2, 1) := by decide +kernel
theorem d_Pln_lowestStep_10 : decode c_Pln_lowestStep 10 = .ok (.iload 4, 2) := by decide +kernel
theorem d_Pln_lowestStep_12 : decode c_Pln_lowestStep 12 = .ok (.invokestatic 168, 3) := by decide +kernel
theorem d_Pln_lowestStep_15 : decode c_Pln_lowestStep 15 = .ok (.istore 5, 2) := by decide +kernel
theorem d_Pln_lowestStep_17 : decode c_Pln_lowestStep 17 = .ok (.iload 5, 2) := by decide +kernel
theorem d_Pln_lowestStep_19 : decode c_Pln_lowestStep 19 = .ok (.iconst (-1), 1) := by decide +kernel
theorem d_Pln_lowestStep_20 : decode c_Pln_lowestStep 20 = .ok (.if_icmp .eq 26, 3) := by decide +kernel
theorem d_Pln_lowestStep_23 : decode c_Pln_lowestStep 23 = .ok (.aload_n 0, 1) := by decide +kernel
theorem d_Pln_lowestStep_24 : decode c_Pln_lowestStep 24 = .ok (.iload_n 1, 1) := by decide +kernel
theorem d_Pln_lowestStep_25 : decode c_Pln_lowestStep 25 = .ok (.aload_n 0, 1) := by decide +kernel
theorem d_Pln_lowestStep_26 : decode c_Pln_lowestStep 26 = .ok (.iload 5, 2) := by decide +kernel
theorem d_Pln_lowestStep_28 : decode c_Pln_lowestStep 28 = .ok (.iload_n 3, 1) := by decide +kernel
theorem d_Pln_lowestStep_29 : decode c_Pln_lowestStep 29 = .ok (.invokevirtual 164, 3) := by decide +kernel
theorem d_Pln_lowestStep_32 : decode c_Pln_lowestStep 32 = .ok (.invokevirtual 131, 3) := by decide +kernel
theorem d_Pln_lowestStep_35 : decode c_Pln_lowestStep 35 = .ok (.iload 5, 2) := by decide +kernel
theorem d_Pln_lowestStep_37 : decode c_Pln_lowestStep 37 = .ok (.invokevirtual 144, 3) := by decide +kernel
theorem d_Pln_lowestStep_40 : decode c_Pln_lowestStep 40 = .ok (.ifCond .eq 6, 3) := by decide +kernel
theorem d_Pln_lowestStep_43 : decode c_Pln_lowestStep 43 = .ok (.iload 5, 2) := by decide +kernel
theorem d_Pln_lowestStep_45 : decode c_Pln_lowestStep 45 = .ok (.ireturn, 1) := by decide +kernel
theorem d_Pln_lowestStep_46 : decode c_Pln_lowestStep 46 = .ok (.iinc 4 1, 3) := by decide +kernel
theorem d_Pln_lowestStep_49 : decode c_Pln_lowestStep 49 = .ok (.goto (-46), 3) := by decide +kernel
theorem d_Pln_lowestStep_52 : decode c_Pln_lowestStep 52 = .ok (.iload_n 2, 1) := by decide +kernel
theorem d_Pln_lowestStep_53 : decode c_Pln_lowestStep 53 = .ok (.ireturn, 1) := by decide +kernel
abbrev c_Pln_legAt : ByteArray := prog_7_method_15_code
abbrev y_Pln_legAt : MethodName := ⟨"FleetFloor$Planner", "legAt", "(II)I"⟩
theorem d_Pln_legAt_0 : decode c_Pln_legAt 0 = .ok (.iload_n 2, 1) := by decide +kernel
theorem d_Pln_legAt_1 : decode c_Pln_legAt 1 = .ok (.istore_n 3, 1) := by decide +kernel
theorem d_Pln_legAt_2 : decode c_Pln_legAt 2 = .ok (.iload_n 3, 1) := by decide +kernel
theorem d_Pln_legAt_3 : decode c_Pln_legAt 3 = .ok (.ifCond .ne 13, 3) := by decide +kernel
theorem d_Pln_legAt_6 : decode c_Pln_legAt 6 = .ok (.iload_n 1, 1) := by decide +kernel
theorem d_Pln_legAt_7 : decode c_Pln_legAt 7 = .ok (.aload_n 0, 1) := by decide +kernel
theorem d_Pln_legAt_8 : decode c_Pln_legAt 8 = .ok (.getfield 48, 3) := by decide +kernel
theorem d_Pln_legAt_11 : decode c_Pln_legAt 11 = .ok (.if_icmp .ne 5, 3) := by decide +kernel
theorem d_Pln_legAt_14 : decode c_Pln_legAt 14 = .ok (.iconst 1, 1) := by decide +kernel
theorem d_Pln_legAt_15 : decode c_Pln_legAt 15 = .ok (.istore_n 3, 1) := by decide +kernel
theorem d_Pln_legAt_16 : decode c_Pln_legAt 16 = .ok (.iload_n 3, 1) := by decide +kernel
theorem d_Pln_legAt_17 : decode c_Pln_legAt 17 = .ok (.iconst 1, 1) := by decide +kernel
theorem d_Pln_legAt_18 : decode c_Pln_legAt 18 = .ok (.if_icmp .ne 13, 3) := by decide +kernel
theorem d_Pln_legAt_21 : decode c_Pln_legAt 21 = .ok (.iload_n 1, 1) := by decide +kernel
theorem d_Pln_legAt_22 : decode c_Pln_legAt 22 = .ok (.aload_n 0, 1) := by decide +kernel
theorem d_Pln_legAt_23 : decode c_Pln_legAt 23 = .ok (.getfield 52, 3) := by decide +kernel
theorem d_Pln_legAt_26 : decode c_Pln_legAt 26 = .ok (.if_icmp .ne 5, 3) := by decide +kernel
theorem d_Pln_legAt_29 : decode c_Pln_legAt 29 = .ok (.iconst 2, 1) := by decide +kernel
theorem d_Pln_legAt_30 : decode c_Pln_legAt 30 = .ok (.istore_n 3, 1) := by decide +kernel
theorem d_Pln_legAt_31 : decode c_Pln_legAt 31 = .ok (.iload_n 3, 1) := by decide +kernel
theorem d_Pln_legAt_32 : decode c_Pln_legAt 32 = .ok (.ireturn, 1) := by decide +kernel
end
section
abbrev c_Law_open : ByteArray := method_3_code
abbrev y_Law_open : MethodName := ⟨"FleetFloorLaw", "open", "(LFleetFloor;[J)I"⟩
theorem d_Law_open_0 : decode c_Law_open 0 = .ok (.aload_n 1, 1) := by decide +kernel
theorem d_Law_open_1 : decode c_Law_open 1 = .ok (.iconst 0, 1) := by decide +kernel
theorem d_Law_open_2 : decode c_Law_open 2 = .ok (.aload_n 0, 1) := by decide +kernel
theorem d_Law_open_3 : decode c_Law_open 3 = .ok (.invokevirtual 7, 3) := by decide +kernel
theorem d_Law_open_6 : decode c_Law_open 6 = .ok (.i2l, 1) := by decide +kernel
theorem d_Law_open_7 : decode c_Law_open 7 = .ok (.lastore, 1) := by decide +kernel
theorem d_Law_open_8 : decode c_Law_open 8 = .ok (.goto 9, 3) := by decide +kernel
theorem d_Law_open_11 : decode c_Law_open 11 = .ok (.astore_n 2, 1) := by decide +kernel
theorem d_Law_open_12 : decode c_Law_open 12 = .ok (.iconst 1, 1) := by decide +kernel
theorem d_Law_open_13 : decode c_Law_open 13 = .ok (.ireturn, 1) := by decide +kernel
theorem d_Law_open_14 : decode c_Law_open 14 = .ok (.astore_n 2, 1) := by decide +kernel
theorem d_Law_open_15 : decode c_Law_open 15 = .ok (.iconst 2, 1) := by decide +kernel
theorem d_Law_open_16 : decode c_Law_open 16 = .ok (.ireturn, 1) := by decide +kernel
theorem d_Law_open_17 : decode c_Law_open 17 = .ok (.iconst 0, 1) := by decide +kernel
theorem d_Law_open_18 : decode c_Law_open 18 = .ok (.ireturn, 1) := by decide +kernel
abbrev c_Law_task : ByteArray := method_4_code
abbrev y_Law_task : MethodName := ⟨"FleetFloorLaw", "task", "(LFleetFloor;II[J)I"⟩
theorem d_Law_task_0 : decode c_Law_task 0 = .ok (.aload_n 3, 1) := by decide +kernel
theorem d_Law_task_1 : decode c_Law_task 1 = .ok (.iconst 0, 1) := by decide +kernel
theorem d_Law_task_2 : decode c_Law_task 2 = .ok (.aload_n 0, 1) := by decide +kernel
theorem d_Law_task_3 : decode c_Law_task 3 = .ok (.iload_n 1, 1) := by decide +kernel
theorem d_Law_task_4 : decode c_Law_task 4 = .ok (.iload_n 2, 1) := by decide +kernel
theorem d_Law_task_5 : decode c_Law_task 5 = .ok (.invokevirtual 17, 3) := by decide +kernel
theorem d_Law_task_8 : decode c_Law_task 8 = .ok (.i2l, 1) := by decide +kernel
theorem d_Law_task_9 : decode c_Law_task 9 = .ok (.lastore, 1) := by decide +kernel
theorem d_Law_task_10 : decode c_Law_task 10 = .ok (.goto 11, 3) := by decide +kernel
theorem d_Law_task_13 : decode c_Law_task 13 = .ok (.astore 4, 2) := by decide +kernel
theorem d_Law_task_15 : decode c_Law_task 15 = .ok (.iconst 1, 1) := by decide +kernel
theorem d_Law_task_16 : decode c_Law_task 16 = .ok (.ireturn, 1) := by decide +kernel
theorem d_Law_task_17 : decode c_Law_task 17 = .ok (.astore 4, 2) := by decide +kernel
theorem d_Law_task_19 : decode c_Law_task 19 = .ok (.iconst 2, 1) := by decide +kernel
theorem d_Law_task_20 : decode c_Law_task 20 = .ok (.ireturn, 1) := by decide +kernel
theorem d_Law_task_21 : decode c_Law_task 21 = .ok (.iconst 0, 1) := by decide +kernel
theorem d_Law_task_22 : decode c_Law_task 22 = .ok (.ireturn, 1) := by decide +kernel
abbrev c_Law_tick : ByteArray := method_5_code
abbrev y_Law_tick : MethodName := ⟨"FleetFloorLaw", "tick", "(LFleetFloor;[J)I"⟩
theorem d_Law_tick_0 : decode c_Law_tick 0 = .ok (.aload_n 1, 1) := by decide +kernel
theorem d_Law_tick_1 : decode c_Law_tick 1 = .ok (.iconst 0, 1) := by decide +kernel
theorem d_Law_tick_2 : decode c_Law_tick 2 = .ok (.aload_n 0, 1) := by decide +kernel
theorem d_Law_tick_3 : decode c_Law_tick 3 = .ok (.invokevirtual 21, 3) := by decide +kernel
theorem d_Law_tick_6 : decode c_Law_tick 6 = .ok (.i2l, 1) := by decide +kernel
theorem d_Law_tick_7 : decode c_Law_tick 7 = .ok (.lastore, 1) := by decide +kernel
theorem d_Law_tick_8 : decode c_Law_tick 8 = .ok (.goto 6, 3) := by decide +kernel
theorem d_Law_tick_11 : decode c_Law_tick 11 = .ok (.astore_n 2, 1) := by decide +kernel
theorem d_Law_tick_12 : decode c_Law_tick 12 = .ok (.iconst 1, 1) := by decide +kernel
theorem d_Law_tick_13 : decode c_Law_tick 13 = .ok (.ireturn, 1) := by decide +kernel
theorem d_Law_tick_14 : decode c_Law_tick 14 = .ok (.iconst 0, 1) := by decide +kernel
theorem d_Law_tick_15 : decode c_Law_tick 15 = .ok (.ireturn, 1) := by decide +kernel
abbrev c_Law_law : ByteArray := code
abbrev y_Law_law : MethodName := ⟨"FleetFloorLaw", "law", "([I)Z"⟩
theorem d_Law_law_0 : decode c_Law_law 0 = .ok (.new 8, 3) := by decide +kernel
theorem d_Law_law_3 : decode c_Law_law 3 = .ok (.dup, 1) := by decide +kernel
theorem d_Law_law_4 : decode c_Law_law 4 = .ok (.invokespecial 24, 3) := by decide +kernel
theorem d_Law_law_7 : decode c_Law_law 7 = .ok (.astore_n 1, 1) := by decide +kernel
theorem d_Law_law_8 : decode c_Law_law 8 = .ok (.new 25, 3) := by decide +kernel
theorem d_Law_law_11 : decode c_Law_law 11 = .ok (.dup, 1) := by decide +kernel
theorem d_Law_law_12 : decode c_Law_law 12 = .ok (.invokespecial 27, 3) := by decide +kernel
theorem d_Law_law_15 : decode c_Law_law 15 = .ok (.astore_n 2, 1) := by decide +kernel
theorem d_Law_law_16 : decode c_Law_law 16 = .ok (.iconst 1, 1) := by decide +kernel
theorem d_Law_law_17 : decode c_Law_law 17 = .ok (.newarray .long, 2) := by decide +kernel
theorem d_Law_law_19 : decode c_Law_law 19 = .ok (.astore_n 3, 1) := by decide +kernel
theorem d_Law_law_20 : decode c_Law_law 20 = .ok (.iconst 0, 1) := by decide +kernel
theorem d_Law_law_21 : decode c_Law_law 21 = .ok (.istore 4, 2) := by decide +kernel
theorem d_Law_law_23 : decode c_Law_law 23 = .ok (.iload 4, 2) := by decide +kernel
theorem d_Law_law_25 : decode c_Law_law 25 = .ok (.aload_n 0, 1) := by decide +kernel
theorem d_Law_law_26 : decode c_Law_law 26 = .ok (.arraylength, 1) := by decide +kernel
theorem d_Law_law_27 : decode c_Law_law 27 = .ok (.iconst 4, 1) := by decide +kernel
theorem d_Law_law_28 : decode c_Law_law 28 = .ok (.isub, 1) := by decide +kernel
theorem d_Law_law_29 : decode c_Law_law 29 = .ok (.if_icmp .gt 547, 3) := by decide +kernel
theorem d_Law_law_32 : decode c_Law_law 32 = .ok (.aload_n 0, 1) := by decide +kernel
theorem d_Law_law_33 : decode c_Law_law 33 = .ok (.iload 4, 2) := by decide +kernel
theorem d_Law_law_35 : decode c_Law_law 35 = .ok (.iaload, 1) := by decide +kernel
theorem d_Law_law_36 : decode c_Law_law 36 = .ok (.bipush 15, 2) := by decide +kernel
theorem d_Law_law_38 : decode c_Law_law 38 = .ok (.iand, 1) := by decide +kernel
theorem d_Law_law_39 : decode c_Law_law 39 = .ok (.tableswitch 531 0 12 #[65, 102, 146, 214, 258, 271, 308, 333, 358, 383, 420, 469, 506], 65) := by decide +kernel
theorem d_Law_law_104 : decode c_Law_law 104 = .ok (.aload_n 1, 1) := by decide +kernel
theorem d_Law_law_105 : decode c_Law_law 105 = .ok (.aload_n 0, 1) := by decide +kernel
theorem d_Law_law_106 : decode c_Law_law 106 = .ok (.iload 4, 2) := by decide +kernel
theorem d_Law_law_108 : decode c_Law_law 108 = .ok (.iconst 1, 1) := by decide +kernel
theorem d_Law_law_109 : decode c_Law_law 109 = .ok (.iadd, 1) := by decide +kernel
theorem d_Law_law_110 : decode c_Law_law 110 = .ok (.iaload, 1) := by decide +kernel
theorem d_Law_law_111 : decode c_Law_law 111 = .ok (.aload_n 0, 1) := by decide +kernel
theorem d_Law_law_112 : decode c_Law_law 112 = .ok (.iload 4, 2) := by decide +kernel
theorem d_Law_law_114 : decode c_Law_law 114 = .ok (.iconst 2, 1) := by decide +kernel
theorem d_Law_law_115 : decode c_Law_law 115 = .ok (.iadd, 1) := by decide +kernel
theorem d_Law_law_116 : decode c_Law_law 116 = .ok (.iaload, 1) := by decide +kernel
theorem d_Law_law_117 : decode c_Law_law 117 = .ok (.invokevirtual 28, 3) := by decide +kernel
theorem d_Law_law_120 : decode c_Law_law 120 = .ok (.aload_n 2, 1) := by decide +kernel
theorem d_Law_law_121 : decode c_Law_law 121 = .ok (.aload_n 0, 1) := by decide +kernel
theorem d_Law_law_122 : decode c_Law_law 122 = .ok (.iload 4, 2) := by decide +kernel
theorem d_Law_law_124 : decode c_Law_law 124 = .ok (.iconst 1, 1) := by decide +kernel
theorem d_Law_law_125 : decode c_Law_law 125 = .ok (.iadd, 1) := by decide +kernel
theorem d_Law_law_126 : decode c_Law_law 126 = .ok (.iaload, 1) := by decide +kernel
theorem d_Law_law_127 : decode c_Law_law 127 = .ok (.aload_n 0, 1) := by decide +kernel
theorem d_Law_law_128 : decode c_Law_law 128 = .ok (.iload 4, 2) := by decide +kernel
theorem d_Law_law_130 : decode c_Law_law 130 = .ok (.iconst 2, 1) := by decide +kernel
theorem d_Law_law_131 : decode c_Law_law 131 = .ok (.iadd, 1) := by decide +kernel
theorem d_Law_law_132 : decode c_Law_law 132 = .ok (.iaload, 1) := by decide +kernel
theorem d_Law_law_133 : decode c_Law_law 133 = .ok (.invokevirtual 32, 3) := by decide +kernel
theorem d_Law_law_136 : decode c_Law_law 136 = .ok (.if_icmp .eq 434, 3) := by decide +kernel
theorem d_Law_law_139 : decode c_Law_law 139 = .ok (.iconst 0, 1) := by decide +kernel
theorem d_Law_law_140 : decode c_Law_law 140 = .ok (.ireturn, 1) := by decide +kernel
theorem d_Law_law_141 : decode c_Law_law 141 = .ok (.aload_n 1, 1) := by decide +kernel
theorem d_Law_law_142 : decode c_Law_law 142 = .ok (.aload_n 3, 1) := by decide +kernel
theorem d_Law_law_143 : decode c_Law_law 143 = .ok (.invokestatic 33, 3) := by decide +kernel
theorem d_Law_law_146 : decode c_Law_law 146 = .ok (.istore 5, 2) := by decide +kernel
theorem d_Law_law_148 : decode c_Law_law 148 = .ok (.aload_n 2, 1) := by decide +kernel
theorem d_Law_law_149 : decode c_Law_law 149 = .ok (.invokevirtual 38, 3) := by decide +kernel
theorem d_Law_law_152 : decode c_Law_law 152 = .ok (.istore 6, 2) := by decide +kernel
theorem d_Law_law_154 : decode c_Law_law 154 = .ok (.aload_n 2, 1) := by decide +kernel
theorem d_Law_law_155 : decode c_Law_law 155 = .ok (.invokevirtual 39, 3) := by decide +kernel
theorem d_Law_law_158 : decode c_Law_law 158 = .ok (.iload 5, 2) := by decide +kernel
theorem d_Law_law_160 : decode c_Law_law 160 = .ok (.if_icmp .eq 5, 3) := by decide +kernel
theorem d_Law_law_163 : decode c_Law_law 163 = .ok (.iconst 0, 1) := by decide +kernel
theorem d_Law_law_164 : decode c_Law_law 164 = .ok (.ireturn, 1) := by decide +kernel
theorem d_Law_law_165 : decode c_Law_law 165 = .ok (.iload 5, 2) := by decide +kernel
theorem d_Law_law_167 : decode c_Law_law 167 = .ok (.ifCond .ne 15, 3) := by decide +kernel
theorem d_Law_law_170 : decode c_Law_law 170 = .ok (.aload_n 3, 1) := by decide +kernel
theorem d_Law_law_171 : decode c_Law_law 171 = .ok (.iconst 0, 1) := by decide +kernel
theorem d_Law_law_172 : decode c_Law_law 172 = .ok (.laload, 1) := by decide +kernel
theorem d_Law_law_173 : decode c_Law_law 173 = .ok (.iload 6, 2) := by decide +kernel
theorem d_Law_law_175 : decode c_Law_law 175 = .ok (.i2l, 1) := by decide +kernel
theorem d_Law_law_176 : decode c_Law_law 176 = .ok (.lcmp, 1) := by decide +kernel
theorem d_Law_law_177 : decode c_Law_law 177 = .ok (.ifCond .eq 5, 3) := by decide +kernel
theorem d_Law_law_180 : decode c_Law_law 180 = .ok (.iconst 0, 1) := by decide +kernel
theorem d_Law_law_181 : decode c_Law_law 181 = .ok (.ireturn, 1) := by decide +kernel
theorem d_Law_law_182 : decode c_Law_law 182 = .ok (.goto 388, 3) := by decide +kernel
theorem d_Law_law_185 : decode c_Law_law 185 = .ok (.aload_n 1, 1) := by decide +kernel
theorem d_Law_law_186 : decode c_Law_law 186 = .ok (.aload_n 0, 1) := by decide +kernel
theorem d_Law_law_187 : decode c_Law_law 187 = .ok (.iload 4, 2) := by decide +kernel
theorem d_Law_law_189 : decode c_Law_law 189 = .ok (.iconst 1, 1) := by decide +kernel
theorem d_Law_law_190 : decode c_Law_law 190 = .ok (.iadd, 1) := by decide +kernel
theorem d_Law_law_191 : decode c_Law_law 191 = .ok (.iaload, 1) := by decide +kernel
theorem d_Law_law_192 : decode c_Law_law 192 = .ok (.aload_n 0, 1) := by decide +kernel
theorem d_Law_law_193 : decode c_Law_law 193 = .ok (.iload 4, 2) := by decide +kernel
theorem d_Law_law_195 : decode c_Law_law 195 = .ok (.iconst 2, 1) := by decide +kernel
theorem d_Law_law_196 : decode c_Law_law 196 = .ok (.iadd, 1) := by decide +kernel
theorem d_Law_law_197 : decode c_Law_law 197 = .ok (.iaload, 1) := by decide +kernel
theorem d_Law_law_198 : decode c_Law_law 198 = .ok (.aload_n 3, 1) := by decide +kernel
theorem d_Law_law_199 : decode c_Law_law 199 = .ok (.invokestatic 42, 3) := by decide +kernel
theorem d_Law_law_202 : decode c_Law_law 202 = .ok (.istore 5, 2) := by decide +kernel
theorem d_Law_law_204 : decode c_Law_law 204 = .ok (.aload_n 2, 1) := by decide +kernel
theorem d_Law_law_205 : decode c_Law_law 205 = .ok (.aload_n 0, 1) := by decide +kernel
theorem d_Law_law_206 : decode c_Law_law 206 = .ok (.iload 4, 2) := by decide +kernel
theorem d_Law_law_208 : decode c_Law_law 208 = .ok (.iconst 1, 1) := by decide +kernel
theorem d_Law_law_209 : decode c_Law_law 209 = .ok (.iadd, 1) := by decide +kernel
theorem d_Law_law_210 : decode c_Law_law 210 = .ok (.iaload, 1) := by decide +kernel
theorem d_Law_law_211 : decode c_Law_law 211 = .ok (.aload_n 0, 1) := by decide +kernel
theorem d_Law_law_212 : decode c_Law_law 212 = .ok (.iload 4, 2) := by decide +kernel
theorem d_Law_law_214 : decode c_Law_law 214 = .ok (.iconst 2, 1) := by decide +kernel
theorem d_Law_law_215 : decode c_Law_law 215 = .ok (.iadd, 1) := by decide +kernel
theorem d_Law_law_216 : decode c_Law_law 216 = .ok (.iaload, 1) := by decide +kernel
theorem d_Law_law_217 : decode c_Law_law 217 = .ok (.invokevirtual 45, 3) := by decide +kernel
theorem d_Law_law_220 : decode c_Law_law 220 = .ok (.istore 6, 2) := by decide +kernel
theorem d_Law_law_222 : decode c_Law_law 222 = .ok (.aload_n 2, 1) := by decide +kernel
theorem d_Law_law_223 : decode c_Law_law 223 = .ok (.invokevirtual 39, 3) := by decide +kernel
theorem d_Law_law_226 : decode c_Law_law 226 = .ok (.iload 5, 2) := by decide +kernel
theorem d_Law_law_228 : decode c_Law_law 228 = .ok (.if_icmp .eq 5, 3) := by decide +kernel
theorem d_Law_law_231 : decode c_Law_law 231 = .ok (.iconst 0, 1) := by decide +kernel
theorem d_Law_law_232 : decode c_Law_law 232 = .ok (.ireturn, 1) := by decide +kernel
theorem d_Law_law_233 : decode c_Law_law 233 = .ok (.iload 5, 2) := by decide +kernel
theorem d_Law_law_235 : decode c_Law_law 235 = .ok (.ifCond .ne 15, 3) := by decide +kernel
theorem d_Law_law_238 : decode c_Law_law 238 = .ok (.aload_n 3, 1) := by decide +kernel
theorem d_Law_law_239 : decode c_Law_law 239 = .ok (.iconst 0, 1) := by decide +kernel
theorem d_Law_law_240 : decode c_Law_law 240 = .ok (.laload, 1) := by decide +kernel
theorem d_Law_law_241 : decode c_Law_law 241 = .ok (.iload 6, 2) := by decide +kernel
theorem d_Law_law_243 : decode c_Law_law 243 = .ok (.i2l, 1) := by decide +kernel
theorem d_Law_law_244 : decode c_Law_law 244 = .ok (.lcmp, 1) := by decide +kernel
theorem d_Law_law_245 : decode c_Law_law 245 = .ok (.ifCond .eq 5, 3) := by decide +kernel
theorem d_Law_law_248 : decode c_Law_law 248 = .ok (.iconst 0, 1) := by decide +kernel
theorem d_Law_law_249 : decode c_Law_law 249 = .ok (.ireturn, 1) := by decide +kernel
theorem d_Law_law_250 : decode c_Law_law 250 = .ok (.goto 320, 3) := by decide +kernel
theorem d_Law_law_253 : decode c_Law_law 253 = .ok (.aload_n 1, 1) := by decide +kernel
theorem d_Law_law_254 : decode c_Law_law 254 = .ok (.aload_n 3, 1) := by decide +kernel
theorem d_Law_law_255 : decode c_Law_law 255 = .ok (.invokestatic 46, 3) := by decide +kernel
theorem d_Law_law_258 : decode c_Law_law 258 = .ok (.istore 5, 2) := by decide +kernel
theorem d_Law_law_260 : decode c_Law_law 260 = .ok (.aload_n 2, 1) := by decide +kernel
theorem d_Law_law_261 : decode c_Law_law 261 = .ok (.invokevirtual 48, 3) := by decide +kernel
theorem d_Law_law_264 : decode c_Law_law 264 = .ok (.istore 6, 2) := by decide +kernel
theorem d_Law_law_266 : decode c_Law_law 266 = .ok (.aload_n 2, 1) := by decide +kernel
theorem d_Law_law_267 : decode c_Law_law 267 = .ok (.invokevirtual 39, 3) := by decide +kernel
theorem d_Law_law_270 : decode c_Law_law 270 = .ok (.iload 5, 2) := by decide +kernel
theorem d_Law_law_272 : decode c_Law_law 272 = .ok (.if_icmp .eq 5, 3) := by decide +kernel
theorem d_Law_law_275 : decode c_Law_law 275 = .ok (.iconst 0, 1) := by decide +kernel
theorem d_Law_law_276 : decode c_Law_law 276 = .ok (.ireturn, 1) := by decide +kernel
theorem d_Law_law_277 : decode c_Law_law 277 = .ok (.iload 5, 2) := by decide +kernel
theorem d_Law_law_279 : decode c_Law_law 279 = .ok (.ifCond .ne 15, 3) := by decide +kernel
theorem d_Law_law_282 : decode c_Law_law 282 = .ok (.aload_n 3, 1) := by decide +kernel
theorem d_Law_law_283 : decode c_Law_law 283 = .ok (.iconst 0, 1) := by decide +kernel
theorem d_Law_law_284 : decode c_Law_law 284 = .ok (.laload, 1) := by decide +kernel
theorem d_Law_law_285 : decode c_Law_law 285 = .ok (.iload 6, 2) := by decide +kernel
theorem d_Law_law_287 : decode c_Law_law 287 = .ok (.i2l, 1) := by decide +kernel
theorem d_Law_law_288 : decode c_Law_law 288 = .ok (.lcmp, 1) := by decide +kernel
theorem d_Law_law_289 : decode c_Law_law 289 = .ok (.ifCond .eq 5, 3) := by decide +kernel
theorem d_Law_law_292 : decode c_Law_law 292 = .ok (.iconst 0, 1) := by decide +kernel
theorem d_Law_law_293 : decode c_Law_law 293 = .ok (.ireturn, 1) := by decide +kernel
theorem d_Law_law_294 : decode c_Law_law 294 = .ok (.goto 276, 3) := by decide +kernel
theorem d_Law_law_297 : decode c_Law_law 297 = .ok (.aload_n 1, 1) := by decide +kernel
theorem d_Law_law_298 : decode c_Law_law 298 = .ok (.invokevirtual 49, 3) := by decide +kernel
theorem d_Law_law_301 : decode c_Law_law 301 = .ok (.aload_n 2, 1) := by decide +kernel
theorem d_Law_law_302 : decode c_Law_law 302 = .ok (.invokevirtual 52, 3) := by decide +kernel
theorem d_Law_law_305 : decode c_Law_law 305 = .ok (.if_icmp .eq 265, 3) := by decide +kernel
theorem d_Law_law_308 : decode c_Law_law 308 = .ok (.iconst 0, 1) := by decide +kernel
theorem d_Law_law_309 : decode c_Law_law 309 = .ok (.ireturn, 1) := by decide +kernel
theorem d_Law_law_310 : decode c_Law_law 310 = .ok (.aload_n 1, 1) := by decide +kernel
theorem d_Law_law_311 : decode c_Law_law 311 = .ok (.aload_n 0, 1) := by decide +kernel
theorem d_Law_law_312 : decode c_Law_law 312 = .ok (.iload 4, 2) := by decide +kernel
theorem d_Law_law_314 : decode c_Law_law 314 = .ok (.iconst 1, 1) := by decide +kernel
theorem d_Law_law_315 : decode c_Law_law 315 = .ok (.iadd, 1) := by decide +kernel
theorem d_Law_law_316 : decode c_Law_law 316 = .ok (.iaload, 1) := by decide +kernel
theorem d_Law_law_317 : decode c_Law_law 317 = .ok (.aload_n 0, 1) := by decide +kernel
theorem d_Law_law_318 : decode c_Law_law 318 = .ok (.iload 4, 2) := by decide +kernel
theorem d_Law_law_320 : decode c_Law_law 320 = .ok (.iconst 2, 1) := by decide +kernel
theorem d_Law_law_321 : decode c_Law_law 321 = .ok (.iadd, 1) := by decide +kernel
theorem d_Law_law_322 : decode c_Law_law 322 = .ok (.iaload, 1) := by decide +kernel
theorem d_Law_law_323 : decode c_Law_law 323 = .ok (.invokevirtual 53, 3) := by decide +kernel
theorem d_Law_law_326 : decode c_Law_law 326 = .ok (.aload_n 2, 1) := by decide +kernel
theorem d_Law_law_327 : decode c_Law_law 327 = .ok (.aload_n 0, 1) := by decide +kernel
theorem d_Law_law_328 : decode c_Law_law 328 = .ok (.iload 4, 2) := by decide +kernel
theorem d_Law_law_330 : decode c_Law_law 330 = .ok (.iconst 1, 1) := by decide +kernel
theorem d_Law_law_331 : decode c_Law_law 331 = .ok (.iadd, 1) := by decide +kernel
theorem d_Law_law_332 : decode c_Law_law 332 = .ok (.iaload, 1) := by decide +kernel
theorem d_Law_law_333 : decode c_Law_law 333 = .ok (.aload_n 0, 1) := by decide +kernel
theorem d_Law_law_334 : decode c_Law_law 334 = .ok (.iload 4, 2) := by decide +kernel
theorem d_Law_law_336 : decode c_Law_law 336 = .ok (.iconst 2, 1) := by decide +kernel
theorem d_Law_law_337 : decode c_Law_law 337 = .ok (.iadd, 1) := by decide +kernel
theorem d_Law_law_338 : decode c_Law_law 338 = .ok (.iaload, 1) := by decide +kernel
theorem d_Law_law_339 : decode c_Law_law 339 = .ok (.invokevirtual 56, 3) := by decide +kernel
theorem d_Law_law_342 : decode c_Law_law 342 = .ok (.if_icmp .eq 228, 3) := by decide +kernel
theorem d_Law_law_345 : decode c_Law_law 345 = .ok (.iconst 0, 1) := by decide +kernel
theorem d_Law_law_346 : decode c_Law_law 346 = .ok (.ireturn, 1) := by decide +kernel
theorem d_Law_law_347 : decode c_Law_law 347 = .ok (.aload_n 1, 1) := by decide +kernel
theorem d_Law_law_348 : decode c_Law_law 348 = .ok (.aload_n 0, 1) := by decide +kernel
theorem d_Law_law_349 : decode c_Law_law 349 = .ok (.iload 4, 2) := by decide +kernel
theorem d_Law_law_351 : decode c_Law_law 351 = .ok (.iconst 1, 1) := by decide +kernel
theorem d_Law_law_352 : decode c_Law_law 352 = .ok (.iadd, 1) := by decide +kernel
theorem d_Law_law_353 : decode c_Law_law 353 = .ok (.iaload, 1) := by decide +kernel
theorem d_Law_law_354 : decode c_Law_law 354 = .ok (.invokevirtual 57, 3) := by decide +kernel
theorem d_Law_law_357 : decode c_Law_law 357 = .ok (.aload_n 2, 1) := by decide +kernel
theorem d_Law_law_358 : decode c_Law_law 358 = .ok (.aload_n 0, 1) := by decide +kernel
theorem d_Law_law_359 : decode c_Law_law 359 = .ok (.iload 4, 2) := by decide +kernel
theorem d_Law_law_361 : decode c_Law_law 361 = .ok (.iconst 1, 1) := by decide +kernel
theorem d_Law_law_362 : decode c_Law_law 362 = .ok (.iadd, 1) := by decide +kernel
theorem d_Law_law_363 : decode c_Law_law 363 = .ok (.iaload, 1) := by decide +kernel
theorem d_Law_law_364 : decode c_Law_law 364 = .ok (.invokevirtual 61, 3) := by decide +kernel
theorem d_Law_law_367 : decode c_Law_law 367 = .ok (.if_icmp .eq 203, 3) := by decide +kernel
theorem d_Law_law_370 : decode c_Law_law 370 = .ok (.iconst 0, 1) := by decide +kernel
theorem d_Law_law_371 : decode c_Law_law 371 = .ok (.ireturn, 1) := by decide +kernel
theorem d_Law_law_372 : decode c_Law_law 372 = .ok (.aload_n 1, 1) := by decide +kernel
theorem d_Law_law_373 : decode c_Law_law 373 = .ok (.aload_n 0, 1) := by decide +kernel
theorem d_Law_law_374 : decode c_Law_law 374 = .ok (.iload 4, 2) := by decide +kernel
theorem d_Law_law_376 : decode c_Law_law 376 = .ok (.iconst 1, 1) := by decide +kernel
theorem d_Law_law_377 : decode c_Law_law 377 = .ok (.iadd, 1) := by decide +kernel
theorem d_Law_law_378 : decode c_Law_law 378 = .ok (.iaload, 1) := by decide +kernel
theorem d_Law_law_379 : decode c_Law_law 379 = .ok (.invokevirtual 62, 3) := by decide +kernel
theorem d_Law_law_382 : decode c_Law_law 382 = .ok (.aload_n 2, 1) := by decide +kernel
theorem d_Law_law_383 : decode c_Law_law 383 = .ok (.aload_n 0, 1) := by decide +kernel
theorem d_Law_law_384 : decode c_Law_law 384 = .ok (.iload 4, 2) := by decide +kernel
theorem d_Law_law_386 : decode c_Law_law 386 = .ok (.iconst 1, 1) := by decide +kernel
theorem d_Law_law_387 : decode c_Law_law 387 = .ok (.iadd, 1) := by decide +kernel
theorem d_Law_law_388 : decode c_Law_law 388 = .ok (.iaload, 1) := by decide +kernel
theorem d_Law_law_389 : decode c_Law_law 389 = .ok (.invokevirtual 65, 3) := by decide +kernel
theorem d_Law_law_392 : decode c_Law_law 392 = .ok (.if_icmp .eq 178, 3) := by decide +kernel
theorem d_Law_law_395 : decode c_Law_law 395 = .ok (.iconst 0, 1) := by decide +kernel
theorem d_Law_law_396 : decode c_Law_law 396 = .ok (.ireturn, 1) := by decide +kernel
theorem d_Law_law_397 : decode c_Law_law 397 = .ok (.aload_n 1, 1) := by decide +kernel
theorem d_Law_law_398 : decode c_Law_law 398 = .ok (.aload_n 0, 1) := by decide +kernel
theorem d_Law_law_399 : decode c_Law_law 399 = .ok (.iload 4, 2) := by decide +kernel
theorem d_Law_law_401 : decode c_Law_law 401 = .ok (.iconst 1, 1) := by decide +kernel
theorem d_Law_law_402 : decode c_Law_law 402 = .ok (.iadd, 1) := by decide +kernel
theorem d_Law_law_403 : decode c_Law_law 403 = .ok (.iaload, 1) := by decide +kernel
theorem d_Law_law_404 : decode c_Law_law 404 = .ok (.invokevirtual 66, 3) := by decide +kernel
theorem d_Law_law_407 : decode c_Law_law 407 = .ok (.aload_n 2, 1) := by decide +kernel
theorem d_Law_law_408 : decode c_Law_law 408 = .ok (.aload_n 0, 1) := by decide +kernel
theorem d_Law_law_409 : decode c_Law_law 409 = .ok (.iload 4, 2) := by decide +kernel
theorem d_Law_law_411 : decode c_Law_law 411 = .ok (.iconst 1, 1) := by decide +kernel
theorem d_Law_law_412 : decode c_Law_law 412 = .ok (.iadd, 1) := by decide +kernel
theorem d_Law_law_413 : decode c_Law_law 413 = .ok (.iaload, 1) := by decide +kernel
theorem d_Law_law_414 : decode c_Law_law 414 = .ok (.invokevirtual 69, 3) := by decide +kernel
theorem d_Law_law_417 : decode c_Law_law 417 = .ok (.if_icmp .eq 153, 3) := by decide +kernel
theorem d_Law_law_420 : decode c_Law_law 420 = .ok (.iconst 0, 1) := by decide +kernel
theorem d_Law_law_421 : decode c_Law_law 421 = .ok (.ireturn, 1) := by decide +kernel
theorem d_Law_law_422 : decode c_Law_law 422 = .ok (.aload_n 1, 1) := by decide +kernel
theorem d_Law_law_423 : decode c_Law_law 423 = .ok (.aload_n 0, 1) := by decide +kernel
theorem d_Law_law_424 : decode c_Law_law 424 = .ok (.iload 4, 2) := by decide +kernel
theorem d_Law_law_426 : decode c_Law_law 426 = .ok (.iconst 1, 1) := by decide +kernel
theorem d_Law_law_427 : decode c_Law_law 427 = .ok (.iadd, 1) := by decide +kernel
theorem d_Law_law_428 : decode c_Law_law 428 = .ok (.iaload, 1) := by decide +kernel
theorem d_Law_law_429 : decode c_Law_law 429 = .ok (.aload_n 0, 1) := by decide +kernel
theorem d_Law_law_430 : decode c_Law_law 430 = .ok (.iload 4, 2) := by decide +kernel
theorem d_Law_law_432 : decode c_Law_law 432 = .ok (.iconst 2, 1) := by decide +kernel
theorem d_Law_law_433 : decode c_Law_law 433 = .ok (.iadd, 1) := by decide +kernel
theorem d_Law_law_434 : decode c_Law_law 434 = .ok (.iaload, 1) := by decide +kernel
theorem d_Law_law_435 : decode c_Law_law 435 = .ok (.invokevirtual 70, 3) := by decide +kernel
theorem d_Law_law_438 : decode c_Law_law 438 = .ok (.aload_n 2, 1) := by decide +kernel
theorem d_Law_law_439 : decode c_Law_law 439 = .ok (.aload_n 0, 1) := by decide +kernel
theorem d_Law_law_440 : decode c_Law_law 440 = .ok (.iload 4, 2) := by decide +kernel
theorem d_Law_law_442 : decode c_Law_law 442 = .ok (.iconst 1, 1) := by decide +kernel
theorem d_Law_law_443 : decode c_Law_law 443 = .ok (.iadd, 1) := by decide +kernel
theorem d_Law_law_444 : decode c_Law_law 444 = .ok (.iaload, 1) := by decide +kernel
theorem d_Law_law_445 : decode c_Law_law 445 = .ok (.aload_n 0, 1) := by decide +kernel
theorem d_Law_law_446 : decode c_Law_law 446 = .ok (.iload 4, 2) := by decide +kernel
theorem d_Law_law_448 : decode c_Law_law 448 = .ok (.iconst 2, 1) := by decide +kernel
theorem d_Law_law_449 : decode c_Law_law 449 = .ok (.iadd, 1) := by decide +kernel
theorem d_Law_law_450 : decode c_Law_law 450 = .ok (.iaload, 1) := by decide +kernel
theorem d_Law_law_451 : decode c_Law_law 451 = .ok (.invokevirtual 73, 3) := by decide +kernel
theorem d_Law_law_454 : decode c_Law_law 454 = .ok (.if_icmp .eq 116, 3) := by decide +kernel
theorem d_Law_law_457 : decode c_Law_law 457 = .ok (.iconst 0, 1) := by decide +kernel
theorem d_Law_law_458 : decode c_Law_law 458 = .ok (.ireturn, 1) := by decide +kernel
theorem d_Law_law_459 : decode c_Law_law 459 = .ok (.aload_n 1, 1) := by decide +kernel
theorem d_Law_law_460 : decode c_Law_law 460 = .ok (.aload_n 0, 1) := by decide +kernel
theorem d_Law_law_461 : decode c_Law_law 461 = .ok (.iload 4, 2) := by decide +kernel
theorem d_Law_law_463 : decode c_Law_law 463 = .ok (.iconst 1, 1) := by decide +kernel
theorem d_Law_law_464 : decode c_Law_law 464 = .ok (.iadd, 1) := by decide +kernel
theorem d_Law_law_465 : decode c_Law_law 465 = .ok (.iaload, 1) := by decide +kernel
theorem d_Law_law_466 : decode c_Law_law 466 = .ok (.aload_n 0, 1) := by decide +kernel
theorem d_Law_law_467 : decode c_Law_law 467 = .ok (.iload 4, 2) := by decide +kernel
theorem d_Law_law_469 : decode c_Law_law 469 = .ok (.iconst 2, 1) := by decide +kernel
theorem d_Law_law_470 : decode c_Law_law 470 = .ok (.iadd, 1) := by decide +kernel
theorem d_Law_law_471 : decode c_Law_law 471 = .ok (.iaload, 1) := by decide +kernel
theorem d_Law_law_472 : decode c_Law_law 472 = .ok (.aload_n 0, 1) := by decide +kernel
theorem d_Law_law_473 : decode c_Law_law 473 = .ok (.iload 4, 2) := by decide +kernel
theorem d_Law_law_475 : decode c_Law_law 475 = .ok (.iconst 3, 1) := by decide +kernel
theorem d_Law_law_476 : decode c_Law_law 476 = .ok (.iadd, 1) := by decide +kernel
theorem d_Law_law_477 : decode c_Law_law 477 = .ok (.iaload, 1) := by decide +kernel
theorem d_Law_law_478 : decode c_Law_law 478 = .ok (.invokevirtual 74, 3) := by decide +kernel
theorem d_Law_law_481 : decode c_Law_law 481 = .ok (.aload_n 2, 1) := by decide +kernel
theorem d_Law_law_482 : decode c_Law_law 482 = .ok (.aload_n 0, 1) := by decide +kernel
theorem d_Law_law_483 : decode c_Law_law 483 = .ok (.iload 4, 2) := by decide +kernel
theorem d_Law_law_485 : decode c_Law_law 485 = .ok (.iconst 1, 1) := by decide +kernel
theorem d_Law_law_486 : decode c_Law_law 486 = .ok (.iadd, 1) := by decide +kernel
theorem d_Law_law_487 : decode c_Law_law 487 = .ok (.iaload, 1) := by decide +kernel
theorem d_Law_law_488 : decode c_Law_law 488 = .ok (.aload_n 0, 1) := by decide +kernel
theorem d_Law_law_489 : decode c_Law_law 489 = .ok (.iload 4, 2) := by decide +kernel
theorem d_Law_law_491 : decode c_Law_law 491 = .ok (.iconst 2, 1) := by decide +kernel
theorem d_Law_law_492 : decode c_Law_law 492 = .ok (.iadd, 1) := by decide +kernel
theorem d_Law_law_493 : decode c_Law_law 493 = .ok (.iaload, 1) := by decide +kernel
theorem d_Law_law_494 : decode c_Law_law 494 = .ok (.aload_n 0, 1) := by decide +kernel
theorem d_Law_law_495 : decode c_Law_law 495 = .ok (.iload 4, 2) := by decide +kernel
theorem d_Law_law_497 : decode c_Law_law 497 = .ok (.iconst 3, 1) := by decide +kernel
theorem d_Law_law_498 : decode c_Law_law 498 = .ok (.iadd, 1) := by decide +kernel
theorem d_Law_law_499 : decode c_Law_law 499 = .ok (.iaload, 1) := by decide +kernel
theorem d_Law_law_500 : decode c_Law_law 500 = .ok (.invokevirtual 78, 3) := by decide +kernel
theorem d_Law_law_503 : decode c_Law_law 503 = .ok (.if_icmp .eq 67, 3) := by decide +kernel
theorem d_Law_law_506 : decode c_Law_law 506 = .ok (.iconst 0, 1) := by decide +kernel
theorem d_Law_law_507 : decode c_Law_law 507 = .ok (.ireturn, 1) := by decide +kernel
theorem d_Law_law_508 : decode c_Law_law 508 = .ok (.aload_n 1, 1) := by decide +kernel
theorem d_Law_law_509 : decode c_Law_law 509 = .ok (.aload_n 0, 1) := by decide +kernel
theorem d_Law_law_510 : decode c_Law_law 510 = .ok (.iload 4, 2) := by decide +kernel
theorem d_Law_law_512 : decode c_Law_law 512 = .ok (.iconst 1, 1) := by decide +kernel
theorem d_Law_law_513 : decode c_Law_law 513 = .ok (.iadd, 1) := by decide +kernel
theorem d_Law_law_514 : decode c_Law_law 514 = .ok (.iaload, 1) := by decide +kernel
theorem d_Law_law_515 : decode c_Law_law 515 = .ok (.aload_n 0, 1) := by decide +kernel
theorem d_Law_law_516 : decode c_Law_law 516 = .ok (.iload 4, 2) := by decide +kernel
theorem d_Law_law_518 : decode c_Law_law 518 = .ok (.iconst 2, 1) := by decide +kernel
theorem d_Law_law_519 : decode c_Law_law 519 = .ok (.iadd, 1) := by decide +kernel
theorem d_Law_law_520 : decode c_Law_law 520 = .ok (.iaload, 1) := by decide +kernel
theorem d_Law_law_521 : decode c_Law_law 521 = .ok (.invokevirtual 79, 3) := by decide +kernel
theorem d_Law_law_524 : decode c_Law_law 524 = .ok (.aload_n 2, 1) := by decide +kernel
theorem d_Law_law_525 : decode c_Law_law 525 = .ok (.aload_n 0, 1) := by decide +kernel
theorem d_Law_law_526 : decode c_Law_law 526 = .ok (.iload 4, 2) := by decide +kernel
theorem d_Law_law_528 : decode c_Law_law 528 = .ok (.iconst 1, 1) := by decide +kernel
theorem d_Law_law_529 : decode c_Law_law 529 = .ok (.iadd, 1) := by decide +kernel
theorem d_Law_law_530 : decode c_Law_law 530 = .ok (.iaload, 1) := by decide +kernel
theorem d_Law_law_531 : decode c_Law_law 531 = .ok (.aload_n 0, 1) := by decide +kernel
theorem d_Law_law_532 : decode c_Law_law 532 = .ok (.iload 4, 2) := by decide +kernel
theorem d_Law_law_534 : decode c_Law_law 534 = .ok (.iconst 2, 1) := by decide +kernel
theorem d_Law_law_535 : decode c_Law_law 535 = .ok (.iadd, 1) := by decide +kernel
theorem d_Law_law_536 : decode c_Law_law 536 = .ok (.iaload, 1) := by decide +kernel
theorem d_Law_law_537 : decode c_Law_law 537 = .ok (.invokevirtual 82, 3) := by decide +kernel
theorem d_Law_law_540 : decode c_Law_law 540 = .ok (.if_icmp .eq 30, 3) := by decide +kernel
theorem d_Law_law_543 : decode c_Law_law 543 = .ok (.iconst 0, 1) := by decide +kernel
theorem d_Law_law_544 : decode c_Law_law 544 = .ok (.ireturn, 1) := by decide +kernel
theorem d_Law_law_545 : decode c_Law_law 545 = .ok (.aload_n 1, 1) := by decide +kernel
theorem d_Law_law_546 : decode c_Law_law 546 = .ok (.aload_n 0, 1) := by decide +kernel
theorem d_Law_law_547 : decode c_Law_law 547 = .ok (.iload 4, 2) := by decide +kernel
theorem d_Law_law_549 : decode c_Law_law 549 = .ok (.iconst 1, 1) := by decide +kernel
theorem d_Law_law_550 : decode c_Law_law 550 = .ok (.iadd, 1) := by decide +kernel
theorem d_Law_law_551 : decode c_Law_law 551 = .ok (.iaload, 1) := by decide +kernel
theorem d_Law_law_552 : decode c_Law_law 552 = .ok (.invokevirtual 83, 3) := by decide +kernel
theorem d_Law_law_555 : decode c_Law_law 555 = .ok (.aload_n 2, 1) := by decide +kernel
theorem d_Law_law_556 : decode c_Law_law 556 = .ok (.aload_n 0, 1) := by decide +kernel
theorem d_Law_law_557 : decode c_Law_law 557 = .ok (.iload 4, 2) := by decide +kernel
theorem d_Law_law_559 : decode c_Law_law 559 = .ok (.iconst 1, 1) := by decide +kernel
theorem d_Law_law_560 : decode c_Law_law 560 = .ok (.iadd, 1) := by decide +kernel
theorem d_Law_law_561 : decode c_Law_law 561 = .ok (.iaload, 1) := by decide +kernel
theorem d_Law_law_562 : decode c_Law_law 562 = .ok (.invokevirtual 87, 3) := by decide +kernel
theorem d_Law_law_565 : decode c_Law_law 565 = .ok (.if_icmp .eq 5, 3) := by decide +kernel
theorem d_Law_law_568 : decode c_Law_law 568 = .ok (.iconst 0, 1) := by decide +kernel
theorem d_Law_law_569 : decode c_Law_law 569 = .ok (.ireturn, 1) := by decide +kernel
theorem d_Law_law_570 : decode c_Law_law 570 = .ok (.iinc 4 4, 3) := by decide +kernel
theorem d_Law_law_573 : decode c_Law_law 573 = .ok (.goto (-550), 3) := by decide +kernel
theorem d_Law_law_576 : decode c_Law_law 576 = .ok (.iconst 1, 1) := by decide +kernel
theorem d_Law_law_577 : decode c_Law_law 577 = .ok (.ireturn, 1) := by decide +kernel
end
section
/-! the pool: one memory (L, f) for the class, the reference and the law: the cells at the addresses of L hold what f says -/
abbrev GG : Type := va_G × (Nat → ClassId) × Nat
abbrev tys (G : GG) : List (ClassId × FieldType) := [(G.2.1 0, .int), (G.2.1 1, .long), (G.2.1 2, .boolean), (G.2.1 3, .object "FleetFloor$Vehicle"), (G.2.1 4, .object "FleetFloor$Cells"), (G.2.1 5, .object "java/lang/Object")]
abbrev nwl : List Cond := [(Jvm.Cond.castable "java/lang/IllegalStateException" "java/lang/IllegalStateException"), (Jvm.Cond.declares ({ cls := "java/lang/RuntimeException", name := "<init>", desc := "()V" } : Jvm.MethodName)), (Jvm.Cond.declares ({ cls := "java/lang/RuntimeException", name := "<init>", desc := "(Ljava/lang/String;)V" } : Jvm.MethodName)), (Jvm.Cond.declares ({ cls := "java/lang/Exception", name := "<init>", desc := "()V" } : Jvm.MethodName)), (Jvm.Cond.declares ({ cls := "java/lang/Exception", name := "<init>", desc := "(Ljava/lang/String;)V" } : Jvm.MethodName)), (Jvm.Cond.declares ({ cls := "java/lang/Throwable", name := "<init>", desc := "()V" } : Jvm.MethodName)), (Jvm.Cond.declares ({ cls := "java/lang/Throwable", name := "<init>", desc := "(Ljava/lang/String;)V" } : Jvm.MethodName)), (Jvm.Cond.methodLinkNest "FleetFloor$FloorMap" (29 : Nat) ({ cls := "FleetFloor$Cells", name := "<init>", desc := "()V" } : Jvm.MethodName) "FleetFloor"), (Jvm.Cond.castable "java/lang/IllegalArgumentException" "java/lang/IllegalArgumentException"), (Jvm.Cond.fieldLinkNest "FleetFloor" (218 : Nat) "FleetFloor$Vehicle" "number" "I" "FleetFloor"), (Jvm.Cond.fieldLinkNest "FleetFloor$Planner" (53 : Nat) "FleetFloor$Vehicle" "parking" "I" "FleetFloor"), (Jvm.Cond.fieldLinkNest "FleetFloor$Planner" (76 : Nat) "FleetFloor$Vehicle" "moves" "Ljava/util/ArrayList;" "FleetFloor"), (Jvm.Cond.fieldLinkNest "FleetFloor" (176 : Nat) "FleetFloor$Vehicle" "moves" "Ljava/util/ArrayList;" "FleetFloor"), (Jvm.Cond.fieldLinkNest "FleetFloor" (160 : Nat) "FleetFloor$Vehicle" "made" "I" "FleetFloor"), (Jvm.Cond.fieldLinkNest "FleetFloor" (167 : Nat) "FleetFloor$Vehicle" "allowed" "I" "FleetFloor"), (Jvm.Cond.fieldLinkNest "FleetFloor" (170 : Nat) "FleetFloor$Vehicle" "known" "I" "FleetFloor"), (Jvm.Cond.fieldLinkNest "FleetFloor" (173 : Nat) "FleetFloor$Vehicle" "granted" "I" "FleetFloor"), (Jvm.Cond.fieldLinkNest "FleetFloor" (179 : Nat) "FleetFloor$Vehicle" "latestTask" "I" "FleetFloor"), (Jvm.Cond.fieldLinkNest "FleetFloor$Planner" (97 : Nat) "FleetFloor$Vehicle" "finishAt" "I" "FleetFloor"), (Jvm.Cond.fieldLinkNest "FleetFloor" (211 : Nat) "FleetFloor$Vehicle" "finishAt" "I" "FleetFloor"), (Jvm.Cond.fieldLinkNest "FleetFloor" (203 : Nat) "FleetFloor$Vehicle" "justMoved" "Z" "FleetFloor"), (Jvm.Cond.methodLinkNest "FleetFloor" (86 : Nat) ({ cls := "FleetFloor$Cells", name := "<init>", desc := "()V" } : Jvm.MethodName) "FleetFloor"), (Jvm.Cond.methodLinkNest "FleetFloor$Planner" (28 : Nat) ({ cls := "FleetFloor$Cells", name := "<init>", desc := "()V" } : Jvm.MethodName) "FleetFloor"), (Jvm.Cond.fieldLinkNest "FleetFloor$Planner" (42 : Nat) "FleetFloor$Task" "first" "I" "FleetFloor"), (Jvm.Cond.fieldLinkNest "FleetFloor$Planner" (49 : Nat) "FleetFloor$Task" "second" "I" "FleetFloor"), (Jvm.Cond.fieldLinkNest "FleetFloor" (194 : Nat) "FleetFloor$Task" "carrier" "I" "FleetFloor"), (Jvm.Cond.fieldLinkNest "FleetFloor" (197 : Nat) "FleetFloor$Task" "finishedIn" "I" "FleetFloor"), (Jvm.Cond.methodLinkNest "FleetFloor" (220 : Nat) ({ cls := "FleetFloor$Letter", name := "<init>", desc := "(III)V" } : Jvm.MethodName) "FleetFloor"), (Jvm.Cond.methodLinkNest "FleetFloor$Planner" (168 : Nat) ({ cls := "FleetFloor", name := "neighbour", desc := "(II)I" } : Jvm.MethodName) "FleetFloor"), (Jvm.Cond.methodLinkNest "FleetFloor$Planner" (82 : Nat) ({ cls := "FleetFloor$Move", name := "<init>", desc := "(II)V" } : Jvm.MethodName) "FleetFloor"), (Jvm.Cond.castable "FleetFloor$Letter" "FleetFloor$Letter"), (Jvm.Cond.castable "FleetFloor$Move" "FleetFloor$Move"), (Jvm.Cond.castable "FleetFloor$Task" "FleetFloor$Task"), (Jvm.Cond.declares ({ cls := "java/lang/Object", name := "getClass", desc := "()Ljava/lang/Class;" } : Jvm.MethodName)), (Jvm.Cond.castable "FleetFloor" "java/lang/Object"), (Jvm.Cond.castable "FleetFloor$FloorMap" "java/lang/Object"), (Jvm.Cond.castable "FleetFloor$Air" "java/lang/Object"), (Jvm.Cond.castable "FleetFloorModel" "java/lang/Object"), (Jvm.Cond.castable "FleetFloor$Cells" "java/lang/Object"), (Jvm.Cond.castable "FleetFloor$Vehicle" "java/lang/Object"), (Jvm.Cond.castable "FleetFloor$Planner" "java/lang/Object"), (Jvm.Cond.castable "FleetFloor$Task" "java/lang/Object"), (Jvm.Cond.castable "FleetFloor$Letter" "java/lang/Object"), (Jvm.Cond.castable "FleetFloor$Move" "java/lang/Object"), (Jvm.Cond.castable "java/lang/String" "java/lang/Object")]
theorem nw_319 : (Jvm.Cond.castable "java/lang/IllegalStateException" "java/lang/IllegalStateException") ∈ nwl := List.mem_of_getElem? (i := 0) rfl
theorem nw_320 : (Jvm.Cond.declares ({ cls := "java/lang/RuntimeException", name := "<init>", desc := "()V" } : Jvm.MethodName)) ∈ nwl := List.mem_of_getElem? (i := 1) rfl
theorem nw_321 : (Jvm.Cond.declares ({ cls := "java/lang/RuntimeException", name := "<init>", desc := "(Ljava/lang/String;)V" } : Jvm.MethodName)) ∈ nwl := List.mem_of_getElem? (i := 2) rfl
theorem nw_322 : (Jvm.Cond.declares ({ cls := "java/lang/Exception", name := "<init>", desc := "()V" } : Jvm.MethodName)) ∈ nwl := List.mem_of_getElem? (i := 3) rfl
theorem nw_323 : (Jvm.Cond.declares ({ cls := "java/lang/Exception", name := "<init>", desc := "(Ljava/lang/String;)V" } : Jvm.MethodName)) ∈ nwl := List.mem_of_getElem? (i := 4) rfl
theorem nw_324 : (Jvm.Cond.declares ({ cls := "java/lang/Throwable", name := "<init>", desc := "()V" } : Jvm.MethodName)) ∈ nwl := List.mem_of_getElem? (i := 5) rfl
theorem nw_325 : (Jvm.Cond.declares ({ cls := "java/lang/Throwable", name := "<init>", desc := "(Ljava/lang/String;)V" } : Jvm.MethodName)) ∈ nwl := List.mem_of_getElem? (i := 6) rfl
theorem nw_398 : (Jvm.Cond.methodLinkNest "FleetFloor$FloorMap" (29 : Nat) ({ cls := "FleetFloor$Cells", name := "<init>", desc := "()V" } : Jvm.MethodName) "FleetFloor") ∈ nwl := List.mem_of_getElem? (i := 7) rfl
theorem nw_449 : (Jvm.Cond.castable "java/lang/IllegalArgumentException" "java/lang/IllegalArgumentException") ∈ nwl := List.mem_of_getElem? (i := 8) rfl
theorem nw_475 : (Jvm.Cond.fieldLinkNest "FleetFloor" (218 : Nat) "FleetFloor$Vehicle" "number" "I" "FleetFloor") ∈ nwl := List.mem_of_getElem? (i := 9) rfl
theorem nw_477 : (Jvm.Cond.fieldLinkNest "FleetFloor$Planner" (53 : Nat) "FleetFloor$Vehicle" "parking" "I" "FleetFloor") ∈ nwl := List.mem_of_getElem? (i := 10) rfl
theorem nw_479 : (Jvm.Cond.fieldLinkNest "FleetFloor$Planner" (76 : Nat) "FleetFloor$Vehicle" "moves" "Ljava/util/ArrayList;" "FleetFloor") ∈ nwl := List.mem_of_getElem? (i := 11) rfl
theorem nw_480 : (Jvm.Cond.fieldLinkNest "FleetFloor" (176 : Nat) "FleetFloor$Vehicle" "moves" "Ljava/util/ArrayList;" "FleetFloor") ∈ nwl := List.mem_of_getElem? (i := 12) rfl
theorem nw_482 : (Jvm.Cond.fieldLinkNest "FleetFloor" (160 : Nat) "FleetFloor$Vehicle" "made" "I" "FleetFloor") ∈ nwl := List.mem_of_getElem? (i := 13) rfl
theorem nw_484 : (Jvm.Cond.fieldLinkNest "FleetFloor" (167 : Nat) "FleetFloor$Vehicle" "allowed" "I" "FleetFloor") ∈ nwl := List.mem_of_getElem? (i := 14) rfl
theorem nw_486 : (Jvm.Cond.fieldLinkNest "FleetFloor" (170 : Nat) "FleetFloor$Vehicle" "known" "I" "FleetFloor") ∈ nwl := List.mem_of_getElem? (i := 15) rfl
theorem nw_488 : (Jvm.Cond.fieldLinkNest "FleetFloor" (173 : Nat) "FleetFloor$Vehicle" "granted" "I" "FleetFloor") ∈ nwl := List.mem_of_getElem? (i := 16) rfl
theorem nw_490 : (Jvm.Cond.fieldLinkNest "FleetFloor" (179 : Nat) "FleetFloor$Vehicle" "latestTask" "I" "FleetFloor") ∈ nwl := List.mem_of_getElem? (i := 17) rfl
theorem nw_492 : (Jvm.Cond.fieldLinkNest "FleetFloor$Planner" (97 : Nat) "FleetFloor$Vehicle" "finishAt" "I" "FleetFloor") ∈ nwl := List.mem_of_getElem? (i := 18) rfl
theorem nw_493 : (Jvm.Cond.fieldLinkNest "FleetFloor" (211 : Nat) "FleetFloor$Vehicle" "finishAt" "I" "FleetFloor") ∈ nwl := List.mem_of_getElem? (i := 19) rfl
theorem nw_495 : (Jvm.Cond.fieldLinkNest "FleetFloor" (203 : Nat) "FleetFloor$Vehicle" "justMoved" "Z" "FleetFloor") ∈ nwl := List.mem_of_getElem? (i := 20) rfl
theorem nw_518 : (Jvm.Cond.methodLinkNest "FleetFloor" (86 : Nat) ({ cls := "FleetFloor$Cells", name := "<init>", desc := "()V" } : Jvm.MethodName) "FleetFloor") ∈ nwl := List.mem_of_getElem? (i := 21) rfl
theorem nw_528 : (Jvm.Cond.methodLinkNest "FleetFloor$Planner" (28 : Nat) ({ cls := "FleetFloor$Cells", name := "<init>", desc := "()V" } : Jvm.MethodName) "FleetFloor") ∈ nwl := List.mem_of_getElem? (i := 22) rfl
theorem nw_588 : (Jvm.Cond.fieldLinkNest "FleetFloor$Planner" (42 : Nat) "FleetFloor$Task" "first" "I" "FleetFloor") ∈ nwl := List.mem_of_getElem? (i := 23) rfl
theorem nw_590 : (Jvm.Cond.fieldLinkNest "FleetFloor$Planner" (49 : Nat) "FleetFloor$Task" "second" "I" "FleetFloor") ∈ nwl := List.mem_of_getElem? (i := 24) rfl
theorem nw_592 : (Jvm.Cond.fieldLinkNest "FleetFloor" (194 : Nat) "FleetFloor$Task" "carrier" "I" "FleetFloor") ∈ nwl := List.mem_of_getElem? (i := 25) rfl
theorem nw_594 : (Jvm.Cond.fieldLinkNest "FleetFloor" (197 : Nat) "FleetFloor$Task" "finishedIn" "I" "FleetFloor") ∈ nwl := List.mem_of_getElem? (i := 26) rfl
theorem nw_635 : (Jvm.Cond.methodLinkNest "FleetFloor" (220 : Nat) ({ cls := "FleetFloor$Letter", name := "<init>", desc := "(III)V" } : Jvm.MethodName) "FleetFloor") ∈ nwl := List.mem_of_getElem? (i := 27) rfl
theorem nw_739 : (Jvm.Cond.methodLinkNest "FleetFloor$Planner" (168 : Nat) ({ cls := "FleetFloor", name := "neighbour", desc := "(II)I" } : Jvm.MethodName) "FleetFloor") ∈ nwl := List.mem_of_getElem? (i := 28) rfl
theorem nw_751 : (Jvm.Cond.methodLinkNest "FleetFloor$Planner" (82 : Nat) ({ cls := "FleetFloor$Move", name := "<init>", desc := "(II)V" } : Jvm.MethodName) "FleetFloor") ∈ nwl := List.mem_of_getElem? (i := 29) rfl
theorem nw_1070 : (Jvm.Cond.castable "FleetFloor$Letter" "FleetFloor$Letter") ∈ nwl := List.mem_of_getElem? (i := 30) rfl
theorem nw_1071 : (Jvm.Cond.castable "FleetFloor$Move" "FleetFloor$Move") ∈ nwl := List.mem_of_getElem? (i := 31) rfl
theorem nw_1072 : (Jvm.Cond.castable "FleetFloor$Task" "FleetFloor$Task") ∈ nwl := List.mem_of_getElem? (i := 32) rfl
theorem nw_1075 : (Jvm.Cond.declares ({ cls := "java/lang/Object", name := "getClass", desc := "()Ljava/lang/Class;" } : Jvm.MethodName)) ∈ nwl := List.mem_of_getElem? (i := 33) rfl
theorem nw_1076 : (Jvm.Cond.castable "FleetFloor" "java/lang/Object") ∈ nwl := List.mem_of_getElem? (i := 34) rfl
theorem nw_1077 : (Jvm.Cond.castable "FleetFloor$FloorMap" "java/lang/Object") ∈ nwl := List.mem_of_getElem? (i := 35) rfl
theorem nw_1078 : (Jvm.Cond.castable "FleetFloor$Air" "java/lang/Object") ∈ nwl := List.mem_of_getElem? (i := 36) rfl
theorem nw_1079 : (Jvm.Cond.castable "FleetFloorModel" "java/lang/Object") ∈ nwl := List.mem_of_getElem? (i := 37) rfl
theorem nw_1080 : (Jvm.Cond.castable "FleetFloor$Cells" "java/lang/Object") ∈ nwl := List.mem_of_getElem? (i := 38) rfl
theorem nw_1081 : (Jvm.Cond.castable "FleetFloor$Vehicle" "java/lang/Object") ∈ nwl := List.mem_of_getElem? (i := 39) rfl
theorem nw_1082 : (Jvm.Cond.castable "FleetFloor$Planner" "java/lang/Object") ∈ nwl := List.mem_of_getElem? (i := 40) rfl
theorem nw_1083 : (Jvm.Cond.castable "FleetFloor$Task" "java/lang/Object") ∈ nwl := List.mem_of_getElem? (i := 41) rfl
theorem nw_1084 : (Jvm.Cond.castable "FleetFloor$Letter" "java/lang/Object") ∈ nwl := List.mem_of_getElem? (i := 42) rfl
theorem nw_1085 : (Jvm.Cond.castable "FleetFloor$Move" "java/lang/Object") ∈ nwl := List.mem_of_getElem? (i := 43) rfl
theorem nw_1086 : (Jvm.Cond.castable "java/lang/String" "java/lang/Object") ∈ nwl := List.mem_of_getElem? (i := 44) rfl
set_option maxRecDepth 100000 in
theorem nw_warm {s U : State} (hW : s.WarmedH U.vm) (h : ∀ w ∈ nwl, va_Nw w s) : ∀ w ∈ nwl, va_Nw w U := (List.forall_mem_cons.mpr ⟨va_Nw.warmC hW (h _ nw_319), (List.forall_mem_cons.mpr ⟨va_Nw.warmD hW (h _ nw_320), (List.forall_mem_cons.mpr ⟨va_Nw.warmD hW (h _ nw_321), (List.forall_mem_cons.mpr ⟨va_Nw.warmD hW (h _ nw_322), (List.forall_mem_cons.mpr ⟨va_Nw.warmD hW (h _ nw_323), (List.forall_mem_cons.mpr ⟨va_Nw.warmD hW (h _ nw_324), (List.forall_mem_cons.mpr ⟨va_Nw.warmD hW (h _ nw_325), (List.forall_mem_cons.mpr ⟨va_Nw.warmM hW (h _ nw_398), (List.forall_mem_cons.mpr ⟨va_Nw.warmC hW (h _ nw_449), (List.forall_mem_cons.mpr ⟨va_Nw.warmF hW (h _ nw_475), (List.forall_mem_cons.mpr ⟨va_Nw.warmF hW (h _ nw_477), (List.forall_mem_cons.mpr ⟨va_Nw.warmF hW (h _ nw_479), (List.forall_mem_cons.mpr ⟨va_Nw.warmF hW (h _ nw_480), (List.forall_mem_cons.mpr ⟨va_Nw.warmF hW (h _ nw_482), (List.forall_mem_cons.mpr ⟨va_Nw.warmF hW (h _ nw_484), (List.forall_mem_cons.mpr ⟨va_Nw.warmF hW (h _ nw_486), (List.forall_mem_cons.mpr ⟨va_Nw.warmF hW (h _ nw_488), (List.forall_mem_cons.mpr ⟨va_Nw.warmF hW (h _ nw_490), (List.forall_mem_cons.mpr ⟨va_Nw.warmF hW (h _ nw_492), (List.forall_mem_cons.mpr ⟨va_Nw.warmF hW (h _ nw_493), (List.forall_mem_cons.mpr ⟨va_Nw.warmF hW (h _ nw_495), (List.forall_mem_cons.mpr ⟨va_Nw.warmM hW (h _ nw_518), (List.forall_mem_cons.mpr ⟨va_Nw.warmM hW (h _ nw_528), (List.forall_mem_cons.mpr ⟨va_Nw.warmF hW (h _ nw_588), (List.forall_mem_cons.mpr ⟨va_Nw.warmF hW (h _ nw_590), (List.forall_mem_cons.mpr ⟨va_Nw.warmF hW (h _ nw_592), (List.forall_mem_cons.mpr ⟨va_Nw.warmF hW (h _ nw_594), (List.forall_mem_cons.mpr ⟨va_Nw.warmM hW (h _ nw_635), (List.forall_mem_cons.mpr ⟨va_Nw.warmM hW (h _ nw_739), (List.forall_mem_cons.mpr ⟨va_Nw.warmM hW (h _ nw_751), (List.forall_mem_cons.mpr ⟨va_Nw.warmC hW (h _ nw_1070), (List.forall_mem_cons.mpr ⟨va_Nw.warmC hW (h _ nw_1071), (List.forall_mem_cons.mpr ⟨va_Nw.warmC hW (h _ nw_1072), (List.forall_mem_cons.mpr ⟨va_Nw.warmD hW (h _ nw_1075), (List.forall_mem_cons.mpr ⟨va_Nw.warmC hW (h _ nw_1076), (List.forall_mem_cons.mpr ⟨va_Nw.warmC hW (h _ nw_1077), (List.forall_mem_cons.mpr ⟨va_Nw.warmC hW (h _ nw_1078), (List.forall_mem_cons.mpr ⟨va_Nw.warmC hW (h _ nw_1079), (List.forall_mem_cons.mpr ⟨va_Nw.warmC hW (h _ nw_1080), (List.forall_mem_cons.mpr ⟨va_Nw.warmC hW (h _ nw_1081), (List.forall_mem_cons.mpr ⟨va_Nw.warmC hW (h _ nw_1082), (List.forall_mem_cons.mpr ⟨va_Nw.warmC hW (h _ nw_1083), (List.forall_mem_cons.mpr ⟨va_Nw.warmC hW (h _ nw_1084), (List.forall_mem_cons.mpr ⟨va_Nw.warmC hW (h _ nw_1085), (List.forall_mem_cons.mpr ⟨va_Nw.warmC hW (h _ nw_1086), (fun _ h => absurd h List.not_mem_nil)⟩)⟩)⟩)⟩)⟩)⟩)⟩)⟩)⟩)⟩)⟩)⟩)⟩)⟩)⟩)⟩)⟩)⟩)⟩)⟩)⟩)⟩)⟩)⟩)⟩)⟩)⟩)⟩)⟩)⟩)⟩)⟩)⟩)⟩)⟩)⟩)⟩)⟩)⟩)⟩)⟩)⟩)⟩)⟩)⟩)
set_option maxRecDepth 100000 in
theorem nw_in : ∀ w ∈ nwl, w ∈ lw_tbl := (List.forall_mem_cons.mpr ⟨tx_319, (List.forall_mem_cons.mpr ⟨tx_320, (List.forall_mem_cons.mpr ⟨tx_321, (List.forall_mem_cons.mpr ⟨tx_322, (List.forall_mem_cons.mpr ⟨tx_323, (List.forall_mem_cons.mpr ⟨tx_324, (List.forall_mem_cons.mpr ⟨tx_325, (List.forall_mem_cons.mpr ⟨tx_398, (List.forall_mem_cons.mpr ⟨tx_449, (List.forall_mem_cons.mpr ⟨tx_475, (List.forall_mem_cons.mpr ⟨tx_477, (List.forall_mem_cons.mpr ⟨tx_479, (List.forall_mem_cons.mpr ⟨tx_480, (List.forall_mem_cons.mpr ⟨tx_482, (List.forall_mem_cons.mpr ⟨tx_484, (List.forall_mem_cons.mpr ⟨tx_486, (List.forall_mem_cons.mpr ⟨tx_488, (List.forall_mem_cons.mpr ⟨tx_490, (List.forall_mem_cons.mpr ⟨tx_492, (List.forall_mem_cons.mpr ⟨tx_493, (List.forall_mem_cons.mpr ⟨tx_495, (List.forall_mem_cons.mpr ⟨tx_518, (List.forall_mem_cons.mpr ⟨tx_528, (List.forall_mem_cons.mpr ⟨tx_588, (List.forall_mem_cons.mpr ⟨tx_590, (List.forall_mem_cons.mpr ⟨tx_592, (List.forall_mem_cons.mpr ⟨tx_594, (List.forall_mem_cons.mpr ⟨tx_635, (List.forall_mem_cons.mpr ⟨tx_739, (List.forall_mem_cons.mpr ⟨tx_751, (List.forall_mem_cons.mpr ⟨tx_1070, (List.forall_mem_cons.mpr ⟨tx_1071, (List.forall_mem_cons.mpr ⟨tx_1072, (List.forall_mem_cons.mpr ⟨tx_1075, (List.forall_mem_cons.mpr ⟨tx_1076, (List.forall_mem_cons.mpr ⟨tx_1077, (List.forall_mem_cons.mpr ⟨tx_1078, (List.forall_mem_cons.mpr ⟨tx_1079, (List.forall_mem_cons.mpr ⟨tx_1080, (List.forall_mem_cons.mpr ⟨tx_1081, (List.forall_mem_cons.mpr ⟨tx_1082, (List.forall_mem_cons.mpr ⟨tx_1083, (List.forall_mem_cons.mpr ⟨tx_1084, (List.forall_mem_cons.mpr ⟨tx_1085, (List.forall_mem_cons.mpr ⟨tx_1086, (fun _ h => absurd h List.not_mem_nil)⟩)⟩)⟩)⟩)⟩)⟩)⟩)⟩)⟩)⟩)⟩)⟩)⟩)⟩)⟩)⟩)⟩)⟩)⟩)⟩)⟩)⟩)⟩)⟩)⟩)⟩)⟩)⟩)⟩)⟩)⟩)⟩)⟩)⟩)⟩)⟩)⟩)⟩)⟩)⟩)⟩)⟩)⟩)⟩)⟩)
set_option maxRecDepth 100000 in
theorem nw_ont : ∀ w ∈ nwl, w.onTables = true := (List.forall_mem_cons.mpr ⟨(rfl : Cond.onTables _ = true), (List.forall_mem_cons.mpr ⟨(rfl : Cond.onTables _ = true), (List.forall_mem_cons.mpr ⟨(rfl : Cond.onTables _ = true), (List.forall_mem_cons.mpr ⟨(rfl : Cond.onTables _ = true), (List.forall_mem_cons.mpr ⟨(rfl : Cond.onTables _ = true), (List.forall_mem_cons.mpr ⟨(rfl : Cond.onTables _ = true), (List.forall_mem_cons.mpr ⟨(rfl : Cond.onTables _ = true), (List.forall_mem_cons.mpr ⟨(rfl : Cond.onTables _ = true), (List.forall_mem_cons.mpr ⟨(rfl : Cond.onTables _ = true), (List.forall_mem_cons.mpr ⟨(rfl : Cond.onTables _ = true), (List.forall_mem_cons.mpr ⟨(rfl : Cond.onTables _ = true), (List.forall_mem_cons.mpr ⟨(rfl : Cond.onTables _ = true), (List.forall_mem_cons.mpr ⟨(rfl : Cond.onTables _ = true), (List.forall_mem_cons.mpr ⟨(rfl : Cond.onTables _ = true), (List.forall_mem_cons.mpr ⟨(rfl : Cond.onTables _ = true), (List.forall_mem_cons.mpr ⟨(rfl : Cond.onTables _ = true), (List.forall_mem_cons.mpr ⟨(rfl : Cond.onTables _ = true), (List.forall_mem_cons.mpr ⟨(rfl : Cond.onTables _ = true), (List.forall_mem_cons.mpr ⟨(rfl : Cond.onTables _ = true), (List.forall_mem_cons.mpr ⟨(rfl : Cond.onTables _ = true), (List.forall_mem_cons.mpr ⟨(rfl : Cond.onTables _ = true), (List.forall_mem_cons.mpr ⟨(rfl : Cond.onTables _ = true), (List.forall_mem_cons.mpr ⟨(rfl : Cond.onTables _ = true), (List.forall_mem_cons.mpr ⟨(rfl : Cond.onTables _ = true), (List.forall_mem_cons.mpr ⟨(rfl : Cond.onTables _ = true), (List.forall_mem_cons.mpr ⟨(rfl : Cond.onTables _ = true), (List.forall_mem_cons.mpr ⟨(rfl : Cond.onTables _ = true), (List.forall_mem_cons.mpr ⟨(rfl : Cond.onTables _ = true), (List.forall_mem_cons.mpr ⟨(rfl : Cond.onTables _ = true), (List.forall_mem_cons.mpr ⟨(rfl : Cond.onTables _ = true), (List.forall_mem_cons.mpr ⟨(rfl : Cond.onTables _ = true), (List.forall_mem_cons.mpr ⟨(rfl : Cond.onTables _ = true), (List.forall_mem_cons.mpr ⟨(rfl : Cond.onTables _ = true), (List.forall_mem_cons.mpr ⟨(rfl : Cond.onTables _ = true), (List.forall_mem_cons.mpr ⟨(rfl : Cond.onTables _ = true), (List.forall_mem_cons.mpr ⟨(rfl : Cond.onTables _ = true), (List.forall_mem_cons.mpr ⟨(rfl : Cond.onTables _ = true), (List.forall_mem_cons.mpr ⟨(rfl : Cond.onTables _ = true), (List.forall_mem_cons.mpr ⟨(rfl : Cond.onTables _ = true), (List.forall_mem_cons.mpr ⟨(rfl : Cond.onTables _ = true), (List.forall_mem_cons.mpr ⟨(rfl : Cond.onTables _ = true), (List.forall_mem_cons.mpr ⟨(rfl : Cond.onTables _ = true), (List.forall_mem_cons.mpr ⟨(rfl : Cond.onTables _ = true), (List.forall_mem_cons.mpr ⟨(rfl : Cond.onTables _ = true), (List.forall_mem_cons.mpr ⟨(rfl : Cond.onTables _ = true), (fun _ h => absurd h List.not_mem_nil)⟩)⟩)⟩)⟩)⟩)⟩)⟩)⟩)⟩)⟩)⟩)⟩)⟩)⟩)⟩)⟩)⟩)⟩)⟩)⟩)⟩)⟩)⟩)⟩)⟩)⟩)⟩)⟩)⟩)⟩)⟩)⟩)⟩)⟩)⟩)⟩)⟩)⟩)⟩)⟩)⟩)⟩)⟩)⟩)⟩)
def gk (G : GG) (U : State) : Prop := va_K G.1 cl (tys G) U ∧ (∀ w ∈ nwl, va_Nw w U) ∧ va_AO "FleetFloor$Vehicle" U ∧ va_AO "FleetFloor$Cells" U ∧ va_AO "java/lang/Object" U
theorem gk.warm {G : GG} {s U : State} (hW : s.WarmedH U.vm) (h : gk G s) : gk G U := ⟨va_K.moved hW.alike h.1, nw_warm hW h.2.1, h.2.2.1.moved hW.alike, h.2.2.2.1.moved hW.alike, h.2.2.2.2.moved hW.alike⟩
def z0 (d : Nat) (A : Nat → Prop) (U : State) (H : Heap) : Prop := va_Z "java/util/ArrayList" "DEFAULTCAPACITY_EMPTY_ELEMENTDATA" "[Ljava/lang/Object;" (.ref d) A U H ∧ va_T (.object "java/lang/Object") d 0 (fun _ => .null) A U H
/-- a static field that holds a reference: its cell, out of reach -/
def xz (C n d : String) (A : Nat → Prop) (U : State) (H : Heap) : Prop := ∃ (c : ClassId) (k : Class) (i : Nat) (f : Field) (a : Nat) (cell : Cell) (v : Value), U.vm.findClass C = some c ∧ U.fieldFound? C n d = some (c, k, i, f) ∧ f.isStatic = true ∧ k.statics = some a ∧ k.staticTypes[f.slot]? = some f.type ∧ (cell.vm.isStatics = true ∧ cell.cls = c ∧ f.slot < cell.slots.size ∧ cell.slots[f.slot]? = some v ∧ v.isRef = true) ∧ H[a]? = some cell ∧ ¬ A a
theorem xz.moved {C n d : String} {A : Nat → Prop} {u U : State} {H : Heap} (hvm : u.vm.Alike U.vm) (h : xz C n d A u H) : xz C n d A U H := by
  obtain ⟨c, k, i, f, a, cell, v, h1, h2, h3, h4, h5, h6⟩ := h
  obtain ⟨k', hi', he⟩ := State.fieldFound?_setVm hvm h2
  exact ⟨c, k', i, f, a, cell, v, by rw [hvm.findClass]; exact h1, hi', h3, by rw [he]; exact h4, by rw [he]; exact h5, h6⟩
theorem xz.kept {C n d : String} {A : Nat → Prop} {U : State} {H H1 : Heap} (h : xz C n d A U H) (hq : ∀ a : Nat, a < H.size → ¬ A a → H1[a]? = H[a]?) : xz C n d A U H1 := by
  obtain ⟨c, k, i, f, a, cell, v, h1, h2, h3, h4, h5, h6, h7, h8⟩ := h
  exact ⟨c, k, i, f, a, cell, v, h1, h2, h3, h4, h5, h6, by rw [hq a (Array.getElem?_eq_some_iff.mp h7).1 h8]; exact h7, h8⟩
theorem xz.narrow {C n d : String} {A B : Nat → Prop} {U : State} {H : Heap} (h : xz C n d A U H) (hAB : ∀ q, B q → A q) : xz C n d B U H := by
  obtain ⟨c, k, i, f, a, cell, v, h1, h2, h3, h4, h5, h6, h7, h8⟩ := h
  exact ⟨c, k, i, f, a, cell, v, h1, h2, h3, h4, h5, h6, h7, fun z => h8 (hAB a z)⟩
theorem xz.of {args : Array Value} {s : State} {C n d : String} {A : Nat → Prop} (hl : (Cond.laysStatic C n d).before args s = true) (h : (Cond.isRef (.static C n d)).before args s = true) (hA : ∀ a : Nat, a < s.heap.size → ¬ A a) : xz C n d A s s.heap := by
  obtain ⟨c, k, i, f, a, cell, hc, hi, hst, ha, hcell, hs, hcls, hlt, hty⟩ := Cond.laysStatic_spec hl
  obtain ⟨v, hv, hr⟩ := Cond.isRef_spec h
  obtain ⟨hst', a', cell', ha', hcell', -, hslot⟩ := Term.static_spec hi hv
  cases ha.symm.trans ha'
  cases hcell.symm.trans hcell'
  exact ⟨c, k, i, f, a, cell, v, hc, hi, hst, ha, hty, ⟨hs, hcls, hlt, hslot, hr⟩, hcell, hA a (Array.getElem?_eq_some_iff.mp hcell).1⟩
theorem xz.lays {args : Array Value} {s : State} {C n d : String} {A : Nat → Prop} (h : xz C n d A s s.heap) : (Cond.laysStatic C n d).before args s = true := by
  obtain ⟨c, k, i, f, a, cell, v, h1, h2, h3, h4, h5, ⟨h6, h9, h10, h11, h12⟩, h7, h8⟩ := h
  simp [Cond.before, Cond.holds, Cond.value, h1, h2, h3, h4, h5, h6, h7, h9, h10]
theorem xz.isRef {args : Array Value} {s : State} {C n d : String} {A : Nat → Prop} (h : xz C n d A s s.heap) : (Cond.isRef (.static C n d)).before args s = true := by
  obtain ⟨c, k, i, f, a, cell, v, h1, h2, h3, h4, h5, ⟨h6, h9, h10, h11, h12⟩, h7, h8⟩ := h
  have hv : (Term.static C n d).eval args s none [] s = some v := by
    simp [Term.eval, State.fieldNamed?, h2, h3, h4, h6, h7, h11]
  simp only [Cond.before, Cond.holds, Cond.value, hv]
  cases v <;> simp_all [Value.isRef]
abbrev xw : List (Nat × String) := [(64, "the floor is open already"), (74, "the map is not good"), (100, "the floor is not open, or there were all tasks"), (106, "there is no such station"), (115, "the floor is not open")]
abbrev xI : String := "java/lang/IllegalArgumentException"
abbrev xS : String := "java/lang/IllegalStateException"
def xk (A : Nat → Prop) (U : State) (H : Heap) : Prop := ((∃ mi : Nat, va_Mi "[Ljava/lang/Object;" mi U) ∧ va_Nc xS xI U ∧ va_Nc xI xS U) ∧ (xz "java/lang/Throwable" "UNASSIGNED_STACK" "[Ljava/lang/StackTraceElement;" A U H ∧ xz "java/lang/Throwable" "SUPPRESSED_SENTINEL" "Ljava/util/List;" A U H) ∧ ∀ w ∈ xw, ∃ a : Nat, vk_R "FleetFloor" w.1 w.2 a U
/-- what every method finds: the tables, the empty list's array, what a throw and a catch need -/
def ev (G : GG) (A : Nat → Prop) (U : State) (H : Heap) : Prop := gk G U ∧ z0 G.2.2 A U H ∧ xk A U H
theorem ev.into {G : GG} {A A1 : Nat → Prop} {s U : State} {H : Heap} {locs : List Loc} (h : ev G A s s.heap) (hS : va_S A s.heap H locs) (hA : ∀ q, A1 q → A q) (hW : s.WarmedH U.vm) : ev G A1 U H := by
  obtain ⟨h1, ⟨h2, h3⟩, ⟨⟨mi, hmi⟩, hn1, hn2⟩, ⟨hx1, hx2⟩, hs⟩ := h
  exact ⟨h1.warm hW, ⟨((h2.moved hW.alike).kept (fun a h1 h2 => hS.2.1 a h1 h2)).narrow hA, ((h3.moved hW.alike).kept (fun a h1 h2 => hS.2.1 a h1 h2)).narrow hA⟩, ⟨⟨mi, hmi.moved hW.alike⟩, hn1.moved hW.alike, hn2.moved hW.alike⟩, ⟨((hx1.moved hW.alike).kept (fun a h1 h2 => hS.2.1 a h1 h2)).narrow hA, ((hx2.moved hW.alike).kept (fun a h1 h2 => hS.2.1 a h1 h2)).narrow hA⟩, fun w hw => (hs w hw).imp (fun a h => h.warm hW)⟩
/-- which cells may change: those of the pool, and new ones -/
def pgA (L : List Nat) (sz : Nat) : Nat → Prop := fun q => q ∈ L ∨ sz ≤ q
/-- the pool in a heap -/
def pgR (G : GG) (L : List Nat) (f : Nat → va_E) (H : Heap) : Prop := va_P G.1 cl (va_pl L f) H ∧ va_D (fun _ => True) (va_pl L f)
theorem pg_plD {A : Nat → Prop} {L : List Nat} {f : Nat → va_E} (h : va_D (fun _ => True) (va_pl L f)) (hA : ∀ q ∈ L, A q) : va_D A (va_pl L f) := by
  refine ⟨h.1, fun k q hk => ?_⟩
  obtain ⟨a, ha, rfl⟩ := List.mem_map.mp (List.mem_of_getElem? hk)
  exact hA a ha
theorem pg_plA {A : Nat → Prop} {L : List Nat} {f : Nat → va_E} (h : va_D A (va_pl L f)) : ∀ q ∈ L, A q := by
  intro q hq
  obtain ⟨k, hk⟩ := List.getElem?_of_mem (show (q, f q) ∈ va_pl L f from List.mem_map.mpr ⟨q, hq, rfl⟩)
  exact h.2 k _ hk
/-- within a method: the pool as it stands, what was touched -/
def pgS (G : GG) (A : Nat → Prop) (H0 : Heap) (L : List Nat) (f : Nat → va_E) (H : Heap) (locs : List Loc) : Prop := va_P G.1 cl (va_pl L f) H ∧ va_D A (va_pl L f) ∧ va_S A H0 H locs ∧ ∀ q, H0.size ≤ q → A q
theorem pgS.ix {G : GG} {A : Nat → Prop} {H0 H : Heap} {L : List Nat} {f : Nat → va_E} {locs : List Loc} (_h : pgS G A H0 L f H locs) {a : Nat} (ha : a ∈ L) : ∃ k : Nat, (va_pl L f)[k]? = some (a, f a) := List.getElem?_of_mem (List.mem_map.mpr ⟨a, ha, rfl⟩)
theorem pg_set {A : Nat → Prop} {L : List Nat} {f : Nat → va_E} {a k : Nat} {e : va_E} (hD : va_D A (va_pl L f)) (h : a ∈ L) (hk : (va_pl L f)[k]? = some (a, f a)) : (va_pl L f).set k (a, e) = va_pl L (va_up f a e) := va_pl_set (X := []) hD h hk
theorem pgS.fresh {G : GG} {A : Nat → Prop} {H0 H : Heap} {L : List Nat} {f : Nat → va_E} {locs : List Loc} (h : pgS G A H0 L f H locs) {a : Nat} (ha : a ∈ L) : a < H.size := va_pl_lt (X := []) h.1 ha
/-- the locals, by their places -/
def loL : Nat → List (Option Value) → List (Nat × Value)
  | _, [] => []
  | i, none :: t => loL (i + 1) t
  | i, some v :: t => (i, v) :: loL (i + 1) t
def lo (ls : Array Slot) (vs : List (Option Value)) : Prop := lv_has ls vs.length (loL 0 vs)
theorem loL_mem {vs : List (Option Value)} {i j : Nat} {v : Value} (h : vs[j]? = some (some v)) : (i + j, v) ∈ loL i vs := by
  induction vs generalizing i j with
  | nil => simp at h
  | cons x t ih =>
    cases j with
    | zero =>
      simp at h
      subst h
      simp [loL]
    | succ j =>
      have h' : t[j]? = some (some v) := by simpa using h
      have := ih (i := i + 1) h'
      have e : i + (j + 1) = i + 1 + j := by omega
      rw [e]
      cases x with
      | none => exact this
      | some w => exact List.mem_cons_of_mem _ this
theorem lo_at {ls : Array Slot} {vs : List (Option Value)} (h : lo ls vs) (i : Nat) {v : Value} (hi : vs[i]? = some (some v)) : ls[i]? = some (.val v) := by
  have := loL_mem (i := 0) hi
  rw [Nat.zero_add] at this
  exact h.2.2 _ this
theorem loL_inv {vs : List (Option Value)} {i : Nat} {q : Nat × Value} (h : q ∈ loL i vs) : i ≤ q.1 ∧ vs[q.1 - i]? = some (some q.2) := by
  induction vs generalizing i q with
  | nil => simp [loL] at h
  | cons x t ih =>
    have step : ∀ q', q' ∈ loL (i + 1) t → i ≤ q'.1 ∧ (x :: t)[q'.1 - i]? = some (some q'.2) := by
      intro q' hq'
      obtain ⟨h1, h2⟩ := ih hq'
      refine ⟨by omega, ?_⟩
      have e : q'.1 - i = (q'.1 - (i + 1)) + 1 := by omega
      rw [e]
      simpa using h2
    cases x with
    | none => exact step q h
    | some w =>
      rcases List.mem_cons.mp h with rfl | h
      · simp
      · exact step q h
theorem lo_set1 {ls : Array Slot} {vs : List (Option Value)} {i : Nat} {v : Value} {l' : Array Slot} (hi : i < vs.length) (hno : ∀ (j : Nat) (w : Value), vs[j]? = some (some w) → w.category = 1)
    (h : lv_has l' vs.length ((i, v) :: (loL 0 vs).filter (fun q => !(q.1 == i) && !(q.1 + 1 == i && q.2.category == 2)))) : lo l' (vs.set i (some v)) := by
  refine ⟨by rw [List.length_set]; exact h.1, h.2.1, ?_⟩
  intro q hq
  obtain ⟨-, h2⟩ := loL_inv hq
  rw [Nat.sub_zero] at h2
  apply h.2.2
  by_cases e : q.1 = i
  · rw [e, List.getElem?_set_self hi] at h2
    have : v = q.2 := by simpa using h2
    exact List.mem_cons.mpr (Or.inl (by rw [this, ← e]))
  · rw [List.getElem?_set_ne (fun z => e z.symm)] at h2
    refine List.mem_cons_of_mem _ (List.mem_filter.mpr ⟨?_, ?_⟩)
    · have := loL_mem (i := 0) h2
      rwa [Nat.zero_add] at this
    · have hc := hno q.1 q.2 h2
      simp [e, hc]
theorem pg_nodup {A : Nat → Prop} {L : List Nat} {f : Nat → va_E} (h : va_D A (va_pl L f)) : L.Nodup := by
  unfold List.Nodup
  rw [List.pairwise_iff_getElem]
  intro i j hi hj hij e
  have h1 : (va_pl L f)[i]? = some (L[i], f L[i]) := by simp [va_pl, hi]
  have h2 : (va_pl L f)[j]? = some (L[j], f L[j]) := by simp [va_pl, hj]
  have := h.1 i j _ _ h1 h2 e
  omega
theorem pg_apart {A : Nat → Prop} {L N : List Nat} {f : Nat → va_E} (h : va_D A (va_pl (L ++ N) f)) {q : Nat} (hq : q ∈ N) : q ∉ L := by
  have := pg_nodup h
  rw [List.nodup_append] at this
  exact fun hl => this.2.2 q hl q hq rfl
/-- all the locals there are hold one word each -/
def lo1 : List (Option Value) → Bool
  | [] => true
  | none :: t => lo1 t
  | some v :: t => (v.category == 1) && lo1 t
theorem lo1_at {vs : List (Option Value)} (h : lo1 vs = true) : ∀ (j : Nat) (w : Value), vs[j]? = some (some w) → w.category = 1 := by
  induction vs with
  | nil => intro j w hj; simp at hj
  | cons x t ih =>
    intro j w hj
    cases x with
    | none =>
      cases j with
      | zero => simp at hj
      | succ j => exact ih h j w (by simpa using hj)
    | some v =>
      simp only [lo1, Bool.and_eq_true, beq_iff_eq] at h
      cases j with
      | zero =>
        have : v = w := by simpa using hj
        rw [← this]; exact h.1
      | succ j => exact ih h.2 j w (by simpa using hj)
section PGR
variable {p : Program} {l : Launch} {e : Env} {R : Room} {s : State} {m : MethodId} {args : Array Value} {below : List Frame} {meth : Method} {c : Code} {H : Heap} {locs : List Loc} {cells slots : Nat} {Q : State → Prop}
variable {cc : ByteArray} {pc nL : Nat} {ls : Array Slot} {rest : List Value} {G : GG} {A : Nat → Prop} {a : Nat} {H0 : Heap} {L P : List Nat} {f : Nat → va_E} {own : String} {vs : List (Option Value)}
theorem lo_istore_n (C : CallFix p m c cc nL s args bg own) (hl : lo ls vs) {k : Fin 4} {x : Int32} (hdg : decode cc pc = .ok (.istore_n k, 1)) (hn : (k : Nat) < vs.length) (h1 : lo1 vs = true) (kk : ∀ ls' : Array Slot, lo ls' (vs.set k (some (.int x))) → W p l e R s m args below meth c H locs cells slots Q (F0 m (pc + 1) ls' rest)) : W p l e R s m args below meth c H locs cells slots Q (F0 m pc ls (.int x :: rest)) :=
  lv_istore_n C.1 C.2.1 hdg rfl hl hn rfl (fun ls' h => kk ls' (lo_set1 (ls := ls) hn (lo1_at h1) h))
theorem lo_istore (C : CallFix p m c cc nL s args bg own) (hl : lo ls vs) {k : Nat} {x : Int32} (hdg : decode cc pc = .ok (.istore k, 2)) (hn : k < vs.length) (h1 : lo1 vs = true) (kk : ∀ ls' : Array Slot, lo ls' (vs.set k (some (.int x))) → W p l e R s m args below meth c H locs cells slots Q (F0 m (pc + 2) ls' rest)) : W p l e R s m args below meth c H locs cells slots Q (F0 m pc ls (.int x :: rest)) :=
  lv_istore C.1 C.2.1 hdg hl hn rfl (fun ls' h => kk ls' (lo_set1 (ls := ls) hn (lo1_at h1) h))
theorem lo_astore_n (C : CallFix p m c cc nL s args bg own) (hl : lo ls vs) {k : Fin 4} {x : Nat} (hdg : decode cc pc = .ok (.astore_n k, 1)) (hn : (k : Nat) < vs.length) (h1 : lo1 vs = true) (kk : ∀ ls' : Array Slot, lo ls' (vs.set k (some (.ref x))) → W p l e R s m args below meth c H locs cells slots Q (F0 m (pc + 1) ls' rest)) : W p l e R s m args below meth c H locs cells slots Q (F0 m pc ls (.ref x :: rest)) :=
  lv_astore_n C.1 C.2.1 hdg rfl hl hn rfl (fun ls' h => kk ls' (lo_set1 (ls := ls) hn (lo1_at h1) h))
theorem lo_astore (C : CallFix p m c cc nL s args bg own) (hl : lo ls vs) {k : Nat} {x : Nat} (hdg : decode cc pc = .ok (.astore k, 2)) (hn : k < vs.length) (h1 : lo1 vs = true) (kk : ∀ ls' : Array Slot, lo ls' (vs.set k (some (.ref x))) → W p l e R s m args below meth c H locs cells slots Q (F0 m (pc + 2) ls' rest)) : W p l e R s m args below meth c H locs cells slots Q (F0 m pc ls (.ref x :: rest)) :=
  lv_astore C.1 C.2.1 hdg hl hn rfl (fun ls' h => kk ls' (lo_set1 (ls := ls) hn (lo1_at h1) h))
theorem lo_astore_nN (C : CallFix p m c cc nL s args bg own) (hl : lo ls vs) {k : Fin 4} (hdg : decode cc pc = .ok (.astore_n k, 1)) (hn : (k : Nat) < vs.length) (h1 : lo1 vs = true) (kk : ∀ ls' : Array Slot, lo ls' (vs.set k (some .null)) → W p l e R s m args below meth c H locs cells slots Q (F0 m (pc + 1) ls' rest)) : W p l e R s m args below meth c H locs cells slots Q (F0 m pc ls (.null :: rest)) :=
  lv_astore_nN C.1 C.2.1 hdg rfl hl hn rfl (fun ls' h => kk ls' (lo_set1 (ls := ls) hn (lo1_at h1) h))
theorem lo_iinc (C : CallFix p m c cc nL s args bg own) (hl : lo ls vs) {i : Nat} {n : Int} {x : Int32} (hdg : decode cc pc = .ok (.iinc i n, 3)) (hi : vs[i]? = some (some (.int x))) (h1 : lo1 vs = true) (kk : ∀ ls' : Array Slot, lo ls' (vs.set i (some (.int (x + Int32.ofInt n)))) → W p l e R s m args below meth c H locs cells slots Q (F0 m (pc + 3) ls' rest)) : W p l e R s m args below meth c H locs cells slots Q (F0 m pc ls rest) := by
  have hm := loL_mem (i := 0) hi
  rw [Nat.zero_add] at hm
  obtain ⟨k, hk⟩ := List.getElem?_of_mem hm
  have hn : i < vs.length := (List.getElem?_eq_some_iff.mp hi).1
  exact lv_iinc C.1 C.2.1 hdg hl hk rfl hn rfl (fun ls' h => kk ls' (lo_set1 (ls := ls) hn (lo1_at h1) h))
theorem pg_get (C : CallFix p m c cc nL s args bg own) (hE : ev G A s H0) (hM : pgS G A H0 P f H locs) (ha : a ∈ P) {ci : Nat} {fs : List Value} (hf : f a = .inr (ci, fs)) {C0 ref : String} {T : u_T} {N : Nat} (hc : cl[ci]? = some (C0, T, N)) (hin : ∀ w ∈ u_ws C0 T N, w ∈ bg) (k : Nat) (hk : k < N) {index : Nat} (hw : Cond.fieldLink own index ref (T k).2.1 (T k).2.2.1 ∈ bg) (hr : (T k).1 = ref) {v : Value} (hv : fs[k]? = some v) (hdg : decode cc pc = .ok (.getfield index, 3))
    (kk : W p l e R s m args below meth c H locs cells slots Q (F0 m (pc + 3) ls (v :: rest))) : W p l e R s m args below meth c H locs cells slots Q (F0 m pc ls (.ref a :: rest)) := by
  obtain ⟨q0, he⟩ := hM.ix ha
  rw [hf] at he
  exact va_get C.1 C.2.1 C.2.2.2.2 hin C.2.2.2.1 hE.1.1 hM.1 q0 he hc k hk (C.2.2.2.2 _ hw) (fun x h9 => by rw [← hr]; exact h9) hv hdg kk
theorem pg_getN (C : CallFix p m c cc nL s args bg own) (hE : ev G A s H0) (hM : pgS G A H0 P f H locs) (ha : a ∈ P) {ci : Nat} {fs : List Value} (hf : f a = .inr (ci, fs)) {C0 ref host : String} {T : u_T} {N : Nat} (hc : cl[ci]? = some (C0, T, N)) (hin : ∀ w ∈ u_ws C0 T N, w ∈ bg) (k : Nat) (hk : k < N) {index : Nat} (hw : Cond.fieldLinkNest own index ref (T k).2.1 (T k).2.2.1 host ∈ nwl) (hr : (T k).1 = ref) {v : Value} (hv : fs[k]? = some v) (hdg : decode cc pc = .ok (.getfield index, 3))
    (kk : W p l e R s m args below meth c H locs cells slots Q (F0 m (pc + 3) ls (v :: rest))) : W p l e R s m args below meth c H locs cells slots Q (F0 m pc ls (.ref a :: rest)) := by
  obtain ⟨q0, he⟩ := hM.ix ha
  rw [hf] at he
  exact va_getN C.1 C.2.1 C.2.2.2.2 hin C.2.2.2.1 hE.1.1 hM.1 q0 he hc k hk (va_Nw.use (nw_ont _ hw) (hE.1.2.1 _ hw)) (fun x h9 => by rw [← hr]; exact h9) hv hdg kk
theorem pg_put (C : CallFix p m c cc nL s args bg own) (hE : ev G A s H0) (hM : pgS G A H0 P f H locs) (ha : a ∈ P) {ci : Nat} {fs : List Value} (hf : f a = .inr (ci, fs)) {C0 ref : String} {T : u_T} {N : Nat} (hc : cl[ci]? = some (C0, T, N)) (hin : ∀ w ∈ u_ws C0 T N, w ∈ bg) {ty0 : Nat → FieldType} (hty : ∀ k, k < N → parseFieldDescriptor (T k).2.2.1 = some (ty0 k)) (hnm : ∀ a, a < N → ∀ b, b < N → a ≠ b → (T a).2.1 ≠ (T b).2.1) (k : Nat) (hk : k < N) {index : Nat} (hw : Cond.fieldLink own index ref (T k).2.1 (T k).2.2.1 ∈ bg) (hr : (T k).1 = ref) (hfin : (T k).2.2.2 = false) {v : Value} (hn : narrow (ty0 k) v = v) (hfit : fits (ty0 k) v = true) (hlen : k < fs.length) (hdg : decode cc pc = .ok (.putfield index, 3))
    (kk : ∀ (H1 : Heap) (locs1 : List Loc), pgS G A H0 P (va_up f a (.inr (ci, fs.set k v))) H1 locs1 → W p l e R s m args below meth c H1 locs1 cells slots Q (F0 m (pc + 3) ls rest)) : W p l e R s m args below meth c H locs cells slots Q (F0 m pc ls (v :: .ref a :: rest)) := by
  obtain ⟨q0, he⟩ := hM.ix ha
  have hs := fun e => pg_set (e := e) hM.2.1 ha he
  rw [hf] at he
  exact va_put C.1 C.2.1 C.2.2.2.2 hin ty0 hty hnm C.2.2.2.1 hE.1.1 hM.1 hM.2.1 hM.2.2.1 q0 he hc k hk (C.2.2.2.2 _ hw) (fun x h9 => by rw [← hr]; exact h9) hfin (hty k hk) hn hfit hlen hdg (fun H1 locs1 a1 a2 a3 => kk H1 locs1 ⟨by rw [← hs]; exact a1, by rw [← hs]; exact a2, a3, hM.2.2.2⟩)
theorem pg_putF (C : CallFix p m c cc nL s args bg own) (hE : ev G A s H0) (hM : pgS G A H0 P f H locs) (ha : a ∈ P) {ci : Nat} {fs : List Value} (hf : f a = .inr (ci, fs)) {C0 ref : String} {T : u_T} {N : Nat} (hc : cl[ci]? = some (C0, T, N)) (hin : ∀ w ∈ u_ws C0 T N, w ∈ bg) {ty0 : Nat → FieldType} (hty : ∀ k, k < N → parseFieldDescriptor (T k).2.2.1 = some (ty0 k)) (hnm : ∀ a, a < N → ∀ b, b < N → a ≠ b → (T a).2.1 ≠ (T b).2.1) (k : Nat) (hk : k < N) {index : Nat} (hw : Cond.fieldLink own index ref (T k).2.1 (T k).2.2.1 ∈ bg) (hr : (T k).1 = ref) (hfin : (T k).2.2.2 = true) (hin2 : meth.name = "<init>") (hdecl : (T k).1 = own) {v : Value} (hn : narrow (ty0 k) v = v) (hfit : fits (ty0 k) v = true) (hlen : k < fs.length) (hdg : decode cc pc = .ok (.putfield index, 3))
    (kk : ∀ (H1 : Heap) (locs1 : List Loc), pgS G A H0 P (va_up f a (.inr (ci, fs.set k v))) H1 locs1 → W p l e R s m args below meth c H1 locs1 cells slots Q (F0 m (pc + 3) ls rest)) : W p l e R s m args below meth c H locs cells slots Q (F0 m pc ls (v :: .ref a :: rest)) := by
  obtain ⟨q0, he⟩ := hM.ix ha
  have hs := fun e => pg_set (e := e) hM.2.1 ha he
  rw [hf] at he
  exact va_putF C.1 C.2.1 C.2.2.2.2 hin ty0 hty hnm C.2.2.2.1 hE.1.1 hM.1 hM.2.1 hM.2.2.1 q0 he hc k hk (C.2.2.2.2 _ hw) (fun x h9 => by rw [← hr]; exact h9) hfin hin2 hdecl (hty k hk) hn hfit hlen hdg (fun H1 locs1 a1 a2 a3 => kk H1 locs1 ⟨by rw [← hs]; exact a1, by rw [← hs]; exact a2, a3, hM.2.2.2⟩)
theorem pg_putN (C : CallFix p m c cc nL s args bg own) (hE : ev G A s H0) (hM : pgS G A H0 P f H locs) (ha : a ∈ P) {ci : Nat} {fs : List Value} (hf : f a = .inr (ci, fs)) {C0 ref host : String} {T : u_T} {N : Nat} (hc : cl[ci]? = some (C0, T, N)) (hin : ∀ w ∈ u_ws C0 T N, w ∈ bg) {ty0 : Nat → FieldType} (hty : ∀ k, k < N → parseFieldDescriptor (T k).2.2.1 = some (ty0 k)) (hnm : ∀ a, a < N → ∀ b, b < N → a ≠ b → (T a).2.1 ≠ (T b).2.1) (k : Nat) (hk : k < N) {index : Nat} (hw : Cond.fieldLinkNest own index ref (T k).2.1 (T k).2.2.1 host ∈ nwl) (hr : (T k).1 = ref) (hfin : (T k).2.2.2 = false) {v : Value} (hn : narrow (ty0 k) v = v) (hfit : fits (ty0 k) v = true) (hlen : k < fs.length) (hdg : decode cc pc = .ok (.putfield index, 3))
    (kk : ∀ (H1 : Heap) (locs1 : List Loc), pgS G A H0 P (va_up f a (.inr (ci, fs.set k v))) H1 locs1 → W p l e R s m args below meth c H1 locs1 cells slots Q (F0 m (pc + 3) ls rest)) : W p l e R s m args below meth c H locs cells slots Q (F0 m pc ls (v :: .ref a :: rest)) := by
  obtain ⟨q0, he⟩ := hM.ix ha
  have hs := fun e => pg_set (e := e) hM.2.1 ha he
  rw [hf] at he
  exact va_putN C.1 C.2.1 C.2.2.2.2 hin ty0 hty hnm C.2.2.2.1 hE.1.1 hM.1 hM.2.1 hM.2.2.1 q0 he hc k hk (va_Nw.use (nw_ont _ hw) (hE.1.2.1 _ hw)) (fun x h9 => by rw [← hr]; exact h9) hfin (hty k hk) hn hfit hlen hdg (fun H1 locs1 a1 a2 a3 => kk H1 locs1 ⟨by rw [← hs]; exact a1, by rw [← hs]; exact a2, a3, hM.2.2.2⟩)
theorem pg_iald (C : CallFix p m c cc nL s args bg own) (hE : ev G A s H0) (hM : pgS G A H0 P f H locs) (ha : a ∈ P) {n : Nat} {g : Nat → Int32} (hf : f a = .inl (G.2.1 0, n, .inl g)) {i : Int32} (hin : vp_in i n) (hdg : decode cc pc = .ok (.iaload, 1))
    (kk : W p l e R s m args below meth c H locs cells slots Q (F0 m (pc + 1) ls (.int (g i.toNatClampNeg) :: rest))) : W p l e R s m args below meth c H locs cells slots Q (F0 m pc ls (.int i :: .ref a :: rest)) := by
  obtain ⟨q0, he⟩ := hM.ix ha
  rw [hf] at he
  exact va_iald C.1 C.2.1 hE.1.1 hM.1 q0 0 he rfl hin hdg kk
theorem pg_lald (C : CallFix p m c cc nL s args bg own) (hE : ev G A s H0) (hM : pgS G A H0 P f H locs) (ha : a ∈ P) {n : Nat} {g : Nat → Int64} (hf : f a = .inl (G.2.1 1, n, .inr (.inl g))) {i : Int32} (hin : vp_in i n) (hdg : decode cc pc = .ok (.laload, 1))
    (kk : W p l e R s m args below meth c H locs cells slots Q (F0 m (pc + 1) ls (.long (g i.toNatClampNeg) :: rest))) : W p l e R s m args below meth c H locs cells slots Q (F0 m pc ls (.int i :: .ref a :: rest)) := by
  obtain ⟨q0, he⟩ := hM.ix ha
  rw [hf] at he
  exact va_lald C.1 C.2.1 hE.1.1 hM.1 q0 1 he rfl hin hdg kk
theorem pg_zald (C : CallFix p m c cc nL s args bg own) (hE : ev G A s H0) (hM : pgS G A H0 P f H locs) (ha : a ∈ P) {n : Nat} {g : Nat → Int32} (hf : f a = .inl (G.2.1 2, n, .inl g)) {i : Int32} (hin : vp_in i n) (hdg : decode cc pc = .ok (.baload, 1))
    (kk : W p l e R s m args below meth c H locs cells slots Q (F0 m (pc + 1) ls (.int (g i.toNatClampNeg) :: rest))) : W p l e R s m args below meth c H locs cells slots Q (F0 m pc ls (.int i :: .ref a :: rest)) := by
  obtain ⟨q0, he⟩ := hM.ix ha
  rw [hf] at he
  exact va_zald C.1 C.2.1 hE.1.1 hM.1 q0 2 he rfl hin hdg kk
theorem pg_iast (C : CallFix p m c cc nL s args bg own) (hE : ev G A s H0) (hM : pgS G A H0 P f H locs) (ha : a ∈ P) {n : Nat} {g : Nat → Int32} (hf : f a = .inl (G.2.1 0, n, .inl g)) {i x : Int32} (hin : vp_in i n) (hdg : decode cc pc = .ok (.iastore, 1))
    (kk : ∀ (H1 : Heap) (locs1 : List Loc), pgS G A H0 P (va_up f a (.inl (G.2.1 0, n, .inl (upd g i.toNatClampNeg x)))) H1 locs1 → W p l e R s m args below meth c H1 locs1 cells slots Q (F0 m (pc + 1) ls rest)) : W p l e R s m args below meth c H locs cells slots Q (F0 m pc ls (.int x :: .int i :: .ref a :: rest)) := by
  obtain ⟨q0, he⟩ := hM.ix ha
  have hs := fun e => pg_set (e := e) hM.2.1 ha he
  rw [hf] at he
  exact va_iast C.1 C.2.1 hE.1.1 hM.1 hM.2.1 hM.2.2.1 q0 0 he rfl hin hdg (fun H1 locs1 a1 a2 a3 => kk H1 locs1 ⟨by rw [← hs]; exact a1, by rw [← hs]; exact a2, a3, hM.2.2.2⟩)
theorem pg_last (C : CallFix p m c cc nL s args bg own) (hE : ev G A s H0) (hM : pgS G A H0 P f H locs) (ha : a ∈ P) {n : Nat} {g : Nat → Int64} (hf : f a = .inl (G.2.1 1, n, .inr (.inl g))) {i : Int32} {x : Int64} (hin : vp_in i n) (hdg : decode cc pc = .ok (.lastore, 1))
    (kk : ∀ (H1 : Heap) (locs1 : List Loc), pgS G A H0 P (va_up f a (.inl (G.2.1 1, n, .inr (.inl (vp_updL g i.toNatClampNeg x))))) H1 locs1 → W p l e R s m args below meth c H1 locs1 cells slots Q (F0 m (pc + 1) ls rest)) : W p l e R s m args below meth c H locs cells slots Q (F0 m pc ls (.long x :: .int i :: .ref a :: rest)) := by
  obtain ⟨q0, he⟩ := hM.ix ha
  have hs := fun e => pg_set (e := e) hM.2.1 ha he
  rw [hf] at he
  exact va_last C.1 C.2.1 hE.1.1 hM.1 hM.2.1 hM.2.2.1 q0 1 he rfl hin hdg (fun H1 locs1 a1 a2 a3 => kk H1 locs1 ⟨by rw [← hs]; exact a1, by rw [← hs]; exact a2, a3, hM.2.2.2⟩)
theorem pg_zast (C : CallFix p m c cc nL s args bg own) (hE : ev G A s H0) (hM : pgS G A H0 P f H locs) (ha : a ∈ P) {n : Nat} {g : Nat → Int32} (hf : f a = .inl (G.2.1 2, n, .inl g)) {i x : Int32} (hin : vp_in i n) (hdg : decode cc pc = .ok (.bastore, 1))
    (kk : ∀ (H1 : Heap) (locs1 : List Loc), pgS G A H0 P (va_up f a (.inl (G.2.1 2, n, .inl (upd g i.toNatClampNeg (vp_nar .boolean x))))) H1 locs1 → W p l e R s m args below meth c H1 locs1 cells slots Q (F0 m (pc + 1) ls rest)) : W p l e R s m args below meth c H locs cells slots Q (F0 m pc ls (.int x :: .int i :: .ref a :: rest)) := by
  obtain ⟨q0, he⟩ := hM.ix ha
  have hs := fun e => pg_set (e := e) hM.2.1 ha he
  rw [hf] at he
  exact va_zast C.1 C.2.1 hE.1.1 hM.1 hM.2.1 hM.2.2.1 q0 2 he rfl hin hdg (fun H1 locs1 a1 a2 a3 => kk H1 locs1 ⟨by rw [← hs]; exact a1, by rw [← hs]; exact a2, a3, hM.2.2.2⟩)
theorem pg_alen (C : CallFix p m c cc nL s args bg own) (hE : ev G A s H0) (hM : pgS G A H0 P f H locs) (ha : a ∈ P) {t0 : Nat} (ht0 : t0 < 6) {x : vp_A} (hf : f a = .inl (G.2.1 t0, x)) (hdg : decode cc pc = .ok (.arraylength, 1))
    (kk : W p l e R s m args below meth c H locs cells slots Q (F0 m (pc + 1) ls (.int (nI x.1) :: rest))) : W p l e R s m args below meth c H locs cells slots Q (F0 m pc ls (.ref a :: rest)) := by
  obtain ⟨q0, he⟩ := hM.ix ha
  rw [hf] at he
  have : ∃ ty, (tys G)[t0]? = some (G.2.1 t0, ty) := by
    rcases (show t0 = 0 ∨ t0 = 1 ∨ t0 = 2 ∨ t0 = 3 ∨ t0 = 4 ∨ t0 = 5 by omega) with rfl | rfl | rfl | rfl | rfl | rfl <;> exact ⟨_, rfl⟩
  obtain ⟨ty, hty⟩ := this
  exact va_alen C.1 C.2.1 hE.1.1 hM.1 q0 t0 he hty rfl hdg kk
theorem pg_aald (C : CallFix p m c cc nL s args bg own) (hE : ev G A s H0) (hM : pgS G A H0 P f H locs) (ha : a ∈ P) {t0 n : Nat} {g : Nat → Option Nat} {E : String} (hf : f a = .inl (G.2.1 t0, n, .inr (.inr (.inr (.inr g))))) (ht : (tys G)[t0]? = some (G.2.1 t0, .object E)) {i : Int32} (hin : vp_in i n) (hdg : decode cc pc = .ok (.aaload, 1))
    (kk : W p l e R s m args below meth c H locs cells slots Q (F0 m (pc + 1) ls (va_rf (g i.toNatClampNeg) :: rest))) : W p l e R s m args below meth c H locs cells slots Q (F0 m pc ls (.int i :: .ref a :: rest)) := by
  obtain ⟨q0, he⟩ := hM.ix ha
  rw [hf] at he
  exact va_aldq C.1 C.2.1 hE.1.1 hM.1 q0 t0 he ht hin hdg kk
theorem pg_aast (C : CallFix p m c cc nL s args bg own) (hE : ev G A s H0) (hM : pgS G A H0 P f H locs) (ha : a ∈ P) {t0 n : Nat} {g : Nat → Option Nat} {E : String} (hf : f a = .inl (G.2.1 t0, n, .inr (.inr (.inr (.inr g))))) (ht : (tys G)[t0]? = some (G.2.1 t0, .object E)) {v : Nat} (hv : v ∈ P) {ci : Nat} {fs : List Value} (hfv : f v = .inr (ci, fs)) {r : vw_C} (hc : cl[ci]? = some r) (hca : r.1 = E ∨ Cond.castable r.1 E ∈ nwl) {i : Int32} (hin : vp_in i n) (hdg : decode cc pc = .ok (.aastore, 1))
    (kk : ∀ (H1 : Heap) (locs1 : List Loc), pgS G A H0 P (va_up f a (.inl (G.2.1 t0, n, .inr (.inr (.inr (.inr (va_up g i.toNatClampNeg (some v)))))))) H1 locs1 → W p l e R s m args below meth c H1 locs1 cells slots Q (F0 m (pc + 1) ls rest)) : W p l e R s m args below meth c H locs cells slots Q (F0 m pc ls (.ref v :: .int i :: .ref a :: rest)) := by
  obtain ⟨q0, he⟩ := hM.ix ha
  obtain ⟨q1, he1⟩ := hM.ix hv
  have hs := fun e => pg_set (e := e) hM.2.1 ha he
  rw [hf] at he
  rw [hfv] at he1
  rcases hca with rfl | hca
  · exact va_astq C.1 C.2.1 hE.1.1 hM.1 hM.2.1 hM.2.2.1 q0 t0 q1 ci he ht he1 hc hin hdg (fun H1 locs1 a1 a2 a3 => kk H1 locs1 ⟨by rw [← hs]; exact a1, by rw [← hs]; exact a2, a3, hM.2.2.2⟩)
  · exact va_astqO C.1 C.2.1 hE.1.1 hM.1 hM.2.1 hM.2.2.1 q0 t0 q1 ci he ht (hE.1.2.1 _ hca) he1 hc hin hdg (fun H1 locs1 a1 a2 a3 => kk H1 locs1 ⟨by rw [← hs]; exact a1, by rw [← hs]; exact a2, a3, hM.2.2.2⟩)
theorem pg_new (C : CallFix p m c cc nL s args bg own) (hE : ev G A s H0) (hM : pgS G A H0 P f H locs) {ci N index : Nat} {C0 : String} {T : u_T} (hc : cl[ci]? = some (C0, T, N)) (hin : ∀ w ∈ u_ws C0 T N, w ∈ bg) {ty0 : Nat → FieldType} (hty : ∀ k, k < N → parseFieldDescriptor (T k).2.2.1 = some (ty0 k)) (w1 : Cond.classLink own index C0 ∈ bg) (w2 : Cond.instantiable C0 N ∈ bg) (w3 : Cond.initialized C0 ∈ bg) {fs : List Value} (hfs : ∀ j, j < N → defaultValue (ty0 j) = vp_V fs j) (hcells : cells + 1 ≤ R.cells) (hslots : slots + N ≤ R.slots) (hdg : decode cc pc = .ok (.new index, 3))
    (kk : ∀ (q : Nat) (H1 : Heap), q ∉ P → pgS G A H0 (P ++ [q]) (va_up f q (.inr (ci, fs))) H1 locs → W p l e R s m args below meth c H1 locs (cells + 1) (slots + N) Q (F0 m (pc + 3) ls (.ref q :: rest))) : W p l e R s m args below meth c H locs cells slots Q (F0 m pc ls rest) := by
  refine va_new C.1 C.2.1 C.2.2.2.2 hin ty0 hty C.2.2.2.1 (C.2.2.2.2 _ w1) (C.2.2.2.2 _ w2) (C.2.2.2.2 _ w3) hE.1.1 hM.1 hM.2.1 hM.2.2.1 hM.2.2.2 hc hfs hcells hslots hdg (fun q H1 a1 a2 a3 => ?_)
  have hq : q ∉ P := by
    intro h
    obtain ⟨k, hk⟩ := hM.ix h
    have hlt : k < (va_pl P f).length := (List.getElem?_eq_some_iff.mp hk).1
    have h1 : (va_pl P f ++ [(q, (.inr (ci, fs) : va_E))])[k]? = some (q, f q) := by rw [List.getElem?_append_left hlt]; exact hk
    have h2 : (va_pl P f ++ [(q, (.inr (ci, fs) : va_E))])[(va_pl P f).length]? = some (q, .inr (ci, fs)) := by simp
    have := a2.1 k _ _ _ h1 h2 rfl
    omega
  exact kk q H1 hq ⟨by rw [← va_pl_push hq]; exact a1, by rw [← va_pl_push hq]; exact a2, a3, hM.2.2.2⟩
end PGR
end
section
theorem ev.same {G : GG} {A : Nat → Prop} {U U' : State} {H : Heap} (hv : U.vm = U'.vm) (h : ev G A U H) : ev G A U' H := by
  have hal : U.vm.Alike U'.vm := by rw [hv]; exact Vm.Alike.refl _
  obtain ⟨h1, ⟨h2, h3⟩, ⟨⟨mi, hmi⟩, hn1, hn2⟩, ⟨hx1, hx2⟩, hs⟩ := h
  exact ⟨⟨va_K.moved hal h1.1, fun w hw => va_Nw.same (nw_ont w hw) hv (h1.2.1 w hw), h1.2.2.1.moved hal, h1.2.2.2.1.moved hal, h1.2.2.2.2.moved hal⟩, ⟨h2.moved hal, h3.moved hal⟩, ⟨⟨mi, hmi.moved hal⟩, hn1.moved hal, hn2.moved hal⟩, ⟨hx1.moved hal, hx2.moved hal⟩, fun w hw => (hs w hw).imp (fun a h => h.same hv.symm)⟩
/-- a method's contract over the pool: its start, its end -/
def ctP (G : GG) (L : List Nat) (f : Nat → va_E) (sz : Nat) : State → Prop := fun U => U.heap.size = sz ∧ pgR G L f U.heap ∧ ev G (pgA L sz) U U.heap
def ctQ (G : GG) (L : List Nat) (sz : Nat) (post : Option Value → List Nat → (Nat → va_E) → Prop) : Array Value → State → Outcome → State → Prop := fun _ st oc t => ∃ (v : Option Value) (N : List Nat) (f' : Nat → va_E), oc = .returned v ∧ post v N f' ∧ pgR G (L ++ N) f' t.heap ∧ (∀ q ∈ N, sz ≤ q) ∧ va_F (pgA L sz) st t
def ct (l : Launch) (G : GG) (y : MethodName) (cc : ByteArray) (nL : Nat) (rt : Option FieldType) (fr lc mc ms : Nat) (av : List Value) (L : List Nat) (f : Nat → va_E) (post : Option Value → List Nat → (Nat → va_E) → Prop) : Prop :=
  ∀ sz : Nat, Met l y (Cond.code y cc nL rt :: bg) { frames := fr, cells := mc, slots := ms, locals := lc } (va_Pc av (ctP G L f sz)) (ctQ G L sz post) mc ms (pgA L sz)
abbrev pQ (G : GG) (below : List Frame) (av : List Value) (s : State) (L : List Nat) (post : Option Value → List Nat → (Nat → va_E) → Prop) (mc ms : Nat) : State → Prop := MQ below (ctQ G L s.heap.size post) av.toArray s mc ms (pgA L s.heap.size)
theorem ct_intro {l : Launch} {G : GG} {y : MethodName} {cc : ByteArray} {nL : Nat} {rt : Option FieldType} {fr lc mc ms : Nat} {av : List Value} {L : List Nat} {f : Nat → va_E} {post : Option Value → List Nat → (Nat → va_E) → Prop} (hy : plainName y.cls = true) (vs : List (Option Value)) (h1 : vs.length = nL) (h2 : loL 0 vs = lv_args 0 av) (h3 : (lg_sl av).length ≤ nL)
    (body : ∀ (p : Program) (e : Env) (s : State) (m : MethodId) (below : List Frame) (meth : Method) (c : Code) (ls : Array Slot), CallFix p m c cc nL s av.toArray bg y.cls → meth.sig.returnType = rt → meth.locks = false → meth.name = y.name → ev G (pgA L s.heap.size) s s.heap → pgS G (pgA L s.heap.size) s.heap L f s.heap [] → lo ls vs → W p l e { frames := fr, cells := mc, slots := ms, locals := lc } s m av.toArray below meth c s.heap [] 0 0 (pQ G below av s L post mc ms) (F0 m 0 ls [])) : ct l G y cc nL rt fr lc mc ms av L f post := by
  intro sz
  refine Met.ofW (cc := cc) (maxL := nL) (ret := rt) hy rfl ?_
  intro p e s m args below meth c s₁ B hml hv
  obtain ⟨rfl, hsz, hR, hE⟩ := hv
  subst hsz
  have hts := atoms_spec (ws := Cond.code y cc nL rt :: bg) B.pre
  have hl := lv_entry av (n := nL) h3
  rw [lg_entry_eq]
  generalize (lg_sl av ++ List.replicate (nL - (lg_sl av).length) Slot.unset).toArray = ls at hl ⊢
  exact body p e s m below meth c ls ⟨B.exec, B.bytes, hml, findClass_of_methodNamed B.named, fun w h => hts w (List.mem_cons_of_mem _ h)⟩ B.returns B.notSynchronized (name_of_methodNamed B.named B.method).1 hE ⟨hR.1, pg_plD hR.2 (fun q h => Or.inl h), va_S.rf, fun q h => Or.inr h⟩ (by unfold lo; rw [h1, h2]; exact hl)
section PGC
variable {p : Program} {l : Launch} {e : Env} {R : Room} {s : State} {m : MethodId} {args : Array Value} {below : List Frame} {meth : Method} {c : Code} {H : Heap} {locs : List Loc} {cells slots : Nat} {Q : State → Prop}
variable {cc : ByteArray} {pc nL : Nat} {ls : Array Slot} {rest : List Value} {G : GG} {A : Nat → Prop} {a : Nat} {H0 : Heap} {L P : List Nat} {f : Nat → va_E} {own : String} {vs : List (Option Value)}
variable {post : Option Value → List Nat → (Nat → va_E) → Prop} {av : List Value} {mc ms : Nat}
theorem pg_end {N : List Nat} {v : Option Value} (hM : pgS G (pgA L s.heap.size) s.heap P f H locs) (hP : P = L ++ N) (hp : post v N f) : ∀ t : State, t.heap = H → s.WarmedH t.vm → ctQ G L s.heap.size post av.toArray s (.returned v) t := by
  subst hP
  intro t ht _
  refine ⟨v, N, f, rfl, hp, ⟨by rw [ht]; exact hM.1, hM.2.1.weaken (fun _ _ _ _ => trivial)⟩, fun q hq => ?_, hM.2.2.1.F ht⟩
  exact (pg_plA hM.2.1 q (List.mem_append_right _ hq)).resolve_left (pg_apart hM.2.1 hq)
theorem pg_iret (C : CallFix p m c cc nL s av.toArray bg own) (hr : meth.sig.returnType = some .int) (hlk : meth.locks = false) {N : List Nat} {x : Int32} (hM : pgS G (pgA L s.heap.size) s.heap P f H locs) (hP : P = L ++ N) (h1 : cells ≤ mc) (h2 : slots ≤ ms) (hdg : decode cc pc = .ok (.ireturn, 1)) (hp : post (some (.int x)) N f) : W p l e R s m av.toArray below meth c H locs cells slots (pQ G below av s L post mc ms) (F0 m pc ls [.int x]) :=
  W.widen h1 h2 (W.iret C.1 C.2.1 hr (pg_end hM hP hp) hM.2.2.1.2.2 hdg)
theorem pg_zret (C : CallFix p m c cc nL s av.toArray bg own) (hr : meth.sig.returnType = some .boolean) (hlk : meth.locks = false) {N : List Nat} {x : Int32} (hM : pgS G (pgA L s.heap.size) s.heap P f H locs) (hP : P = L ++ N) (h1 : cells ≤ mc) (h2 : slots ≤ ms) (hdg : decode cc pc = .ok (.ireturn, 1)) (hn : narrow .boolean (.int x) = .int x) (hp : post (some (.int x)) N f) : W p l e R s m av.toArray below meth c H locs cells slots (pQ G below av s L post mc ms) (F0 m pc ls [.int x]) :=
  W.widen h1 h2 (W.zret C.1 C.2.1 hr hn (pg_end hM hP hp) hM.2.2.1.2.2 hdg)
theorem pg_lret (C : CallFix p m c cc nL s av.toArray bg own) (hr : meth.sig.returnType = some .long) (hlk : meth.locks = false) {N : List Nat} {x : Int64} (hM : pgS G (pgA L s.heap.size) s.heap P f H locs) (hP : P = L ++ N) (h1 : cells ≤ mc) (h2 : slots ≤ ms) (hdg : decode cc pc = .ok (.lreturn, 1)) (hp : post (some (.long x)) N f) : W p l e R s m av.toArray below meth c H locs cells slots (pQ G below av s L post mc ms) (F0 m pc ls [.long x]) :=
  W.widen h1 h2 (W.lret C.1 C.2.1 hr (pg_end hM hP hp) hM.2.2.1.2.2 hdg)
theorem pg_vret (C : CallFix p m c cc nL s av.toArray bg own) (hr : meth.sig.returnType = none) (hlk : meth.locks = false) {N : List Nat} (hM : pgS G (pgA L s.heap.size) s.heap P f H locs) (hP : P = L ++ N) (h1 : cells ≤ mc) (h2 : slots ≤ ms) (hdg : decode cc pc = .ok (.return_, 1)) (hp : post none N f) : W p l e R s m av.toArray below meth c H locs cells slots (pQ G below av s L post mc ms) (F0 m pc ls []) :=
  W.widen h1 h2 (W.vret C.1 C.2.1 hr (pg_end hM hP hp) hM.2.2.1.2.2 hdg)
theorem pg_aret (C : CallFix p m c cc nL s av.toArray bg own) {rt : FieldType} (hr : meth.sig.returnType = some rt) (hrt : (∃ n, rt = .object n) ∨ ∃ t, rt = .array t) (hlk : meth.locks = false) {N : List Nat} {x : Value} (hx : x = .null ∨ ∃ a, x = .ref a) (hM : pgS G (pgA L s.heap.size) s.heap P f H locs) (hP : P = L ++ N) (h1 : cells ≤ mc) (h2 : slots ≤ ms) (hdg : decode cc pc = .ok (.areturn, 1)) (hp : post (some x) N f) : W p l e R s m av.toArray below meth c H locs cells slots (pQ G below av s L post mc ms) (F0 m pc ls [x]) :=
  W.widen h1 h2 (W.aret C.1 C.2.1 hr hrt hx (pg_end hM hP hp) hM.2.2.1.2.2 hdg)
theorem pg_after {st0 : List Value} {ar : Array Value} (hr : va_Run p l e R s m args below meth c H locs cells slots mc ms (F0 m pc ls st0) rest (ctQ G P H.size post ar) (pgA P H.size)) (hM : pgS G A s.heap P f H locs)
    (kk : ∀ (v : Option Value) (N : List Nat) (f' : Nat → va_E) (H1 : Heap) (locs1 : List Loc), post v N f' → pgS G A s.heap (P ++ N) f' H1 locs1 → W p l e R s m args below meth c H1 locs1 (cells + mc) (slots + ms) Q (F0 m (pc + 3) ls (v.toList ++ rest))) : W p l e R s m args below meth c H locs cells slots Q (F0 m pc ls st0) := by
  intro T hT X
  obtain ⟨v, st₀, t, T', L', h0, X', hL, e1, e2, ⟨v', N, f', hv, hp, hR, hN, hz, hk⟩, st⟩ := hr T hT X
  cases hv
  rw [h0] at hz hk
  have hA : ∀ q, pgA P H.size q → A q := fun q h => h.elim (pg_plA hM.2.1 q) (fun h => hM.2.2.2 q (Nat.le_trans hM.2.2.1.1 h))
  have hS := hM.2.2.1
  obtain ⟨t2, a1, b1⟩ := kk v N f' T'.heap (locs ++ L') hp ⟨by rw [e1]; exact hR.1, pg_plD hR.2 (fun q h => (List.mem_append.mp h).elim (pg_plA hM.2.1 q) (fun h => hM.2.2.2 q (Nat.le_trans hS.1 (hN q h)))), ⟨Nat.le_trans hS.1 (by rw [e1]; exact hz), fun q h1 h2 => by rw [e1, hk q (Nat.lt_of_lt_of_le h1 hS.1) (fun z => h2 (hA q z))]; exact hS.2.1 q h1 h2, fun q hq => by
      rcases List.mem_append.mp hq with h | h
      · exact hS.2.2 q h
      · exact hA _ (hL q h)⟩, hM.2.2.2⟩ T' rfl X'
  exact ⟨t2, st t2 a1, b1⟩
theorem pg_blind {sz : Nat} : FrameBlind (va_Pc av (ctP G P f sz)) := fun a U g mk q => ⟨q.1, q.2.1, q.2.2.1, ev.same (U := U) rfl q.2.2.2⟩
theorem pg_pre (hE : ev G A s s.heap) (hM : pgS G A s.heap P f H locs) : ∀ U : State, U.heap = H → s.WarmedH U.vm → va_Pc av (ctP G P f H.size) av.toArray U := fun U hU hW =>
  ⟨rfl, by rw [hU], ⟨by rw [hU]; exact hM.1, hM.2.1.weaken (fun _ _ _ _ => trivial)⟩, by rw [hU]; exact hE.into hM.2.2.1 (fun q h => h.elim (pg_plA hM.2.1 q) (fun h => hM.2.2.2 q (Nat.le_trans hM.2.2.1.1 h))) hW⟩
/-- a method that can be called: its words -/
def cyV (y : MethodName) (bytes : ByteArray) (maxL : Nat) (ret : Option FieldType) (n : Nat) : Prop := Cond.instanceMethod y ∈ bg ∧ Cond.selects y.cls y y ∈ bg ∧ Cond.initialized y.cls ∈ bg ∧ Cond.code y bytes maxL ret ∈ bg ∧ (y.cls ≠ "java/lang/invoke/MethodHandle" ∧ y.cls ≠ "java/lang/invoke/VarHandle" ∧ (parseMethodDescriptor y.desc).map (fun d => d.parameters.length) = some n)
def cyS (y : MethodName) (bytes : ByteArray) (maxL : Nat) (ret : Option FieldType) (n : Nat) : Prop := Cond.static y ∈ bg ∧ Cond.initialized y.cls ∈ bg ∧ Cond.code y bytes maxL ret ∈ bg ∧ (y.cls ≠ "java/lang/invoke/MethodHandle" ∧ y.cls ≠ "java/lang/invoke/VarHandle" ∧ (parseMethodDescriptor y.desc).map (fun d => d.parameters.length) = some n)
def cyI (y : MethodName) (bytes : ByteArray) (maxL : Nat) (n : Nat) : Prop := Cond.instanceMethod y ∈ bg ∧ Cond.initialized y.cls ∈ bg ∧ Cond.code y bytes maxL none ∈ bg ∧ y.name = "<init>" ∧ (y.cls ≠ "java/lang/invoke/MethodHandle" ∧ y.cls ≠ "java/lang/invoke/VarHandle" ∧ (parseMethodDescriptor y.desc).map (fun d => d.parameters.length) = some n)
theorem gi_code {y : MethodName} {bytes : ByteArray} {maxL : Nat} {ret : Option FieldType} (h : Cond.code y bytes maxL ret ∈ bg) : GoodIn bg (Cond.code y bytes maxL ret :: bg) := fun w hw => (List.mem_cons.mp hw).elim (fun e => by rw [e]; exact ⟨h, bg_good h⟩) (fun h => ⟨h, bg_good h⟩)
theorem gi_app {xs ys : List Cond} (h1 : ∀ w ∈ xs, w ∈ bg) (h2 : GoodIn bg ys) : GoodIn bg (xs ++ ys) := fun w hw => (List.mem_append.mp hw).elim (fun h => ⟨h1 w h, bg_good (h1 w h)⟩) (h2 w)
variable {y : MethodName} {bytes : ByteArray} {maxL index fr lc n : Nat} {ret : Option FieldType} {As st0 : List Value} {b : Nat}
theorem pg_callV (C : CallFix p m c cc nL s args bg own) (hE : ev G A s s.heap) (hM : pgS G A s.heap P f H locs) (hc : ct l G y bytes maxL ret fr lc mc ms (.ref b :: As) P f post) (hb : b ∈ P) {ci : Nat} {fs : List Value} (hf : f b = .inr (ci, fs)) {T : u_T} {N0 : Nat} (hcl : cl[ci]? = some (y.cls, T, N0)) (w1 : Cond.methodLink own index y ∈ bg) (cy : cyV y bytes maxL ret n) (hR : fr + 1 ≤ R.frames ∧ 8 + (maxL + 11) + lc ≤ R.locals) (hn : As.length = n) (hs : ls.size = nL) (hst : st0 = As.reverse ++ .ref b :: rest) (hrs : (rest.map fun v => v.category).sum ≤ 8) (hroom : cells + mc ≤ R.cells ∧ slots + ms ≤ R.slots) (hdg : decode cc pc = .ok (.invokevirtual index, 3))
    (kk : ∀ (v : Option Value) (N : List Nat) (f' : Nat → va_E) (H1 : Heap) (locs1 : List Loc), post v N f' → pgS G A s.heap (P ++ N) f' H1 locs1 → W p l e R s m args below meth c H1 locs1 (cells + mc) (slots + ms) Q (F0 m (pc + 3) ls (v.toList ++ rest))) : W p l e R s m args below meth c H locs cells slots Q (F0 m pc ls st0) := by
  obtain ⟨q0, he⟩ := hM.ix hb
  rw [hf] at he
  refine pg_after (va_runV (As := As) (rest := rest) C (hc H.size) (cwV (C := y.cls) n C.2.2.2.2 (gi_app (fun w hw => ?_) (gi_code cy.2.2.2.1)) rfl rfl rfl ⟨rfl, cy.2.2.2.2⟩ hR) ⟨pg_blind, va_recv hE.1.1 hM.1 hcl he, pg_pre hE hM⟩ rfl hn hs hst (lv_room hrs) hdg hroom) hM kk
  simp only [List.mem_cons, List.not_mem_nil, or_false] at hw
  rcases hw with rfl | rfl | rfl | rfl
  · exact w1
  · exact cy.1
  · exact cy.2.1
  · exact cy.2.2.1
theorem pg_callS (C : CallFix p m c cc nL s args bg own) (hE : ev G A s s.heap) (hM : pgS G A s.heap P f H locs) (hc : ct l G y bytes maxL ret fr lc mc ms As P f post) (w1 : Cond.methodLink own index y ∈ bg) (cy : cyS y bytes maxL ret n) (hR : fr + 1 ≤ R.frames ∧ 8 + (maxL + 11) + lc ≤ R.locals) (hn : As.length = n) (hs : ls.size = nL) (hst : st0 = As.reverse ++ rest) (hrs : (rest.map fun v => v.category).sum ≤ 8) (hroom : cells + mc ≤ R.cells ∧ slots + ms ≤ R.slots) (hdg : decode cc pc = .ok (.invokestatic index, 3))
    (kk : ∀ (v : Option Value) (N : List Nat) (f' : Nat → va_E) (H1 : Heap) (locs1 : List Loc), post v N f' → pgS G A s.heap (P ++ N) f' H1 locs1 → W p l e R s m args below meth c H1 locs1 (cells + mc) (slots + ms) Q (F0 m (pc + 3) ls (v.toList ++ rest))) : W p l e R s m args below meth c H locs cells slots Q (F0 m pc ls st0) := by
  refine pg_after (va_runS (As := As) (rest := rest) C (hc H.size) (va_cwS n C.2.2.2.2 (gi_app (fun w hw => ?_) (gi_code cy.2.2.1)) rfl rfl rfl cy.2.2.2 hR) ⟨pg_blind, pg_pre hE hM⟩ rfl hn hs hst (lv_room hrs) hdg hroom) hM kk
  simp only [List.mem_cons, List.not_mem_nil, or_false] at hw
  rcases hw with rfl | rfl | rfl
  · exact w1
  · exact cy.1
  · exact cy.2.1
theorem pg_callI (C : CallFix p m c cc nL s args bg own) (hE : ev G A s s.heap) (hM : pgS G A s.heap P f H locs) (hc : ct l G y bytes maxL none fr lc mc ms (.ref b :: As) P f post) (w1 : Cond.methodLink own index y ∈ bg) (cy : cyI y bytes maxL n) (hR : fr + 1 ≤ R.frames ∧ 8 + (maxL + 11) + lc ≤ R.locals) (hn : As.length = n) (hs : ls.size = nL) (hst : st0 = As.reverse ++ .ref b :: rest) (hrs : (rest.map fun v => v.category).sum ≤ 8) (hroom : cells + mc ≤ R.cells ∧ slots + ms ≤ R.slots) (hdg : decode cc pc = .ok (.invokespecial index, 3))
    (kk : ∀ (v : Option Value) (N : List Nat) (f' : Nat → va_E) (H1 : Heap) (locs1 : List Loc), post v N f' → pgS G A s.heap (P ++ N) f' H1 locs1 → W p l e R s m args below meth c H1 locs1 (cells + mc) (slots + ms) Q (F0 m (pc + 3) ls (v.toList ++ rest))) : W p l e R s m args below meth c H locs cells slots Q (F0 m pc ls st0) :=
  pg_after (va_runI (As := As) (rest := rest) C (hc H.size) (cwI n C.2.2.2.2 (gi_code cy.2.2.1) rfl rfl rfl (C.2.2.2.2 _ cy.2.1) (C.2.2.2.2 _ w1) (C.2.2.2.2 _ cy.1) cy.2.2.2.1 cy.2.2.2.2 hR) ⟨pg_blind, pg_pre hE hM⟩ rfl hn hs hst (lv_room hrs) hdg hroom) hM kk
theorem pg_callSN (C : CallFix p m c cc nL s args bg own) (hE : ev G A s s.heap) (hM : pgS G A s.heap P f H locs) (hc : ct l G y bytes maxL ret fr lc mc ms As P f post) {host : String} (w1 : Cond.methodLinkNest own index y host ∈ nwl) (cy : cyS y bytes maxL ret n) (hR : fr + 1 ≤ R.frames ∧ 8 + (maxL + 11) + lc ≤ R.locals) (hn : As.length = n) (hs : ls.size = nL) (hst : st0 = As.reverse ++ rest) (hrs : (rest.map fun v => v.category).sum ≤ 8) (hroom : cells + mc ≤ R.cells ∧ slots + ms ≤ R.slots) (hdg : decode cc pc = .ok (.invokestatic index, 3))
    (kk : ∀ (v : Option Value) (N : List Nat) (f' : Nat → va_E) (H1 : Heap) (locs1 : List Loc), post v N f' → pgS G A s.heap (P ++ N) f' H1 locs1 → W p l e R s m args below meth c H1 locs1 (cells + mc) (slots + ms) Q (F0 m (pc + 3) ls (v.toList ++ rest))) : W p l e R s m args below meth c H locs cells slots Q (F0 m pc ls st0) :=
  pg_after (va_runSN (As := As) (rest := rest) C (hc H.size) ⟨va_cnB n C.2.2.2.2 (gi_code cy.2.2.1) rfl rfl rfl (hE.1.2.1 _ w1) (C.2.2.2.2 _ cy.2.1) cy.2.2.2 hR, C.2.2.2.2 _ cy.1, trivial⟩ ⟨pg_blind, pg_pre hE hM⟩ rfl hn hs hst (lv_room hrs) hdg hroom) hM kk
theorem pg_callIN (C : CallFix p m c cc nL s args bg own) (hE : ev G A s s.heap) (hM : pgS G A s.heap P f H locs) (hc : ct l G y bytes maxL none fr lc mc ms (.ref b :: As) P f post) {host : String} (w1 : Cond.methodLinkNest own index y host ∈ nwl) (cy : cyI y bytes maxL n) (hR : fr + 1 ≤ R.frames ∧ 8 + (maxL + 11) + lc ≤ R.locals) (hn : As.length = n) (hs : ls.size = nL) (hst : st0 = As.reverse ++ .ref b :: rest) (hrs : (rest.map fun v => v.category).sum ≤ 8) (hroom : cells + mc ≤ R.cells ∧ slots + ms ≤ R.slots) (hdg : decode cc pc = .ok (.invokespecial index, 3))
    (kk : ∀ (v : Option Value) (N : List Nat) (f' : Nat → va_E) (H1 : Heap) (locs1 : List Loc), post v N f' → pgS G A s.heap (P ++ N) f' H1 locs1 → W p l e R s m args below meth c H1 locs1 (cells + mc) (slots + ms) Q (F0 m (pc + 3) ls (v.toList ++ rest))) : W p l e R s m args below meth c H locs cells slots Q (F0 m pc ls st0) :=
  pg_after (va_runIN (As := As) (rest := rest) C (hc H.size) ⟨va_cnB n C.2.2.2.2 (gi_code cy.2.2.1) rfl rfl rfl (hE.1.2.1 _ w1) (C.2.2.2.2 _ cy.2.1) cy.2.2.2.2 hR, cy.2.2.2.1, C.2.2.2.2 _ cy.1⟩ ⟨pg_blind, pg_pre hE hM⟩ rfl hn hs hst (lv_room hrs) hdg hroom) hM kk
theorem pg_push {q : Nat} {x : va_E} (hM : pgS G A H0 P f H locs) {H1 : Heap} (a1 : va_P G.1 cl (va_pl P f ++ [(q, x)]) H1) (a2 : va_D A (va_pl P f ++ [(q, x)])) (a3 : va_S A H0 H1 locs) : q ∉ P ∧ pgS G A H0 (P ++ [q]) (va_up f q x) H1 locs := by
  have hq : q ∉ P := by
    intro h
    obtain ⟨k, hk⟩ := hM.ix h
    have hlt : k < (va_pl P f).length := (List.getElem?_eq_some_iff.mp hk).1
    have h1 : (va_pl P f ++ [(q, x)])[k]? = some (q, f q) := by rw [List.getElem?_append_left hlt]; exact hk
    have h2 : (va_pl P f ++ [(q, x)])[(va_pl P f).length]? = some (q, x) := by simp
    have := a2.1 k _ _ _ h1 h2 rfl
    omega
  exact ⟨hq, by rw [← va_pl_push hq]; exact a1, by rw [← va_pl_push hq]; exact a2, a3, hM.2.2.2⟩
theorem pg_newI (C : CallFix p m c cc nL s args bg own) (hE : ev G A s H0) (hM : pgS G A H0 P f H locs) (w1 : Cond.arrayClass .int ∈ bg) {x : Int32} {N : Nat} (hx : ¬ x < 0) (hN : x.toNatClampNeg = N) (hb : N * 4 ≤ 536870912) (hcells : cells + 1 ≤ R.cells) (hslots : slots + N ≤ R.slots) (hdg : decode cc pc = .ok (.newarray .int, 2))
    (kk : ∀ (q : Nat) (H1 : Heap), q ∉ P → pgS G A H0 (P ++ [q]) (va_up f q (.inl (G.2.1 0, N, .inl (fun _ => 0)))) H1 locs → W p l e R s m args below meth c H1 locs (cells + 1) (slots + N) Q (F0 m (pc + 2) ls (.ref q :: rest))) : W p l e R s m args below meth c H locs cells slots Q (F0 m pc ls (.int x :: rest)) := by
  refine va_newa (atype := .int) (ty := .int) (a0 := (N, .inl (fun _ => 0))) C.1 C.2.1 (C.2.2.2.2 _ w1) rfl hE.1.1 hM.1 hM.2.1 hM.2.2.1 hM.2.2.2 (fun _ => rfl) hx hN hb hcells hslots hdg (fun q cA H1 k a1 a2 a3 => ?_)
  have e1 : s.vm.findClass ("[" ++ FieldType.int.toString) = some cA := (k.2 6 _ rfl).2
  have e2 : s.vm.findClass ("[" ++ FieldType.int.toString) = some (G.2.1 0) := (hE.1.1.2 0 _ rfl).2
  cases Option.some.inj (e1.symm.trans e2)
  obtain ⟨hq, h⟩ := pg_push hM a1 a2 a3
  exact kk q H1 hq h
theorem pg_newL (C : CallFix p m c cc nL s args bg own) (hE : ev G A s H0) (hM : pgS G A H0 P f H locs) (w1 : Cond.arrayClass .long ∈ bg) {x : Int32} {N : Nat} (hx : ¬ x < 0) (hN : x.toNatClampNeg = N) (hb : N * 8 ≤ 536870912) (hcells : cells + 1 ≤ R.cells) (hslots : slots + N ≤ R.slots) (hdg : decode cc pc = .ok (.newarray .long, 2))
    (kk : ∀ (q : Nat) (H1 : Heap), q ∉ P → pgS G A H0 (P ++ [q]) (va_up f q (.inl (G.2.1 1, N, .inr (.inl (fun _ => 0))))) H1 locs → W p l e R s m args below meth c H1 locs (cells + 1) (slots + N) Q (F0 m (pc + 2) ls (.ref q :: rest))) : W p l e R s m args below meth c H locs cells slots Q (F0 m pc ls (.int x :: rest)) := by
  refine va_newa (atype := .long) (ty := .long) (a0 := (N, .inr (.inl (fun _ => 0)))) C.1 C.2.1 (C.2.2.2.2 _ w1) rfl hE.1.1 hM.1 hM.2.1 hM.2.2.1 hM.2.2.2 (fun _ => rfl) hx hN hb hcells hslots hdg (fun q cA H1 k a1 a2 a3 => ?_)
  have e1 : s.vm.findClass ("[" ++ FieldType.long.toString) = some cA := (k.2 6 _ rfl).2
  have e2 : s.vm.findClass ("[" ++ FieldType.long.toString) = some (G.2.1 1) := (hE.1.1.2 1 _ rfl).2
  cases Option.some.inj (e1.symm.trans e2)
  obtain ⟨hq, h⟩ := pg_push hM a1 a2 a3
  exact kk q H1 hq h
theorem pg_newZ (C : CallFix p m c cc nL s args bg own) (hE : ev G A s H0) (hM : pgS G A H0 P f H locs) (w1 : Cond.arrayClass .boolean ∈ bg) {x : Int32} {N : Nat} (hx : ¬ x < 0) (hN : x.toNatClampNeg = N) (hb : N * 1 ≤ 536870912) (hcells : cells + 1 ≤ R.cells) (hslots : slots + N ≤ R.slots) (hdg : decode cc pc = .ok (.newarray .boolean, 2))
    (kk : ∀ (q : Nat) (H1 : Heap), q ∉ P → pgS G A H0 (P ++ [q]) (va_up f q (.inl (G.2.1 2, N, .inl (fun _ => 0)))) H1 locs → W p l e R s m args below meth c H1 locs (cells + 1) (slots + N) Q (F0 m (pc + 2) ls (.ref q :: rest))) : W p l e R s m args below meth c H locs cells slots Q (F0 m pc ls (.int x :: rest)) := by
  refine va_newa (atype := .boolean) (ty := .boolean) (a0 := (N, .inl (fun _ => 0))) C.1 C.2.1 (C.2.2.2.2 _ w1) rfl hE.1.1 hM.1 hM.2.1 hM.2.2.1 hM.2.2.2 (fun _ => rfl) hx hN hb hcells hslots hdg (fun q cA H1 k a1 a2 a3 => ?_)
  have e1 : s.vm.findClass ("[" ++ FieldType.boolean.toString) = some cA := (k.2 6 _ rfl).2
  have e2 : s.vm.findClass ("[" ++ FieldType.boolean.toString) = some (G.2.1 2) := (hE.1.1.2 2 _ rfl).2
  cases Option.some.inj (e1.symm.trans e2)
  obtain ⟨hq, h⟩ := pg_push hM a1 a2 a3
  exact kk q H1 hq h
theorem pg_newR (C : CallFix p m c cc nL s args bg own) (hE : ev G A s H0) (hM : pgS G A H0 P f H locs) {E : String} {t0 : Nat} (ht : (tys G)[t0]? = some (G.2.1 t0, .object E)) (hao : va_AO E s) (w1 : Cond.classLink own index E ∈ bg) {x : Int32} {N : Nat} (hx : ¬ x < 0) (hN : x.toNatClampNeg = N) (hb : N * 4 ≤ 536870912) (hcells : cells + 1 ≤ R.cells) (hslots : slots + N ≤ R.slots) (hdg : decode cc pc = .ok (.anewarray index, 3))
    (kk : ∀ (q : Nat) (H1 : Heap), q ∉ P → pgS G A H0 (P ++ [q]) (va_up f q (.inl (G.2.1 t0, N, .inr (.inr (.inr (.inr (fun _ => none))))))) H1 locs → W p l e R s m args below meth c H1 locs (cells + 1) (slots + N) Q (F0 m (pc + 3) ls (.ref q :: rest))) : W p l e R s m args below meth c H locs cells slots Q (F0 m pc ls (.int x :: rest)) := by
  refine va_newq C.1 C.2.1 C.2.2.2.1 (C.2.2.2.2 _ w1) hao hE.1.1 hM.1 hM.2.1 hM.2.2.1 hM.2.2.2 hx hN hb hcells hslots hdg (fun q cA H1 k a1 a2 a3 => ?_)
  obtain ⟨_, _, _, _, _, e1⟩ := (k.2 6 _ rfl).2
  obtain ⟨_, _, _, _, _, e2⟩ := (hE.1.1.2 t0 _ ht).2
  cases Option.some.inj (e1.symm.trans e2)
  obtain ⟨hq, h⟩ := pg_push hM a1 a2 a3
  exact kk q H1 hq h
end PGC
end
section
theorem cy_FF_init : cyI y_FF_init c_FF_init 1 0 := ⟨tw_29, tw_1, tw_30, rfl, by decide +kernel⟩
theorem cy_FF_cell : cyV y_FF_cell c_FF_cell 3 (some .boolean) 2 := ⟨tw_114, tw_115, tw_1, tw_116, by decide +kernel⟩
theorem cy_FF_open : cyV y_FF_open c_FF_open 3 (some .int) 0 := ⟨tw_314, tw_315, tw_1, tw_316, by decide +kernel⟩
theorem cy_FF_task : cyV y_FF_task c_FF_task 3 (some .int) 2 := ⟨tw_573, tw_574, tw_1, tw_575, by decide +kernel⟩
theorem cy_FF_tick : cyV y_FF_tick c_FF_tick 2 (some .int) 0 := ⟨tw_609, tw_610, tw_1, tw_611, by decide +kernel⟩
theorem cy_FF_letters : cyV y_FF_letters c_FF_letters 1 (some .int) 0 := ⟨tw_126, tw_127, tw_1, tw_128, by decide +kernel⟩
theorem cy_FF_letter : cyV y_FF_letter c_FF_letter 4 (some .int) 2 := ⟨tw_138, tw_139, tw_1, tw_140, by decide +kernel⟩
theorem cy_FF_deliver : cyV y_FF_deliver c_FF_deliver 4 (some .boolean) 1 := ⟨tw_173, tw_174, tw_1, tw_175, by decide +kernel⟩
theorem cy_FF_lose : cyV y_FF_lose c_FF_lose 2 (some .boolean) 1 := ⟨tw_205, tw_206, tw_1, tw_207, by decide +kernel⟩
theorem cy_FF_twin : cyV y_FF_twin c_FF_twin 3 (some .boolean) 1 := ⟨tw_209, tw_210, tw_1, tw_211, by decide +kernel⟩
theorem cy_FF_vehicle : cyV y_FF_vehicle c_FF_vehicle 4 (some .int) 2 := ⟨tw_273, tw_274, tw_1, tw_275, by decide +kernel⟩
theorem cy_FF_move : cyV y_FF_move c_FF_move 6 (some .int) 3 := ⟨tw_289, tw_290, tw_1, tw_291, by decide +kernel⟩
theorem cy_FF_taskOf : cyV y_FF_taskOf c_FF_taskOf 4 (some .int) 2 := ⟨tw_300, tw_301, tw_1, tw_302, by decide +kernel⟩
theorem cy_FF_count : cyV y_FF_count c_FF_count 2 (some .int) 1 := ⟨tw_305, tw_306, tw_1, tw_307, by decide +kernel⟩
theorem cy_FF_isOpen : cyV y_FF_isOpen c_FF_isOpen 1 (some .boolean) 0 := ⟨tw_119, ts_0, tw_1, tw_120, by decide +kernel⟩
theorem cy_FF_isStation : cyV y_FF_isStation c_FF_isStation 2 (some .boolean) 1 := ⟨tw_579, ts_9, tw_1, tw_580, by decide +kernel⟩
theorem cy_FF_vehicleNumbered : cyV y_FF_vehicleNumbered c_FF_vehicleNumbered 2 (some (.object "FleetFloor$Vehicle")) 1 := ⟨tw_178, ts_1, tw_1, tw_179, by decide +kernel⟩
theorem cy_FF_makeMoves : cyV y_FF_makeMoves c_FF_makeMoves 4 (some .int) 0 := ⟨tw_615, ts_10, tw_1, tw_616, by decide +kernel⟩
theorem cy_FF_noteFinish : cyV y_FF_noteFinish c_FF_noteFinish 2 none 1 := ⟨tw_623, ts_11, tw_1, tw_624, by decide +kernel⟩
theorem cy_FF_sendDones : cyV y_FF_sendDones c_FF_sendDones 3 none 0 := ⟨tw_627, ts_12, tw_1, tw_628, by decide +kernel⟩
theorem cy_FF_reportsNow : cyV y_FF_reportsNow c_FF_reportsNow 2 (some .boolean) 1 := ⟨tw_631, ts_13, tw_1, tw_632, by decide +kernel⟩
theorem cy_FF_makePlans : cyV y_FF_makePlans c_FF_makePlans 3 none 0 := ⟨tw_654, ts_14, tw_1, tw_655, by decide +kernel⟩
theorem cy_FF_lowestIdle : cyV y_FF_lowestIdle c_FF_lowestIdle 2 (some (.object "FleetFloor$Vehicle")) 0 := ⟨tw_658, ts_15, tw_1, tw_659, by decide +kernel⟩
theorem cy_FF_grantMoves : cyV y_FF_grantMoves c_FF_grantMoves 5 none 0 := ⟨tw_765, ts_28, tw_1, tw_766, by decide +kernel⟩
theorem cy_FF_isFree : cyV y_FF_isFree c_FF_isFree 4 (some .boolean) 2 := ⟨tw_769, ts_29, tw_1, tw_770, by decide +kernel⟩
theorem cy_FF_neighbour : cyS y_FF_neighbour c_FF_neighbour 4 (some .int) 2 := ⟨tw_740, tw_1, tw_741, by decide +kernel⟩
theorem cy_Mod_init : cyI y_Mod_init c_Mod_init 1 0 := ⟨tw_779, tw_7, tw_780, rfl, by decide +kernel⟩
theorem cy_Mod_thrown : cyV y_Mod_thrown c_Mod_thrown 1 (some .int) 0 := ⟨tw_905, tw_906, tw_7, tw_907, by decide +kernel⟩
theorem cy_Mod_throwing : cyV y_Mod_throwing c_Mod_throwing 3 (some .boolean) 2 := ⟨tw_932, ts_32, tw_7, tw_933, by decide +kernel⟩
theorem cy_Mod_in : cyS y_Mod_in c_Mod_in 3 (some .boolean) 3 := ⟨tw_913, tw_7, tw_914, by decide +kernel⟩
theorem cy_Mod_cell : cyV y_Mod_cell c_Mod_cell 3 (some .boolean) 2 := ⟨tw_909, tw_910, tw_7, tw_911, by decide +kernel⟩
theorem cy_Mod_neighbour : cyS y_Mod_neighbour c_Mod_neighbour 3 (some .int) 2 := ⟨tw_928, tw_7, tw_929, by decide +kernel⟩
theorem cy_Mod_leadsToAll : cyV y_Mod_leadsToAll c_Mod_leadsToAll 6 (some .boolean) 1 := ⟨tw_925, ts_31, tw_7, tw_926, by decide +kernel⟩
theorem cy_Mod_isGood : cyV y_Mod_isGood c_Mod_isGood 5 (some .boolean) 0 := ⟨tw_921, ts_30, tw_7, tw_922, by decide +kernel⟩
theorem cy_Mod_open : cyV y_Mod_open c_Mod_open 2 (some .int) 0 := ⟨tw_916, tw_917, tw_7, tw_918, by decide +kernel⟩
theorem cy_Mod_task : cyV y_Mod_task c_Mod_task 3 (some .int) 2 := ⟨tw_935, tw_936, tw_7, tw_937, by decide +kernel⟩
theorem cy_Mod_placeOf : cyV y_Mod_placeOf c_Mod_placeOf 4 (some .int) 2 := ⟨tw_980, ts_37, tw_7, tw_981, by decide +kernel⟩
theorem cy_Mod_isIn : cyS y_Mod_isIn c_Mod_isIn 3 (some .boolean) 3 := ⟨tw_1014, tw_7, tw_1015, by decide +kernel⟩
theorem cy_Mod_add : cyS y_Mod_add c_Mod_add 3 none 3 := ⟨tw_1007, tw_7, tw_1008, by decide +kernel⟩
theorem cy_Mod_forbid : cyV y_Mod_forbid c_Mod_forbid 7 none 1 := ⟨tw_1004, ts_43, tw_7, tw_1005, by decide +kernel⟩
theorem cy_Mod_forbidAll : cyV y_Mod_forbidAll c_Mod_forbidAll 2 none 0 := ⟨tw_1000, ts_42, tw_7, tw_1001, by decide +kernel⟩
theorem cy_Mod_isOthers : cyV y_Mod_isOthers c_Mod_isOthers 2 (some .boolean) 1 := ⟨tw_1026, ts_47, tw_7, tw_1027, by decide +kernel⟩
theorem cy_Mod_goes : cyV y_Mod_goes c_Mod_goes 5 (some .int) 3 := ⟨tw_1022, ts_46, tw_7, tw_1023, by decide +kernel⟩
theorem cy_Mod_doneAt : cyV y_Mod_doneAt c_Mod_doneAt 5 (some .int) 3 := ⟨tw_1030, ts_48, tw_7, tw_1031, by decide +kernel⟩
theorem cy_Mod_spread : cyV y_Mod_spread c_Mod_spread 6 (some .int) 1 := ⟨tw_1011, ts_44, tw_7, tw_1012, by decide +kernel⟩
theorem cy_Mod_spreadFrom : cyV y_Mod_spreadFrom c_Mod_spreadFrom 7 none 4 := ⟨tw_1018, ts_45, tw_7, tw_1019, by decide +kernel⟩
theorem cy_Mod_lowest : cyV y_Mod_lowest c_Mod_lowest 7 (some .int) 4 := ⟨tw_1038, ts_50, tw_7, tw_1039, by decide +kernel⟩
theorem cy_Mod_narrow : cyV y_Mod_narrow c_Mod_narrow 6 none 2 := ⟨tw_1034, ts_49, tw_7, tw_1035, by decide +kernel⟩
theorem cy_Mod_take : cyV y_Mod_take c_Mod_take 8 none 2 := ⟨tw_1043, ts_51, tw_7, tw_1044, by decide +kernel⟩
theorem cy_Mod_plans : cyV y_Mod_plans c_Mod_plans 4 (some .boolean) 2 := ⟨tw_996, ts_41, tw_7, tw_997, by decide +kernel⟩
theorem cy_Mod_idle : cyV y_Mod_idle c_Mod_idle 2 (some .int) 0 := ⟨tw_992, ts_40, tw_7, tw_993, by decide +kernel⟩
theorem cy_Mod_planAll : cyV y_Mod_planAll c_Mod_planAll 3 none 0 := ⟨tw_988, ts_39, tw_7, tw_989, by decide +kernel⟩
theorem cy_Mod_isFree : cyV y_Mod_isFree c_Mod_isFree 8 (some .boolean) 3 := ⟨tw_1051, ts_53, tw_7, tw_1052, by decide +kernel⟩
theorem cy_Mod_grant : cyV y_Mod_grant c_Mod_grant 5 none 1 := ⟨tw_1047, ts_52, tw_7, tw_1048, by decide +kernel⟩
theorem cy_Mod_isTurn : cyV y_Mod_isTurn c_Mod_isTurn 2 (some .boolean) 1 := ⟨tw_984, ts_38, tw_7, tw_985, by decide +kernel⟩
theorem cy_Mod_send : cyV y_Mod_send c_Mod_send 4 none 3 := ⟨tw_968, ts_35, tw_7, tw_969, by decide +kernel⟩
theorem cy_Mod_letters : cyV y_Mod_letters c_Mod_letters 1 (some .int) 0 := ⟨tw_939, tw_940, tw_7, tw_941, by decide +kernel⟩
theorem cy_Mod_isLetter : cyV y_Mod_isLetter c_Mod_isLetter 2 (some .boolean) 1 := ⟨tw_948, ts_33, tw_7, tw_949, by decide +kernel⟩
theorem cy_Mod_letter : cyV y_Mod_letter c_Mod_letter 3 (some .int) 2 := ⟨tw_943, tw_944, tw_7, tw_945, by decide +kernel⟩
theorem cy_Mod_remove : cyV y_Mod_remove c_Mod_remove 3 none 1 := ⟨tw_956, ts_34, tw_7, tw_957, by decide +kernel⟩
theorem cy_Mod_deliver : cyV y_Mod_deliver c_Mod_deliver 4 (some .boolean) 1 := ⟨tw_951, tw_952, tw_7, tw_953, by decide +kernel⟩
theorem cy_Mod_lose : cyV y_Mod_lose c_Mod_lose 2 (some .boolean) 1 := ⟨tw_959, tw_960, tw_7, tw_961, by decide +kernel⟩
theorem cy_Mod_twin : cyV y_Mod_twin c_Mod_twin 2 (some .boolean) 1 := ⟨tw_963, tw_964, tw_7, tw_965, by decide +kernel⟩
theorem cy_Mod_go : cyV y_Mod_go c_Mod_go 3 none 1 := ⟨tw_976, ts_36, tw_7, tw_977, by decide +kernel⟩
theorem cy_Mod_tick : cyV y_Mod_tick c_Mod_tick 4 (some .int) 0 := ⟨tw_971, tw_972, tw_7, tw_973, by decide +kernel⟩
theorem cy_Mod_vehicle : cyV y_Mod_vehicle c_Mod_vehicle 3 (some .int) 2 := ⟨tw_1054, tw_1055, tw_7, tw_1056, by decide +kernel⟩
theorem cy_Mod_move : cyV y_Mod_move c_Mod_move 5 (some .int) 3 := ⟨tw_1058, tw_1059, tw_7, tw_1060, by decide +kernel⟩
theorem cy_Mod_taskOf : cyV y_Mod_taskOf c_Mod_taskOf 3 (some .int) 2 := ⟨tw_1062, tw_1063, tw_7, tw_1064, by decide +kernel⟩
theorem cy_Mod_count : cyV y_Mod_count c_Mod_count 2 (some .int) 1 := ⟨tw_1066, tw_1067, tw_7, tw_1068, by decide +kernel⟩
theorem cy_Air_init : cyI y_Air_init c_Air_init 1 0 := ⟨tw_48, tw_3, tw_49, rfl, by decide +kernel⟩
theorem cy_Air_size : cyV y_Air_size c_Air_size 1 (some .int) 0 := ⟨tw_130, tw_131, tw_3, tw_132, by decide +kernel⟩
theorem cy_Air_look : cyV y_Air_look c_Air_look 2 (some (.object "FleetFloor$Letter")) 1 := ⟨tw_142, tw_143, tw_3, tw_144, by decide +kernel⟩
theorem cy_Air_send : cyV y_Air_send c_Air_send 2 (some .boolean) 1 := ⟨tw_213, tw_214, tw_3, tw_215, by decide +kernel⟩
theorem cy_Air_remove : cyV y_Air_remove c_Air_remove 2 (some .boolean) 1 := ⟨tw_190, tw_191, tw_3, tw_192, by decide +kernel⟩
theorem cy_Cel_init : cyI y_Cel_init c_Cel_init 1 0 := ⟨tw_399, tw_12, tw_400, rfl, by decide +kernel⟩
theorem cy_Cel_clear : cyV y_Cel_clear c_Cel_clear 1 none 0 := ⟨tw_705, tw_706, tw_12, tw_707, by decide +kernel⟩
theorem cy_Cel_copy : cyV y_Cel_copy c_Cel_copy 2 none 1 := ⟨tw_673, tw_674, tw_12, tw_675, by decide +kernel⟩
theorem cy_Cel_has : cyV y_Cel_has c_Cel_has 2 (some .boolean) 1 := ⟨tw_418, tw_419, tw_12, tw_420, by decide +kernel⟩
theorem cy_Cel_put : cyV y_Cel_put c_Cel_put 2 none 1 := ⟨tw_414, tw_415, tw_12, tw_416, by decide +kernel⟩
theorem cy_Cel_drop : cyV y_Cel_drop c_Cel_drop 2 none 1 := ⟨tw_688, tw_689, tw_12, tw_690, by decide +kernel⟩
theorem cy_Cel_join : cyV y_Cel_join c_Cel_join 2 none 1 := ⟨tw_444, tw_445, tw_12, tw_446, by decide +kernel⟩
theorem cy_Cel_keep : cyV y_Cel_keep c_Cel_keep 2 none 1 := ⟨tw_440, tw_441, tw_12, tw_442, by decide +kernel⟩
theorem cy_Cel_hasAll : cyV y_Cel_hasAll c_Cel_hasAll 2 (some .boolean) 1 := ⟨tw_435, tw_436, tw_12, tw_437, by decide +kernel⟩
theorem cy_Cel_becomeNeighboursOf : cyV y_Cel_becomeNeighboursOf c_Cel_becomeNeighboursOf 6 none 1 := ⟨tw_425, tw_426, tw_12, tw_427, by decide +kernel⟩
theorem cy_Cel_neighboursInHalf : cyS y_Cel_neighboursInHalf c_Cel_neighboursInHalf 2 (some .long) 1 := ⟨tw_429, tw_12, tw_430, by decide +kernel⟩
theorem cy_Map_init : cyI y_Map_init c_Map_init 1 0 := ⟨tw_37, tw_2, tw_38, rfl, by decide +kernel⟩
theorem cy_Map_change : cyV y_Map_change c_Map_change 3 (some .boolean) 2 := ⟨tw_122, tw_123, tw_2, tw_124, by decide +kernel⟩
theorem cy_Map_cellsOf : cyV y_Map_cellsOf c_Map_cellsOf 5 (some (.array .int)) 1 := ⟨tw_464, tw_465, tw_2, tw_466, by decide +kernel⟩
theorem cy_Map_collect : cyV y_Map_collect c_Map_collect 4 none 2 := ⟨tw_410, tw_411, tw_2, tw_412, by decide +kernel⟩
theorem cy_Map_isGood : cyV y_Map_isGood c_Map_isGood 3 (some .boolean) 0 := ⟨tw_385, tw_386, tw_2, tw_387, by decide +kernel⟩
theorem cy_Map_countOf : cyV y_Map_countOf c_Map_countOf 4 (some .int) 1 := ⟨tw_390, ts_7, tw_2, tw_391, by decide +kernel⟩
theorem cy_Map_isJoined : cyV y_Map_isJoined c_Map_isJoined 4 (some .boolean) 0 := ⟨tw_394, ts_8, tw_2, tw_395, by decide +kernel⟩
theorem cy_Map_reachesAll : cyS y_Map_reachesAll c_Map_reachesAll 6 (some .boolean) 3 := ⟨tw_422, tw_2, tw_423, by decide +kernel⟩
theorem cy_Let_init : cyI y_Let_init c_Let_init 4 3 := ⟨tw_636, tw_24, tw_637, rfl, by decide +kernel⟩
theorem cy_Let_kind : cyV y_Let_kind c_Let_kind 1 (some .int) 0 := ⟨tw_161, tw_162, tw_24, tw_163, by decide +kernel⟩
theorem cy_Let_owner : cyV y_Let_owner c_Let_owner 1 (some .int) 0 := ⟨tw_165, tw_166, tw_24, tw_167, by decide +kernel⟩
theorem cy_Let_number : cyV y_Let_number c_Let_number 1 (some .int) 0 := ⟨tw_169, tw_170, tw_24, tw_171, by decide +kernel⟩
theorem cy_Mov_init : cyI y_Mov_init c_Mov_init 3 2 := ⟨tw_752, tw_25, tw_753, rfl, by decide +kernel⟩
theorem cy_Mov_place : cyV y_Mov_place c_Mov_place 1 (some .int) 0 := ⟨tw_284, tw_285, tw_25, tw_286, by decide +kernel⟩
theorem cy_Mov_time : cyV y_Mov_time c_Mov_time 1 (some .int) 0 := ⟨tw_296, tw_297, tw_25, tw_298, by decide +kernel⟩
theorem cy_Pln_init : cyI y_Pln_init c_Pln_init 4 2 := ⟨tw_523, tw_15, tw_524, rfl, by decide +kernel⟩
theorem cy_Pln_find : cyV y_Pln_find c_Pln_find 4 (some .boolean) 3 := ⟨tw_665, tw_666, tw_15, tw_667, by decide +kernel⟩
theorem cy_Pln_append : cyV y_Pln_append c_Pln_append 4 none 2 := ⟨tw_747, tw_748, tw_15, tw_749, by decide +kernel⟩
theorem cy_Pln_layOut : cyV y_Pln_layOut c_Pln_layOut 4 none 2 := ⟨tw_670, ts_16, tw_15, tw_671, by decide +kernel⟩
theorem cy_Pln_keepClearOf : cyV y_Pln_keepClearOf c_Pln_keepClearOf 6 none 2 := ⟨tw_679, ts_17, tw_15, tw_680, by decide +kernel⟩
theorem cy_Pln_at : cyV y_Pln_at c_Pln_at 3 (some (.object "FleetFloor$Cells")) 2 := ⟨tw_702, ts_19, tw_15, tw_703, by decide +kernel⟩
theorem cy_Pln_spread : cyV y_Pln_spread c_Pln_spread 3 (some .int) 0 := ⟨tw_698, ts_18, tw_15, tw_699, by decide +kernel⟩
theorem cy_Pln_stepOn : cyV y_Pln_stepOn c_Pln_stepOn 5 none 2 := ⟨tw_710, ts_20, tw_15, tw_711, by decide +kernel⟩
theorem cy_Pln_changeLeg : cyV y_Pln_changeLeg c_Pln_changeLeg 3 none 2 := ⟨tw_716, ts_21, tw_15, tw_717, by decide +kernel⟩
theorem cy_Pln_goalOf : cyV y_Pln_goalOf c_Pln_goalOf 2 (some .int) 1 := ⟨tw_720, ts_22, tw_15, tw_721, by decide +kernel⟩
theorem cy_Pln_prune : cyV y_Pln_prune c_Pln_prune 4 none 0 := ⟨tw_725, ts_23, tw_15, tw_726, by decide +kernel⟩
theorem cy_Pln_keepThoseBefore : cyV y_Pln_keepThoseBefore c_Pln_keepThoseBefore 3 none 2 := ⟨tw_729, ts_24, tw_15, tw_730, by decide +kernel⟩
theorem cy_Pln_follow : cyV y_Pln_follow c_Pln_follow 4 none 0 := ⟨tw_733, ts_25, tw_15, tw_734, by decide +kernel⟩
theorem cy_Pln_lowestStep : cyV y_Pln_lowestStep c_Pln_lowestStep 6 (some .int) 3 := ⟨tw_737, ts_26, tw_15, tw_738, by decide +kernel⟩
theorem cy_Pln_legAt : cyV y_Pln_legAt c_Pln_legAt 4 (some .int) 2 := ⟨tw_744, ts_27, tw_15, tw_745, by decide +kernel⟩
theorem cy_Tsk_init : cyI y_Tsk_init c_Tsk_init 3 2 := ⟨tw_584, tw_16, tw_585, rfl, by decide +kernel⟩
theorem cy_Veh_init : cyI y_Veh_init c_Veh_init 3 2 := ⟨tw_469, tw_14, tw_470, rfl, by decide +kernel⟩
theorem cy_Veh_isIdle : cyV y_Veh_isIdle c_Veh_isIdle 1 (some .boolean) 0 := ⟨tw_661, tw_662, tw_14, tw_663, by decide +kernel⟩
theorem cy_Veh_canMove : cyV y_Veh_canMove c_Veh_canMove 1 (some .boolean) 0 := ⟨tw_618, tw_619, tw_14, tw_620, by decide +kernel⟩
theorem cy_Veh_placeAfter : cyV y_Veh_placeAfter c_Veh_placeAfter 2 (some .int) 1 := ⟨tw_277, tw_278, tw_14, tw_279, by decide +kernel⟩
theorem cy_Veh_movesUpTo : cyV y_Veh_movesUpTo c_Veh_movesUpTo 3 (some .int) 1 := ⟨tw_682, tw_683, tw_14, tw_684, by decide +kernel⟩
theorem cy_Veh_take : cyV y_Veh_take c_Veh_take 2 none 1 := ⟨tw_181, tw_182, tw_14, tw_183, by decide +kernel⟩
theorem cy_Veh_comesBefore : cyV y_Veh_comesBefore c_Veh_comesBefore 4 (some .boolean) 1 := ⟨tw_772, tw_773, tw_14, tw_774, by decide +kernel⟩
theorem cy_Mth_max : cyS y_Mth_max c_Mth_max 2 (some .int) 2 := ⟨tw_187, tw_18, tw_188, by decide +kernel⟩
theorem cy_Mth_min : cyS y_Mth_min c_Mth_min 2 (some .int) 2 := ⟨tw_267, tw_18, tw_268, by decide +kernel⟩
theorem cy_Rec_init : cyI y_Rec_init c_Rec_init 1 0 := ⟨tw_639, tw_23, tw_640, rfl, by decide +kernel⟩
theorem cy_ABC_init : cyI y_ABC_init c_ABC_init 1 0 := ⟨tw_60, tw_4, tw_61, rfl, by decide +kernel⟩
theorem cy_ABL_init : cyI y_ABL_init c_ABL_init 1 0 := ⟨tw_57, tw_5, tw_58, rfl, by decide +kernel⟩
theorem cy_AL_init : cyI y_AL_init c_AL_init 1 0 := ⟨tw_54, tw_6, tw_55, rfl, by decide +kernel⟩
theorem cy_AL_add : cyV y_AL_add c_AL_add 2 (some .boolean) 1 := ⟨tw_217, tw_218, tw_6, tw_219, by decide +kernel⟩
theorem cy_AL_addA : cyV y_AL_addA c_AL_addA 4 none 3 := ⟨tw_222, ts_3, tw_6, tw_223, by decide +kernel⟩
theorem cy_AL_elementData : cyV y_AL_elementData c_AL_elementData 2 (some (.object "java/lang/Object")) 1 := ⟨tw_156, tw_157, tw_6, tw_158, by decide +kernel⟩
theorem cy_AL_fastRemove : cyV y_AL_fastRemove c_AL_fastRemove 4 none 2 := ⟨tw_199, ts_2, tw_6, tw_200, by decide +kernel⟩
theorem cy_AL_get : cyV y_AL_get c_AL_get 2 (some (.object "java/lang/Object")) 1 := ⟨tw_146, tw_147, tw_6, tw_148, by decide +kernel⟩
theorem cy_AL_grow0 : cyV y_AL_grow0 c_AL_grow0 1 (some (.array (.object "java/lang/Object"))) 0 := ⟨tw_226, ts_4, tw_6, tw_227, by decide +kernel⟩
theorem cy_AL_growI : cyV y_AL_growI c_AL_growI 4 (some (.array (.object "java/lang/Object"))) 1 := ⟨tw_230, ts_5, tw_6, tw_231, by decide +kernel⟩
theorem cy_AL_remove : cyV y_AL_remove c_AL_remove 4 (some (.object "java/lang/Object")) 1 := ⟨tw_194, tw_195, tw_6, tw_196, by decide +kernel⟩
theorem cy_AL_size : cyV y_AL_size c_AL_size 1 (some .int) 0 := ⟨tw_134, tw_135, tw_6, tw_136, by decide +kernel⟩
theorem cy_Ars_copyOf : cyS y_Ars_copyOf c_Ars_copyOf 2 (some (.array (.object "java/lang/Object"))) 2 := ⟨tw_241, tw_19, tw_242, by decide +kernel⟩
theorem cy_Ars_copyOfC : cyS y_Ars_copyOfC c_Ars_copyOfC 4 (some (.array (.object "java/lang/Object"))) 3 := ⟨tw_261, tw_19, tw_262, by decide +kernel⟩
theorem cy_Obs_checkIndex : cyS y_Obs_checkIndex c_Obs_checkIndex 2 (some .int) 2 := ⟨tw_150, tw_21, tw_151, by decide +kernel⟩
theorem cy_ASu_hugeLength : cyS y_ASu_hugeLength c_ASu_hugeLength 3 (some .int) 2 := ⟨tw_238, tw_17, tw_239, by decide +kernel⟩
theorem cy_ASu_newLength : cyS y_ASu_newLength c_ASu_newLength 4 (some .int) 3 := ⟨tw_233, tw_17, tw_234, by decide +kernel⟩
theorem cy_Pre_checkIndex : cyS y_Pre_checkIndex c_Pre_checkIndex 3 (some .int) 3 := ⟨tw_153, tw_22, tw_154, by decide +kernel⟩
end
