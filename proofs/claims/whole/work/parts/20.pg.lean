/-! the pool: one memory (L, f) for the class, the reference and the law: the cells at the addresses of L hold what f says -/
abbrev GG : Type := va_G × (Nat → ClassId) × Nat
abbrev tys (G : GG) : List (ClassId × FieldType) := [(G.2.1 0, .int), (G.2.1 1, .long), (G.2.1 2, .boolean), (G.2.1 3, .object "FleetFloor$Vehicle"), (G.2.1 4, .object "FleetFloor$Cells"), (G.2.1 5, .object "java/lang/Object")]
abbrev nwl : List Cond := [(Jvm.Cond.castable "java/lang/IllegalStateException" "java/lang/IllegalStateException"), (Jvm.Cond.declares ({ cls := "java/lang/RuntimeException", name := "<init>", desc := "()V" } : Jvm.MethodName)), (Jvm.Cond.declares ({ cls := "java/lang/RuntimeException", name := "<init>", desc := "(Ljava/lang/String;)V" } : Jvm.MethodName)), (Jvm.Cond.declares ({ cls := "java/lang/Exception", name := "<init>", desc := "()V" } : Jvm.MethodName)), (Jvm.Cond.declares ({ cls := "java/lang/Exception", name := "<init>", desc := "(Ljava/lang/String;)V" } : Jvm.MethodName)), (Jvm.Cond.declares ({ cls := "java/lang/Throwable", name := "<init>", desc := "()V" } : Jvm.MethodName)), (Jvm.Cond.declares ({ cls := "java/lang/Throwable", name := "<init>", desc := "(Ljava/lang/String;)V" } : Jvm.MethodName)), (Jvm.Cond.methodLinkNest "FleetFloor$FloorMap" (29 : Nat) ({ cls := "FleetFloor$Cells", name := "<init>", desc := "()V" } : Jvm.MethodName) "FleetFloor"), (Jvm.Cond.castable "java/lang/IllegalArgumentException" "java/lang/IllegalArgumentException"), (Jvm.Cond.fieldLinkNest "FleetFloor" (218 : Nat) "FleetFloor$Vehicle" "number" "I" "FleetFloor"), (Jvm.Cond.fieldLinkNest "FleetFloor$Planner" (53 : Nat) "FleetFloor$Vehicle" "parking" "I" "FleetFloor"), (Jvm.Cond.fieldLinkNest "FleetFloor$Planner" (76 : Nat) "FleetFloor$Vehicle" "moves" "Ljava/util/ArrayList;" "FleetFloor"), (Jvm.Cond.fieldLinkNest "FleetFloor" (176 : Nat) "FleetFloor$Vehicle" "moves" "Ljava/util/ArrayList;" "FleetFloor"), (Jvm.Cond.fieldLinkNest "FleetFloor" (160 : Nat) "FleetFloor$Vehicle" "made" "I" "FleetFloor"), (Jvm.Cond.fieldLinkNest "FleetFloor" (167 : Nat) "FleetFloor$Vehicle" "allowed" "I" "FleetFloor"), (Jvm.Cond.fieldLinkNest "FleetFloor" (170 : Nat) "FleetFloor$Vehicle" "known" "I" "FleetFloor"), (Jvm.Cond.fieldLinkNest "FleetFloor" (173 : Nat) "FleetFloor$Vehicle" "granted" "I" "FleetFloor"), (Jvm.Cond.fieldLinkNest "FleetFloor" (179 : Nat) "FleetFloor$Vehicle" "latestTask" "I" "FleetFloor"), (Jvm.Cond.fieldLinkNest "FleetFloor$Planner" (97 : Nat) "FleetFloor$Vehicle" "finishAt" "I" "FleetFloor"), (Jvm.Cond.fieldLinkNest "FleetFloor" (211 : Nat) "FleetFloor$Vehicle" "finishAt" "I" "FleetFloor"), (Jvm.Cond.fieldLinkNest "FleetFloor" (203 : Nat) "FleetFloor$Vehicle" "justMoved" "Z" "FleetFloor"), (Jvm.Cond.methodLinkNest "FleetFloor" (86 : Nat) ({ cls := "FleetFloor$Cells", name := "<init>", desc := "()V" } : Jvm.MethodName) "FleetFloor"), (Jvm.Cond.methodLinkNest "FleetFloor$Planner" (28 : Nat) ({ cls := "FleetFloor$Cells", name := "<init>", desc := "()V" } : Jvm.MethodName) "FleetFloor"), (Jvm.Cond.fieldLinkNest "FleetFloor$Planner" (42 : Nat) "FleetFloor$Task" "first" "I" "FleetFloor"), (Jvm.Cond.fieldLinkNest "FleetFloor$Planner" (49 : Nat) "FleetFloor$Task" "second" "I" "FleetFloor"), (Jvm.Cond.fieldLinkNest "FleetFloor" (194 : Nat) "FleetFloor$Task" "carrier" "I" "FleetFloor"), (Jvm.Cond.fieldLinkNest "FleetFloor" (197 : Nat) "FleetFloor$Task" "finishedIn" "I" "FleetFloor"), (Jvm.Cond.methodLinkNest "FleetFloor" (220 : Nat) ({ cls := "FleetFloor$Letter", name := "<init>", desc := "(III)V" } : Jvm.MethodName) "FleetFloor"), (Jvm.Cond.methodLinkNest "FleetFloor$Planner" (168 : Nat) ({ cls := "FleetFloor", name := "neighbour", desc := "(II)I" } : Jvm.MethodName) "FleetFloor"), (Jvm.Cond.methodLinkNest "FleetFloor$Planner" (82 : Nat) ({ cls := "FleetFloor$Move", name := "<init>", desc := "(II)V" } : Jvm.MethodName) "FleetFloor"), (Jvm.Cond.castable "FleetFloor$Letter" "FleetFloor$Letter"), (Jvm.Cond.castable "FleetFloor$Move" "FleetFloor$Move"), (Jvm.Cond.castable "FleetFloor$Task" "FleetFloor$Task"), (Jvm.Cond.declares ({ cls := "java/lang/Object", name := "getClass", desc := "()Ljava/lang/Class;" } : Jvm.MethodName)), (Jvm.Cond.castable "FleetFloor" "java/lang/Object"), (Jvm.Cond.castable "FleetFloor$FloorMap" "java/lang/Object"), (Jvm.Cond.castable "FleetFloor$Air" "java/lang/Object"), (Jvm.Cond.castable "FleetFloorModel" "java/lang/Object"), (Jvm.Cond.castable "FleetFloor$Cells" "java/lang/Object"), (Jvm.Cond.castable "FleetFloor$Vehicle" "java/lang/Object"), (Jvm.Cond.castable "FleetFloor$Planner" "java/lang/Object"), (Jvm.Cond.castable "FleetFloor$Task" "java/lang/Object"), (Jvm.Cond.castable "FleetFloor$Letter" "java/lang/Object"), (Jvm.Cond.castable "FleetFloor$Move" "java/lang/Object"), (Jvm.Cond.castable "java/lang/String" "java/lang/Object")]
theorem nw_319 : (Jvm.Cond.castable "java/lang/IllegalStateException" "java/lang/IllegalStateException") ∈ nwl := List.mem_of_getElem? (i := 0) rfl
theorem nw_320 : (Jvm.Cond.declares ({ cls := "java/lang/RuntimeException", name := "<init>", desc := "()V" } : Jvm.MethodName)) ∈ nwl := List.mem_of_getElem? (i := 1) rfl
theorem nw_321 : (Jvm.Cond.declares ({ cls := "java/lang/RuntimeException", name := "<init>", desc := "(Ljava/lang/String;)V" } : Jvm.MethodName)) ∈ nwl := List.mem_of_getElem? (i := 2) rfl
theorem nw_322 : (Jvm.Cond.declares ({ cls := "java/lang/Exception", name := "<init>", desc := "()V" } : Jvm.MethodName)) ∈ nwl := List.mem_of_getElem? (i := 3) rfl
theorem nw_323 : (Jvm.Cond.declares ({ cls := "java/lang/Exception", name := "<init>", desc := "(Ljava/lang/String;)V" } : Jvm.MethodName)) ∈ nwl := List.mem_of_getElem? (i := 4) rfl
theorem nw_324 : (Jvm.Cond.declares ({ cls := "java/lang/Throwable", name := "<init>", desc := "()V" } : Jvm.MethodName)) ∈ nwl := List.mem_of_getElem? (i := 5) rfl
theorem nw_325 : (Jvm.Cond.declares ({ cls := "java/lang/Throwable", name := "<init>", desc := "(Ljava/lang/String;)V" } : Jvm.MethodName)) ∈ nwl := List.mem_of_getElem? (i := 6) rfl
theorem nw_398 : (Jvm.Cond.methodLinkNest "FleetFloor$FloorMap" (29 : Nat) ({ cls := "FleetFloor$Cells", name := "<init>", desc := "()V" } : Jvm.MethodName) "FleetFloor") ∈ nwl := List.mem_of_getElem? (i := 7) rfl
theorem nw_449 : (Jvm.Cond.castable "java/lang/IllegalArgumentException" "java/lang/IllegalArgumentException") ∈ nwl := List.mem_of_getElem? (i := 8) rfl
theorem nw_475 : (Jvm.Cond.fieldLinkNest "FleetFloor" (218 : Nat) "FleetFloor$Vehicle" "number" "I" "FleetFloor") ∈ nwl := List.mem_of_getElem? (i := 9) rfl
theorem nw_477 : (Jvm.Cond.fieldLinkNest "FleetFloor$Planner" (53 : Nat) "FleetFloor$Vehicle" "parking" "I" "FleetFloor") ∈ nwl := List.mem_of_getElem? (i := 10) rfl
theorem nw_479 : (Jvm.Cond.fieldLinkNest "FleetFloor$Planner" (76 : Nat) "FleetFloor$Vehicle" "moves" "Ljava/util/ArrayList;" "FleetFloor") ∈ nwl := List.mem_of_getElem? (i := 11) rfl
theorem nw_480 : (Jvm.Cond.fieldLinkNest "FleetFloor" (176 : Nat) "FleetFloor$Vehicle" "moves" "Ljava/util/ArrayList;" "FleetFloor") ∈ nwl := List.mem_of_getElem? (i := 12) rfl
theorem nw_482 : (Jvm.Cond.fieldLinkNest "FleetFloor" (160 : Nat) "FleetFloor$Vehicle" "made" "I" "FleetFloor") ∈ nwl := List.mem_of_getElem? (i := 13) rfl
theorem nw_484 : (Jvm.Cond.fieldLinkNest "FleetFloor" (167 : Nat) "FleetFloor$Vehicle" "allowed" "I" "FleetFloor") ∈ nwl := List.mem_of_getElem? (i := 14) rfl
theorem nw_486 : (Jvm.Cond.fieldLinkNest "FleetFloor" (170 : Nat) "FleetFloor$Vehicle" "known" "I" "FleetFloor") ∈ nwl := List.mem_of_getElem? (i := 15) rfl
theorem nw_488 : (Jvm.Cond.fieldLinkNest "FleetFloor" (173 : Nat) "FleetFloor$Vehicle" "granted" "I" "FleetFloor") ∈ nwl := List.mem_of_getElem? (i := 16) rfl
theorem nw_490 : (Jvm.Cond.fieldLinkNest "FleetFloor" (179 : Nat) "FleetFloor$Vehicle" "latestTask" "I" "FleetFloor") ∈ nwl := List.mem_of_getElem? (i := 17) rfl
theorem nw_492 : (Jvm.Cond.fieldLinkNest "FleetFloor$Planner" (97 : Nat) "FleetFloor$Vehicle" "finishAt" "I" "FleetFloor") ∈ nwl := List.mem_of_getElem? (i := 18) rfl
theorem nw_493 : (Jvm.Cond.fieldLinkNest "FleetFloor" (211 : Nat) "FleetFloor$Vehicle" "finishAt" "I" "FleetFloor") ∈ nwl := List.mem_of_getElem? (i := 19) rfl
theorem nw_495 : (Jvm.Cond.fieldLinkNest "FleetFloor" (203 : Nat) "FleetFloor$Vehicle" "justMoved" "Z" "FleetFloor") ∈ nwl := List.mem_of_getElem? (i := 20) rfl
theorem nw_518 : (Jvm.Cond.methodLinkNest "FleetFloor" (86 : Nat) ({ cls := "FleetFloor$Cells", name := "<init>", desc := "()V" } : Jvm.MethodName) "FleetFloor") ∈ nwl := List.mem_of_getElem? (i := 21) rfl
theorem nw_528 : (Jvm.Cond.methodLinkNest "FleetFloor$Planner" (28 : Nat) ({ cls := "FleetFloor$Cells", name := "<init>", desc := "()V" } : Jvm.MethodName) "FleetFloor") ∈ nwl := List.mem_of_getElem? (i := 22) rfl
theorem nw_588 : (Jvm.Cond.fieldLinkNest "FleetFloor$Planner" (42 : Nat) "FleetFloor$Task" "first" "I" "FleetFloor") ∈ nwl := List.mem_of_getElem? (i := 23) rfl
theorem nw_590 : (Jvm.Cond.fieldLinkNest "FleetFloor$Planner" (49 : Nat) "FleetFloor$Task" "second" "I" "FleetFloor") ∈ nwl := List.mem_of_getElem? (i := 24) rfl
theorem nw_592 : (Jvm.Cond.fieldLinkNest "FleetFloor" (194 : Nat) "FleetFloor$Task" "carrier" "I" "FleetFloor") ∈ nwl := List.mem_of_getElem? (i := 25) rfl
theorem nw_594 : (Jvm.Cond.fieldLinkNest "FleetFloor" (197 : Nat) "FleetFloor$Task" "finishedIn" "I" "FleetFloor") ∈ nwl := List.mem_of_getElem? (i := 26) rfl
theorem nw_635 : (Jvm.Cond.methodLinkNest "FleetFloor" (220 : Nat) ({ cls := "FleetFloor$Letter", name := "<init>", desc := "(III)V" } : Jvm.MethodName) "FleetFloor") ∈ nwl := List.mem_of_getElem? (i := 27) rfl
theorem nw_739 : (Jvm.Cond.methodLinkNest "FleetFloor$Planner" (168 : Nat) ({ cls := "FleetFloor", name := "neighbour", desc := "(II)I" } : Jvm.MethodName) "FleetFloor") ∈ nwl := List.mem_of_getElem? (i := 28) rfl
theorem nw_751 : (Jvm.Cond.methodLinkNest "FleetFloor$Planner" (82 : Nat) ({ cls := "FleetFloor$Move", name := "<init>", desc := "(II)V" } : Jvm.MethodName) "FleetFloor") ∈ nwl := List.mem_of_getElem? (i := 29) rfl
theorem nw_1070 : (Jvm.Cond.castable "FleetFloor$Letter" "FleetFloor$Letter") ∈ nwl := List.mem_of_getElem? (i := 30) rfl
theorem nw_1071 : (Jvm.Cond.castable "FleetFloor$Move" "FleetFloor$Move") ∈ nwl := List.mem_of_getElem? (i := 31) rfl
theorem nw_1072 : (Jvm.Cond.castable "FleetFloor$Task" "FleetFloor$Task") ∈ nwl := List.mem_of_getElem? (i := 32) rfl
theorem nw_1075 : (Jvm.Cond.declares ({ cls := "java/lang/Object", name := "getClass", desc := "()Ljava/lang/Class;" } : Jvm.MethodName)) ∈ nwl := List.mem_of_getElem? (i := 33) rfl
theorem nw_1076 : (Jvm.Cond.castable "FleetFloor" "java/lang/Object") ∈ nwl := List.mem_of_getElem? (i := 34) rfl
theorem nw_1077 : (Jvm.Cond.castable "FleetFloor$FloorMap" "java/lang/Object") ∈ nwl := List.mem_of_getElem? (i := 35) rfl
theorem nw_1078 : (Jvm.Cond.castable "FleetFloor$Air" "java/lang/Object") ∈ nwl := List.mem_of_getElem? (i := 36) rfl
theorem nw_1079 : (Jvm.Cond.castable "FleetFloorModel" "java/lang/Object") ∈ nwl := List.mem_of_getElem? (i := 37) rfl
theorem nw_1080 : (Jvm.Cond.castable "FleetFloor$Cells" "java/lang/Object") ∈ nwl := List.mem_of_getElem? (i := 38) rfl
theorem nw_1081 : (Jvm.Cond.castable "FleetFloor$Vehicle" "java/lang/Object") ∈ nwl := List.mem_of_getElem? (i := 39) rfl
theorem nw_1082 : (Jvm.Cond.castable "FleetFloor$Planner" "java/lang/Object") ∈ nwl := List.mem_of_getElem? (i := 40) rfl
theorem nw_1083 : (Jvm.Cond.castable "FleetFloor$Task" "java/lang/Object") ∈ nwl := List.mem_of_getElem? (i := 41) rfl
theorem nw_1084 : (Jvm.Cond.castable "FleetFloor$Letter" "java/lang/Object") ∈ nwl := List.mem_of_getElem? (i := 42) rfl
theorem nw_1085 : (Jvm.Cond.castable "FleetFloor$Move" "java/lang/Object") ∈ nwl := List.mem_of_getElem? (i := 43) rfl
theorem nw_1086 : (Jvm.Cond.castable "java/lang/String" "java/lang/Object") ∈ nwl := List.mem_of_getElem? (i := 44) rfl
set_option maxRecDepth 100000 in
theorem nw_warm {s U : State} (hW : s.WarmedH U.vm) (h : ∀ w ∈ nwl, va_Nw w s) : ∀ w ∈ nwl, va_Nw w U := (List.forall_mem_cons.mpr ⟨va_Nw.warmC hW (h _ nw_319), (List.forall_mem_cons.mpr ⟨va_Nw.warmD hW (h _ nw_320), (List.forall_mem_cons.mpr ⟨va_Nw.warmD hW (h _ nw_321), (List.forall_mem_cons.mpr ⟨va_Nw.warmD hW (h _ nw_322), (List.forall_mem_cons.mpr ⟨va_Nw.warmD hW (h _ nw_323), (List.forall_mem_cons.mpr ⟨va_Nw.warmD hW (h _ nw_324), (List.forall_mem_cons.mpr ⟨va_Nw.warmD hW (h _ nw_325), (List.forall_mem_cons.mpr ⟨va_Nw.warmM hW (h _ nw_398), (List.forall_mem_cons.mpr ⟨va_Nw.warmC hW (h _ nw_449), (List.forall_mem_cons.mpr ⟨va_Nw.warmF hW (h _ nw_475), (List.forall_mem_cons.mpr ⟨va_Nw.warmF hW (h _ nw_477), (List.forall_mem_cons.mpr ⟨va_Nw.warmF hW (h _ nw_479), (List.forall_mem_cons.mpr ⟨va_Nw.warmF hW (h _ nw_480), (List.forall_mem_cons.mpr ⟨va_Nw.warmF hW (h _ nw_482), (List.forall_mem_cons.mpr ⟨va_Nw.warmF hW (h _ nw_484), (List.forall_mem_cons.mpr ⟨va_Nw.warmF hW (h _ nw_486), (List.forall_mem_cons.mpr ⟨va_Nw.warmF hW (h _ nw_488), (List.forall_mem_cons.mpr ⟨va_Nw.warmF hW (h _ nw_490), (List.forall_mem_cons.mpr ⟨va_Nw.warmF hW (h _ nw_492), (List.forall_mem_cons.mpr ⟨va_Nw.warmF hW (h _ nw_493), (List.forall_mem_cons.mpr ⟨va_Nw.warmF hW (h _ nw_495), (List.forall_mem_cons.mpr ⟨va_Nw.warmM hW (h _ nw_518), (List.forall_mem_cons.mpr ⟨va_Nw.warmM hW (h _ nw_528), (List.forall_mem_cons.mpr ⟨va_Nw.warmF hW (h _ nw_588), (List.forall_mem_cons.mpr ⟨va_Nw.warmF hW (h _ nw_590), (List.forall_mem_cons.mpr ⟨va_Nw.warmF hW (h _ nw_592), (List.forall_mem_cons.mpr ⟨va_Nw.warmF hW (h _ nw_594), (List.forall_mem_cons.mpr ⟨va_Nw.warmM hW (h _ nw_635), (List.forall_mem_cons.mpr ⟨va_Nw.warmM hW (h _ nw_739), (List.forall_mem_cons.mpr ⟨va_Nw.warmM hW (h _ nw_751), (List.forall_mem_cons.mpr ⟨va_Nw.warmC hW (h _ nw_1070), (List.forall_mem_cons.mpr ⟨va_Nw.warmC hW (h _ nw_1071), (List.forall_mem_cons.mpr ⟨va_Nw.warmC hW (h _ nw_1072), (List.forall_mem_cons.mpr ⟨va_Nw.warmD hW (h _ nw_1075), (List.forall_mem_cons.mpr ⟨va_Nw.warmC hW (h _ nw_1076), (List.forall_mem_cons.mpr ⟨va_Nw.warmC hW (h _ nw_1077), (List.forall_mem_cons.mpr ⟨va_Nw.warmC hW (h _ nw_1078), (List.forall_mem_cons.mpr ⟨va_Nw.warmC hW (h _ nw_1079), (List.forall_mem_cons.mpr ⟨va_Nw.warmC hW (h _ nw_1080), (List.forall_mem_cons.mpr ⟨va_Nw.warmC hW (h _ nw_1081), (List.forall_mem_cons.mpr ⟨va_Nw.warmC hW (h _ nw_1082), (List.forall_mem_cons.mpr ⟨va_Nw.warmC hW (h _ nw_1083), (List.forall_mem_cons.mpr ⟨va_Nw.warmC hW (h _ nw_1084), (List.forall_mem_cons.mpr ⟨va_Nw.warmC hW (h _ nw_1085), (List.forall_mem_cons.mpr ⟨va_Nw.warmC hW (h _ nw_1086), (fun _ h => absurd h List.not_mem_nil)⟩)⟩)⟩)⟩)⟩)⟩)⟩)⟩)⟩)⟩)⟩)⟩)⟩)⟩)⟩)⟩)⟩)⟩)⟩)⟩)⟩)⟩)⟩)⟩)⟩)⟩)⟩)⟩)⟩)⟩)⟩)⟩)⟩)⟩)⟩)⟩)⟩)⟩)⟩)⟩)⟩)⟩)⟩)⟩)⟩)
set_option maxRecDepth 100000 in
theorem nw_in : ∀ w ∈ nwl, w ∈ lw_tbl := (List.forall_mem_cons.mpr ⟨tx_319, (List.forall_mem_cons.mpr ⟨tx_320, (List.forall_mem_cons.mpr ⟨tx_321, (List.forall_mem_cons.mpr ⟨tx_322, (List.forall_mem_cons.mpr ⟨tx_323, (List.forall_mem_cons.mpr ⟨tx_324, (List.forall_mem_cons.mpr ⟨tx_325, (List.forall_mem_cons.mpr ⟨tx_398, (List.forall_mem_cons.mpr ⟨tx_449, (List.forall_mem_cons.mpr ⟨tx_475, (List.forall_mem_cons.mpr ⟨tx_477, (List.forall_mem_cons.mpr ⟨tx_479, (List.forall_mem_cons.mpr ⟨tx_480, (List.forall_mem_cons.mpr ⟨tx_482, (List.forall_mem_cons.mpr ⟨tx_484, (List.forall_mem_cons.mpr ⟨tx_486, (List.forall_mem_cons.mpr ⟨tx_488, (List.forall_mem_cons.mpr ⟨tx_490, (List.forall_mem_cons.mpr ⟨tx_492, (List.forall_mem_cons.mpr ⟨tx_493, (List.forall_mem_cons.mpr ⟨tx_495, (List.forall_mem_cons.mpr ⟨tx_518, (List.forall_mem_cons.mpr ⟨tx_528, (List.forall_mem_cons.mpr ⟨tx_588, (List.forall_mem_cons.mpr ⟨tx_590, (List.forall_mem_cons.mpr ⟨tx_592, (List.forall_mem_cons.mpr ⟨tx_594, (List.forall_mem_cons.mpr ⟨tx_635, (List.forall_mem_cons.mpr ⟨tx_739, (List.forall_mem_cons.mpr ⟨tx_751, (List.forall_mem_cons.mpr ⟨tx_1070, (List.forall_mem_cons.mpr ⟨tx_1071, (List.forall_mem_cons.mpr ⟨tx_1072, (List.forall_mem_cons.mpr ⟨tx_1075, (List.forall_mem_cons.mpr ⟨tx_1076, (List.forall_mem_cons.mpr ⟨tx_1077, (List.forall_mem_cons.mpr ⟨tx_1078, (List.forall_mem_cons.mpr ⟨tx_1079, (List.forall_mem_cons.mpr ⟨tx_1080, (List.forall_mem_cons.mpr ⟨tx_1081, (List.forall_mem_cons.mpr ⟨tx_1082, (List.forall_mem_cons.mpr ⟨tx_1083, (List.forall_mem_cons.mpr ⟨tx_1084, (List.forall_mem_cons.mpr ⟨tx_1085, (List.forall_mem_cons.mpr ⟨tx_1086, (fun _ h => absurd h List.not_mem_nil)⟩)⟩)⟩)⟩)⟩)⟩)⟩)⟩)⟩)⟩)⟩)⟩)⟩)⟩)⟩)⟩)⟩)⟩)⟩)⟩)⟩)⟩)⟩)⟩)⟩)⟩)⟩)⟩)⟩)⟩)⟩)⟩)⟩)⟩)⟩)⟩)⟩)⟩)⟩)⟩)⟩)⟩)⟩)⟩)⟩)
set_option maxRecDepth 100000 in
theorem nw_ont : ∀ w ∈ nwl, w.onTables = true := (List.forall_mem_cons.mpr ⟨(rfl : Cond.onTables _ = true), (List.forall_mem_cons.mpr ⟨(rfl : Cond.onTables _ = true), (List.forall_mem_cons.mpr ⟨(rfl : Cond.onTables _ = true), (List.forall_mem_cons.mpr ⟨(rfl : Cond.onTables _ = true), (List.forall_mem_cons.mpr ⟨(rfl : Cond.onTables _ = true), (List.forall_mem_cons.mpr ⟨(rfl : Cond.onTables _ = true), (List.forall_mem_cons.mpr ⟨(rfl : Cond.onTables _ = true), (List.forall_mem_cons.mpr ⟨(rfl : Cond.onTables _ = true), (List.forall_mem_cons.mpr ⟨(rfl : Cond.onTables _ = true), (List.forall_mem_cons.mpr ⟨(rfl : Cond.onTables _ = true), (List.forall_mem_cons.mpr ⟨(rfl : Cond.onTables _ = true), (List.forall_mem_cons.mpr ⟨(rfl : Cond.onTables _ = true), (List.forall_mem_cons.mpr ⟨(rfl : Cond.onTables _ = true), (List.forall_mem_cons.mpr ⟨(rfl : Cond.onTables _ = true), (List.forall_mem_cons.mpr ⟨(rfl : Cond.onTables _ = true), (List.forall_mem_cons.mpr ⟨(rfl : Cond.onTables _ = true), (List.forall_mem_cons.mpr ⟨(rfl : Cond.onTables _ = true), (List.forall_mem_cons.mpr ⟨(rfl : Cond.onTables _ = true), (List.forall_mem_cons.mpr ⟨(rfl : Cond.onTables _ = true), (List.forall_mem_cons.mpr ⟨(rfl : Cond.onTables _ = true), (List.forall_mem_cons.mpr ⟨(rfl : Cond.onTables _ = true), (List.forall_mem_cons.mpr ⟨(rfl : Cond.onTables _ = true), (List.forall_mem_cons.mpr ⟨(rfl : Cond.onTables _ = true), (List.forall_mem_cons.mpr ⟨(rfl : Cond.onTables _ = true), (List.forall_mem_cons.mpr ⟨(rfl : Cond.onTables _ = true), (List.forall_mem_cons.mpr ⟨(rfl : Cond.onTables _ = true), (List.forall_mem_cons.mpr ⟨(rfl : Cond.onTables _ = true), (List.forall_mem_cons.mpr ⟨(rfl : Cond.onTables _ = true), (List.forall_mem_cons.mpr ⟨(rfl : Cond.onTables _ = true), (List.forall_mem_cons.mpr ⟨(rfl : Cond.onTables _ = true), (List.forall_mem_cons.mpr ⟨(rfl : Cond.onTables _ = true), (List.forall_mem_cons.mpr ⟨(rfl : Cond.onTables _ = true), (List.forall_mem_cons.mpr ⟨(rfl : Cond.onTables _ = true), (List.forall_mem_cons.mpr ⟨(rfl : Cond.onTables _ = true), (List.forall_mem_cons.mpr ⟨(rfl : Cond.onTables _ = true), (List.forall_mem_cons.mpr ⟨(rfl : Cond.onTables _ = true), (List.forall_mem_cons.mpr ⟨(rfl : Cond.onTables _ = true), (List.forall_mem_cons.mpr ⟨(rfl : Cond.onTables _ = true), (List.forall_mem_cons.mpr ⟨(rfl : Cond.onTables _ = true), (List.forall_mem_cons.mpr ⟨(rfl : Cond.onTables _ = true), (List.forall_mem_cons.mpr ⟨(rfl : Cond.onTables _ = true), (List.forall_mem_cons.mpr ⟨(rfl : Cond.onTables _ = true), (List.forall_mem_cons.mpr ⟨(rfl : Cond.onTables _ = true), (List.forall_mem_cons.mpr ⟨(rfl : Cond.onTables _ = true), (List.forall_mem_cons.mpr ⟨(rfl : Cond.onTables _ = true), (fun _ h => absurd h List.not_mem_nil)⟩)⟩)⟩)⟩)⟩)⟩)⟩)⟩)⟩)⟩)⟩)⟩)⟩)⟩)⟩)⟩)⟩)⟩)⟩)⟩)⟩)⟩)⟩)⟩)⟩)⟩)⟩)⟩)⟩)⟩)⟩)⟩)⟩)⟩)⟩)⟩)⟩)⟩)⟩)⟩)⟩)⟩)⟩)⟩)⟩)
def gk (G : GG) (U : State) : Prop := va_K G.1 cl (tys G) U ∧ (∀ w ∈ nwl, va_Nw w U) ∧ va_AO "FleetFloor$Vehicle" U ∧ va_AO "FleetFloor$Cells" U ∧ va_AO "java/lang/Object" U
theorem gk.warm {G : GG} {s U : State} (hW : s.WarmedH U.vm) (h : gk G s) : gk G U := ⟨va_K.moved hW.alike h.1, nw_warm hW h.2.1, h.2.2.1.moved hW.alike, h.2.2.2.1.moved hW.alike, h.2.2.2.2.moved hW.alike⟩
def z0 (d : Nat) (A : Nat → Prop) (U : State) (H : Heap) : Prop := va_Z "java/util/ArrayList" "DEFAULTCAPACITY_EMPTY_ELEMENTDATA" "[Ljava/lang/Object;" (.ref d) A U H ∧ va_T (.object "java/lang/Object") d 0 (fun _ => .null) A U H
/-- a static field that holds a reference: its cell, out of reach -/
def xz (C n d : String) (A : Nat → Prop) (U : State) (H : Heap) : Prop := ∃ (c : ClassId) (k : Class) (i : Nat) (f : Field) (a : Nat) (cell : Cell) (v : Value), U.vm.findClass C = some c ∧ U.fieldFound? C n d = some (c, k, i, f) ∧ f.isStatic = true ∧ k.statics = some a ∧ k.staticTypes[f.slot]? = some f.type ∧ (cell.vm.isStatics = true ∧ cell.cls = c ∧ f.slot < cell.slots.size ∧ cell.slots[f.slot]? = some v ∧ v.isRef = true) ∧ H[a]? = some cell ∧ ¬ A a
theorem xz.moved {C n d : String} {A : Nat → Prop} {u U : State} {H : Heap} (hvm : u.vm.Alike U.vm) (h : xz C n d A u H) : xz C n d A U H := by
  obtain ⟨c, k, i, f, a, cell, v, h1, h2, h3, h4, h5, h6⟩ := h
  obtain ⟨k', hi', he⟩ := State.fieldFound?_setVm hvm h2
  exact ⟨c, k', i, f, a, cell, v, by rw [hvm.findClass]; exact h1, hi', h3, by rw [he]; exact h4, by rw [he]; exact h5, h6⟩
theorem xz.kept {C n d : String} {A : Nat → Prop} {U : State} {H H1 : Heap} (h : xz C n d A U H) (hq : ∀ a : Nat, a < H.size → ¬ A a → H1[a]? = H[a]?) : xz C n d A U H1 := by
  obtain ⟨c, k, i, f, a, cell, v, h1, h2, h3, h4, h5, h6, h7, h8⟩ := h
  exact ⟨c, k, i, f, a, cell, v, h1, h2, h3, h4, h5, h6, by rw [hq a (Array.getElem?_eq_some_iff.mp h7).1 h8]; exact h7, h8⟩
theorem xz.narrow {C n d : String} {A B : Nat → Prop} {U : State} {H : Heap} (h : xz C n d A U H) (hAB : ∀ q, B q → A q) : xz C n d B U H := by
  obtain ⟨c, k, i, f, a, cell, v, h1, h2, h3, h4, h5, h6, h7, h8⟩ := h
  exact ⟨c, k, i, f, a, cell, v, h1, h2, h3, h4, h5, h6, h7, fun z => h8 (hAB a z)⟩
theorem xz.of {args : Array Value} {s : State} {C n d : String} {A : Nat → Prop} (hl : (Cond.laysStatic C n d).before args s = true) (h : (Cond.isRef (.static C n d)).before args s = true) (hA : ∀ a : Nat, a < s.heap.size → ¬ A a) : xz C n d A s s.heap := by
  obtain ⟨c, k, i, f, a, cell, hc, hi, hst, ha, hcell, hs, hcls, hlt, hty⟩ := Cond.laysStatic_spec hl
  obtain ⟨v, hv, hr⟩ := Cond.isRef_spec h
  obtain ⟨hst', a', cell', ha', hcell', -, hslot⟩ := Term.static_spec hi hv
  cases ha.symm.trans ha'
  cases hcell.symm.trans hcell'
  exact ⟨c, k, i, f, a, cell, v, hc, hi, hst, ha, hty, ⟨hs, hcls, hlt, hslot, hr⟩, hcell, hA a (Array.getElem?_eq_some_iff.mp hcell).1⟩
theorem xz.lays {args : Array Value} {s : State} {C n d : String} {A : Nat → Prop} (h : xz C n d A s s.heap) : (Cond.laysStatic C n d).before args s = true := by
  obtain ⟨c, k, i, f, a, cell, v, h1, h2, h3, h4, h5, ⟨h6, h9, h10, h11, h12⟩, h7, h8⟩ := h
  simp [Cond.before, Cond.holds, Cond.value, h1, h2, h3, h4, h5, h6, h7, h9, h10]
theorem xz.isRef {args : Array Value} {s : State} {C n d : String} {A : Nat → Prop} (h : xz C n d A s s.heap) : (Cond.isRef (.static C n d)).before args s = true := by
  obtain ⟨c, k, i, f, a, cell, v, h1, h2, h3, h4, h5, ⟨h6, h9, h10, h11, h12⟩, h7, h8⟩ := h
  have hv : (Term.static C n d).eval args s none [] s = some v := by
    simp [Term.eval, State.fieldNamed?, h2, h3, h4, h6, h7, h11]
  simp only [Cond.before, Cond.holds, Cond.value, hv]
  cases v <;> simp_all [Value.isRef]
abbrev xw : List (Nat × String) := [(64, "the floor is open already"), (74, "the map is not good"), (100, "the floor is not open, or there were all tasks"), (106, "there is no such station"), (115, "the floor is not open")]
abbrev xI : String := "java/lang/IllegalArgumentException"
abbrev xS : String := "java/lang/IllegalStateException"
def xk (G : GG) (A : Nat → Prop) (U : State) (H : Heap) : Prop := (va_Mi "[Ljava/lang/Object;" (G.2.1 9) U ∧ va_Nc xS xI U ∧ va_Nc xI xS U) ∧ (xz "java/lang/Throwable" "UNASSIGNED_STACK" "[Ljava/lang/StackTraceElement;" A U H ∧ xz "java/lang/Throwable" "SUPPRESSED_SENTINEL" "Ljava/util/List;" A U H) ∧ ∀ w ∈ xw, ∃ a : Nat, vk_R "FleetFloor" w.1 w.2 a U
/-- what every method finds: the tables, the empty list's array, what a throw and a catch need -/
def ev (G : GG) (A : Nat → Prop) (U : State) (H : Heap) : Prop := gk G U ∧ z0 G.2.2 A U H ∧ xk G A U H
theorem ev.into {G : GG} {A A1 : Nat → Prop} {s U : State} {H : Heap} {locs : List Loc} (h : ev G A s s.heap) (hS : va_S A s.heap H locs) (hA : ∀ q, A1 q → A q) (hW : s.WarmedH U.vm) : ev G A1 U H := by
  obtain ⟨h1, ⟨h2, h3⟩, ⟨hmi, hn1, hn2⟩, ⟨hx1, hx2⟩, hs⟩ := h
  exact ⟨h1.warm hW, ⟨((h2.moved hW.alike).kept (fun a h1 h2 => hS.2.1 a h1 h2)).narrow hA, ((h3.moved hW.alike).kept (fun a h1 h2 => hS.2.1 a h1 h2)).narrow hA⟩, ⟨hmi.moved hW.alike, hn1.moved hW.alike, hn2.moved hW.alike⟩, ⟨((hx1.moved hW.alike).kept (fun a h1 h2 => hS.2.1 a h1 h2)).narrow hA, ((hx2.moved hW.alike).kept (fun a h1 h2 => hS.2.1 a h1 h2)).narrow hA⟩, fun w hw => (hs w hw).imp (fun a h => h.warm hW)⟩
/-- which cells may change: those of the pool, and new ones -/
def pgA (L : List Nat) (sz : Nat) : Nat → Prop := fun q => q ∈ L ∨ sz ≤ q
/-- the pool in a heap -/
def pgR (G : GG) (L : List Nat) (f : Nat → va_E) (H : Heap) : Prop := va_P G.1 cl (va_pl L f) H ∧ va_D (fun _ => True) (va_pl L f)
theorem pg_plD {A : Nat → Prop} {L : List Nat} {f : Nat → va_E} (h : va_D (fun _ => True) (va_pl L f)) (hA : ∀ q ∈ L, A q) : va_D A (va_pl L f) := by
  refine ⟨h.1, fun k q hk => ?_⟩
  obtain ⟨a, ha, rfl⟩ := List.mem_map.mp (List.mem_of_getElem? hk)
  exact hA a ha
theorem pg_plA {A : Nat → Prop} {L : List Nat} {f : Nat → va_E} (h : va_D A (va_pl L f)) : ∀ q ∈ L, A q := by
  intro q hq
  obtain ⟨k, hk⟩ := List.getElem?_of_mem (show (q, f q) ∈ va_pl L f from List.mem_map.mpr ⟨q, hq, rfl⟩)
  exact h.2 k _ hk
/-- within a method: the pool as it stands, what was touched -/
def pgS (G : GG) (A : Nat → Prop) (H0 : Heap) (L : List Nat) (f : Nat → va_E) (H : Heap) (locs : List Loc) : Prop := va_P G.1 cl (va_pl L f) H ∧ va_D A (va_pl L f) ∧ va_S A H0 H locs ∧ ∀ q, H0.size ≤ q → A q
theorem pgS.ix {G : GG} {A : Nat → Prop} {H0 H : Heap} {L : List Nat} {f : Nat → va_E} {locs : List Loc} (_h : pgS G A H0 L f H locs) {a : Nat} (ha : a ∈ L) : ∃ k : Nat, (va_pl L f)[k]? = some (a, f a) := List.getElem?_of_mem (List.mem_map.mpr ⟨a, ha, rfl⟩)
theorem pg_set {A : Nat → Prop} {L : List Nat} {f : Nat → va_E} {a k : Nat} {e : va_E} (hD : va_D A (va_pl L f)) (h : a ∈ L) (hk : (va_pl L f)[k]? = some (a, f a)) : (va_pl L f).set k (a, e) = va_pl L (va_up f a e) := va_pl_set (X := []) hD h hk
theorem pgS.fresh {G : GG} {A : Nat → Prop} {H0 H : Heap} {L : List Nat} {f : Nat → va_E} {locs : List Loc} (h : pgS G A H0 L f H locs) {a : Nat} (ha : a ∈ L) : a < H.size := va_pl_lt (X := []) h.1 ha
/-- the locals, by their places -/
def loL : Nat → List (Option Value) → List (Nat × Value)
  | _, [] => []
  | i, none :: t => loL (i + 1) t
  | i, some v :: t => (i, v) :: loL (i + 1) t
def lo (ls : Array Slot) (vs : List (Option Value)) : Prop := lv_has ls vs.length (loL 0 vs)
theorem loL_mem {vs : List (Option Value)} {i j : Nat} {v : Value} (h : vs[j]? = some (some v)) : (i + j, v) ∈ loL i vs := by
  induction vs generalizing i j with
  | nil => simp at h
  | cons x t ih =>
    cases j with
    | zero =>
      simp at h
      subst h
      simp [loL]
    | succ j =>
      have h' : t[j]? = some (some v) := by simpa using h
      have := ih (i := i + 1) h'
      have e : i + (j + 1) = i + 1 + j := by omega
      rw [e]
      cases x with
      | none => exact this
      | some w => exact List.mem_cons_of_mem _ this
theorem lo_at {ls : Array Slot} {vs : List (Option Value)} (h : lo ls vs) (i : Nat) {v : Value} (hi : vs[i]? = some (some v)) : ls[i]? = some (.val v) := by
  have := loL_mem (i := 0) hi
  rw [Nat.zero_add] at this
  exact h.2.2 _ this
theorem loL_inv {vs : List (Option Value)} {i : Nat} {q : Nat × Value} (h : q ∈ loL i vs) : i ≤ q.1 ∧ vs[q.1 - i]? = some (some q.2) := by
  induction vs generalizing i q with
  | nil => simp [loL] at h
  | cons x t ih =>
    have step : ∀ q', q' ∈ loL (i + 1) t → i ≤ q'.1 ∧ (x :: t)[q'.1 - i]? = some (some q'.2) := by
      intro q' hq'
      obtain ⟨h1, h2⟩ := ih hq'
      refine ⟨by omega, ?_⟩
      have e : q'.1 - i = (q'.1 - (i + 1)) + 1 := by omega
      rw [e]
      simpa using h2
    cases x with
    | none => exact step q h
    | some w =>
      rcases List.mem_cons.mp h with rfl | h
      · simp
      · exact step q h
theorem lo_set1 {ls : Array Slot} {vs : List (Option Value)} {i : Nat} {v : Value} {l' : Array Slot} (hi : i < vs.length) (hno : ∀ (j : Nat) (w : Value), vs[j]? = some (some w) → w.category = 1)
    (h : lv_has l' vs.length ((i, v) :: (loL 0 vs).filter (fun q => !(q.1 == i) && !(q.1 + 1 == i && q.2.category == 2)))) : lo l' (vs.set i (some v)) := by
  refine ⟨by rw [List.length_set]; exact h.1, h.2.1, ?_⟩
  intro q hq
  obtain ⟨-, h2⟩ := loL_inv hq
  rw [Nat.sub_zero] at h2
  apply h.2.2
  by_cases e : q.1 = i
  · rw [e, List.getElem?_set_self hi] at h2
    have : v = q.2 := by simpa using h2
    exact List.mem_cons.mpr (Or.inl (by rw [this, ← e]))
  · rw [List.getElem?_set_ne (fun z => e z.symm)] at h2
    refine List.mem_cons_of_mem _ (List.mem_filter.mpr ⟨?_, ?_⟩)
    · have := loL_mem (i := 0) h2
      rwa [Nat.zero_add] at this
    · have hc := hno q.1 q.2 h2
      simp [e, hc]
theorem pg_nodup {A : Nat → Prop} {L : List Nat} {f : Nat → va_E} (h : va_D A (va_pl L f)) : L.Nodup := by
  unfold List.Nodup
  rw [List.pairwise_iff_getElem]
  intro i j hi hj hij e
  have h1 : (va_pl L f)[i]? = some (L[i], f L[i]) := by simp [va_pl, hi]
  have h2 : (va_pl L f)[j]? = some (L[j], f L[j]) := by simp [va_pl, hj]
  have := h.1 i j _ _ h1 h2 e
  omega
theorem pg_apart {A : Nat → Prop} {L N : List Nat} {f : Nat → va_E} (h : va_D A (va_pl (L ++ N) f)) {q : Nat} (hq : q ∈ N) : q ∉ L := by
  have := pg_nodup h
  rw [List.nodup_append] at this
  exact fun hl => this.2.2 q hl q hq rfl
/-- all the locals there are hold one word each -/
def lo1 : List (Option Value) → Bool
  | [] => true
  | none :: t => lo1 t
  | some v :: t => (v.category == 1) && lo1 t
theorem lo1_at {vs : List (Option Value)} (h : lo1 vs = true) : ∀ (j : Nat) (w : Value), vs[j]? = some (some w) → w.category = 1 := by
  induction vs with
  | nil => intro j w hj; simp at hj
  | cons x t ih =>
    intro j w hj
    cases x with
    | none =>
      cases j with
      | zero => simp at hj
      | succ j => exact ih h j w (by simpa using hj)
    | some v =>
      simp only [lo1, Bool.and_eq_true, beq_iff_eq] at h
      cases j with
      | zero =>
        have : v = w := by simpa using hj
        rw [← this]; exact h.1
      | succ j => exact ih h.2 j w (by simpa using hj)
section PGR
variable {p : Program} {l : Launch} {e : Env} {R : Room} {s : State} {m : MethodId} {args : Array Value} {below : List Frame} {meth : Method} {c : Code} {H : Heap} {locs : List Loc} {cells slots : Nat} {Q : State → Prop}
variable {cc : ByteArray} {pc nL : Nat} {ls : Array Slot} {rest : List Value} {G : GG} {A : Nat → Prop} {a : Nat} {H0 : Heap} {L P : List Nat} {f : Nat → va_E} {own : String} {vs : List (Option Value)}
theorem lo_istore_n (C : CallFix p m c cc nL s args bg own) (hl : lo ls vs) {k : Fin 4} {x : Int32} (hdg : decode cc pc = .ok (.istore_n k, 1)) (hn : (k : Nat) < vs.length) (h1 : lo1 vs = true) (kk : ∀ ls' : Array Slot, lo ls' (vs.set k (some (.int x))) → W p l e R s m args below meth c H locs cells slots Q (F0 m (pc + 1) ls' rest)) : W p l e R s m args below meth c H locs cells slots Q (F0 m pc ls (.int x :: rest)) :=
  lv_istore_n C.1 C.2.1 hdg rfl hl hn rfl (fun ls' h => kk ls' (lo_set1 (ls := ls) hn (lo1_at h1) h))
theorem lo_istore (C : CallFix p m c cc nL s args bg own) (hl : lo ls vs) {k : Nat} {x : Int32} (hdg : decode cc pc = .ok (.istore k, 2)) (hn : k < vs.length) (h1 : lo1 vs = true) (kk : ∀ ls' : Array Slot, lo ls' (vs.set k (some (.int x))) → W p l e R s m args below meth c H locs cells slots Q (F0 m (pc + 2) ls' rest)) : W p l e R s m args below meth c H locs cells slots Q (F0 m pc ls (.int x :: rest)) :=
  lv_istore C.1 C.2.1 hdg hl hn rfl (fun ls' h => kk ls' (lo_set1 (ls := ls) hn (lo1_at h1) h))
theorem lo_astore_n (C : CallFix p m c cc nL s args bg own) (hl : lo ls vs) {k : Fin 4} {x : Nat} (hdg : decode cc pc = .ok (.astore_n k, 1)) (hn : (k : Nat) < vs.length) (h1 : lo1 vs = true) (kk : ∀ ls' : Array Slot, lo ls' (vs.set k (some (.ref x))) → W p l e R s m args below meth c H locs cells slots Q (F0 m (pc + 1) ls' rest)) : W p l e R s m args below meth c H locs cells slots Q (F0 m pc ls (.ref x :: rest)) :=
  lv_astore_n C.1 C.2.1 hdg rfl hl hn rfl (fun ls' h => kk ls' (lo_set1 (ls := ls) hn (lo1_at h1) h))
theorem lo_astore (C : CallFix p m c cc nL s args bg own) (hl : lo ls vs) {k : Nat} {x : Nat} (hdg : decode cc pc = .ok (.astore k, 2)) (hn : k < vs.length) (h1 : lo1 vs = true) (kk : ∀ ls' : Array Slot, lo ls' (vs.set k (some (.ref x))) → W p l e R s m args below meth c H locs cells slots Q (F0 m (pc + 2) ls' rest)) : W p l e R s m args below meth c H locs cells slots Q (F0 m pc ls (.ref x :: rest)) :=
  lv_astore C.1 C.2.1 hdg hl hn rfl (fun ls' h => kk ls' (lo_set1 (ls := ls) hn (lo1_at h1) h))
theorem lo_astore_nN (C : CallFix p m c cc nL s args bg own) (hl : lo ls vs) {k : Fin 4} (hdg : decode cc pc = .ok (.astore_n k, 1)) (hn : (k : Nat) < vs.length) (h1 : lo1 vs = true) (kk : ∀ ls' : Array Slot, lo ls' (vs.set k (some .null)) → W p l e R s m args below meth c H locs cells slots Q (F0 m (pc + 1) ls' rest)) : W p l e R s m args below meth c H locs cells slots Q (F0 m pc ls (.null :: rest)) :=
  lv_astore_nN C.1 C.2.1 hdg rfl hl hn rfl (fun ls' h => kk ls' (lo_set1 (ls := ls) hn (lo1_at h1) h))
theorem lo_iinc (C : CallFix p m c cc nL s args bg own) (hl : lo ls vs) {i : Nat} {n : Int} {x : Int32} (hdg : decode cc pc = .ok (.iinc i n, 3)) (hi : vs[i]? = some (some (.int x))) (h1 : lo1 vs = true) (kk : ∀ ls' : Array Slot, lo ls' (vs.set i (some (.int (x + Int32.ofInt n)))) → W p l e R s m args below meth c H locs cells slots Q (F0 m (pc + 3) ls' rest)) : W p l e R s m args below meth c H locs cells slots Q (F0 m pc ls rest) := by
  have hm := loL_mem (i := 0) hi
  rw [Nat.zero_add] at hm
  obtain ⟨k, hk⟩ := List.getElem?_of_mem hm
  have hn : i < vs.length := (List.getElem?_eq_some_iff.mp hi).1
  exact lv_iinc C.1 C.2.1 hdg hl hk rfl hn rfl (fun ls' h => kk ls' (lo_set1 (ls := ls) hn (lo1_at h1) h))
theorem pg_get (C : CallFix p m c cc nL s args bg own) (hE : ev G A s H0) (hM : pgS G A H0 P f H locs) (ha : a ∈ P) {ci : Nat} {fs : List Value} (hf : f a = .inr (ci, fs)) {C0 ref : String} {T : u_T} {N : Nat} (hc : cl[ci]? = some (C0, T, N)) (hin : ∀ w ∈ u_ws C0 T N, w ∈ bg) (k : Nat) (hk : k < N) {index : Nat} (hw : Cond.fieldLink own index ref (T k).2.1 (T k).2.2.1 ∈ bg) (hr : (T k).1 = ref) {v : Value} (hv : fs[k]? = some v) (hdg : decode cc pc = .ok (.getfield index, 3))
    (kk : W p l e R s m args below meth c H locs cells slots Q (F0 m (pc + 3) ls (v :: rest))) : W p l e R s m args below meth c H locs cells slots Q (F0 m pc ls (.ref a :: rest)) := by
  obtain ⟨q0, he⟩ := hM.ix ha
  rw [hf] at he
  exact va_get C.1 C.2.1 C.2.2.2.2 hin C.2.2.2.1 hE.1.1 hM.1 q0 he hc k hk (C.2.2.2.2 _ hw) (fun x h9 => by rw [← hr]; exact h9) hv hdg kk
theorem pg_getN (C : CallFix p m c cc nL s args bg own) (hE : ev G A s H0) (hM : pgS G A H0 P f H locs) (ha : a ∈ P) {ci : Nat} {fs : List Value} (hf : f a = .inr (ci, fs)) {C0 ref host : String} {T : u_T} {N : Nat} (hc : cl[ci]? = some (C0, T, N)) (hin : ∀ w ∈ u_ws C0 T N, w ∈ bg) (k : Nat) (hk : k < N) {index : Nat} (hw : Cond.fieldLinkNest own index ref (T k).2.1 (T k).2.2.1 host ∈ nwl) (hr : (T k).1 = ref) {v : Value} (hv : fs[k]? = some v) (hdg : decode cc pc = .ok (.getfield index, 3))
    (kk : W p l e R s m args below meth c H locs cells slots Q (F0 m (pc + 3) ls (v :: rest))) : W p l e R s m args below meth c H locs cells slots Q (F0 m pc ls (.ref a :: rest)) := by
  obtain ⟨q0, he⟩ := hM.ix ha
  rw [hf] at he
  exact va_getN C.1 C.2.1 C.2.2.2.2 hin C.2.2.2.1 hE.1.1 hM.1 q0 he hc k hk (va_Nw.use (nw_ont _ hw) (hE.1.2.1 _ hw)) (fun x h9 => by rw [← hr]; exact h9) hv hdg kk
theorem pg_put (C : CallFix p m c cc nL s args bg own) (hE : ev G A s H0) (hM : pgS G A H0 P f H locs) (ha : a ∈ P) {ci : Nat} {fs : List Value} (hf : f a = .inr (ci, fs)) {C0 ref : String} {T : u_T} {N : Nat} (hc : cl[ci]? = some (C0, T, N)) (hin : ∀ w ∈ u_ws C0 T N, w ∈ bg) {ty0 : Nat → FieldType} (hty : ∀ k, k < N → parseFieldDescriptor (T k).2.2.1 = some (ty0 k)) (hnm : ∀ a, a < N → ∀ b, b < N → a ≠ b → (T a).2.1 ≠ (T b).2.1) (k : Nat) (hk : k < N) {index : Nat} (hw : Cond.fieldLink own index ref (T k).2.1 (T k).2.2.1 ∈ bg) (hr : (T k).1 = ref) (hfin : (T k).2.2.2 = false) {v : Value} (hn : narrow (ty0 k) v = v) (hfit : fits (ty0 k) v = true) (hlen : k < fs.length) (hdg : decode cc pc = .ok (.putfield index, 3))
    (kk : ∀ (H1 : Heap) (locs1 : List Loc), pgS G A H0 P (va_up f a (.inr (ci, fs.set k v))) H1 locs1 → W p l e R s m args below meth c H1 locs1 cells slots Q (F0 m (pc + 3) ls rest)) : W p l e R s m args below meth c H locs cells slots Q (F0 m pc ls (v :: .ref a :: rest)) := by
  obtain ⟨q0, he⟩ := hM.ix ha
  have hs := fun e => pg_set (e := e) hM.2.1 ha he
  rw [hf] at he
  exact va_put C.1 C.2.1 C.2.2.2.2 hin ty0 hty hnm C.2.2.2.1 hE.1.1 hM.1 hM.2.1 hM.2.2.1 q0 he hc k hk (C.2.2.2.2 _ hw) (fun x h9 => by rw [← hr]; exact h9) hfin (hty k hk) hn hfit hlen hdg (fun H1 locs1 a1 a2 a3 => kk H1 locs1 ⟨by rw [← hs]; exact a1, by rw [← hs]; exact a2, a3, hM.2.2.2⟩)
theorem pg_putF (C : CallFix p m c cc nL s args bg own) (hE : ev G A s H0) (hM : pgS G A H0 P f H locs) (ha : a ∈ P) {ci : Nat} {fs : List Value} (hf : f a = .inr (ci, fs)) {C0 ref : String} {T : u_T} {N : Nat} (hc : cl[ci]? = some (C0, T, N)) (hin : ∀ w ∈ u_ws C0 T N, w ∈ bg) {ty0 : Nat → FieldType} (hty : ∀ k, k < N → parseFieldDescriptor (T k).2.2.1 = some (ty0 k)) (hnm : ∀ a, a < N → ∀ b, b < N → a ≠ b → (T a).2.1 ≠ (T b).2.1) (k : Nat) (hk : k < N) {index : Nat} (hw : Cond.fieldLink own index ref (T k).2.1 (T k).2.2.1 ∈ bg) (hr : (T k).1 = ref) (hfin : (T k).2.2.2 = true) (hin2 : meth.name = "<init>") (hdecl : (T k).1 = own) {v : Value} (hn : narrow (ty0 k) v = v) (hfit : fits (ty0 k) v = true) (hlen : k < fs.length) (hdg : decode cc pc = .ok (.putfield index, 3))
    (kk : ∀ (H1 : Heap) (locs1 : List Loc), pgS G A H0 P (va_up f a (.inr (ci, fs.set k v))) H1 locs1 → W p l e R s m args below meth c H1 locs1 cells slots Q (F0 m (pc + 3) ls rest)) : W p l e R s m args below meth c H locs cells slots Q (F0 m pc ls (v :: .ref a :: rest)) := by
  obtain ⟨q0, he⟩ := hM.ix ha
  have hs := fun e => pg_set (e := e) hM.2.1 ha he
  rw [hf] at he
  exact va_putF C.1 C.2.1 C.2.2.2.2 hin ty0 hty hnm C.2.2.2.1 hE.1.1 hM.1 hM.2.1 hM.2.2.1 q0 he hc k hk (C.2.2.2.2 _ hw) (fun x h9 => by rw [← hr]; exact h9) hfin hin2 hdecl (hty k hk) hn hfit hlen hdg (fun H1 locs1 a1 a2 a3 => kk H1 locs1 ⟨by rw [← hs]; exact a1, by rw [← hs]; exact a2, a3, hM.2.2.2⟩)
theorem pg_putN (C : CallFix p m c cc nL s args bg own) (hE : ev G A s H0) (hM : pgS G A H0 P f H locs) (ha : a ∈ P) {ci : Nat} {fs : List Value} (hf : f a = .inr (ci, fs)) {C0 ref host : String} {T : u_T} {N : Nat} (hc : cl[ci]? = some (C0, T, N)) (hin : ∀ w ∈ u_ws C0 T N, w ∈ bg) {ty0 : Nat → FieldType} (hty : ∀ k, k < N → parseFieldDescriptor (T k).2.2.1 = some (ty0 k)) (hnm : ∀ a, a < N → ∀ b, b < N → a ≠ b → (T a).2.1 ≠ (T b).2.1) (k : Nat) (hk : k < N) {index : Nat} (hw : Cond.fieldLinkNest own index ref (T k).2.1 (T k).2.2.1 host ∈ nwl) (hr : (T k).1 = ref) (hfin : (T k).2.2.2 = false) {v : Value} (hn : narrow (ty0 k) v = v) (hfit : fits (ty0 k) v = true) (hlen : k < fs.length) (hdg : decode cc pc = .ok (.putfield index, 3))
    (kk : ∀ (H1 : Heap) (locs1 : List Loc), pgS G A H0 P (va_up f a (.inr (ci, fs.set k v))) H1 locs1 → W p l e R s m args below meth c H1 locs1 cells slots Q (F0 m (pc + 3) ls rest)) : W p l e R s m args below meth c H locs cells slots Q (F0 m pc ls (v :: .ref a :: rest)) := by
  obtain ⟨q0, he⟩ := hM.ix ha
  have hs := fun e => pg_set (e := e) hM.2.1 ha he
  rw [hf] at he
  exact va_putN C.1 C.2.1 C.2.2.2.2 hin ty0 hty hnm C.2.2.2.1 hE.1.1 hM.1 hM.2.1 hM.2.2.1 q0 he hc k hk (va_Nw.use (nw_ont _ hw) (hE.1.2.1 _ hw)) (fun x h9 => by rw [← hr]; exact h9) hfin (hty k hk) hn hfit hlen hdg (fun H1 locs1 a1 a2 a3 => kk H1 locs1 ⟨by rw [← hs]; exact a1, by rw [← hs]; exact a2, a3, hM.2.2.2⟩)
theorem pg_iald (C : CallFix p m c cc nL s args bg own) (hE : ev G A s H0) (hM : pgS G A H0 P f H locs) (ha : a ∈ P) {n : Nat} {g : Nat → Int32} (hf : f a = .inl (G.2.1 0, n, .inl g)) {i : Int32} (hin : vp_in i n) (hdg : decode cc pc = .ok (.iaload, 1))
    (kk : W p l e R s m args below meth c H locs cells slots Q (F0 m (pc + 1) ls (.int (g i.toNatClampNeg) :: rest))) : W p l e R s m args below meth c H locs cells slots Q (F0 m pc ls (.int i :: .ref a :: rest)) := by
  obtain ⟨q0, he⟩ := hM.ix ha
  rw [hf] at he
  exact va_iald C.1 C.2.1 hE.1.1 hM.1 q0 0 he rfl hin hdg kk
theorem pg_lald (C : CallFix p m c cc nL s args bg own) (hE : ev G A s H0) (hM : pgS G A H0 P f H locs) (ha : a ∈ P) {n : Nat} {g : Nat → Int64} (hf : f a = .inl (G.2.1 1, n, .inr (.inl g))) {i : Int32} (hin : vp_in i n) (hdg : decode cc pc = .ok (.laload, 1))
    (kk : W p l e R s m args below meth c H locs cells slots Q (F0 m (pc + 1) ls (.long (g i.toNatClampNeg) :: rest))) : W p l e R s m args below meth c H locs cells slots Q (F0 m pc ls (.int i :: .ref a :: rest)) := by
  obtain ⟨q0, he⟩ := hM.ix ha
  rw [hf] at he
  exact va_lald C.1 C.2.1 hE.1.1 hM.1 q0 1 he rfl hin hdg kk
theorem pg_zald (C : CallFix p m c cc nL s args bg own) (hE : ev G A s H0) (hM : pgS G A H0 P f H locs) (ha : a ∈ P) {n : Nat} {g : Nat → Int32} (hf : f a = .inl (G.2.1 2, n, .inl g)) {i : Int32} (hin : vp_in i n) (hdg : decode cc pc = .ok (.baload, 1))
    (kk : W p l e R s m args below meth c H locs cells slots Q (F0 m (pc + 1) ls (.int (g i.toNatClampNeg) :: rest))) : W p l e R s m args below meth c H locs cells slots Q (F0 m pc ls (.int i :: .ref a :: rest)) := by
  obtain ⟨q0, he⟩ := hM.ix ha
  rw [hf] at he
  exact va_zald C.1 C.2.1 hE.1.1 hM.1 q0 2 he rfl hin hdg kk
theorem pg_iast (C : CallFix p m c cc nL s args bg own) (hE : ev G A s H0) (hM : pgS G A H0 P f H locs) (ha : a ∈ P) {n : Nat} {g : Nat → Int32} (hf : f a = .inl (G.2.1 0, n, .inl g)) {i x : Int32} (hin : vp_in i n) (hdg : decode cc pc = .ok (.iastore, 1))
    (kk : ∀ (H1 : Heap) (locs1 : List Loc), pgS G A H0 P (va_up f a (.inl (G.2.1 0, n, .inl (upd g i.toNatClampNeg x)))) H1 locs1 → W p l e R s m args below meth c H1 locs1 cells slots Q (F0 m (pc + 1) ls rest)) : W p l e R s m args below meth c H locs cells slots Q (F0 m pc ls (.int x :: .int i :: .ref a :: rest)) := by
  obtain ⟨q0, he⟩ := hM.ix ha
  have hs := fun e => pg_set (e := e) hM.2.1 ha he
  rw [hf] at he
  exact va_iast C.1 C.2.1 hE.1.1 hM.1 hM.2.1 hM.2.2.1 q0 0 he rfl hin hdg (fun H1 locs1 a1 a2 a3 => kk H1 locs1 ⟨by rw [← hs]; exact a1, by rw [← hs]; exact a2, a3, hM.2.2.2⟩)
theorem pg_last (C : CallFix p m c cc nL s args bg own) (hE : ev G A s H0) (hM : pgS G A H0 P f H locs) (ha : a ∈ P) {n : Nat} {g : Nat → Int64} (hf : f a = .inl (G.2.1 1, n, .inr (.inl g))) {i : Int32} {x : Int64} (hin : vp_in i n) (hdg : decode cc pc = .ok (.lastore, 1))
    (kk : ∀ (H1 : Heap) (locs1 : List Loc), pgS G A H0 P (va_up f a (.inl (G.2.1 1, n, .inr (.inl (vp_updL g i.toNatClampNeg x))))) H1 locs1 → W p l e R s m args below meth c H1 locs1 cells slots Q (F0 m (pc + 1) ls rest)) : W p l e R s m args below meth c H locs cells slots Q (F0 m pc ls (.long x :: .int i :: .ref a :: rest)) := by
  obtain ⟨q0, he⟩ := hM.ix ha
  have hs := fun e => pg_set (e := e) hM.2.1 ha he
  rw [hf] at he
  exact va_last C.1 C.2.1 hE.1.1 hM.1 hM.2.1 hM.2.2.1 q0 1 he rfl hin hdg (fun H1 locs1 a1 a2 a3 => kk H1 locs1 ⟨by rw [← hs]; exact a1, by rw [← hs]; exact a2, a3, hM.2.2.2⟩)
theorem pg_zast (C : CallFix p m c cc nL s args bg own) (hE : ev G A s H0) (hM : pgS G A H0 P f H locs) (ha : a ∈ P) {n : Nat} {g : Nat → Int32} (hf : f a = .inl (G.2.1 2, n, .inl g)) {i x : Int32} (hin : vp_in i n) (hdg : decode cc pc = .ok (.bastore, 1))
    (kk : ∀ (H1 : Heap) (locs1 : List Loc), pgS G A H0 P (va_up f a (.inl (G.2.1 2, n, .inl (upd g i.toNatClampNeg (vp_nar .boolean x))))) H1 locs1 → W p l e R s m args below meth c H1 locs1 cells slots Q (F0 m (pc + 1) ls rest)) : W p l e R s m args below meth c H locs cells slots Q (F0 m pc ls (.int x :: .int i :: .ref a :: rest)) := by
  obtain ⟨q0, he⟩ := hM.ix ha
  have hs := fun e => pg_set (e := e) hM.2.1 ha he
  rw [hf] at he
  exact va_zast C.1 C.2.1 hE.1.1 hM.1 hM.2.1 hM.2.2.1 q0 2 he rfl hin hdg (fun H1 locs1 a1 a2 a3 => kk H1 locs1 ⟨by rw [← hs]; exact a1, by rw [← hs]; exact a2, a3, hM.2.2.2⟩)
theorem pg_alen (C : CallFix p m c cc nL s args bg own) (hE : ev G A s H0) (hM : pgS G A H0 P f H locs) (ha : a ∈ P) {t0 : Nat} (ht0 : t0 < 6) {x : vp_A} (hf : f a = .inl (G.2.1 t0, x)) (hdg : decode cc pc = .ok (.arraylength, 1))
    (kk : W p l e R s m args below meth c H locs cells slots Q (F0 m (pc + 1) ls (.int (nI x.1) :: rest))) : W p l e R s m args below meth c H locs cells slots Q (F0 m pc ls (.ref a :: rest)) := by
  obtain ⟨q0, he⟩ := hM.ix ha
  rw [hf] at he
  have : ∃ ty, (tys G)[t0]? = some (G.2.1 t0, ty) := by
    rcases (show t0 = 0 ∨ t0 = 1 ∨ t0 = 2 ∨ t0 = 3 ∨ t0 = 4 ∨ t0 = 5 by omega) with rfl | rfl | rfl | rfl | rfl | rfl <;> exact ⟨_, rfl⟩
  obtain ⟨ty, hty⟩ := this
  exact va_alen C.1 C.2.1 hE.1.1 hM.1 q0 t0 he hty rfl hdg kk
theorem pg_aald (C : CallFix p m c cc nL s args bg own) (hE : ev G A s H0) (hM : pgS G A H0 P f H locs) (ha : a ∈ P) {t0 n : Nat} {g : Nat → Option Nat} {E : String} (hf : f a = .inl (G.2.1 t0, n, .inr (.inr (.inr (.inr g))))) (ht : (tys G)[t0]? = some (G.2.1 t0, .object E)) {i : Int32} (hin : vp_in i n) (hdg : decode cc pc = .ok (.aaload, 1))
    (kk : W p l e R s m args below meth c H locs cells slots Q (F0 m (pc + 1) ls (va_rf (g i.toNatClampNeg) :: rest))) : W p l e R s m args below meth c H locs cells slots Q (F0 m pc ls (.int i :: .ref a :: rest)) := by
  obtain ⟨q0, he⟩ := hM.ix ha
  rw [hf] at he
  exact va_aldq C.1 C.2.1 hE.1.1 hM.1 q0 t0 he ht hin hdg kk
theorem pg_aast (C : CallFix p m c cc nL s args bg own) (hE : ev G A s H0) (hM : pgS G A H0 P f H locs) (ha : a ∈ P) {t0 n : Nat} {g : Nat → Option Nat} {E : String} (hf : f a = .inl (G.2.1 t0, n, .inr (.inr (.inr (.inr g))))) (ht : (tys G)[t0]? = some (G.2.1 t0, .object E)) {v : Nat} (hv : v ∈ P) {ci : Nat} {fs : List Value} (hfv : f v = .inr (ci, fs)) {r : vw_C} (hc : cl[ci]? = some r) (hca : r.1 = E ∨ Cond.castable r.1 E ∈ nwl) {i : Int32} (hin : vp_in i n) (hdg : decode cc pc = .ok (.aastore, 1))
    (kk : ∀ (H1 : Heap) (locs1 : List Loc), pgS G A H0 P (va_up f a (.inl (G.2.1 t0, n, .inr (.inr (.inr (.inr (va_up g i.toNatClampNeg (some v)))))))) H1 locs1 → W p l e R s m args below meth c H1 locs1 cells slots Q (F0 m (pc + 1) ls rest)) : W p l e R s m args below meth c H locs cells slots Q (F0 m pc ls (.ref v :: .int i :: .ref a :: rest)) := by
  obtain ⟨q0, he⟩ := hM.ix ha
  obtain ⟨q1, he1⟩ := hM.ix hv
  have hs := fun e => pg_set (e := e) hM.2.1 ha he
  rw [hf] at he
  rw [hfv] at he1
  rcases hca with rfl | hca
  · exact va_astq C.1 C.2.1 hE.1.1 hM.1 hM.2.1 hM.2.2.1 q0 t0 q1 ci he ht he1 hc hin hdg (fun H1 locs1 a1 a2 a3 => kk H1 locs1 ⟨by rw [← hs]; exact a1, by rw [← hs]; exact a2, a3, hM.2.2.2⟩)
  · exact va_astqO C.1 C.2.1 hE.1.1 hM.1 hM.2.1 hM.2.2.1 q0 t0 q1 ci he ht (hE.1.2.1 _ hca) he1 hc hin hdg (fun H1 locs1 a1 a2 a3 => kk H1 locs1 ⟨by rw [← hs]; exact a1, by rw [← hs]; exact a2, a3, hM.2.2.2⟩)
theorem pg_new (C : CallFix p m c cc nL s args bg own) (hE : ev G A s H0) (hM : pgS G A H0 P f H locs) {ci N index : Nat} {C0 : String} {T : u_T} (hc : cl[ci]? = some (C0, T, N)) (hin : ∀ w ∈ u_ws C0 T N, w ∈ bg) {ty0 : Nat → FieldType} (hty : ∀ k, k < N → parseFieldDescriptor (T k).2.2.1 = some (ty0 k)) (w1 : Cond.classLink own index C0 ∈ bg) (w2 : Cond.instantiable C0 N ∈ bg) (w3 : Cond.initialized C0 ∈ bg) {fs : List Value} (hfs : ∀ j, j < N → defaultValue (ty0 j) = vp_V fs j) (hcells : cells + 1 ≤ R.cells) (hslots : slots + N ≤ R.slots) (hdg : decode cc pc = .ok (.new index, 3))
    (kk : ∀ (q : Nat) (H1 : Heap), q ∉ P → pgS G A H0 (P ++ [q]) (va_up f q (.inr (ci, fs))) H1 locs → W p l e R s m args below meth c H1 locs (cells + 1) (slots + N) Q (F0 m (pc + 3) ls (.ref q :: rest))) : W p l e R s m args below meth c H locs cells slots Q (F0 m pc ls rest) := by
  refine va_new C.1 C.2.1 C.2.2.2.2 hin ty0 hty C.2.2.2.1 (C.2.2.2.2 _ w1) (C.2.2.2.2 _ w2) (C.2.2.2.2 _ w3) hE.1.1 hM.1 hM.2.1 hM.2.2.1 hM.2.2.2 hc hfs hcells hslots hdg (fun q H1 a1 a2 a3 => ?_)
  have hq : q ∉ P := by
    intro h
    obtain ⟨k, hk⟩ := hM.ix h
    have hlt : k < (va_pl P f).length := (List.getElem?_eq_some_iff.mp hk).1
    have h1 : (va_pl P f ++ [(q, (.inr (ci, fs) : va_E))])[k]? = some (q, f q) := by rw [List.getElem?_append_left hlt]; exact hk
    have h2 : (va_pl P f ++ [(q, (.inr (ci, fs) : va_E))])[(va_pl P f).length]? = some (q, .inr (ci, fs)) := by simp
    have := a2.1 k _ _ _ h1 h2 rfl
    omega
  exact kk q H1 hq ⟨by rw [← va_pl_push hq]; exact a1, by rw [← va_pl_push hq]; exact a2, a3, hM.2.2.2⟩
end PGR
