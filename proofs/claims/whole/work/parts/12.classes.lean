def T_FF : u_T := fun k => match k with
  | 0 => ("FleetFloor", "map", "LFleetFloor$FloorMap;", true)
  | 1 => ("FleetFloor", "air", "LFleetFloor$Air;", true)
  | 2 => ("FleetFloor", "tasks", "Ljava/util/ArrayList;", true)
  | 3 => ("FleetFloor", "vehicles", "[LFleetFloor$Vehicle;", false)
  | 4 => ("FleetFloor", "stations", "[I", false)
  | 5 => ("FleetFloor", "planner", "LFleetFloor$Planner;", false)
  | 6 => ("FleetFloor", "planned", "I", false)
  | 7 => ("FleetFloor", "tickToCome", "I", false)
  | _ => ("FleetFloor", "planClock", "I", false)
def ty_FF : Nat → FieldType := fun k => match k with
  | 0 => .object "FleetFloor$FloorMap"
  | 1 => .object "FleetFloor$Air"
  | 2 => .object "java/util/ArrayList"
  | 3 => .array (.object "FleetFloor$Vehicle")
  | 4 => .array .int
  | 5 => .object "FleetFloor$Planner"
  | 6 => .int
  | 7 => .int
  | _ => .int
theorem n_FF : ∀ a, a < 9 → ∀ b, b < 9 → a ≠ b → (T_FF a).2.1 ≠ (T_FF b).2.1 := by decide +kernel
theorem ok_FF : ∀ k, k < 9 → parseFieldDescriptor (T_FF k).2.2.1 = some (ty_FF k) := by decide +kernel
theorem in_FF : ∀ w ∈ u_ws "FleetFloor" T_FF 9, w ∈ bg := by
  show ∀ w ∈ [u_lay "FleetFloor" T_FF 0, u_lay "FleetFloor" T_FF 1, u_lay "FleetFloor" T_FF 2, u_lay "FleetFloor" T_FF 3, u_lay "FleetFloor" T_FF 4, u_lay "FleetFloor" T_FF 5, u_lay "FleetFloor" T_FF 6, u_lay "FleetFloor" T_FF 7, u_lay "FleetFloor" T_FF 8], w ∈ bg
  exact List.forall_mem_cons.mpr ⟨tw_94, List.forall_mem_cons.mpr ⟨tw_96, List.forall_mem_cons.mpr ⟨tw_98, List.forall_mem_cons.mpr ⟨tw_100, List.forall_mem_cons.mpr ⟨tw_102, List.forall_mem_cons.mpr ⟨tw_104, List.forall_mem_cons.mpr ⟨tw_106, List.forall_mem_cons.mpr ⟨tw_108, List.forall_mem_cons.mpr ⟨tw_110, fun _ h => absurd h List.not_mem_nil⟩⟩⟩⟩⟩⟩⟩⟩⟩
def T_Map : u_T := fun k => match k with
  | _ => ("FleetFloor$FloorMap", "kinds", "[I", true)
def ty_Map : Nat → FieldType := fun k => match k with
  | _ => .array .int
theorem n_Map : ∀ a, a < 1 → ∀ b, b < 1 → a ≠ b → (T_Map a).2.1 ≠ (T_Map b).2.1 := by decide +kernel
theorem ok_Map : ∀ k, k < 1 → parseFieldDescriptor (T_Map k).2.2.1 = some (ty_Map k) := by decide +kernel
theorem in_Map : ∀ w ∈ u_ws "FleetFloor$FloorMap" T_Map 1, w ∈ bg := by
  show ∀ w ∈ [u_lay "FleetFloor$FloorMap" T_Map 0], w ∈ bg
  exact List.forall_mem_cons.mpr ⟨tw_41, fun _ h => absurd h List.not_mem_nil⟩
def T_Air : u_T := fun k => match k with
  | _ => ("FleetFloor$Air", "flying", "Ljava/util/ArrayList;", true)
def ty_Air : Nat → FieldType := fun k => match k with
  | _ => .object "java/util/ArrayList"
theorem n_Air : ∀ a, a < 1 → ∀ b, b < 1 → a ≠ b → (T_Air a).2.1 ≠ (T_Air b).2.1 := by decide +kernel
theorem ok_Air : ∀ k, k < 1 → parseFieldDescriptor (T_Air k).2.2.1 = some (ty_Air k) := by decide +kernel
theorem in_Air : ∀ w ∈ u_ws "FleetFloor$Air" T_Air 1, w ∈ bg := by
  show ∀ w ∈ [u_lay "FleetFloor$Air" T_Air 0], w ∈ bg
  exact List.forall_mem_cons.mpr ⟨tw_78, fun _ h => absurd h List.not_mem_nil⟩
def T_AL : u_T := fun k => match k with
  | 0 => ("java/util/ArrayList", "elementData", "[Ljava/lang/Object;", false)
  | 1 => ("java/util/ArrayList", "size", "I", false)
  | _ => ("java/util/AbstractList", "modCount", "I", false)
def ty_AL : Nat → FieldType := fun k => match k with
  | 0 => .array (.object "java/lang/Object")
  | 1 => .int
  | _ => .int
theorem n_AL : ∀ a, a < 3 → ∀ b, b < 3 → a ≠ b → (T_AL a).2.1 ≠ (T_AL b).2.1 := by decide +kernel
theorem ok_AL : ∀ k, k < 3 → parseFieldDescriptor (T_AL k).2.2.1 = some (ty_AL k) := by decide +kernel
theorem in_AL : ∀ w ∈ u_ws "java/util/ArrayList" T_AL 3, w ∈ bg := by
  show ∀ w ∈ [u_lay "java/util/ArrayList" T_AL 0, u_lay "java/util/ArrayList" T_AL 1, u_lay "java/util/ArrayList" T_AL 2], w ∈ bg
  exact List.forall_mem_cons.mpr ⟨tw_70, List.forall_mem_cons.mpr ⟨tw_72, List.forall_mem_cons.mpr ⟨tw_74, fun _ h => absurd h List.not_mem_nil⟩⟩⟩
def T_Cel : u_T := fun k => match k with
  | 0 => ("FleetFloor$Cells", "upper", "J", false)
  | _ => ("FleetFloor$Cells", "lower", "J", false)
def ty_Cel : Nat → FieldType := fun k => match k with
  | 0 => .long
  | _ => .long
theorem n_Cel : ∀ a, a < 2 → ∀ b, b < 2 → a ≠ b → (T_Cel a).2.1 ≠ (T_Cel b).2.1 := by decide +kernel
theorem ok_Cel : ∀ k, k < 2 → parseFieldDescriptor (T_Cel k).2.2.1 = some (ty_Cel k) := by decide +kernel
theorem in_Cel : ∀ w ∈ u_ws "FleetFloor$Cells" T_Cel 2, w ∈ bg := by
  show ∀ w ∈ [u_lay "FleetFloor$Cells" T_Cel 0, u_lay "FleetFloor$Cells" T_Cel 1], w ∈ bg
  exact List.forall_mem_cons.mpr ⟨tw_404, List.forall_mem_cons.mpr ⟨tw_406, fun _ h => absurd h List.not_mem_nil⟩⟩
def T_Let : u_T := fun k => match k with
  | 0 => ("FleetFloor$Letter", "kind", "I", true)
  | 1 => ("FleetFloor$Letter", "owner", "I", true)
  | _ => ("FleetFloor$Letter", "number", "I", true)
def ty_Let : Nat → FieldType := fun k => match k with
  | 0 => .int
  | 1 => .int
  | _ => .int
theorem n_Let : ∀ a, a < 3 → ∀ b, b < 3 → a ≠ b → (T_Let a).2.1 ≠ (T_Let b).2.1 := by decide +kernel
theorem ok_Let : ∀ k, k < 3 → parseFieldDescriptor (T_Let k).2.2.1 = some (ty_Let k) := by decide +kernel
theorem in_Let : ∀ w ∈ u_ws "FleetFloor$Letter" T_Let 3, w ∈ bg := by
  show ∀ w ∈ [u_lay "FleetFloor$Letter" T_Let 0, u_lay "FleetFloor$Letter" T_Let 1, u_lay "FleetFloor$Letter" T_Let 2], w ∈ bg
  exact List.forall_mem_cons.mpr ⟨tw_645, List.forall_mem_cons.mpr ⟨tw_647, List.forall_mem_cons.mpr ⟨tw_649, fun _ h => absurd h List.not_mem_nil⟩⟩⟩
def T_Mov : u_T := fun k => match k with
  | 0 => ("FleetFloor$Move", "place", "I", true)
  | _ => ("FleetFloor$Move", "time", "I", true)
def ty_Mov : Nat → FieldType := fun k => match k with
  | 0 => .int
  | _ => .int
theorem n_Mov : ∀ a, a < 2 → ∀ b, b < 2 → a ≠ b → (T_Mov a).2.1 ≠ (T_Mov b).2.1 := by decide +kernel
theorem ok_Mov : ∀ k, k < 2 → parseFieldDescriptor (T_Mov k).2.2.1 = some (ty_Mov k) := by decide +kernel
theorem in_Mov : ∀ w ∈ u_ws "FleetFloor$Move" T_Mov 2, w ∈ bg := by
  show ∀ w ∈ [u_lay "FleetFloor$Move" T_Mov 0, u_lay "FleetFloor$Move" T_Mov 1], w ∈ bg
  exact List.forall_mem_cons.mpr ⟨tw_757, List.forall_mem_cons.mpr ⟨tw_759, fun _ h => absurd h List.not_mem_nil⟩⟩
def T_Tsk : u_T := fun k => match k with
  | 0 => ("FleetFloor$Task", "first", "I", true)
  | 1 => ("FleetFloor$Task", "second", "I", true)
  | 2 => ("FleetFloor$Task", "carrier", "I", false)
  | _ => ("FleetFloor$Task", "finishedIn", "I", false)
def ty_Tsk : Nat → FieldType := fun k => match k with
  | 0 => .int
  | 1 => .int
  | 2 => .int
  | _ => .int
theorem n_Tsk : ∀ a, a < 4 → ∀ b, b < 4 → a ≠ b → (T_Tsk a).2.1 ≠ (T_Tsk b).2.1 := by decide +kernel
theorem ok_Tsk : ∀ k, k < 4 → parseFieldDescriptor (T_Tsk k).2.2.1 = some (ty_Tsk k) := by decide +kernel
theorem in_Tsk : ∀ w ∈ u_ws "FleetFloor$Task" T_Tsk 4, w ∈ bg := by
  show ∀ w ∈ [u_lay "FleetFloor$Task" T_Tsk 0, u_lay "FleetFloor$Task" T_Tsk 1, u_lay "FleetFloor$Task" T_Tsk 2, u_lay "FleetFloor$Task" T_Tsk 3], w ∈ bg
  exact List.forall_mem_cons.mpr ⟨tw_595, List.forall_mem_cons.mpr ⟨tw_597, List.forall_mem_cons.mpr ⟨tw_599, List.forall_mem_cons.mpr ⟨tw_601, fun _ h => absurd h List.not_mem_nil⟩⟩⟩⟩
def T_Veh : u_T := fun k => match k with
  | 0 => ("FleetFloor$Vehicle", "number", "I", true)
  | 1 => ("FleetFloor$Vehicle", "parking", "I", true)
  | 2 => ("FleetFloor$Vehicle", "moves", "Ljava/util/ArrayList;", true)
  | 3 => ("FleetFloor$Vehicle", "made", "I", false)
  | 4 => ("FleetFloor$Vehicle", "allowed", "I", false)
  | 5 => ("FleetFloor$Vehicle", "known", "I", false)
  | 6 => ("FleetFloor$Vehicle", "granted", "I", false)
  | 7 => ("FleetFloor$Vehicle", "latestTask", "I", false)
  | 8 => ("FleetFloor$Vehicle", "finishAt", "I", false)
  | _ => ("FleetFloor$Vehicle", "justMoved", "Z", false)
def ty_Veh : Nat → FieldType := fun k => match k with
  | 0 => .int
  | 1 => .int
  | 2 => .object "java/util/ArrayList"
  | 3 => .int
  | 4 => .int
  | 5 => .int
  | 6 => .int
  | 7 => .int
  | 8 => .int
  | _ => .boolean
theorem n_Veh : ∀ a, a < 10 → ∀ b, b < 10 → a ≠ b → (T_Veh a).2.1 ≠ (T_Veh b).2.1 := by decide +kernel
theorem ok_Veh : ∀ k, k < 10 → parseFieldDescriptor (T_Veh k).2.2.1 = some (ty_Veh k) := by decide +kernel
theorem in_Veh : ∀ w ∈ u_ws "FleetFloor$Vehicle" T_Veh 10, w ∈ bg := by
  show ∀ w ∈ [u_lay "FleetFloor$Vehicle" T_Veh 0, u_lay "FleetFloor$Vehicle" T_Veh 1, u_lay "FleetFloor$Vehicle" T_Veh 2, u_lay "FleetFloor$Vehicle" T_Veh 3, u_lay "FleetFloor$Vehicle" T_Veh 4, u_lay "FleetFloor$Vehicle" T_Veh 5, u_lay "FleetFloor$Vehicle" T_Veh 6, u_lay "FleetFloor$Vehicle" T_Veh 7, u_lay "FleetFloor$Vehicle" T_Veh 8, u_lay "FleetFloor$Vehicle" T_Veh 9], w ∈ bg
  exact List.forall_mem_cons.mpr ⟨tw_496, List.forall_mem_cons.mpr ⟨tw_498, List.forall_mem_cons.mpr ⟨tw_500, List.forall_mem_cons.mpr ⟨tw_502, List.forall_mem_cons.mpr ⟨tw_504, List.forall_mem_cons.mpr ⟨tw_506, List.forall_mem_cons.mpr ⟨tw_508, List.forall_mem_cons.mpr ⟨tw_510, List.forall_mem_cons.mpr ⟨tw_512, List.forall_mem_cons.mpr ⟨tw_514, fun _ h => absurd h List.not_mem_nil⟩⟩⟩⟩⟩⟩⟩⟩⟩⟩
def T_Pln : u_T := fun k => match k with
  | 0 => ("FleetFloor$Planner", "common", "LFleetFloor$Cells;", true)
  | 1 => ("FleetFloor$Planner", "vehicles", "[LFleetFloor$Vehicle;", true)
  | 2 => ("FleetFloor$Planner", "canEnter", "[LFleetFloor$Cells;", true)
  | 3 => ("FleetFloor$Planner", "canBe", "[LFleetFloor$Cells;", true)
  | 4 => ("FleetFloor$Planner", "reached", "[LFleetFloor$Cells;", true)
  | 5 => ("FleetFloor$Planner", "aim", "LFleetFloor$Cells;", true)
  | 6 => ("FleetFloor$Planner", "scratch", "LFleetFloor$Cells;", true)
  | 7 => ("FleetFloor$Planner", "way", "[I", true)
  | 8 => ("FleetFloor$Planner", "first", "I", false)
  | 9 => ("FleetFloor$Planner", "second", "I", false)
  | 10 => ("FleetFloor$Planner", "parking", "I", false)
  | 11 => ("FleetFloor$Planner", "end", "I", false)
  | _ => ("FleetFloor$Planner", "finish", "I", false)
def ty_Pln : Nat → FieldType := fun k => match k with
  | 0 => .object "FleetFloor$Cells"
  | 1 => .array (.object "FleetFloor$Vehicle")
  | 2 => .array (.object "FleetFloor$Cells")
  | 3 => .array (.object "FleetFloor$Cells")
  | 4 => .array (.object "FleetFloor$Cells")
  | 5 => .object "FleetFloor$Cells"
  | 6 => .object "FleetFloor$Cells"
  | 7 => .array .int
  | 8 => .int
  | 9 => .int
  | 10 => .int
  | 11 => .int
  | _ => .int
theorem n_Pln : ∀ a, a < 13 → ∀ b, b < 13 → a ≠ b → (T_Pln a).2.1 ≠ (T_Pln b).2.1 := by decide +kernel
theorem ok_Pln : ∀ k, k < 13 → parseFieldDescriptor (T_Pln k).2.2.1 = some (ty_Pln k) := by decide +kernel
theorem in_Pln : ∀ w ∈ u_ws "FleetFloor$Planner" T_Pln 13, w ∈ bg := by
  show ∀ w ∈ [u_lay "FleetFloor$Planner" T_Pln 0, u_lay "FleetFloor$Planner" T_Pln 1, u_lay "FleetFloor$Planner" T_Pln 2, u_lay "FleetFloor$Planner" T_Pln 3, u_lay "FleetFloor$Planner" T_Pln 4, u_lay "FleetFloor$Planner" T_Pln 5, u_lay "FleetFloor$Planner" T_Pln 6, u_lay "FleetFloor$Planner" T_Pln 7, u_lay "FleetFloor$Planner" T_Pln 8, u_lay "FleetFloor$Planner" T_Pln 9, u_lay "FleetFloor$Planner" T_Pln 10, u_lay "FleetFloor$Planner" T_Pln 11, u_lay "FleetFloor$Planner" T_Pln 12], w ∈ bg
  exact List.forall_mem_cons.mpr ⟨tw_542, List.forall_mem_cons.mpr ⟨tw_544, List.forall_mem_cons.mpr ⟨tw_546, List.forall_mem_cons.mpr ⟨tw_548, List.forall_mem_cons.mpr ⟨tw_550, List.forall_mem_cons.mpr ⟨tw_552, List.forall_mem_cons.mpr ⟨tw_554, List.forall_mem_cons.mpr ⟨tw_556, List.forall_mem_cons.mpr ⟨tw_558, List.forall_mem_cons.mpr ⟨tw_560, List.forall_mem_cons.mpr ⟨tw_562, List.forall_mem_cons.mpr ⟨tw_564, List.forall_mem_cons.mpr ⟨tw_566, fun _ h => absurd h List.not_mem_nil⟩⟩⟩⟩⟩⟩⟩⟩⟩⟩⟩⟩⟩
def T_Mod : u_T := fun k => match k with
  | 0 => ("FleetFloorModel", "thrown", "I", false)
  | 1 => ("FleetFloorModel", "open", "Z", false)
  | 2 => ("FleetFloorModel", "kinds", "[I", true)
  | 3 => ("FleetFloorModel", "stations", "I", false)
  | 4 => ("FleetFloorModel", "vehicles", "I", false)
  | 5 => ("FleetFloorModel", "stationAt", "[I", true)
  | 6 => ("FleetFloorModel", "parkingAt", "[I", true)
  | 7 => ("FleetFloorModel", "seen", "[Z", true)
  | 8 => ("FleetFloorModel", "pile", "[I", true)
  | 9 => ("FleetFloorModel", "tasks", "I", false)
  | 10 => ("FleetFloorModel", "planned", "I", false)
  | 11 => ("FleetFloorModel", "first", "[I", true)
  | 12 => ("FleetFloorModel", "second", "[I", true)
  | 13 => ("FleetFloorModel", "owner", "[I", true)
  | 14 => ("FleetFloorModel", "start", "[I", true)
  | 15 => ("FleetFloorModel", "many", "[I", true)
  | 16 => ("FleetFloorModel", "base", "[I", true)
  | 17 => ("FleetFloorModel", "finishing", "[I", true)
  | 18 => ("FleetFloorModel", "finished", "[I", true)
  | 19 => ("FleetFloorModel", "rowed", "I", false)
  | 20 => ("FleetFloorModel", "moveCell", "[I", true)
  | 21 => ("FleetFloorModel", "moveTime", "[I", true)
  | 22 => ("FleetFloorModel", "at", "[I", true)
  | 23 => ("FleetFloorModel", "made", "[I", true)
  | 24 => ("FleetFloorModel", "may", "[I", true)
  | 25 => ("FleetFloorModel", "known", "[I", true)
  | 26 => ("FleetFloorModel", "granted", "[I", true)
  | 27 => ("FleetFloorModel", "moves", "[I", true)
  | 28 => ("FleetFloorModel", "latest", "[I", true)
  | 29 => ("FleetFloorModel", "clock", "I", false)
  | 30 => ("FleetFloorModel", "ticks", "I", false)
  | 31 => ("FleetFloorModel", "letters", "I", false)
  | 32 => ("FleetFloorModel", "letterKind", "[I", true)
  | 33 => ("FleetFloorModel", "letterOf", "[I", true)
  | 34 => ("FleetFloorModel", "letterNumber", "[I", true)
  | 35 => ("FleetFloorModel", "noBeing", "[J", true)
  | 36 => ("FleetFloorModel", "noComing", "[J", true)
  | 37 => ("FleetFloorModel", "reached", "[J", true)
  | 38 => ("FleetFloorModel", "planner", "I", false)
  | _ => ("FleetFloorModel", "done", "I", false)
def ty_Mod : Nat → FieldType := fun k => match k with
  | 0 => .int
  | 1 => .boolean
  | 2 => .array .int
  | 3 => .int
  | 4 => .int
  | 5 => .array .int
  | 6 => .array .int
  | 7 => .array .boolean
  | 8 => .array .int
  | 9 => .int
  | 10 => .int
  | 11 => .array .int
  | 12 => .array .int
  | 13 => .array .int
  | 14 => .array .int
  | 15 => .array .int
  | 16 => .array .int
  | 17 => .array .int
  | 18 => .array .int
  | 19 => .int
  | 20 => .array .int
  | 21 => .array .int
  | 22 => .array .int
  | 23 => .array .int
  | 24 => .array .int
  | 25 => .array .int
  | 26 => .array .int
  | 27 => .array .int
  | 28 => .array .int
  | 29 => .int
  | 30 => .int
  | 31 => .int
  | 32 => .array .int
  | 33 => .array .int
  | 34 => .array .int
  | 35 => .array .long
  | 36 => .array .long
  | 37 => .array .long
  | 38 => .int
  | _ => .int
theorem n_Mod : ∀ a, a < 40 → ∀ b, b < 40 → a ≠ b → (T_Mod a).2.1 ≠ (T_Mod b).2.1 := by decide +kernel
theorem ok_Mod : ∀ k, k < 40 → parseFieldDescriptor (T_Mod k).2.2.1 = some (ty_Mod k) := by decide +kernel
theorem in_Mod : ∀ w ∈ u_ws "FleetFloorModel" T_Mod 40, w ∈ bg := by
  show ∀ w ∈ [u_lay "FleetFloorModel" T_Mod 0, u_lay "FleetFloorModel" T_Mod 1, u_lay "FleetFloorModel" T_Mod 2, u_lay "FleetFloorModel" T_Mod 3, u_lay "FleetFloorModel" T_Mod 4, u_lay "FleetFloorModel" T_Mod 5, u_lay "FleetFloorModel" T_Mod 6, u_lay "FleetFloorModel" T_Mod 7, u_lay "FleetFloorModel" T_Mod 8, u_lay "FleetFloorModel" T_Mod 9, u_lay "FleetFloorModel" T_Mod 10, u_lay "FleetFloorModel" T_Mod 11, u_lay "FleetFloorModel" T_Mod 12, u_lay "FleetFloorModel" T_Mod 13, u_lay "FleetFloorModel" T_Mod 14, u_lay "FleetFloorModel" T_Mod 15, u_lay "FleetFloorModel" T_Mod 16, u_lay "FleetFloorModel" T_Mod 17, u_lay "FleetFloorModel" T_Mod 18, u_lay "FleetFloorModel" T_Mod 19, u_lay "FleetFloorModel" T_Mod 20, u_lay "FleetFloorModel" T_Mod 21, u_lay "FleetFloorModel" T_Mod 22, u_lay "FleetFloorModel" T_Mod 23, u_lay "FleetFloorModel" T_Mod 24, u_lay "FleetFloorModel" T_Mod 25, u_lay "FleetFloorModel" T_Mod 26, u_lay "FleetFloorModel" T_Mod 27, u_lay "FleetFloorModel" T_Mod 28, u_lay "FleetFloorModel" T_Mod 29, u_lay "FleetFloorModel" T_Mod 30, u_lay "FleetFloorModel" T_Mod 31, u_lay "FleetFloorModel" T_Mod 32, u_lay "FleetFloorModel" T_Mod 33, u_lay "FleetFloorModel" T_Mod 34, u_lay "FleetFloorModel" T_Mod 35, u_lay "FleetFloorModel" T_Mod 36, u_lay "FleetFloorModel" T_Mod 37, u_lay "FleetFloorModel" T_Mod 38, u_lay "FleetFloorModel" T_Mod 39], w ∈ bg
  exact List.forall_mem_cons.mpr ⟨tw_821, List.forall_mem_cons.mpr ⟨tw_823, List.forall_mem_cons.mpr ⟨tw_825, List.forall_mem_cons.mpr ⟨tw_827, List.forall_mem_cons.mpr ⟨tw_829, List.forall_mem_cons.mpr ⟨tw_831, List.forall_mem_cons.mpr ⟨tw_833, List.forall_mem_cons.mpr ⟨tw_835, List.forall_mem_cons.mpr ⟨tw_837, List.forall_mem_cons.mpr ⟨tw_839, List.forall_mem_cons.mpr ⟨tw_841, List.forall_mem_cons.mpr ⟨tw_843, List.forall_mem_cons.mpr ⟨tw_845, List.forall_mem_cons.mpr ⟨tw_847, List.forall_mem_cons.mpr ⟨tw_849, List.forall_mem_cons.mpr ⟨tw_851, List.forall_mem_cons.mpr ⟨tw_853, List.forall_mem_cons.mpr ⟨tw_855, List.forall_mem_cons.mpr ⟨tw_857, List.forall_mem_cons.mpr ⟨tw_859, List.forall_mem_cons.mpr ⟨tw_861, List.forall_mem_cons.mpr ⟨tw_863, List.forall_mem_cons.mpr ⟨tw_865, List.forall_mem_cons.mpr ⟨tw_867, List.forall_mem_cons.mpr ⟨tw_869, List.forall_mem_cons.mpr ⟨tw_871, List.forall_mem_cons.mpr ⟨tw_873, List.forall_mem_cons.mpr ⟨tw_875, List.forall_mem_cons.mpr ⟨tw_877, List.forall_mem_cons.mpr ⟨tw_879, List.forall_mem_cons.mpr ⟨tw_881, List.forall_mem_cons.mpr ⟨tw_883, List.forall_mem_cons.mpr ⟨tw_885, List.forall_mem_cons.mpr ⟨tw_887, List.forall_mem_cons.mpr ⟨tw_889, List.forall_mem_cons.mpr ⟨tw_891, List.forall_mem_cons.mpr ⟨tw_893, List.forall_mem_cons.mpr ⟨tw_895, List.forall_mem_cons.mpr ⟨tw_897, List.forall_mem_cons.mpr ⟨tw_899, fun _ h => absurd h List.not_mem_nil⟩⟩⟩⟩⟩⟩⟩⟩⟩⟩⟩⟩⟩⟩⟩⟩⟩⟩⟩⟩⟩⟩⟩⟩⟩⟩⟩⟩⟩⟩⟩⟩⟩⟩⟩⟩⟩⟩⟩⟩
abbrev cl : List vw_C := [("FleetFloor", T_FF, 9), ("FleetFloor$FloorMap", T_Map, 1), ("FleetFloor$Air", T_Air, 1), ("java/util/ArrayList", T_AL, 3), ("FleetFloor$Cells", T_Cel, 2), ("FleetFloor$Letter", T_Let, 3), ("FleetFloor$Move", T_Mov, 2), ("FleetFloor$Task", T_Tsk, 4), ("FleetFloor$Vehicle", T_Veh, 10), ("FleetFloor$Planner", T_Pln, 13), ("FleetFloorModel", T_Mod, 40)]
