/-- the words that go with every call -/
def bg : List Cond := lw_tbl.filter goodWord
theorem bg_good {w : Cond} (h : w ∈ bg) : (w.onTables && w.keeps) = true ∨ ∃ ty, w = .arrayClass ty := good_of_word (List.mem_filter.mp h).2
theorem bg_m1 (k : Nat) {w : Cond} (h : tables_1_1[k]? = some w) (hg : goodWord w = true) : w ∈ bg := List.mem_filter.mpr ⟨List.mem_append_right _ (show w ∈ tables_1 from (List.mem_append_left _ (List.mem_of_getElem? h))), hg⟩
theorem tb_m1 (k : Nat) {w : Cond} (h : tables_1_1[k]? = some w) : w ∈ lw_tbl := List.mem_append_right _ (show w ∈ tables_1 from (List.mem_append_left _ (List.mem_of_getElem? h)))
theorem bg_m2 (k : Nat) {w : Cond} (h : tables_1_2[k]? = some w) (hg : goodWord w = true) : w ∈ bg := List.mem_filter.mpr ⟨List.mem_append_right _ (show w ∈ tables_1 from (List.mem_append_right _ (List.mem_append_left _ (List.mem_of_getElem? h)))), hg⟩
theorem tb_m2 (k : Nat) {w : Cond} (h : tables_1_2[k]? = some w) : w ∈ lw_tbl := List.mem_append_right _ (show w ∈ tables_1 from (List.mem_append_right _ (List.mem_append_left _ (List.mem_of_getElem? h))))
theorem bg_m3 (k : Nat) {w : Cond} (h : tables_1_3[k]? = some w) (hg : goodWord w = true) : w ∈ bg := List.mem_filter.mpr ⟨List.mem_append_right _ (show w ∈ tables_1 from (List.mem_append_right _ (List.mem_append_right _ (List.mem_append_left _ (List.mem_of_getElem? h))))), hg⟩
theorem tb_m3 (k : Nat) {w : Cond} (h : tables_1_3[k]? = some w) : w ∈ lw_tbl := List.mem_append_right _ (show w ∈ tables_1 from (List.mem_append_right _ (List.mem_append_right _ (List.mem_append_left _ (List.mem_of_getElem? h)))))
theorem bg_m4 (k : Nat) {w : Cond} (h : tables_1_4[k]? = some w) (hg : goodWord w = true) : w ∈ bg := List.mem_filter.mpr ⟨List.mem_append_right _ (show w ∈ tables_1 from (List.mem_append_right _ (List.mem_append_right _ (List.mem_append_right _ (List.mem_append_left _ (List.mem_of_getElem? h)))))), hg⟩
theorem tb_m4 (k : Nat) {w : Cond} (h : tables_1_4[k]? = some w) : w ∈ lw_tbl := List.mem_append_right _ (show w ∈ tables_1 from (List.mem_append_right _ (List.mem_append_right _ (List.mem_append_right _ (List.mem_append_left _ (List.mem_of_getElem? h))))))
theorem bg_m5 (k : Nat) {w : Cond} (h : tables_1_5[k]? = some w) (hg : goodWord w = true) : w ∈ bg := List.mem_filter.mpr ⟨List.mem_append_right _ (show w ∈ tables_1 from (List.mem_append_right _ (List.mem_append_right _ (List.mem_append_right _ (List.mem_append_right _ (List.mem_of_getElem? h)))))), hg⟩
theorem tb_m5 (k : Nat) {w : Cond} (h : tables_1_5[k]? = some w) : w ∈ lw_tbl := List.mem_append_right _ (show w ∈ tables_1 from (List.mem_append_right _ (List.mem_append_right _ (List.mem_append_right _ (List.mem_append_right _ (List.mem_of_getElem? h))))))
theorem bg_s (k : Nat) {w : Cond} (h : (k2_sels lw_privs)[k]? = some w) (hg : goodWord w = true) : w ∈ bg := List.mem_filter.mpr ⟨List.mem_append_left _ (List.mem_of_getElem? h), hg⟩
theorem tw_0 : (Jvm.Cond.initialized "FleetFloorLaw") ∈ bg := bg_m1 0 rfl rfl
theorem tw_1 : (Jvm.Cond.initialized "FleetFloor") ∈ bg := bg_m1 1 rfl rfl
theorem tw_2 : (Jvm.Cond.initialized "FleetFloor$FloorMap") ∈ bg := bg_m1 2 rfl rfl
theorem tw_3 : (Jvm.Cond.initialized "FleetFloor$Air") ∈ bg := bg_m1 3 rfl rfl
theorem tw_4 : (Jvm.Cond.initialized "java/util/AbstractCollection") ∈ bg := bg_m1 4 rfl rfl
theorem tw_5 : (Jvm.Cond.initialized "java/util/AbstractList") ∈ bg := bg_m1 5 rfl rfl
theorem tw_6 : (Jvm.Cond.initialized "java/util/ArrayList") ∈ bg := bg_m1 6 rfl rfl
theorem tw_7 : (Jvm.Cond.initialized "FleetFloorModel") ∈ bg := bg_m1 7 rfl rfl
theorem tw_8 : (Jvm.Cond.initialized "java/lang/Throwable") ∈ bg := bg_m1 8 rfl rfl
theorem tw_9 : (Jvm.Cond.initialized "java/lang/Exception") ∈ bg := bg_m1 9 rfl rfl
theorem tw_10 : (Jvm.Cond.initialized "java/lang/RuntimeException") ∈ bg := bg_m1 10 rfl rfl
theorem tw_11 : (Jvm.Cond.initialized "java/lang/IllegalStateException") ∈ bg := bg_m1 11 rfl rfl
theorem tw_12 : (Jvm.Cond.initialized "FleetFloor$Cells") ∈ bg := bg_m1 12 rfl rfl
theorem tw_13 : (Jvm.Cond.initialized "java/lang/IllegalArgumentException") ∈ bg := bg_m1 13 rfl rfl
theorem tw_14 : (Jvm.Cond.initialized "FleetFloor$Vehicle") ∈ bg := bg_m1 14 rfl rfl
theorem tw_15 : (Jvm.Cond.initialized "FleetFloor$Planner") ∈ bg := bg_m1 15 rfl rfl
theorem tw_16 : (Jvm.Cond.initialized "FleetFloor$Task") ∈ bg := bg_m1 16 rfl rfl
theorem tw_17 : (Jvm.Cond.initialized "jdk/internal/util/ArraysSupport") ∈ bg := bg_m1 17 rfl rfl
theorem tw_18 : (Jvm.Cond.initialized "java/lang/Math") ∈ bg := bg_m1 18 rfl rfl
theorem tw_19 : (Jvm.Cond.initialized "java/util/Arrays") ∈ bg := bg_m1 19 rfl rfl
theorem tw_20 : (Jvm.Cond.initialized "java/lang/System") ∈ bg := bg_m1 20 rfl rfl
theorem tw_21 : (Jvm.Cond.initialized "java/util/Objects") ∈ bg := bg_m1 21 rfl rfl
theorem tw_22 : (Jvm.Cond.initialized "jdk/internal/util/Preconditions") ∈ bg := bg_m1 22 rfl rfl
theorem tw_23 : (Jvm.Cond.initialized "java/lang/Record") ∈ bg := bg_m1 23 rfl rfl
theorem tw_24 : (Jvm.Cond.initialized "FleetFloor$Letter") ∈ bg := bg_m1 24 rfl rfl
theorem tw_25 : (Jvm.Cond.initialized "FleetFloor$Move") ∈ bg := bg_m1 25 rfl rfl
theorem tw_26 : (Jvm.Cond.classLink "FleetFloorLaw" (8 : Nat) "FleetFloor") ∈ bg := bg_m1 26 rfl rfl
theorem tw_27 : (Jvm.Cond.instantiable "FleetFloor" (9 : Nat)) ∈ bg := bg_m1 27 rfl rfl
theorem tw_28 : (Jvm.Cond.methodLink "FleetFloorLaw" (24 : Nat) ({ cls := "FleetFloor", name := "<init>", desc := "()V" } : Jvm.MethodName)) ∈ bg := bg_m1 28 rfl rfl
theorem tw_29 : (Jvm.Cond.instanceMethod ({ cls := "FleetFloor", name := "<init>", desc := "()V" } : Jvm.MethodName)) ∈ bg := bg_m1 29 rfl rfl
theorem tw_30 : (Jvm.Cond.code ({ cls := "FleetFloor", name := "<init>", desc := "()V" } : Jvm.MethodName) prog_1_method_1_code (1 : Nat) (Option.none : Option Jvm.ClassFile.FieldType)) ∈ bg := bg_m1 30 rfl rfl
theorem tw_31 : (Jvm.Cond.methodLink "FleetFloor" (3 : Nat) ({ cls := "java/lang/Object", name := "<init>", desc := "()V" } : Jvm.MethodName)) ∈ bg := bg_m1 31 rfl rfl
theorem tw_32 : (Jvm.Cond.instanceMethod ({ cls := "java/lang/Object", name := "<init>", desc := "()V" } : Jvm.MethodName)) ∈ bg := bg_m1 32 rfl rfl
theorem tw_33 : (Jvm.Cond.code ({ cls := "java/lang/Object", name := "<init>", desc := "()V" } : Jvm.MethodName) object_method_1_code (1 : Nat) (Option.none : Option Jvm.ClassFile.FieldType)) ∈ bg := bg_m1 33 rfl rfl
theorem tw_34 : (Jvm.Cond.classLink "FleetFloor" (9 : Nat) "FleetFloor$FloorMap") ∈ bg := bg_m1 34 rfl rfl
theorem tw_35 : (Jvm.Cond.instantiable "FleetFloor$FloorMap" (1 : Nat)) ∈ bg := bg_m1 35 rfl rfl
theorem tw_36 : (Jvm.Cond.methodLink "FleetFloor" (11 : Nat) ({ cls := "FleetFloor$FloorMap", name := "<init>", desc := "()V" } : Jvm.MethodName)) ∈ bg := bg_m1 36 rfl rfl
theorem tw_37 : (Jvm.Cond.instanceMethod ({ cls := "FleetFloor$FloorMap", name := "<init>", desc := "()V" } : Jvm.MethodName)) ∈ bg := bg_m1 37 rfl rfl
theorem tw_38 : (Jvm.Cond.code ({ cls := "FleetFloor$FloorMap", name := "<init>", desc := "()V" } : Jvm.MethodName) prog_4_method_1_code (1 : Nat) (Option.none : Option Jvm.ClassFile.FieldType)) ∈ bg := bg_m1 38 rfl rfl
theorem tw_39 : (Jvm.Cond.methodLink "FleetFloor$FloorMap" (3 : Nat) ({ cls := "java/lang/Object", name := "<init>", desc := "()V" } : Jvm.MethodName)) ∈ bg := bg_m1 39 rfl rfl
theorem tw_40 : (Jvm.Cond.fieldLink "FleetFloor$FloorMap" (9 : Nat) "FleetFloor$FloorMap" "kinds" "[I") ∈ bg := bg_m1 40 rfl rfl
theorem tw_41 : (Jvm.Cond.laysFinal "FleetFloor$FloorMap" "FleetFloor$FloorMap" "kinds" "[I") ∈ bg := bg_m1 41 rfl rfl
theorem tw_42 : (Jvm.Cond.soleField "FleetFloor$FloorMap" "kinds") ∈ bg := bg_m1 42 rfl rfl
theorem tw_43 : (Jvm.Cond.superclass "FleetFloor$FloorMap" "java/lang/Object") ∈ bg := bg_m1 43 rfl rfl
theorem tw_44 : (Jvm.Cond.arrayClass Jvm.ClassFile.FieldType.int) ∈ bg := bg_m1 44 rfl rfl
theorem tw_45 : (Jvm.Cond.classLink "FleetFloor" (16 : Nat) "FleetFloor$Air") ∈ bg := bg_m1 45 rfl rfl
theorem tw_46 : (Jvm.Cond.instantiable "FleetFloor$Air" (1 : Nat)) ∈ bg := bg_m1 46 rfl rfl
theorem tw_47 : (Jvm.Cond.methodLink "FleetFloor" (18 : Nat) ({ cls := "FleetFloor$Air", name := "<init>", desc := "()V" } : Jvm.MethodName)) ∈ bg := bg_m1 47 rfl rfl
theorem tw_48 : (Jvm.Cond.instanceMethod ({ cls := "FleetFloor$Air", name := "<init>", desc := "()V" } : Jvm.MethodName)) ∈ bg := bg_m1 48 rfl rfl
theorem tw_49 : (Jvm.Cond.code ({ cls := "FleetFloor$Air", name := "<init>", desc := "()V" } : Jvm.MethodName) prog_2_method_1_code (1 : Nat) (Option.none : Option Jvm.ClassFile.FieldType)) ∈ bg := bg_m1 49 rfl rfl
theorem tw_50 : (Jvm.Cond.methodLink "FleetFloor$Air" (3 : Nat) ({ cls := "java/lang/Object", name := "<init>", desc := "()V" } : Jvm.MethodName)) ∈ bg := bg_m1 50 rfl rfl
theorem tw_51 : (Jvm.Cond.classLink "FleetFloor$Air" (9 : Nat) "java/util/ArrayList") ∈ bg := bg_m1 51 rfl rfl
theorem tw_52 : (Jvm.Cond.instantiable "java/util/ArrayList" (3 : Nat)) ∈ bg := bg_m1 52 rfl rfl
theorem tw_53 : (Jvm.Cond.methodLink "FleetFloor$Air" (11 : Nat) ({ cls := "java/util/ArrayList", name := "<init>", desc := "()V" } : Jvm.MethodName)) ∈ bg := bg_m1 53 rfl rfl
theorem tw_54 : (Jvm.Cond.instanceMethod ({ cls := "java/util/ArrayList", name := "<init>", desc := "()V" } : Jvm.MethodName)) ∈ bg := bg_m1 54 rfl rfl
theorem tw_55 : (Jvm.Cond.code ({ cls := "java/util/ArrayList", name := "<init>", desc := "()V" } : Jvm.MethodName) prog_26_method_2_code (1 : Nat) (Option.none : Option Jvm.ClassFile.FieldType)) ∈ bg := bg_m1 55 rfl rfl
theorem tw_56 : (Jvm.Cond.methodLink "java/util/ArrayList" (1 : Nat) ({ cls := "java/util/AbstractList", name := "<init>", desc := "()V" } : Jvm.MethodName)) ∈ bg := bg_m1 56 rfl rfl
theorem tw_57 : (Jvm.Cond.instanceMethod ({ cls := "java/util/AbstractList", name := "<init>", desc := "()V" } : Jvm.MethodName)) ∈ bg := bg_m1 57 rfl rfl
theorem tw_58 : (Jvm.Cond.code ({ cls := "java/util/AbstractList", name := "<init>", desc := "()V" } : Jvm.MethodName) prog_25_method_1_code (1 : Nat) (Option.none : Option Jvm.ClassFile.FieldType)) ∈ bg := bg_m1 58 rfl rfl
theorem tw_59 : (Jvm.Cond.methodLink "java/util/AbstractList" (1 : Nat) ({ cls := "java/util/AbstractCollection", name := "<init>", desc := "()V" } : Jvm.MethodName)) ∈ bg := bg_m1 59 rfl rfl
theorem tw_60 : (Jvm.Cond.instanceMethod ({ cls := "java/util/AbstractCollection", name := "<init>", desc := "()V" } : Jvm.MethodName)) ∈ bg := bg_m1 60 rfl rfl
theorem tw_61 : (Jvm.Cond.code ({ cls := "java/util/AbstractCollection", name := "<init>", desc := "()V" } : Jvm.MethodName) prog_24_method_1_code (1 : Nat) (Option.none : Option Jvm.ClassFile.FieldType)) ∈ bg := bg_m1 61 rfl rfl
theorem tw_62 : (Jvm.Cond.methodLink "java/util/AbstractCollection" (1 : Nat) ({ cls := "java/lang/Object", name := "<init>", desc := "()V" } : Jvm.MethodName)) ∈ bg := bg_m1 62 rfl rfl
theorem tw_63 : (Jvm.Cond.fieldLink "java/util/ArrayList" (39 : Nat) "java/util/ArrayList" "DEFAULTCAPACITY_EMPTY_ELEMENTDATA" "[Ljava/lang/Object;") ∈ bg := bg_m1 63 rfl rfl
theorem tx_64 : (Jvm.Cond.laysStatic "java/util/ArrayList" "DEFAULTCAPACITY_EMPTY_ELEMENTDATA" "[Ljava/lang/Object;") ∈ lw_tbl := tb_m1 64 rfl
theorem tw_65 : (Jvm.Cond.fieldLink "java/util/ArrayList" (9 : Nat) "java/util/ArrayList" "elementData" "[Ljava/lang/Object;") ∈ bg := bg_m1 65 rfl rfl
theorem tw_66 : (Jvm.Cond.fieldLink "java/util/ArrayList" (48 : Nat) "java/util/ArrayList" "size" "I") ∈ bg := bg_m1 66 rfl rfl
theorem tw_67 : (Jvm.Cond.fieldLink "java/util/AbstractList" (7 : Nat) "java/util/AbstractList" "modCount" "I") ∈ bg := bg_m1 67 rfl rfl
theorem tw_68 : (Jvm.Cond.fieldLink "java/util/ArrayList" (63 : Nat) "java/util/ArrayList" "modCount" "I") ∈ bg := bg_m1 68 rfl rfl
theorem tw_69 : (Jvm.Cond.sameField "java/util/ArrayList" "java/util/AbstractList" "modCount" "I") ∈ bg := bg_m1 69 rfl rfl
theorem tw_70 : (Jvm.Cond.lays "java/util/ArrayList" "java/util/ArrayList" "elementData" "[Ljava/lang/Object;") ∈ bg := bg_m1 70 rfl rfl
theorem tw_71 : (Jvm.Cond.soleField "java/util/ArrayList" "elementData") ∈ bg := bg_m1 71 rfl rfl
theorem tw_72 : (Jvm.Cond.lays "java/util/ArrayList" "java/util/ArrayList" "size" "I") ∈ bg := bg_m1 72 rfl rfl
theorem tw_73 : (Jvm.Cond.soleField "java/util/ArrayList" "size") ∈ bg := bg_m1 73 rfl rfl
theorem tw_74 : (Jvm.Cond.lays "java/util/ArrayList" "java/util/AbstractList" "modCount" "I") ∈ bg := bg_m1 74 rfl rfl
theorem tw_75 : (Jvm.Cond.soleField "java/util/AbstractList" "modCount") ∈ bg := bg_m1 75 rfl rfl
theorem tw_76 : (Jvm.Cond.superclass "java/util/ArrayList" "java/util/AbstractList") ∈ bg := bg_m1 76 rfl rfl
theorem tw_77 : (Jvm.Cond.fieldLink "FleetFloor$Air" (12 : Nat) "FleetFloor$Air" "flying" "Ljava/util/ArrayList;") ∈ bg := bg_m1 77 rfl rfl
theorem tw_78 : (Jvm.Cond.laysFinal "FleetFloor$Air" "FleetFloor$Air" "flying" "Ljava/util/ArrayList;") ∈ bg := bg_m1 78 rfl rfl
theorem tw_79 : (Jvm.Cond.soleField "FleetFloor$Air" "flying") ∈ bg := bg_m1 79 rfl rfl
theorem tw_80 : (Jvm.Cond.superclass "FleetFloor$Air" "java/lang/Object") ∈ bg := bg_m1 80 rfl rfl
theorem tw_81 : (Jvm.Cond.classLink "FleetFloor" (23 : Nat) "java/util/ArrayList") ∈ bg := bg_m1 81 rfl rfl
theorem tw_82 : (Jvm.Cond.methodLink "FleetFloor" (25 : Nat) ({ cls := "java/util/ArrayList", name := "<init>", desc := "()V" } : Jvm.MethodName)) ∈ bg := bg_m1 82 rfl rfl
theorem tw_83 : (Jvm.Cond.classLink "FleetFloor" (30 : Nat) "FleetFloor$Vehicle") ∈ bg := bg_m1 83 rfl rfl
theorem tx_84 : (Jvm.Cond.arrayOver (Jvm.ClassFile.FieldType.object "FleetFloor$Vehicle")) ∈ lw_tbl := tb_m1 84 rfl
theorem tw_85 : (Jvm.Cond.fieldLink "FleetFloor" (12 : Nat) "FleetFloor" "map" "LFleetFloor$FloorMap;") ∈ bg := bg_m1 85 rfl rfl
theorem tw_86 : (Jvm.Cond.fieldLink "FleetFloor" (19 : Nat) "FleetFloor" "air" "LFleetFloor$Air;") ∈ bg := bg_m1 86 rfl rfl
theorem tw_87 : (Jvm.Cond.fieldLink "FleetFloor" (26 : Nat) "FleetFloor" "tasks" "Ljava/util/ArrayList;") ∈ bg := bg_m1 87 rfl rfl
theorem tw_88 : (Jvm.Cond.fieldLink "FleetFloor" (32 : Nat) "FleetFloor" "vehicles" "[LFleetFloor$Vehicle;") ∈ bg := bg_m1 88 rfl rfl
theorem tw_89 : (Jvm.Cond.fieldLink "FleetFloor" (36 : Nat) "FleetFloor" "stations" "[I") ∈ bg := bg_m1 89 rfl rfl
theorem tw_90 : (Jvm.Cond.fieldLink "FleetFloor" (40 : Nat) "FleetFloor" "planner" "LFleetFloor$Planner;") ∈ bg := bg_m1 90 rfl rfl
theorem tw_91 : (Jvm.Cond.fieldLink "FleetFloor" (44 : Nat) "FleetFloor" "planned" "I") ∈ bg := bg_m1 91 rfl rfl
theorem tw_92 : (Jvm.Cond.fieldLink "FleetFloor" (48 : Nat) "FleetFloor" "tickToCome" "I") ∈ bg := bg_m1 92 rfl rfl
theorem tw_93 : (Jvm.Cond.fieldLink "FleetFloor" (51 : Nat) "FleetFloor" "planClock" "I") ∈ bg := bg_m1 93 rfl rfl
theorem tw_94 : (Jvm.Cond.laysFinal "FleetFloor" "FleetFloor" "map" "LFleetFloor$FloorMap;") ∈ bg := bg_m1 94 rfl rfl
theorem tw_95 : (Jvm.Cond.soleField "FleetFloor" "map") ∈ bg := bg_m1 95 rfl rfl
theorem tw_96 : (Jvm.Cond.laysFinal "FleetFloor" "FleetFloor" "air" "LFleetFloor$Air;") ∈ bg := bg_m1 96 rfl rfl
theorem tw_97 : (Jvm.Cond.soleField "FleetFloor" "air") ∈ bg := bg_m1 97 rfl rfl
theorem tw_98 : (Jvm.Cond.laysFinal "FleetFloor" "FleetFloor" "tasks" "Ljava/util/ArrayList;") ∈ bg := bg_m1 98 rfl rfl
theorem tw_99 : (Jvm.Cond.soleField "FleetFloor" "tasks") ∈ bg := bg_m1 99 rfl rfl
theorem tw_100 : (Jvm.Cond.lays "FleetFloor" "FleetFloor" "vehicles" "[LFleetFloor$Vehicle;") ∈ bg := bg_m1 100 rfl rfl
theorem tw_101 : (Jvm.Cond.soleField "FleetFloor" "vehicles") ∈ bg := bg_m1 101 rfl rfl
theorem tw_102 : (Jvm.Cond.lays "FleetFloor" "FleetFloor" "stations" "[I") ∈ bg := bg_m1 102 rfl rfl
theorem tw_103 : (Jvm.Cond.soleField "FleetFloor" "stations") ∈ bg := bg_m1 103 rfl rfl
theorem tw_104 : (Jvm.Cond.lays "FleetFloor" "FleetFloor" "planner" "LFleetFloor$Planner;") ∈ bg := bg_m1 104 rfl rfl
theorem tw_105 : (Jvm.Cond.soleField "FleetFloor" "planner") ∈ bg := bg_m1 105 rfl rfl
theorem tw_106 : (Jvm.Cond.lays "FleetFloor" "FleetFloor" "planned" "I") ∈ bg := bg_m1 106 rfl rfl
theorem tw_107 : (Jvm.Cond.soleField "FleetFloor" "planned") ∈ bg := bg_m1 107 rfl rfl
theorem tw_108 : (Jvm.Cond.lays "FleetFloor" "FleetFloor" "tickToCome" "I") ∈ bg := bg_m1 108 rfl rfl
theorem tw_109 : (Jvm.Cond.soleField "FleetFloor" "tickToCome") ∈ bg := bg_m1 109 rfl rfl
theorem tw_110 : (Jvm.Cond.lays "FleetFloor" "FleetFloor" "planClock" "I") ∈ bg := bg_m1 110 rfl rfl
theorem tw_111 : (Jvm.Cond.soleField "FleetFloor" "planClock") ∈ bg := bg_m1 111 rfl rfl
theorem tw_112 : (Jvm.Cond.superclass "FleetFloor" "java/lang/Object") ∈ bg := bg_m1 112 rfl rfl
theorem tw_113 : (Jvm.Cond.methodLink "FleetFloorLaw" (28 : Nat) ({ cls := "FleetFloor", name := "cell", desc := "(II)Z" } : Jvm.MethodName)) ∈ bg := bg_m1 113 rfl rfl
theorem tw_114 : (Jvm.Cond.instanceMethod ({ cls := "FleetFloor", name := "cell", desc := "(II)Z" } : Jvm.MethodName)) ∈ bg := bg_m1 114 rfl rfl
theorem tw_115 : (Jvm.Cond.selects "FleetFloor" ({ cls := "FleetFloor", name := "cell", desc := "(II)Z" } : Jvm.MethodName) ({ cls := "FleetFloor", name := "cell", desc := "(II)Z" } : Jvm.MethodName)) ∈ bg := bg_m1 115 rfl rfl
theorem tw_116 : (Jvm.Cond.code ({ cls := "FleetFloor", name := "cell", desc := "(II)Z" } : Jvm.MethodName) prog_1_method_2_code (3 : Nat) (Option.some Jvm.ClassFile.FieldType.boolean)) ∈ bg := bg_m1 116 rfl rfl
theorem tw_117 : (Jvm.Cond.methodLink "FleetFloor" (54 : Nat) ({ cls := "FleetFloor", name := "isOpen", desc := "()Z" } : Jvm.MethodName)) ∈ bg := bg_m1 117 rfl rfl
theorem tx_118 : (Jvm.Cond.privateMethod ({ cls := "FleetFloor", name := "isOpen", desc := "()Z" } : Jvm.MethodName)) ∈ lw_tbl := tb_m1 118 rfl
theorem tw_119 : (Jvm.Cond.instanceMethod ({ cls := "FleetFloor", name := "isOpen", desc := "()Z" } : Jvm.MethodName)) ∈ bg := bg_m1 119 rfl rfl
theorem tw_120 : (Jvm.Cond.code ({ cls := "FleetFloor", name := "isOpen", desc := "()Z" } : Jvm.MethodName) prog_1_method_15_code (1 : Nat) (Option.some Jvm.ClassFile.FieldType.boolean)) ∈ bg := bg_m1 120 rfl rfl
theorem tw_121 : (Jvm.Cond.methodLink "FleetFloor" (58 : Nat) ({ cls := "FleetFloor$FloorMap", name := "change", desc := "(II)Z" } : Jvm.MethodName)) ∈ bg := bg_m1 121 rfl rfl
theorem tw_122 : (Jvm.Cond.instanceMethod ({ cls := "FleetFloor$FloorMap", name := "change", desc := "(II)Z" } : Jvm.MethodName)) ∈ bg := bg_m1 122 rfl rfl
theorem tw_123 : (Jvm.Cond.selects "FleetFloor$FloorMap" ({ cls := "FleetFloor$FloorMap", name := "change", desc := "(II)Z" } : Jvm.MethodName) ({ cls := "FleetFloor$FloorMap", name := "change", desc := "(II)Z" } : Jvm.MethodName)) ∈ bg := bg_m1 123 rfl rfl
theorem tw_124 : (Jvm.Cond.code ({ cls := "FleetFloor$FloorMap", name := "change", desc := "(II)Z" } : Jvm.MethodName) prog_4_method_2_code (3 : Nat) (Option.some Jvm.ClassFile.FieldType.boolean)) ∈ bg := bg_m1 124 rfl rfl
theorem tw_125 : (Jvm.Cond.methodLink "FleetFloorLaw" (49 : Nat) ({ cls := "FleetFloor", name := "letters", desc := "()I" } : Jvm.MethodName)) ∈ bg := bg_m1 125 rfl rfl
theorem tw_126 : (Jvm.Cond.instanceMethod ({ cls := "FleetFloor", name := "letters", desc := "()I" } : Jvm.MethodName)) ∈ bg := bg_m1 126 rfl rfl
theorem tw_127 : (Jvm.Cond.selects "FleetFloor" ({ cls := "FleetFloor", name := "letters", desc := "()I" } : Jvm.MethodName) ({ cls := "FleetFloor", name := "letters", desc := "()I" } : Jvm.MethodName)) ∈ bg := bg_m1 127 rfl rfl
theorem tw_128 : (Jvm.Cond.code ({ cls := "FleetFloor", name := "letters", desc := "()I" } : Jvm.MethodName) prog_1_method_6_code (1 : Nat) (Option.some Jvm.ClassFile.FieldType.int)) ∈ bg := bg_m1 128 rfl rfl
theorem tw_129 : (Jvm.Cond.methodLink "FleetFloor" (129 : Nat) ({ cls := "FleetFloor$Air", name := "size", desc := "()I" } : Jvm.MethodName)) ∈ bg := bg_m1 129 rfl rfl
theorem tw_130 : (Jvm.Cond.instanceMethod ({ cls := "FleetFloor$Air", name := "size", desc := "()I" } : Jvm.MethodName)) ∈ bg := bg_m1 130 rfl rfl
theorem tw_131 : (Jvm.Cond.selects "FleetFloor$Air" ({ cls := "FleetFloor$Air", name := "size", desc := "()I" } : Jvm.MethodName) ({ cls := "FleetFloor$Air", name := "size", desc := "()I" } : Jvm.MethodName)) ∈ bg := bg_m1 131 rfl rfl
theorem tw_132 : (Jvm.Cond.code ({ cls := "FleetFloor$Air", name := "size", desc := "()I" } : Jvm.MethodName) prog_2_method_2_code (1 : Nat) (Option.some Jvm.ClassFile.FieldType.int)) ∈ bg := bg_m1 132 rfl rfl
theorem tw_133 : (Jvm.Cond.methodLink "FleetFloor$Air" (18 : Nat) ({ cls := "java/util/ArrayList", name := "size", desc := "()I" } : Jvm.MethodName)) ∈ bg := bg_m1 133 rfl rfl
theorem tw_134 : (Jvm.Cond.instanceMethod ({ cls := "java/util/ArrayList", name := "size", desc := "()I" } : Jvm.MethodName)) ∈ bg := bg_m1 134 rfl rfl
theorem tw_135 : (Jvm.Cond.selects "java/util/ArrayList" ({ cls := "java/util/ArrayList", name := "size", desc := "()I" } : Jvm.MethodName) ({ cls := "java/util/ArrayList", name := "size", desc := "()I" } : Jvm.MethodName)) ∈ bg := bg_m1 135 rfl rfl
theorem tw_136 : (Jvm.Cond.code ({ cls := "java/util/ArrayList", name := "size", desc := "()I" } : Jvm.MethodName) prog_26_method_8_code (1 : Nat) (Option.some Jvm.ClassFile.FieldType.int)) ∈ bg := bg_m1 136 rfl rfl
theorem tw_137 : (Jvm.Cond.methodLink "FleetFloorLaw" (53 : Nat) ({ cls := "FleetFloor", name := "letter", desc := "(II)I" } : Jvm.MethodName)) ∈ bg := bg_m1 137 rfl rfl
theorem tw_138 : (Jvm.Cond.instanceMethod ({ cls := "FleetFloor", name := "letter", desc := "(II)I" } : Jvm.MethodName)) ∈ bg := bg_m1 138 rfl rfl
theorem tw_139 : (Jvm.Cond.selects "FleetFloor" ({ cls := "FleetFloor", name := "letter", desc := "(II)I" } : Jvm.MethodName) ({ cls := "FleetFloor", name := "letter", desc := "(II)I" } : Jvm.MethodName)) ∈ bg := bg_m1 139 rfl rfl
theorem tw_140 : (Jvm.Cond.code ({ cls := "FleetFloor", name := "letter", desc := "(II)I" } : Jvm.MethodName) prog_1_method_7_code (4 : Nat) (Option.some Jvm.ClassFile.FieldType.int)) ∈ bg := bg_m1 140 rfl rfl
theorem tw_141 : (Jvm.Cond.methodLink "FleetFloor" (130 : Nat) ({ cls := "FleetFloor$Air", name := "look", desc := "(I)LFleetFloor$Letter;" } : Jvm.MethodName)) ∈ bg := bg_m1 141 rfl rfl
theorem tw_142 : (Jvm.Cond.instanceMethod ({ cls := "FleetFloor$Air", name := "look", desc := "(I)LFleetFloor$Letter;" } : Jvm.MethodName)) ∈ bg := bg_m1 142 rfl rfl
theorem tw_143 : (Jvm.Cond.selects "FleetFloor$Air" ({ cls := "FleetFloor$Air", name := "look", desc := "(I)LFleetFloor$Letter;" } : Jvm.MethodName) ({ cls := "FleetFloor$Air", name := "look", desc := "(I)LFleetFloor$Letter;" } : Jvm.MethodName)) ∈ bg := bg_m1 143 rfl rfl
theorem tw_144 : (Jvm.Cond.code ({ cls := "FleetFloor$Air", name := "look", desc := "(I)LFleetFloor$Letter;" } : Jvm.MethodName) prog_2_method_3_code (2 : Nat) (Option.some (Jvm.ClassFile.FieldType.object "FleetFloor$Letter"))) ∈ bg := bg_m1 144 rfl rfl
theorem tw_145 : (Jvm.Cond.methodLink "FleetFloor$Air" (22 : Nat) ({ cls := "java/util/ArrayList", name := "get", desc := "(I)Ljava/lang/Object;" } : Jvm.MethodName)) ∈ bg := bg_m1 145 rfl rfl
theorem tw_146 : (Jvm.Cond.instanceMethod ({ cls := "java/util/ArrayList", name := "get", desc := "(I)Ljava/lang/Object;" } : Jvm.MethodName)) ∈ bg := bg_m1 146 rfl rfl
theorem tw_147 : (Jvm.Cond.selects "java/util/ArrayList" ({ cls := "java/util/ArrayList", name := "get", desc := "(I)Ljava/lang/Object;" } : Jvm.MethodName) ({ cls := "java/util/ArrayList", name := "get", desc := "(I)Ljava/lang/Object;" } : Jvm.MethodName)) ∈ bg := bg_m1 147 rfl rfl
theorem tw_148 : (Jvm.Cond.code ({ cls := "java/util/ArrayList", name := "get", desc := "(I)Ljava/lang/Object;" } : Jvm.MethodName) prog_26_method_20_code (2 : Nat) (Option.some (Jvm.ClassFile.FieldType.object "java/lang/Object"))) ∈ bg := bg_m1 148 rfl rfl
theorem tw_149 : (Jvm.Cond.methodLink "java/util/ArrayList" (118 : Nat) ({ cls := "java/util/Objects", name := "checkIndex", desc := "(II)I" } : Jvm.MethodName)) ∈ bg := bg_m1 149 rfl rfl
theorem tw_150 : (Jvm.Cond.static ({ cls := "java/util/Objects", name := "checkIndex", desc := "(II)I" } : Jvm.MethodName)) ∈ bg := bg_m1 150 rfl rfl
theorem tw_151 : (Jvm.Cond.code ({ cls := "java/util/Objects", name := "checkIndex", desc := "(II)I" } : Jvm.MethodName) prog_30_method_17_code (2 : Nat) (Option.some Jvm.ClassFile.FieldType.int)) ∈ bg := bg_m1 151 rfl rfl
theorem tw_152 : (Jvm.Cond.methodLink "java/util/Objects" (105 : Nat) ({ cls := "jdk/internal/util/Preconditions", name := "checkIndex", desc := "(IILjava/util/function/BiFunction;)I" } : Jvm.MethodName)) ∈ bg := bg_m1 152 rfl rfl
theorem tw_153 : (Jvm.Cond.static ({ cls := "jdk/internal/util/Preconditions", name := "checkIndex", desc := "(IILjava/util/function/BiFunction;)I" } : Jvm.MethodName)) ∈ bg := bg_m1 153 rfl rfl
theorem tw_154 : (Jvm.Cond.code ({ cls := "jdk/internal/util/Preconditions", name := "checkIndex", desc := "(IILjava/util/function/BiFunction;)I" } : Jvm.MethodName) prog_34_method_11_code (3 : Nat) (Option.some Jvm.ClassFile.FieldType.int)) ∈ bg := bg_m1 154 rfl rfl
theorem tw_155 : (Jvm.Cond.methodLink "java/util/ArrayList" (123 : Nat) ({ cls := "java/util/ArrayList", name := "elementData", desc := "(I)Ljava/lang/Object;" } : Jvm.MethodName)) ∈ bg := bg_m1 155 rfl rfl
theorem tw_156 : (Jvm.Cond.instanceMethod ({ cls := "java/util/ArrayList", name := "elementData", desc := "(I)Ljava/lang/Object;" } : Jvm.MethodName)) ∈ bg := bg_m1 156 rfl rfl
theorem tw_157 : (Jvm.Cond.selects "java/util/ArrayList" ({ cls := "java/util/ArrayList", name := "elementData", desc := "(I)Ljava/lang/Object;" } : Jvm.MethodName) ({ cls := "java/util/ArrayList", name := "elementData", desc := "(I)Ljava/lang/Object;" } : Jvm.MethodName)) ∈ bg := bg_m1 157 rfl rfl
theorem tw_158 : (Jvm.Cond.code ({ cls := "java/util/ArrayList", name := "elementData", desc := "(I)Ljava/lang/Object;" } : Jvm.MethodName) prog_26_method_18_code (2 : Nat) (Option.some (Jvm.ClassFile.FieldType.object "java/lang/Object"))) ∈ bg := bg_m1 158 rfl rfl
theorem tw_159 : (Jvm.Cond.classLink "FleetFloor$Air" (26 : Nat) "FleetFloor$Letter") ∈ bg := bg_m1 159 rfl rfl
theorem tw_160 : (Jvm.Cond.methodLink "FleetFloor" (134 : Nat) ({ cls := "FleetFloor$Letter", name := "kind", desc := "()I" } : Jvm.MethodName)) ∈ bg := bg_m1 160 rfl rfl
theorem tw_161 : (Jvm.Cond.instanceMethod ({ cls := "FleetFloor$Letter", name := "kind", desc := "()I" } : Jvm.MethodName)) ∈ bg := bg_m1 161 rfl rfl
theorem tw_162 : (Jvm.Cond.selects "FleetFloor$Letter" ({ cls := "FleetFloor$Letter", name := "kind", desc := "()I" } : Jvm.MethodName) ({ cls := "FleetFloor$Letter", name := "kind", desc := "()I" } : Jvm.MethodName)) ∈ bg := bg_m1 162 rfl rfl
theorem tw_163 : (Jvm.Cond.code ({ cls := "FleetFloor$Letter", name := "kind", desc := "()I" } : Jvm.MethodName) prog_5_method_5_code (1 : Nat) (Option.some Jvm.ClassFile.FieldType.int)) ∈ bg := bg_m1 163 rfl rfl
theorem tw_164 : (Jvm.Cond.methodLink "FleetFloor" (139 : Nat) ({ cls := "FleetFloor$Letter", name := "owner", desc := "()I" } : Jvm.MethodName)) ∈ bg := bg_m1 164 rfl rfl
theorem tw_165 : (Jvm.Cond.instanceMethod ({ cls := "FleetFloor$Letter", name := "owner", desc := "()I" } : Jvm.MethodName)) ∈ bg := bg_m1 165 rfl rfl
theorem tw_166 : (Jvm.Cond.selects "FleetFloor$Letter" ({ cls := "FleetFloor$Letter", name := "owner", desc := "()I" } : Jvm.MethodName) ({ cls := "FleetFloor$Letter", name := "owner", desc := "()I" } : Jvm.MethodName)) ∈ bg := bg_m1 166 rfl rfl
theorem tw_167 : (Jvm.Cond.code ({ cls := "FleetFloor$Letter", name := "owner", desc := "()I" } : Jvm.MethodName) prog_5_method_6_code (1 : Nat) (Option.some Jvm.ClassFile.FieldType.int)) ∈ bg := bg_m1 167 rfl rfl
theorem tw_168 : (Jvm.Cond.methodLink "FleetFloor" (142 : Nat) ({ cls := "FleetFloor$Letter", name := "number", desc := "()I" } : Jvm.MethodName)) ∈ bg := bg_m1 168 rfl rfl
theorem tw_169 : (Jvm.Cond.instanceMethod ({ cls := "FleetFloor$Letter", name := "number", desc := "()I" } : Jvm.MethodName)) ∈ bg := bg_m1 169 rfl rfl
theorem tw_170 : (Jvm.Cond.selects "FleetFloor$Letter" ({ cls := "FleetFloor$Letter", name := "number", desc := "()I" } : Jvm.MethodName) ({ cls := "FleetFloor$Letter", name := "number", desc := "()I" } : Jvm.MethodName)) ∈ bg := bg_m1 170 rfl rfl
theorem tw_171 : (Jvm.Cond.code ({ cls := "FleetFloor$Letter", name := "number", desc := "()I" } : Jvm.MethodName) prog_5_method_7_code (1 : Nat) (Option.some Jvm.ClassFile.FieldType.int)) ∈ bg := bg_m1 171 rfl rfl
theorem tw_172 : (Jvm.Cond.methodLink "FleetFloorLaw" (57 : Nat) ({ cls := "FleetFloor", name := "deliver", desc := "(I)Z" } : Jvm.MethodName)) ∈ bg := bg_m1 172 rfl rfl
theorem tw_173 : (Jvm.Cond.instanceMethod ({ cls := "FleetFloor", name := "deliver", desc := "(I)Z" } : Jvm.MethodName)) ∈ bg := bg_m1 173 rfl rfl
theorem tw_174 : (Jvm.Cond.selects "FleetFloor" ({ cls := "FleetFloor", name := "deliver", desc := "(I)Z" } : Jvm.MethodName) ({ cls := "FleetFloor", name := "deliver", desc := "(I)Z" } : Jvm.MethodName)) ∈ bg := bg_m1 174 rfl rfl
theorem tw_175 : (Jvm.Cond.code ({ cls := "FleetFloor", name := "deliver", desc := "(I)Z" } : Jvm.MethodName) prog_1_method_8_code (4 : Nat) (Option.some Jvm.ClassFile.FieldType.boolean)) ∈ bg := bg_m1 175 rfl rfl
theorem tw_176 : (Jvm.Cond.methodLink "FleetFloor" (145 : Nat) ({ cls := "FleetFloor", name := "vehicleNumbered", desc := "(I)LFleetFloor$Vehicle;" } : Jvm.MethodName)) ∈ bg := bg_m1 176 rfl rfl
theorem tx_177 : (Jvm.Cond.privateMethod ({ cls := "FleetFloor", name := "vehicleNumbered", desc := "(I)LFleetFloor$Vehicle;" } : Jvm.MethodName)) ∈ lw_tbl := tb_m1 177 rfl
theorem tw_178 : (Jvm.Cond.instanceMethod ({ cls := "FleetFloor", name := "vehicleNumbered", desc := "(I)LFleetFloor$Vehicle;" } : Jvm.MethodName)) ∈ bg := bg_m1 178 rfl rfl
theorem tw_179 : (Jvm.Cond.code ({ cls := "FleetFloor", name := "vehicleNumbered", desc := "(I)LFleetFloor$Vehicle;" } : Jvm.MethodName) prog_1_method_17_code (2 : Nat) (Option.some (Jvm.ClassFile.FieldType.object "FleetFloor$Vehicle"))) ∈ bg := bg_m1 179 rfl rfl
theorem tw_180 : (Jvm.Cond.methodLink "FleetFloor" (149 : Nat) ({ cls := "FleetFloor$Vehicle", name := "take", desc := "(LFleetFloor$Letter;)V" } : Jvm.MethodName)) ∈ bg := bg_m1 180 rfl rfl
theorem tw_181 : (Jvm.Cond.instanceMethod ({ cls := "FleetFloor$Vehicle", name := "take", desc := "(LFleetFloor$Letter;)V" } : Jvm.MethodName)) ∈ bg := bg_m1 181 rfl rfl
theorem tw_182 : (Jvm.Cond.selects "FleetFloor$Vehicle" ({ cls := "FleetFloor$Vehicle", name := "take", desc := "(LFleetFloor$Letter;)V" } : Jvm.MethodName) ({ cls := "FleetFloor$Vehicle", name := "take", desc := "(LFleetFloor$Letter;)V" } : Jvm.MethodName)) ∈ bg := bg_m1 182 rfl rfl
theorem tw_183 : (Jvm.Cond.code ({ cls := "FleetFloor$Vehicle", name := "take", desc := "(LFleetFloor$Letter;)V" } : Jvm.MethodName) prog_9_method_6_code (2 : Nat) (Option.none : Option Jvm.ClassFile.FieldType)) ∈ bg := bg_m1 183 rfl rfl
theorem tw_184 : (Jvm.Cond.methodLink "FleetFloor$Vehicle" (63 : Nat) ({ cls := "FleetFloor$Letter", name := "kind", desc := "()I" } : Jvm.MethodName)) ∈ bg := bg_m1 184 rfl rfl
theorem tw_185 : (Jvm.Cond.methodLink "FleetFloor$Vehicle" (68 : Nat) ({ cls := "FleetFloor$Letter", name := "number", desc := "()I" } : Jvm.MethodName)) ∈ bg := bg_m1 185 rfl rfl
theorem tw_186 : (Jvm.Cond.methodLink "FleetFloor$Vehicle" (70 : Nat) ({ cls := "java/lang/Math", name := "max", desc := "(II)I" } : Jvm.MethodName)) ∈ bg := bg_m1 186 rfl rfl
theorem tw_187 : (Jvm.Cond.static ({ cls := "java/lang/Math", name := "max", desc := "(II)I" } : Jvm.MethodName)) ∈ bg := bg_m1 187 rfl rfl
theorem tw_188 : (Jvm.Cond.code ({ cls := "java/lang/Math", name := "max", desc := "(II)I" } : Jvm.MethodName) prog_18_method_65_code (2 : Nat) (Option.some Jvm.ClassFile.FieldType.int)) ∈ bg := bg_m1 188 rfl rfl
theorem tw_189 : (Jvm.Cond.methodLink "FleetFloor" (153 : Nat) ({ cls := "FleetFloor$Air", name := "remove", desc := "(I)Z" } : Jvm.MethodName)) ∈ bg := bg_m1 189 rfl rfl
theorem tw_190 : (Jvm.Cond.instanceMethod ({ cls := "FleetFloor$Air", name := "remove", desc := "(I)Z" } : Jvm.MethodName)) ∈ bg := bg_m1 190 rfl rfl
theorem tw_191 : (Jvm.Cond.selects "FleetFloor$Air" ({ cls := "FleetFloor$Air", name := "remove", desc := "(I)Z" } : Jvm.MethodName) ({ cls := "FleetFloor$Air", name := "remove", desc := "(I)Z" } : Jvm.MethodName)) ∈ bg := bg_m1 191 rfl rfl
theorem tw_192 : (Jvm.Cond.code ({ cls := "FleetFloor$Air", name := "remove", desc := "(I)Z" } : Jvm.MethodName) prog_2_method_5_code (2 : Nat) (Option.some Jvm.ClassFile.FieldType.boolean)) ∈ bg := bg_m1 192 rfl rfl
theorem tw_193 : (Jvm.Cond.methodLink "FleetFloor$Air" (32 : Nat) ({ cls := "java/util/ArrayList", name := "remove", desc := "(I)Ljava/lang/Object;" } : Jvm.MethodName)) ∈ bg := bg_m1 193 rfl rfl
theorem tw_194 : (Jvm.Cond.instanceMethod ({ cls := "java/util/ArrayList", name := "remove", desc := "(I)Ljava/lang/Object;" } : Jvm.MethodName)) ∈ bg := bg_m1 194 rfl rfl
theorem tw_195 : (Jvm.Cond.selects "java/util/ArrayList" ({ cls := "java/util/ArrayList", name := "remove", desc := "(I)Ljava/lang/Object;" } : Jvm.MethodName) ({ cls := "java/util/ArrayList", name := "remove", desc := "(I)Ljava/lang/Object;" } : Jvm.MethodName)) ∈ bg := bg_m1 195 rfl rfl
theorem tw_196 : (Jvm.Cond.code ({ cls := "java/util/ArrayList", name := "remove", desc := "(I)Ljava/lang/Object;" } : Jvm.MethodName) prog_26_method_29_code (4 : Nat) (Option.some (Jvm.ClassFile.FieldType.object "java/lang/Object"))) ∈ bg := bg_m1 196 rfl rfl
theorem tw_197 : (Jvm.Cond.methodLink "java/util/ArrayList" (144 : Nat) ({ cls := "java/util/ArrayList", name := "fastRemove", desc := "([Ljava/lang/Object;I)V" } : Jvm.MethodName)) ∈ bg := bg_m1 197 rfl rfl
theorem tx_198 : (Jvm.Cond.privateMethod ({ cls := "java/util/ArrayList", name := "fastRemove", desc := "([Ljava/lang/Object;I)V" } : Jvm.MethodName)) ∈ lw_tbl := tb_m1 198 rfl
theorem tw_199 : (Jvm.Cond.instanceMethod ({ cls := "java/util/ArrayList", name := "fastRemove", desc := "([Ljava/lang/Object;I)V" } : Jvm.MethodName)) ∈ bg := bg_m1 199 rfl rfl
theorem tw_200 : (Jvm.Cond.code ({ cls := "java/util/ArrayList", name := "fastRemove", desc := "([Ljava/lang/Object;I)V" } : Jvm.MethodName) prog_26_method_39_code (4 : Nat) (Option.none : Option Jvm.ClassFile.FieldType)) ∈ bg := bg_m1 200 rfl rfl
theorem tw_201 : (Jvm.Cond.methodLink "java/util/ArrayList" (112 : Nat) ({ cls := "java/lang/System", name := "arraycopy", desc := "(Ljava/lang/Object;ILjava/lang/Object;II)V" } : Jvm.MethodName)) ∈ bg := bg_m1 201 rfl rfl
theorem tw_202 : (Jvm.Cond.static ({ cls := "java/lang/System", name := "arraycopy", desc := "(Ljava/lang/Object;ILjava/lang/Object;II)V" } : Jvm.MethodName)) ∈ bg := bg_m1 202 rfl rfl
theorem tw_203 : (Jvm.Cond.native ({ cls := "java/lang/System", name := "arraycopy", desc := "(Ljava/lang/Object;ILjava/lang/Object;II)V" } : Jvm.MethodName)) ∈ bg := bg_m1 203 rfl rfl
theorem tw_204 : (Jvm.Cond.methodLink "FleetFloorLaw" (62 : Nat) ({ cls := "FleetFloor", name := "lose", desc := "(I)Z" } : Jvm.MethodName)) ∈ bg := bg_m1 204 rfl rfl
theorem tw_205 : (Jvm.Cond.instanceMethod ({ cls := "FleetFloor", name := "lose", desc := "(I)Z" } : Jvm.MethodName)) ∈ bg := bg_m1 205 rfl rfl
theorem tw_206 : (Jvm.Cond.selects "FleetFloor" ({ cls := "FleetFloor", name := "lose", desc := "(I)Z" } : Jvm.MethodName) ({ cls := "FleetFloor", name := "lose", desc := "(I)Z" } : Jvm.MethodName)) ∈ bg := bg_m1 206 rfl rfl
theorem tw_207 : (Jvm.Cond.code ({ cls := "FleetFloor", name := "lose", desc := "(I)Z" } : Jvm.MethodName) prog_1_method_9_code (2 : Nat) (Option.some Jvm.ClassFile.FieldType.boolean)) ∈ bg := bg_m1 207 rfl rfl
theorem tw_208 : (Jvm.Cond.methodLink "FleetFloorLaw" (66 : Nat) ({ cls := "FleetFloor", name := "twin", desc := "(I)Z" } : Jvm.MethodName)) ∈ bg := bg_m1 208 rfl rfl
theorem tw_209 : (Jvm.Cond.instanceMethod ({ cls := "FleetFloor", name := "twin", desc := "(I)Z" } : Jvm.MethodName)) ∈ bg := bg_m1 209 rfl rfl
theorem tw_210 : (Jvm.Cond.selects "FleetFloor" ({ cls := "FleetFloor", name := "twin", desc := "(I)Z" } : Jvm.MethodName) ({ cls := "FleetFloor", name := "twin", desc := "(I)Z" } : Jvm.MethodName)) ∈ bg := bg_m1 210 rfl rfl
theorem tw_211 : (Jvm.Cond.code ({ cls := "FleetFloor", name := "twin", desc := "(I)Z" } : Jvm.MethodName) prog_1_method_10_code (3 : Nat) (Option.some Jvm.ClassFile.FieldType.boolean)) ∈ bg := bg_m1 211 rfl rfl
theorem tw_212 : (Jvm.Cond.methodLink "FleetFloor" (156 : Nat) ({ cls := "FleetFloor$Air", name := "send", desc := "(LFleetFloor$Letter;)Z" } : Jvm.MethodName)) ∈ bg := bg_m1 212 rfl rfl
theorem tw_213 : (Jvm.Cond.instanceMethod ({ cls := "FleetFloor$Air", name := "send", desc := "(LFleetFloor$Letter;)Z" } : Jvm.MethodName)) ∈ bg := bg_m1 213 rfl rfl
theorem tw_214 : (Jvm.Cond.selects "FleetFloor$Air" ({ cls := "FleetFloor$Air", name := "send", desc := "(LFleetFloor$Letter;)Z" } : Jvm.MethodName) ({ cls := "FleetFloor$Air", name := "send", desc := "(LFleetFloor$Letter;)Z" } : Jvm.MethodName)) ∈ bg := bg_m1 214 rfl rfl
theorem tw_215 : (Jvm.Cond.code ({ cls := "FleetFloor$Air", name := "send", desc := "(LFleetFloor$Letter;)Z" } : Jvm.MethodName) prog_2_method_4_code (2 : Nat) (Option.some Jvm.ClassFile.FieldType.boolean)) ∈ bg := bg_m1 215 rfl rfl
theorem tw_216 : (Jvm.Cond.methodLink "FleetFloor$Air" (28 : Nat) ({ cls := "java/util/ArrayList", name := "add", desc := "(Ljava/lang/Object;)Z" } : Jvm.MethodName)) ∈ bg := bg_m1 216 rfl rfl
theorem tw_217 : (Jvm.Cond.instanceMethod ({ cls := "java/util/ArrayList", name := "add", desc := "(Ljava/lang/Object;)Z" } : Jvm.MethodName)) ∈ bg := bg_m1 217 rfl rfl
theorem tw_218 : (Jvm.Cond.selects "java/util/ArrayList" ({ cls := "java/util/ArrayList", name := "add", desc := "(Ljava/lang/Object;)Z" } : Jvm.MethodName) ({ cls := "java/util/ArrayList", name := "add", desc := "(Ljava/lang/Object;)Z" } : Jvm.MethodName)) ∈ bg := bg_m1 218 rfl rfl
theorem tw_219 : (Jvm.Cond.code ({ cls := "java/util/ArrayList", name := "add", desc := "(Ljava/lang/Object;)Z" } : Jvm.MethodName) prog_26_method_25_code (2 : Nat) (Option.some Jvm.ClassFile.FieldType.boolean)) ∈ bg := bg_m1 219 rfl rfl
theorem tw_220 : (Jvm.Cond.methodLink "java/util/ArrayList" (131 : Nat) ({ cls := "java/util/ArrayList", name := "add", desc := "(Ljava/lang/Object;[Ljava/lang/Object;I)V" } : Jvm.MethodName)) ∈ bg := bg_m1 220 rfl rfl
theorem tx_221 : (Jvm.Cond.privateMethod ({ cls := "java/util/ArrayList", name := "add", desc := "(Ljava/lang/Object;[Ljava/lang/Object;I)V" } : Jvm.MethodName)) ∈ lw_tbl := tb_m1 221 rfl
theorem tw_222 : (Jvm.Cond.instanceMethod ({ cls := "java/util/ArrayList", name := "add", desc := "(Ljava/lang/Object;[Ljava/lang/Object;I)V" } : Jvm.MethodName)) ∈ bg := bg_m1 222 rfl rfl
theorem tw_223 : (Jvm.Cond.code ({ cls := "java/util/ArrayList", name := "add", desc := "(Ljava/lang/Object;[Ljava/lang/Object;I)V" } : Jvm.MethodName) prog_26_method_24_code (4 : Nat) (Option.none : Option Jvm.ClassFile.FieldType)) ∈ bg := bg_m1 223 rfl rfl
theorem tw_224 : (Jvm.Cond.methodLink "java/util/ArrayList" (129 : Nat) ({ cls := "java/util/ArrayList", name := "grow", desc := "()[Ljava/lang/Object;" } : Jvm.MethodName)) ∈ bg := bg_m1 224 rfl rfl
theorem tx_225 : (Jvm.Cond.privateMethod ({ cls := "java/util/ArrayList", name := "grow", desc := "()[Ljava/lang/Object;" } : Jvm.MethodName)) ∈ lw_tbl := tb_m1 225 rfl
theorem tw_226 : (Jvm.Cond.instanceMethod ({ cls := "java/util/ArrayList", name := "grow", desc := "()[Ljava/lang/Object;" } : Jvm.MethodName)) ∈ bg := bg_m1 226 rfl rfl
theorem tw_227 : (Jvm.Cond.code ({ cls := "java/util/ArrayList", name := "grow", desc := "()[Ljava/lang/Object;" } : Jvm.MethodName) prog_26_method_7_code (1 : Nat) (Option.some (Jvm.ClassFile.FieldType.array (Jvm.ClassFile.FieldType.object "java/lang/Object")))) ∈ bg := bg_m1 227 rfl rfl
theorem tw_228 : (Jvm.Cond.methodLink "java/util/ArrayList" (69 : Nat) ({ cls := "java/util/ArrayList", name := "grow", desc := "(I)[Ljava/lang/Object;" } : Jvm.MethodName)) ∈ bg := bg_m1 228 rfl rfl
theorem tx_229 : (Jvm.Cond.privateMethod ({ cls := "java/util/ArrayList", name := "grow", desc := "(I)[Ljava/lang/Object;" } : Jvm.MethodName)) ∈ lw_tbl := tb_m1 229 rfl
theorem tw_230 : (Jvm.Cond.instanceMethod ({ cls := "java/util/ArrayList", name := "grow", desc := "(I)[Ljava/lang/Object;" } : Jvm.MethodName)) ∈ bg := bg_m1 230 rfl rfl
theorem tw_231 : (Jvm.Cond.code ({ cls := "java/util/ArrayList", name := "grow", desc := "(I)[Ljava/lang/Object;" } : Jvm.MethodName) prog_26_method_6_code (4 : Nat) (Option.some (Jvm.ClassFile.FieldType.array (Jvm.ClassFile.FieldType.object "java/lang/Object")))) ∈ bg := bg_m1 231 rfl rfl
theorem tw_232 : (Jvm.Cond.methodLink "java/util/ArrayList" (73 : Nat) ({ cls := "jdk/internal/util/ArraysSupport", name := "newLength", desc := "(III)I" } : Jvm.MethodName)) ∈ bg := bg_m1 232 rfl rfl
theorem tw_233 : (Jvm.Cond.static ({ cls := "jdk/internal/util/ArraysSupport", name := "newLength", desc := "(III)I" } : Jvm.MethodName)) ∈ bg := bg_m1 233 rfl rfl
theorem tw_234 : (Jvm.Cond.code ({ cls := "jdk/internal/util/ArraysSupport", name := "newLength", desc := "(III)I" } : Jvm.MethodName) prog_33_method_27_code (4 : Nat) (Option.some Jvm.ClassFile.FieldType.int)) ∈ bg := bg_m1 234 rfl rfl
theorem tw_235 : (Jvm.Cond.methodLink "jdk/internal/util/ArraysSupport" (194 : Nat) ({ cls := "java/lang/Math", name := "max", desc := "(II)I" } : Jvm.MethodName)) ∈ bg := bg_m1 235 rfl rfl
theorem tw_236 : (Jvm.Cond.constant "jdk/internal/util/ArraysSupport" (200 : Nat) (2147483639 : Int32)) ∈ bg := bg_m1 236 rfl rfl
theorem tw_237 : (Jvm.Cond.methodLink "jdk/internal/util/ArraysSupport" (201 : Nat) ({ cls := "jdk/internal/util/ArraysSupport", name := "hugeLength", desc := "(II)I" } : Jvm.MethodName)) ∈ bg := bg_m1 237 rfl rfl
theorem tw_238 : (Jvm.Cond.static ({ cls := "jdk/internal/util/ArraysSupport", name := "hugeLength", desc := "(II)I" } : Jvm.MethodName)) ∈ bg := bg_m1 238 rfl rfl
theorem tw_239 : (Jvm.Cond.code ({ cls := "jdk/internal/util/ArraysSupport", name := "hugeLength", desc := "(II)I" } : Jvm.MethodName) prog_33_method_28_code (3 : Nat) (Option.some Jvm.ClassFile.FieldType.int)) ∈ bg := bg_m1 239 rfl rfl
theorem tw_240 : (Jvm.Cond.methodLink "java/util/ArrayList" (66 : Nat) ({ cls := "java/util/Arrays", name := "copyOf", desc := "([Ljava/lang/Object;I)[Ljava/lang/Object;" } : Jvm.MethodName)) ∈ bg := bg_m2 0 rfl rfl
theorem tw_241 : (Jvm.Cond.static ({ cls := "java/util/Arrays", name := "copyOf", desc := "([Ljava/lang/Object;I)[Ljava/lang/Object;" } : Jvm.MethodName)) ∈ bg := bg_m2 1 rfl rfl
theorem tw_242 : (Jvm.Cond.code ({ cls := "java/util/Arrays", name := "copyOf", desc := "([Ljava/lang/Object;I)[Ljava/lang/Object;" } : Jvm.MethodName) prog_27_method_119_code (2 : Nat) (Option.some (Jvm.ClassFile.FieldType.array (Jvm.ClassFile.FieldType.object "java/lang/Object")))) ∈ bg := bg_m2 2 rfl rfl
theorem tw_243 : (Jvm.Cond.methodLink "java/util/Arrays" (86 : Nat) ({ cls := "java/lang/Object", name := "getClass", desc := "()Ljava/lang/Class;" } : Jvm.MethodName)) ∈ bg := bg_m2 3 rfl rfl
theorem tw_244 : (Jvm.Cond.instanceMethod ({ cls := "java/lang/Object", name := "getClass", desc := "()Ljava/lang/Class;" } : Jvm.MethodName)) ∈ bg := bg_m2 4 rfl rfl
theorem tw_245 : (Jvm.Cond.sameMethod "java/lang/Object" "java/lang/Object" "getClass" "()Ljava/lang/Class;") ∈ bg := bg_m2 5 rfl rfl
theorem tw_246 : (Jvm.Cond.selects "FleetFloor" ({ cls := "java/lang/Object", name := "getClass", desc := "()Ljava/lang/Class;" } : Jvm.MethodName) ({ cls := "java/lang/Object", name := "getClass", desc := "()Ljava/lang/Class;" } : Jvm.MethodName)) ∈ bg := bg_m2 6 rfl rfl
theorem tw_247 : (Jvm.Cond.selects "FleetFloor$Air" ({ cls := "java/lang/Object", name := "getClass", desc := "()Ljava/lang/Class;" } : Jvm.MethodName) ({ cls := "java/lang/Object", name := "getClass", desc := "()Ljava/lang/Class;" } : Jvm.MethodName)) ∈ bg := bg_m2 7 rfl rfl
theorem tw_248 : (Jvm.Cond.selects "FleetFloor$Cells" ({ cls := "java/lang/Object", name := "getClass", desc := "()Ljava/lang/Class;" } : Jvm.MethodName) ({ cls := "java/lang/Object", name := "getClass", desc := "()Ljava/lang/Class;" } : Jvm.MethodName)) ∈ bg := bg_m2 8 rfl rfl
theorem tw_249 : (Jvm.Cond.selects "FleetFloor$FloorMap" ({ cls := "java/lang/Object", name := "getClass", desc := "()Ljava/lang/Class;" } : Jvm.MethodName) ({ cls := "java/lang/Object", name := "getClass", desc := "()Ljava/lang/Class;" } : Jvm.MethodName)) ∈ bg := bg_m2 9 rfl rfl
theorem tw_250 : (Jvm.Cond.selects "FleetFloor$Letter" ({ cls := "java/lang/Object", name := "getClass", desc := "()Ljava/lang/Class;" } : Jvm.MethodName) ({ cls := "java/lang/Object", name := "getClass", desc := "()Ljava/lang/Class;" } : Jvm.MethodName)) ∈ bg := bg_m2 10 rfl rfl
theorem tw_251 : (Jvm.Cond.selects "FleetFloor$Move" ({ cls := "java/lang/Object", name := "getClass", desc := "()Ljava/lang/Class;" } : Jvm.MethodName) ({ cls := "java/lang/Object", name := "getClass", desc := "()Ljava/lang/Class;" } : Jvm.MethodName)) ∈ bg := bg_m2 11 rfl rfl
theorem tw_252 : (Jvm.Cond.selects "FleetFloor$Planner" ({ cls := "java/lang/Object", name := "getClass", desc := "()Ljava/lang/Class;" } : Jvm.MethodName) ({ cls := "java/lang/Object", name := "getClass", desc := "()Ljava/lang/Class;" } : Jvm.MethodName)) ∈ bg := bg_m2 12 rfl rfl
theorem tw_253 : (Jvm.Cond.selects "FleetFloor$Task" ({ cls := "java/lang/Object", name := "getClass", desc := "()Ljava/lang/Class;" } : Jvm.MethodName) ({ cls := "java/lang/Object", name := "getClass", desc := "()Ljava/lang/Class;" } : Jvm.MethodName)) ∈ bg := bg_m2 13 rfl rfl
theorem tw_254 : (Jvm.Cond.selects "FleetFloor$Vehicle" ({ cls := "java/lang/Object", name := "getClass", desc := "()Ljava/lang/Class;" } : Jvm.MethodName) ({ cls := "java/lang/Object", name := "getClass", desc := "()Ljava/lang/Class;" } : Jvm.MethodName)) ∈ bg := bg_m2 14 rfl rfl
theorem tw_255 : (Jvm.Cond.selects "FleetFloorModel" ({ cls := "java/lang/Object", name := "getClass", desc := "()Ljava/lang/Class;" } : Jvm.MethodName) ({ cls := "java/lang/Object", name := "getClass", desc := "()Ljava/lang/Class;" } : Jvm.MethodName)) ∈ bg := bg_m2 15 rfl rfl
theorem tw_256 : (Jvm.Cond.selects "java/lang/IllegalArgumentException" ({ cls := "java/lang/Object", name := "getClass", desc := "()Ljava/lang/Class;" } : Jvm.MethodName) ({ cls := "java/lang/Object", name := "getClass", desc := "()Ljava/lang/Class;" } : Jvm.MethodName)) ∈ bg := bg_m2 16 rfl rfl
theorem tw_257 : (Jvm.Cond.selects "java/lang/IllegalStateException" ({ cls := "java/lang/Object", name := "getClass", desc := "()Ljava/lang/Class;" } : Jvm.MethodName) ({ cls := "java/lang/Object", name := "getClass", desc := "()Ljava/lang/Class;" } : Jvm.MethodName)) ∈ bg := bg_m2 17 rfl rfl
theorem tw_258 : (Jvm.Cond.selects "java/util/ArrayList" ({ cls := "java/lang/Object", name := "getClass", desc := "()Ljava/lang/Class;" } : Jvm.MethodName) ({ cls := "java/lang/Object", name := "getClass", desc := "()Ljava/lang/Class;" } : Jvm.MethodName)) ∈ bg := bg_m2 18 rfl rfl
theorem tw_259 : (Jvm.Cond.native ({ cls := "java/lang/Object", name := "getClass", desc := "()Ljava/lang/Class;" } : Jvm.MethodName)) ∈ bg := bg_m2 19 rfl rfl
theorem tw_260 : (Jvm.Cond.methodLink "java/util/Arrays" (300 : Nat) ({ cls := "java/util/Arrays", name := "copyOf", desc := "([Ljava/lang/Object;ILjava/lang/Class;)[Ljava/lang/Object;" } : Jvm.MethodName)) ∈ bg := bg_m2 20 rfl rfl
theorem tw_261 : (Jvm.Cond.static ({ cls := "java/util/Arrays", name := "copyOf", desc := "([Ljava/lang/Object;ILjava/lang/Class;)[Ljava/lang/Object;" } : Jvm.MethodName)) ∈ bg := bg_m2 21 rfl rfl
theorem tw_262 : (Jvm.Cond.code ({ cls := "java/util/Arrays", name := "copyOf", desc := "([Ljava/lang/Object;ILjava/lang/Class;)[Ljava/lang/Object;" } : Jvm.MethodName) prog_27_method_120_code (4 : Nat) (Option.some (Jvm.ClassFile.FieldType.array (Jvm.ClassFile.FieldType.object "java/lang/Object")))) ∈ bg := bg_m2 22 rfl rfl
theorem tw_263 : (Jvm.Cond.classLink "java/util/Arrays" (110 : Nat) "[Ljava/lang/Object;") ∈ bg := bg_m2 23 rfl rfl
theorem tx_264 : (Jvm.Cond.arrayOver (Jvm.ClassFile.FieldType.object "java/lang/Object")) ∈ lw_tbl := tb_m2 24 rfl
theorem tw_265 : (Jvm.Cond.classLink "java/util/Arrays" (2 : Nat) "java/lang/Object") ∈ bg := bg_m2 25 rfl rfl
theorem tw_266 : (Jvm.Cond.methodLink "java/util/Arrays" (304 : Nat) ({ cls := "java/lang/Math", name := "min", desc := "(II)I" } : Jvm.MethodName)) ∈ bg := bg_m2 26 rfl rfl
theorem tw_267 : (Jvm.Cond.static ({ cls := "java/lang/Math", name := "min", desc := "(II)I" } : Jvm.MethodName)) ∈ bg := bg_m2 27 rfl rfl
theorem tw_268 : (Jvm.Cond.code ({ cls := "java/lang/Math", name := "min", desc := "(II)I" } : Jvm.MethodName) prog_18_method_69_code (2 : Nat) (Option.some Jvm.ClassFile.FieldType.int)) ∈ bg := bg_m2 28 rfl rfl
theorem tw_269 : (Jvm.Cond.methodLink "java/util/Arrays" (150 : Nat) ({ cls := "java/lang/System", name := "arraycopy", desc := "(Ljava/lang/Object;ILjava/lang/Object;II)V" } : Jvm.MethodName)) ∈ bg := bg_m2 29 rfl rfl
theorem tw_270 : (Jvm.Cond.methodLink "java/util/ArrayList" (79 : Nat) ({ cls := "java/lang/Math", name := "max", desc := "(II)I" } : Jvm.MethodName)) ∈ bg := bg_m2 30 rfl rfl
theorem tw_271 : (Jvm.Cond.classLink "java/util/ArrayList" (7 : Nat) "java/lang/Object") ∈ bg := bg_m2 31 rfl rfl
theorem tw_272 : (Jvm.Cond.methodLink "FleetFloorLaw" (70 : Nat) ({ cls := "FleetFloor", name := "vehicle", desc := "(II)I" } : Jvm.MethodName)) ∈ bg := bg_m2 32 rfl rfl
theorem tw_273 : (Jvm.Cond.instanceMethod ({ cls := "FleetFloor", name := "vehicle", desc := "(II)I" } : Jvm.MethodName)) ∈ bg := bg_m2 33 rfl rfl
theorem tw_274 : (Jvm.Cond.selects "FleetFloor" ({ cls := "FleetFloor", name := "vehicle", desc := "(II)I" } : Jvm.MethodName) ({ cls := "FleetFloor", name := "vehicle", desc := "(II)I" } : Jvm.MethodName)) ∈ bg := bg_m2 34 rfl rfl
theorem tw_275 : (Jvm.Cond.code ({ cls := "FleetFloor", name := "vehicle", desc := "(II)I" } : Jvm.MethodName) prog_1_method_11_code (4 : Nat) (Option.some Jvm.ClassFile.FieldType.int)) ∈ bg := bg_m2 35 rfl rfl
theorem tw_276 : (Jvm.Cond.methodLink "FleetFloor" (163 : Nat) ({ cls := "FleetFloor$Vehicle", name := "placeAfter", desc := "(I)I" } : Jvm.MethodName)) ∈ bg := bg_m2 36 rfl rfl
theorem tw_277 : (Jvm.Cond.instanceMethod ({ cls := "FleetFloor$Vehicle", name := "placeAfter", desc := "(I)I" } : Jvm.MethodName)) ∈ bg := bg_m2 37 rfl rfl
theorem tw_278 : (Jvm.Cond.selects "FleetFloor$Vehicle" ({ cls := "FleetFloor$Vehicle", name := "placeAfter", desc := "(I)I" } : Jvm.MethodName) ({ cls := "FleetFloor$Vehicle", name := "placeAfter", desc := "(I)I" } : Jvm.MethodName)) ∈ bg := bg_m2 38 rfl rfl
theorem tw_279 : (Jvm.Cond.code ({ cls := "FleetFloor$Vehicle", name := "placeAfter", desc := "(I)I" } : Jvm.MethodName) prog_9_method_4_code (2 : Nat) (Option.some Jvm.ClassFile.FieldType.int)) ∈ bg := bg_m2 39 rfl rfl
theorem tw_280 : (Jvm.Cond.methodLink "FleetFloor$Vehicle" (47 : Nat) ({ cls := "java/util/ArrayList", name := "size", desc := "()I" } : Jvm.MethodName)) ∈ bg := bg_m2 40 rfl rfl
theorem tw_281 : (Jvm.Cond.methodLink "FleetFloor$Vehicle" (51 : Nat) ({ cls := "java/util/ArrayList", name := "get", desc := "(I)Ljava/lang/Object;" } : Jvm.MethodName)) ∈ bg := bg_m2 41 rfl rfl
theorem tw_282 : (Jvm.Cond.classLink "FleetFloor$Vehicle" (55 : Nat) "FleetFloor$Move") ∈ bg := bg_m2 42 rfl rfl
theorem tw_283 : (Jvm.Cond.methodLink "FleetFloor$Vehicle" (57 : Nat) ({ cls := "FleetFloor$Move", name := "place", desc := "()I" } : Jvm.MethodName)) ∈ bg := bg_m2 43 rfl rfl
theorem tw_284 : (Jvm.Cond.instanceMethod ({ cls := "FleetFloor$Move", name := "place", desc := "()I" } : Jvm.MethodName)) ∈ bg := bg_m2 44 rfl rfl
theorem tw_285 : (Jvm.Cond.selects "FleetFloor$Move" ({ cls := "FleetFloor$Move", name := "place", desc := "()I" } : Jvm.MethodName) ({ cls := "FleetFloor$Move", name := "place", desc := "()I" } : Jvm.MethodName)) ∈ bg := bg_m2 45 rfl rfl
theorem tw_286 : (Jvm.Cond.code ({ cls := "FleetFloor$Move", name := "place", desc := "()I" } : Jvm.MethodName) prog_6_method_5_code (1 : Nat) (Option.some Jvm.ClassFile.FieldType.int)) ∈ bg := bg_m2 46 rfl rfl
theorem tw_287 : (Jvm.Cond.methodLink "FleetFloor" (96 : Nat) ({ cls := "java/util/ArrayList", name := "size", desc := "()I" } : Jvm.MethodName)) ∈ bg := bg_m2 47 rfl rfl
theorem tw_288 : (Jvm.Cond.methodLink "FleetFloorLaw" (74 : Nat) ({ cls := "FleetFloor", name := "move", desc := "(III)I" } : Jvm.MethodName)) ∈ bg := bg_m2 48 rfl rfl
theorem tw_289 : (Jvm.Cond.instanceMethod ({ cls := "FleetFloor", name := "move", desc := "(III)I" } : Jvm.MethodName)) ∈ bg := bg_m2 49 rfl rfl
theorem tw_290 : (Jvm.Cond.selects "FleetFloor" ({ cls := "FleetFloor", name := "move", desc := "(III)I" } : Jvm.MethodName) ({ cls := "FleetFloor", name := "move", desc := "(III)I" } : Jvm.MethodName)) ∈ bg := bg_m2 50 rfl rfl
theorem tw_291 : (Jvm.Cond.code ({ cls := "FleetFloor", name := "move", desc := "(III)I" } : Jvm.MethodName) prog_1_method_12_code (6 : Nat) (Option.some Jvm.ClassFile.FieldType.int)) ∈ bg := bg_m2 51 rfl rfl
theorem tw_292 : (Jvm.Cond.methodLink "FleetFloor" (182 : Nat) ({ cls := "java/util/ArrayList", name := "get", desc := "(I)Ljava/lang/Object;" } : Jvm.MethodName)) ∈ bg := bg_m2 52 rfl rfl
theorem tw_293 : (Jvm.Cond.classLink "FleetFloor" (186 : Nat) "FleetFloor$Move") ∈ bg := bg_m2 53 rfl rfl
theorem tw_294 : (Jvm.Cond.methodLink "FleetFloor" (188 : Nat) ({ cls := "FleetFloor$Move", name := "place", desc := "()I" } : Jvm.MethodName)) ∈ bg := bg_m2 54 rfl rfl
theorem tw_295 : (Jvm.Cond.methodLink "FleetFloor" (191 : Nat) ({ cls := "FleetFloor$Move", name := "time", desc := "()I" } : Jvm.MethodName)) ∈ bg := bg_m2 55 rfl rfl
theorem tw_296 : (Jvm.Cond.instanceMethod ({ cls := "FleetFloor$Move", name := "time", desc := "()I" } : Jvm.MethodName)) ∈ bg := bg_m2 56 rfl rfl
theorem tw_297 : (Jvm.Cond.selects "FleetFloor$Move" ({ cls := "FleetFloor$Move", name := "time", desc := "()I" } : Jvm.MethodName) ({ cls := "FleetFloor$Move", name := "time", desc := "()I" } : Jvm.MethodName)) ∈ bg := bg_m2 57 rfl rfl
theorem tw_298 : (Jvm.Cond.code ({ cls := "FleetFloor$Move", name := "time", desc := "()I" } : Jvm.MethodName) prog_6_method_6_code (1 : Nat) (Option.some Jvm.ClassFile.FieldType.int)) ∈ bg := bg_m2 58 rfl rfl
theorem tw_299 : (Jvm.Cond.methodLink "FleetFloorLaw" (79 : Nat) ({ cls := "FleetFloor", name := "taskOf", desc := "(II)I" } : Jvm.MethodName)) ∈ bg := bg_m2 59 rfl rfl
theorem tw_300 : (Jvm.Cond.instanceMethod ({ cls := "FleetFloor", name := "taskOf", desc := "(II)I" } : Jvm.MethodName)) ∈ bg := bg_m2 60 rfl rfl
theorem tw_301 : (Jvm.Cond.selects "FleetFloor" ({ cls := "FleetFloor", name := "taskOf", desc := "(II)I" } : Jvm.MethodName) ({ cls := "FleetFloor", name := "taskOf", desc := "(II)I" } : Jvm.MethodName)) ∈ bg := bg_m2 61 rfl rfl
theorem tw_302 : (Jvm.Cond.code ({ cls := "FleetFloor", name := "taskOf", desc := "(II)I" } : Jvm.MethodName) prog_1_method_13_code (4 : Nat) (Option.some Jvm.ClassFile.FieldType.int)) ∈ bg := bg_m2 62 rfl rfl
theorem tw_303 : (Jvm.Cond.classLink "FleetFloor" (108 : Nat) "FleetFloor$Task") ∈ bg := bg_m2 63 rfl rfl
theorem tw_304 : (Jvm.Cond.methodLink "FleetFloorLaw" (83 : Nat) ({ cls := "FleetFloor", name := "count", desc := "(I)I" } : Jvm.MethodName)) ∈ bg := bg_m2 64 rfl rfl
theorem tw_305 : (Jvm.Cond.instanceMethod ({ cls := "FleetFloor", name := "count", desc := "(I)I" } : Jvm.MethodName)) ∈ bg := bg_m2 65 rfl rfl
theorem tw_306 : (Jvm.Cond.selects "FleetFloor" ({ cls := "FleetFloor", name := "count", desc := "(I)I" } : Jvm.MethodName) ({ cls := "FleetFloor", name := "count", desc := "(I)I" } : Jvm.MethodName)) ∈ bg := bg_m2 66 rfl rfl
theorem tw_307 : (Jvm.Cond.code ({ cls := "FleetFloor", name := "count", desc := "(I)I" } : Jvm.MethodName) prog_1_method_14_code (2 : Nat) (Option.some Jvm.ClassFile.FieldType.int)) ∈ bg := bg_m2 67 rfl rfl
theorem tw_308 : (Jvm.Cond.methodLink "FleetFloorLaw" (33 : Nat) ({ cls := "FleetFloorLaw", name := "open", desc := "(LFleetFloor;[J)I" } : Jvm.MethodName)) ∈ bg := bg_m2 68 rfl rfl
theorem tw_309 : (Jvm.Cond.static ({ cls := "FleetFloorLaw", name := "open", desc := "(LFleetFloor;[J)I" } : Jvm.MethodName)) ∈ bg := bg_m2 69 rfl rfl
theorem tw_310 : (Jvm.Cond.codeWith ({ cls := "FleetFloorLaw", name := "open", desc := "(LFleetFloor;[J)I" } : Jvm.MethodName) method_3_code (3 : Nat) (Option.some Jvm.ClassFile.FieldType.int) [((0 : Nat), (8 : Nat), (11 : Nat), (13 : Nat)), ((0 : Nat), (8 : Nat), (14 : Nat), (15 : Nat))]) ∈ bg := bg_m2 70 rfl rfl
theorem tw_311 : (Jvm.Cond.classLink "FleetFloorLaw" (13 : Nat) "java/lang/IllegalArgumentException") ∈ bg := bg_m2 71 rfl rfl
theorem tw_312 : (Jvm.Cond.classLink "FleetFloorLaw" (15 : Nat) "java/lang/IllegalStateException") ∈ bg := bg_m2 72 rfl rfl
theorem tw_313 : (Jvm.Cond.methodLink "FleetFloorLaw" (7 : Nat) ({ cls := "FleetFloor", name := "open", desc := "()I" } : Jvm.MethodName)) ∈ bg := bg_m2 73 rfl rfl
theorem tw_314 : (Jvm.Cond.instanceMethod ({ cls := "FleetFloor", name := "open", desc := "()I" } : Jvm.MethodName)) ∈ bg := bg_m2 74 rfl rfl
theorem tw_315 : (Jvm.Cond.selects "FleetFloor" ({ cls := "FleetFloor", name := "open", desc := "()I" } : Jvm.MethodName) ({ cls := "FleetFloor", name := "open", desc := "()I" } : Jvm.MethodName)) ∈ bg := bg_m2 75 rfl rfl
theorem tw_316 : (Jvm.Cond.code ({ cls := "FleetFloor", name := "open", desc := "()I" } : Jvm.MethodName) prog_1_method_3_code (3 : Nat) (Option.some Jvm.ClassFile.FieldType.int)) ∈ bg := bg_m2 76 rfl rfl
theorem tw_317 : (Jvm.Cond.classLink "FleetFloor" (62 : Nat) "java/lang/IllegalStateException") ∈ bg := bg_m2 77 rfl rfl
theorem tw_318 : (Jvm.Cond.instantiable "java/lang/IllegalStateException" (6 : Nat)) ∈ bg := bg_m2 78 rfl rfl
theorem tx_319 : (Jvm.Cond.castable "java/lang/IllegalStateException" "java/lang/IllegalStateException") ∈ lw_tbl := tb_m2 79 rfl
theorem tx_320 : (Jvm.Cond.declares ({ cls := "java/lang/RuntimeException", name := "<init>", desc := "()V" } : Jvm.MethodName)) ∈ lw_tbl := tb_m2 80 rfl
theorem tx_321 : (Jvm.Cond.declares ({ cls := "java/lang/RuntimeException", name := "<init>", desc := "(Ljava/lang/String;)V" } : Jvm.MethodName)) ∈ lw_tbl := tb_m2 81 rfl
theorem tx_322 : (Jvm.Cond.declares ({ cls := "java/lang/Exception", name := "<init>", desc := "()V" } : Jvm.MethodName)) ∈ lw_tbl := tb_m2 82 rfl
theorem tx_323 : (Jvm.Cond.declares ({ cls := "java/lang/Exception", name := "<init>", desc := "(Ljava/lang/String;)V" } : Jvm.MethodName)) ∈ lw_tbl := tb_m2 83 rfl
theorem tx_324 : (Jvm.Cond.declares ({ cls := "java/lang/Throwable", name := "<init>", desc := "()V" } : Jvm.MethodName)) ∈ lw_tbl := tb_m2 84 rfl
theorem tx_325 : (Jvm.Cond.declares ({ cls := "java/lang/Throwable", name := "<init>", desc := "(Ljava/lang/String;)V" } : Jvm.MethodName)) ∈ lw_tbl := tb_m2 85 rfl
theorem tw_326 : (Jvm.Cond.selects "java/lang/IllegalStateException" ({ cls := "java/lang/Throwable", name := "fillInStackTrace", desc := "(I)Ljava/lang/Throwable;" } : Jvm.MethodName) ({ cls := "java/lang/Throwable", name := "fillInStackTrace", desc := "(I)Ljava/lang/Throwable;" } : Jvm.MethodName)) ∈ bg := bg_m2 86 rfl rfl
theorem tw_327 : (Jvm.Cond.selects "java/lang/IllegalStateException" ({ cls := "java/lang/Throwable", name := "fillInStackTrace", desc := "()Ljava/lang/Throwable;" } : Jvm.MethodName) ({ cls := "java/lang/Throwable", name := "fillInStackTrace", desc := "()Ljava/lang/Throwable;" } : Jvm.MethodName)) ∈ bg := bg_m2 87 rfl rfl
theorem tw_328 : (Jvm.Cond.lays "java/lang/IllegalStateException" "java/lang/Throwable" "cause" "Ljava/lang/Throwable;") ∈ bg := bg_m2 88 rfl rfl
theorem tw_329 : (Jvm.Cond.lays "java/lang/Throwable" "java/lang/Throwable" "cause" "Ljava/lang/Throwable;") ∈ bg := bg_m2 89 rfl rfl
theorem tw_330 : (Jvm.Cond.lays "java/lang/IllegalStateException" "java/lang/Throwable" "stackTrace" "[Ljava/lang/StackTraceElement;") ∈ bg := bg_m2 90 rfl rfl
theorem tw_331 : (Jvm.Cond.lays "java/lang/Throwable" "java/lang/Throwable" "stackTrace" "[Ljava/lang/StackTraceElement;") ∈ bg := bg_m2 91 rfl rfl
theorem tw_332 : (Jvm.Cond.lays "java/lang/IllegalStateException" "java/lang/Throwable" "suppressedExceptions" "Ljava/util/List;") ∈ bg := bg_m2 92 rfl rfl
theorem tw_333 : (Jvm.Cond.lays "java/lang/Throwable" "java/lang/Throwable" "suppressedExceptions" "Ljava/util/List;") ∈ bg := bg_m2 93 rfl rfl
theorem tw_334 : (Jvm.Cond.lays "java/lang/IllegalStateException" "java/lang/Throwable" "detailMessage" "Ljava/lang/String;") ∈ bg := bg_m2 94 rfl rfl
theorem tw_335 : (Jvm.Cond.lays "java/lang/Throwable" "java/lang/Throwable" "detailMessage" "Ljava/lang/String;") ∈ bg := bg_m2 95 rfl rfl
theorem tw_336 : (Jvm.Cond.lays "java/lang/IllegalStateException" "java/lang/Throwable" "backtrace" "Ljava/lang/Object;") ∈ bg := bg_m2 96 rfl rfl
theorem tw_337 : (Jvm.Cond.lays "java/lang/Throwable" "java/lang/Throwable" "backtrace" "Ljava/lang/Object;") ∈ bg := bg_m2 97 rfl rfl
theorem tw_338 : (Jvm.Cond.fieldLink "java/lang/Throwable" (198 : Nat) "java/lang/Throwable" "backtrace" "Ljava/lang/Object;") ∈ bg := bg_m2 98 rfl rfl
theorem tw_339 : (Jvm.Cond.superclass "java/lang/Throwable" "java/lang/Object") ∈ bg := bg_m2 99 rfl rfl
theorem tw_340 : (Jvm.Cond.instanceMethod ({ cls := "java/lang/Throwable", name := "<init>", desc := "()V" } : Jvm.MethodName)) ∈ bg := bg_m2 100 rfl rfl
theorem tw_341 : (Jvm.Cond.code ({ cls := "java/lang/Throwable", name := "<init>", desc := "()V" } : Jvm.MethodName) prog_23_method_1_code (1 : Nat) (Option.none : Option Jvm.ClassFile.FieldType)) ∈ bg := bg_m2 101 rfl rfl
theorem tw_342 : (Jvm.Cond.methodLink "java/lang/Throwable" (1 : Nat) ({ cls := "java/lang/Object", name := "<init>", desc := "()V" } : Jvm.MethodName)) ∈ bg := bg_m2 102 rfl rfl
theorem tw_343 : (Jvm.Cond.fieldLink "java/lang/Throwable" (13 : Nat) "java/lang/Throwable" "UNASSIGNED_STACK" "[Ljava/lang/StackTraceElement;") ∈ bg := bg_m2 103 rfl rfl
theorem tx_344 : (Jvm.Cond.laysStatic "java/lang/Throwable" "UNASSIGNED_STACK" "[Ljava/lang/StackTraceElement;") ∈ lw_tbl := tb_m2 104 rfl
theorem tw_345 : (Jvm.Cond.fieldLink "java/lang/Throwable" (20 : Nat) "java/lang/Throwable" "SUPPRESSED_SENTINEL" "Ljava/util/List;") ∈ bg := bg_m2 105 rfl rfl
theorem tx_346 : (Jvm.Cond.laysStatic "java/lang/Throwable" "SUPPRESSED_SENTINEL" "Ljava/util/List;") ∈ lw_tbl := tb_m2 106 rfl
theorem tw_347 : (Jvm.Cond.methodLink "java/lang/Throwable" (27 : Nat) ({ cls := "java/lang/Throwable", name := "fillInStackTrace", desc := "()Ljava/lang/Throwable;" } : Jvm.MethodName)) ∈ bg := bg_m2 107 rfl rfl
theorem tw_348 : (Jvm.Cond.instanceMethod ({ cls := "java/lang/Throwable", name := "fillInStackTrace", desc := "()Ljava/lang/Throwable;" } : Jvm.MethodName)) ∈ bg := bg_m2 108 rfl rfl
theorem tw_349 : (Jvm.Cond.sameMethod "java/lang/Throwable" "java/lang/Throwable" "fillInStackTrace" "()Ljava/lang/Throwable;") ∈ bg := bg_m2 109 rfl rfl
theorem tw_350 : (Jvm.Cond.selects "java/lang/IllegalArgumentException" ({ cls := "java/lang/Throwable", name := "fillInStackTrace", desc := "()Ljava/lang/Throwable;" } : Jvm.MethodName) ({ cls := "java/lang/Throwable", name := "fillInStackTrace", desc := "()Ljava/lang/Throwable;" } : Jvm.MethodName)) ∈ bg := bg_m2 110 rfl rfl
theorem tw_351 : (Jvm.Cond.codeSync ({ cls := "java/lang/Throwable", name := "fillInStackTrace", desc := "()Ljava/lang/Throwable;" } : Jvm.MethodName) prog_23_method_18_code (1 : Nat) (Option.some (Jvm.ClassFile.FieldType.object "java/lang/Throwable"))) ∈ bg := bg_m2 111 rfl rfl
theorem tw_352 : (Jvm.Cond.methodLink "java/lang/Throwable" (202 : Nat) ({ cls := "java/lang/Throwable", name := "fillInStackTrace", desc := "(I)Ljava/lang/Throwable;" } : Jvm.MethodName)) ∈ bg := bg_m2 112 rfl rfl
theorem tx_353 : (Jvm.Cond.privateMethod ({ cls := "java/lang/Throwable", name := "fillInStackTrace", desc := "(I)Ljava/lang/Throwable;" } : Jvm.MethodName)) ∈ lw_tbl := tb_m2 113 rfl
theorem tw_354 : (Jvm.Cond.instanceMethod ({ cls := "java/lang/Throwable", name := "fillInStackTrace", desc := "(I)Ljava/lang/Throwable;" } : Jvm.MethodName)) ∈ bg := bg_m2 114 rfl rfl
theorem tw_355 : (Jvm.Cond.instantiable "java/lang/Throwable" (6 : Nat)) ∈ bg := bg_m2 115 rfl rfl
theorem tw_356 : (Jvm.Cond.native ({ cls := "java/lang/Throwable", name := "fillInStackTrace", desc := "(I)Ljava/lang/Throwable;" } : Jvm.MethodName)) ∈ bg := bg_m2 116 rfl rfl
theorem tx_357 : (Jvm.Cond.stringRef "FleetFloor" (64 : Nat) "the floor is open already") ∈ lw_tbl := tb_m2 117 rfl
theorem tw_358 : (Jvm.Cond.methodLink "FleetFloor" (66 : Nat) ({ cls := "java/lang/IllegalStateException", name := "<init>", desc := "(Ljava/lang/String;)V" } : Jvm.MethodName)) ∈ bg := bg_m2 118 rfl rfl
theorem tw_359 : (Jvm.Cond.instanceMethod ({ cls := "java/lang/IllegalStateException", name := "<init>", desc := "(Ljava/lang/String;)V" } : Jvm.MethodName)) ∈ bg := bg_m2 119 rfl rfl
theorem tw_360 : (Jvm.Cond.code ({ cls := "java/lang/IllegalStateException", name := "<init>", desc := "(Ljava/lang/String;)V" } : Jvm.MethodName) prog_16_method_2_code (2 : Nat) (Option.none : Option Jvm.ClassFile.FieldType)) ∈ bg := bg_m2 120 rfl rfl
theorem tw_361 : (Jvm.Cond.methodLink "java/lang/IllegalStateException" (7 : Nat) ({ cls := "java/lang/RuntimeException", name := "<init>", desc := "(Ljava/lang/String;)V" } : Jvm.MethodName)) ∈ bg := bg_m2 121 rfl rfl
theorem tw_362 : (Jvm.Cond.instanceMethod ({ cls := "java/lang/RuntimeException", name := "<init>", desc := "(Ljava/lang/String;)V" } : Jvm.MethodName)) ∈ bg := bg_m2 122 rfl rfl
theorem tw_363 : (Jvm.Cond.code ({ cls := "java/lang/RuntimeException", name := "<init>", desc := "(Ljava/lang/String;)V" } : Jvm.MethodName) prog_20_method_2_code (2 : Nat) (Option.none : Option Jvm.ClassFile.FieldType)) ∈ bg := bg_m2 123 rfl rfl
theorem tw_364 : (Jvm.Cond.methodLink "java/lang/RuntimeException" (7 : Nat) ({ cls := "java/lang/Exception", name := "<init>", desc := "(Ljava/lang/String;)V" } : Jvm.MethodName)) ∈ bg := bg_m2 124 rfl rfl
theorem tw_365 : (Jvm.Cond.instanceMethod ({ cls := "java/lang/Exception", name := "<init>", desc := "(Ljava/lang/String;)V" } : Jvm.MethodName)) ∈ bg := bg_m2 125 rfl rfl
theorem tw_366 : (Jvm.Cond.code ({ cls := "java/lang/Exception", name := "<init>", desc := "(Ljava/lang/String;)V" } : Jvm.MethodName) prog_14_method_2_code (2 : Nat) (Option.none : Option Jvm.ClassFile.FieldType)) ∈ bg := bg_m2 126 rfl rfl
theorem tw_367 : (Jvm.Cond.methodLink "java/lang/Exception" (7 : Nat) ({ cls := "java/lang/Throwable", name := "<init>", desc := "(Ljava/lang/String;)V" } : Jvm.MethodName)) ∈ bg := bg_m2 127 rfl rfl
theorem tw_368 : (Jvm.Cond.instanceMethod ({ cls := "java/lang/Throwable", name := "<init>", desc := "(Ljava/lang/String;)V" } : Jvm.MethodName)) ∈ bg := bg_m2 128 rfl rfl
theorem tw_369 : (Jvm.Cond.code ({ cls := "java/lang/Throwable", name := "<init>", desc := "(Ljava/lang/String;)V" } : Jvm.MethodName) prog_23_method_2_code (2 : Nat) (Option.none : Option Jvm.ClassFile.FieldType)) ∈ bg := bg_m2 129 rfl rfl
theorem tw_370 : (Jvm.Cond.fieldLink "java/lang/Throwable" (198 : Nat) "java/lang/Throwable" "backtrace" "Ljava/lang/Object;") ∈ bg := bg_m2 130 rfl rfl
theorem tw_371 : (Jvm.Cond.fieldLink "java/lang/Throwable" (31 : Nat) "java/lang/Throwable" "detailMessage" "Ljava/lang/String;") ∈ bg := bg_m2 131 rfl rfl
theorem tw_372 : (Jvm.Cond.fieldLink "java/lang/Throwable" (7 : Nat) "java/lang/Throwable" "cause" "Ljava/lang/Throwable;") ∈ bg := bg_m2 132 rfl rfl
theorem tw_373 : (Jvm.Cond.fieldLink "java/lang/Throwable" (17 : Nat) "java/lang/Throwable" "stackTrace" "[Ljava/lang/StackTraceElement;") ∈ bg := bg_m2 133 rfl rfl
theorem tw_374 : (Jvm.Cond.fieldLink "java/lang/Throwable" (24 : Nat) "java/lang/Throwable" "suppressedExceptions" "Ljava/util/List;") ∈ bg := bg_m2 134 rfl rfl
theorem tw_375 : (Jvm.Cond.soleField "java/lang/Throwable" "backtrace") ∈ bg := bg_m2 135 rfl rfl
theorem tw_376 : (Jvm.Cond.soleField "java/lang/Throwable" "detailMessage") ∈ bg := bg_m2 136 rfl rfl
theorem tw_377 : (Jvm.Cond.soleField "java/lang/Throwable" "cause") ∈ bg := bg_m2 137 rfl rfl
theorem tw_378 : (Jvm.Cond.soleField "java/lang/Throwable" "stackTrace") ∈ bg := bg_m2 138 rfl rfl
theorem tw_379 : (Jvm.Cond.lays "java/lang/IllegalStateException" "java/lang/Throwable" "depth" "I") ∈ bg := bg_m2 139 rfl rfl
theorem tw_380 : (Jvm.Cond.soleField "java/lang/Throwable" "depth") ∈ bg := bg_m2 140 rfl rfl
theorem tw_381 : (Jvm.Cond.soleField "java/lang/Throwable" "suppressedExceptions") ∈ bg := bg_m2 141 rfl rfl
theorem tw_382 : (Jvm.Cond.superclass "java/lang/IllegalStateException" "java/lang/RuntimeException") ∈ bg := bg_m2 142 rfl rfl
theorem tw_383 : (Jvm.Cond.arrayClass Jvm.ClassFile.FieldType.byte) ∈ bg := bg_m2 143 rfl rfl
theorem tw_384 : (Jvm.Cond.methodLink "FleetFloor" (69 : Nat) ({ cls := "FleetFloor$FloorMap", name := "isGood", desc := "()Z" } : Jvm.MethodName)) ∈ bg := bg_m2 144 rfl rfl
theorem tw_385 : (Jvm.Cond.instanceMethod ({ cls := "FleetFloor$FloorMap", name := "isGood", desc := "()Z" } : Jvm.MethodName)) ∈ bg := bg_m2 145 rfl rfl
theorem tw_386 : (Jvm.Cond.selects "FleetFloor$FloorMap" ({ cls := "FleetFloor$FloorMap", name := "isGood", desc := "()Z" } : Jvm.MethodName) ({ cls := "FleetFloor$FloorMap", name := "isGood", desc := "()Z" } : Jvm.MethodName)) ∈ bg := bg_m2 146 rfl rfl
theorem tw_387 : (Jvm.Cond.code ({ cls := "FleetFloor$FloorMap", name := "isGood", desc := "()Z" } : Jvm.MethodName) prog_4_method_5_code (3 : Nat) (Option.some Jvm.ClassFile.FieldType.boolean)) ∈ bg := bg_m2 147 rfl rfl
theorem tw_388 : (Jvm.Cond.methodLink "FleetFloor$FloorMap" (15 : Nat) ({ cls := "FleetFloor$FloorMap", name := "countOf", desc := "(I)I" } : Jvm.MethodName)) ∈ bg := bg_m2 148 rfl rfl
theorem tx_389 : (Jvm.Cond.privateMethod ({ cls := "FleetFloor$FloorMap", name := "countOf", desc := "(I)I" } : Jvm.MethodName)) ∈ lw_tbl := tb_m2 149 rfl
theorem tw_390 : (Jvm.Cond.instanceMethod ({ cls := "FleetFloor$FloorMap", name := "countOf", desc := "(I)I" } : Jvm.MethodName)) ∈ bg := bg_m2 150 rfl rfl
theorem tw_391 : (Jvm.Cond.code ({ cls := "FleetFloor$FloorMap", name := "countOf", desc := "(I)I" } : Jvm.MethodName) prog_4_method_6_code (4 : Nat) (Option.some Jvm.ClassFile.FieldType.int)) ∈ bg := bg_m2 151 rfl rfl
theorem tw_392 : (Jvm.Cond.methodLink "FleetFloor$FloorMap" (25 : Nat) ({ cls := "FleetFloor$FloorMap", name := "isJoined", desc := "()Z" } : Jvm.MethodName)) ∈ bg := bg_m2 152 rfl rfl
theorem tx_393 : (Jvm.Cond.privateMethod ({ cls := "FleetFloor$FloorMap", name := "isJoined", desc := "()Z" } : Jvm.MethodName)) ∈ lw_tbl := tb_m2 153 rfl
theorem tw_394 : (Jvm.Cond.instanceMethod ({ cls := "FleetFloor$FloorMap", name := "isJoined", desc := "()Z" } : Jvm.MethodName)) ∈ bg := bg_m2 154 rfl rfl
theorem tw_395 : (Jvm.Cond.code ({ cls := "FleetFloor$FloorMap", name := "isJoined", desc := "()Z" } : Jvm.MethodName) prog_4_method_7_code (4 : Nat) (Option.some Jvm.ClassFile.FieldType.boolean)) ∈ bg := bg_m2 155 rfl rfl
theorem tw_396 : (Jvm.Cond.classLink "FleetFloor$FloorMap" (20 : Nat) "FleetFloor$Cells") ∈ bg := bg_m2 156 rfl rfl
theorem tw_397 : (Jvm.Cond.instantiable "FleetFloor$Cells" (2 : Nat)) ∈ bg := bg_m2 157 rfl rfl
theorem tx_398 : (Jvm.Cond.methodLinkNest "FleetFloor$FloorMap" (29 : Nat) ({ cls := "FleetFloor$Cells", name := "<init>", desc := "()V" } : Jvm.MethodName) "FleetFloor") ∈ lw_tbl := tb_m2 158 rfl
theorem tw_399 : (Jvm.Cond.instanceMethod ({ cls := "FleetFloor$Cells", name := "<init>", desc := "()V" } : Jvm.MethodName)) ∈ bg := bg_m2 159 rfl rfl
theorem tw_400 : (Jvm.Cond.code ({ cls := "FleetFloor$Cells", name := "<init>", desc := "()V" } : Jvm.MethodName) prog_3_method_1_code (1 : Nat) (Option.none : Option Jvm.ClassFile.FieldType)) ∈ bg := bg_m2 160 rfl rfl
theorem tw_401 : (Jvm.Cond.methodLink "FleetFloor$Cells" (5 : Nat) ({ cls := "java/lang/Object", name := "<init>", desc := "()V" } : Jvm.MethodName)) ∈ bg := bg_m2 161 rfl rfl
theorem tw_402 : (Jvm.Cond.fieldLink "FleetFloor$Cells" (11 : Nat) "FleetFloor$Cells" "upper" "J") ∈ bg := bg_m2 162 rfl rfl
theorem tw_403 : (Jvm.Cond.fieldLink "FleetFloor$Cells" (15 : Nat) "FleetFloor$Cells" "lower" "J") ∈ bg := bg_m2 163 rfl rfl
theorem tw_404 : (Jvm.Cond.lays "FleetFloor$Cells" "FleetFloor$Cells" "upper" "J") ∈ bg := bg_m2 164 rfl rfl
theorem tw_405 : (Jvm.Cond.soleField "FleetFloor$Cells" "upper") ∈ bg := bg_m2 165 rfl rfl
theorem tw_406 : (Jvm.Cond.lays "FleetFloor$Cells" "FleetFloor$Cells" "lower" "J") ∈ bg := bg_m2 166 rfl rfl
theorem tw_407 : (Jvm.Cond.soleField "FleetFloor$Cells" "lower") ∈ bg := bg_m2 167 rfl rfl
theorem tw_408 : (Jvm.Cond.superclass "FleetFloor$Cells" "java/lang/Object") ∈ bg := bg_m2 168 rfl rfl
theorem tw_409 : (Jvm.Cond.methodLink "FleetFloor$FloorMap" (30 : Nat) ({ cls := "FleetFloor$FloorMap", name := "collect", desc := "(ILFleetFloor$Cells;)V" } : Jvm.MethodName)) ∈ bg := bg_m2 169 rfl rfl
theorem tw_410 : (Jvm.Cond.instanceMethod ({ cls := "FleetFloor$FloorMap", name := "collect", desc := "(ILFleetFloor$Cells;)V" } : Jvm.MethodName)) ∈ bg := bg_m2 170 rfl rfl
theorem tw_411 : (Jvm.Cond.selects "FleetFloor$FloorMap" ({ cls := "FleetFloor$FloorMap", name := "collect", desc := "(ILFleetFloor$Cells;)V" } : Jvm.MethodName) ({ cls := "FleetFloor$FloorMap", name := "collect", desc := "(ILFleetFloor$Cells;)V" } : Jvm.MethodName)) ∈ bg := bg_m2 171 rfl rfl
theorem tw_412 : (Jvm.Cond.code ({ cls := "FleetFloor$FloorMap", name := "collect", desc := "(ILFleetFloor$Cells;)V" } : Jvm.MethodName) prog_4_method_4_code (4 : Nat) (Option.none : Option Jvm.ClassFile.FieldType)) ∈ bg := bg_m2 172 rfl rfl
theorem tw_413 : (Jvm.Cond.methodLink "FleetFloor$FloorMap" (19 : Nat) ({ cls := "FleetFloor$Cells", name := "put", desc := "(I)V" } : Jvm.MethodName)) ∈ bg := bg_m2 173 rfl rfl
theorem tw_414 : (Jvm.Cond.instanceMethod ({ cls := "FleetFloor$Cells", name := "put", desc := "(I)V" } : Jvm.MethodName)) ∈ bg := bg_m2 174 rfl rfl
theorem tw_415 : (Jvm.Cond.selects "FleetFloor$Cells" ({ cls := "FleetFloor$Cells", name := "put", desc := "(I)V" } : Jvm.MethodName) ({ cls := "FleetFloor$Cells", name := "put", desc := "(I)V" } : Jvm.MethodName)) ∈ bg := bg_m2 175 rfl rfl
theorem tw_416 : (Jvm.Cond.code ({ cls := "FleetFloor$Cells", name := "put", desc := "(I)V" } : Jvm.MethodName) prog_3_method_5_code (2 : Nat) (Option.none : Option Jvm.ClassFile.FieldType)) ∈ bg := bg_m2 176 rfl rfl
theorem tw_417 : (Jvm.Cond.methodLink "FleetFloor$FloorMap" (34 : Nat) ({ cls := "FleetFloor$Cells", name := "has", desc := "(I)Z" } : Jvm.MethodName)) ∈ bg := bg_m2 177 rfl rfl
theorem tw_418 : (Jvm.Cond.instanceMethod ({ cls := "FleetFloor$Cells", name := "has", desc := "(I)Z" } : Jvm.MethodName)) ∈ bg := bg_m2 178 rfl rfl
theorem tw_419 : (Jvm.Cond.selects "FleetFloor$Cells" ({ cls := "FleetFloor$Cells", name := "has", desc := "(I)Z" } : Jvm.MethodName) ({ cls := "FleetFloor$Cells", name := "has", desc := "(I)Z" } : Jvm.MethodName)) ∈ bg := bg_m2 179 rfl rfl
theorem tw_420 : (Jvm.Cond.code ({ cls := "FleetFloor$Cells", name := "has", desc := "(I)Z" } : Jvm.MethodName) prog_3_method_4_code (2 : Nat) (Option.some Jvm.ClassFile.FieldType.boolean)) ∈ bg := bg_m2 180 rfl rfl
theorem tw_421 : (Jvm.Cond.methodLink "FleetFloor$FloorMap" (38 : Nat) ({ cls := "FleetFloor$FloorMap", name := "reachesAll", desc := "(ILFleetFloor$Cells;LFleetFloor$Cells;)Z" } : Jvm.MethodName)) ∈ bg := bg_m2 181 rfl rfl
theorem tw_422 : (Jvm.Cond.static ({ cls := "FleetFloor$FloorMap", name := "reachesAll", desc := "(ILFleetFloor$Cells;LFleetFloor$Cells;)Z" } : Jvm.MethodName)) ∈ bg := bg_m2 182 rfl rfl
theorem tw_423 : (Jvm.Cond.code ({ cls := "FleetFloor$FloorMap", name := "reachesAll", desc := "(ILFleetFloor$Cells;LFleetFloor$Cells;)Z" } : Jvm.MethodName) prog_4_method_8_code (6 : Nat) (Option.some Jvm.ClassFile.FieldType.boolean)) ∈ bg := bg_m2 183 rfl rfl
theorem tw_424 : (Jvm.Cond.methodLink "FleetFloor$FloorMap" (42 : Nat) ({ cls := "FleetFloor$Cells", name := "becomeNeighboursOf", desc := "(LFleetFloor$Cells;)V" } : Jvm.MethodName)) ∈ bg := bg_m2 184 rfl rfl
theorem tw_425 : (Jvm.Cond.instanceMethod ({ cls := "FleetFloor$Cells", name := "becomeNeighboursOf", desc := "(LFleetFloor$Cells;)V" } : Jvm.MethodName)) ∈ bg := bg_m2 185 rfl rfl
theorem tw_426 : (Jvm.Cond.selects "FleetFloor$Cells" ({ cls := "FleetFloor$Cells", name := "becomeNeighboursOf", desc := "(LFleetFloor$Cells;)V" } : Jvm.MethodName) ({ cls := "FleetFloor$Cells", name := "becomeNeighboursOf", desc := "(LFleetFloor$Cells;)V" } : Jvm.MethodName)) ∈ bg := bg_m2 186 rfl rfl
theorem tw_427 : (Jvm.Cond.code ({ cls := "FleetFloor$Cells", name := "becomeNeighboursOf", desc := "(LFleetFloor$Cells;)V" } : Jvm.MethodName) prog_3_method_10_code (6 : Nat) (Option.none : Option Jvm.ClassFile.FieldType)) ∈ bg := bg_m2 187 rfl rfl
theorem tw_428 : (Jvm.Cond.methodLink "FleetFloor$Cells" (20 : Nat) ({ cls := "FleetFloor$Cells", name := "neighboursInHalf", desc := "(J)J" } : Jvm.MethodName)) ∈ bg := bg_m2 188 rfl rfl
theorem tw_429 : (Jvm.Cond.static ({ cls := "FleetFloor$Cells", name := "neighboursInHalf", desc := "(J)J" } : Jvm.MethodName)) ∈ bg := bg_m2 189 rfl rfl
theorem tw_430 : (Jvm.Cond.code ({ cls := "FleetFloor$Cells", name := "neighboursInHalf", desc := "(J)J" } : Jvm.MethodName) prog_3_method_11_code (2 : Nat) (Option.some Jvm.ClassFile.FieldType.long)) ∈ bg := bg_m2 190 rfl rfl
theorem tw_431 : (Jvm.Cond.constantLong "FleetFloor$Cells" (24 : Nat) (281474976710655 : Int64)) ∈ bg := bg_m2 191 rfl rfl
theorem tw_432 : (Jvm.Cond.constantLong "FleetFloor$Cells" (26 : Nat) (140703120226303 : Int64)) ∈ bg := bg_m2 192 rfl rfl
theorem tw_433 : (Jvm.Cond.constantLong "FleetFloor$Cells" (28 : Nat) (281406240452606 : Int64)) ∈ bg := bg_m2 193 rfl rfl
theorem tw_434 : (Jvm.Cond.methodLink "FleetFloor$FloorMap" (46 : Nat) ({ cls := "FleetFloor$Cells", name := "hasAll", desc := "(LFleetFloor$Cells;)Z" } : Jvm.MethodName)) ∈ bg := bg_m2 194 rfl rfl
theorem tw_435 : (Jvm.Cond.instanceMethod ({ cls := "FleetFloor$Cells", name := "hasAll", desc := "(LFleetFloor$Cells;)Z" } : Jvm.MethodName)) ∈ bg := bg_m2 195 rfl rfl
theorem tw_436 : (Jvm.Cond.selects "FleetFloor$Cells" ({ cls := "FleetFloor$Cells", name := "hasAll", desc := "(LFleetFloor$Cells;)Z" } : Jvm.MethodName) ({ cls := "FleetFloor$Cells", name := "hasAll", desc := "(LFleetFloor$Cells;)Z" } : Jvm.MethodName)) ∈ bg := bg_m2 196 rfl rfl
theorem tw_437 : (Jvm.Cond.code ({ cls := "FleetFloor$Cells", name := "hasAll", desc := "(LFleetFloor$Cells;)Z" } : Jvm.MethodName) prog_3_method_9_code (2 : Nat) (Option.some Jvm.ClassFile.FieldType.boolean)) ∈ bg := bg_m2 197 rfl rfl
theorem tw_438 : (Jvm.Cond.constantLong "FleetFloor$Cells" (18 : Nat) (-1 : Int64)) ∈ bg := bg_m2 198 rfl rfl
theorem tw_439 : (Jvm.Cond.methodLink "FleetFloor$FloorMap" (50 : Nat) ({ cls := "FleetFloor$Cells", name := "keep", desc := "(LFleetFloor$Cells;)V" } : Jvm.MethodName)) ∈ bg := bg_m2 199 rfl rfl
theorem tw_440 : (Jvm.Cond.instanceMethod ({ cls := "FleetFloor$Cells", name := "keep", desc := "(LFleetFloor$Cells;)V" } : Jvm.MethodName)) ∈ bg := bg_m2 200 rfl rfl
theorem tw_441 : (Jvm.Cond.selects "FleetFloor$Cells" ({ cls := "FleetFloor$Cells", name := "keep", desc := "(LFleetFloor$Cells;)V" } : Jvm.MethodName) ({ cls := "FleetFloor$Cells", name := "keep", desc := "(LFleetFloor$Cells;)V" } : Jvm.MethodName)) ∈ bg := bg_m2 201 rfl rfl
theorem tw_442 : (Jvm.Cond.code ({ cls := "FleetFloor$Cells", name := "keep", desc := "(LFleetFloor$Cells;)V" } : Jvm.MethodName) prog_3_method_8_code (2 : Nat) (Option.none : Option Jvm.ClassFile.FieldType)) ∈ bg := bg_m2 202 rfl rfl
theorem tw_443 : (Jvm.Cond.methodLink "FleetFloor$FloorMap" (53 : Nat) ({ cls := "FleetFloor$Cells", name := "join", desc := "(LFleetFloor$Cells;)V" } : Jvm.MethodName)) ∈ bg := bg_m2 203 rfl rfl
theorem tw_444 : (Jvm.Cond.instanceMethod ({ cls := "FleetFloor$Cells", name := "join", desc := "(LFleetFloor$Cells;)V" } : Jvm.MethodName)) ∈ bg := bg_m2 204 rfl rfl
theorem tw_445 : (Jvm.Cond.selects "FleetFloor$Cells" ({ cls := "FleetFloor$Cells", name := "join", desc := "(LFleetFloor$Cells;)V" } : Jvm.MethodName) ({ cls := "FleetFloor$Cells", name := "join", desc := "(LFleetFloor$Cells;)V" } : Jvm.MethodName)) ∈ bg := bg_m2 205 rfl rfl
theorem tw_446 : (Jvm.Cond.code ({ cls := "FleetFloor$Cells", name := "join", desc := "(LFleetFloor$Cells;)V" } : Jvm.MethodName) prog_3_method_7_code (2 : Nat) (Option.none : Option Jvm.ClassFile.FieldType)) ∈ bg := bg_m2 206 rfl rfl
theorem tw_447 : (Jvm.Cond.classLink "FleetFloor" (72 : Nat) "java/lang/IllegalArgumentException") ∈ bg := bg_m2 207 rfl rfl
theorem tw_448 : (Jvm.Cond.instantiable "java/lang/IllegalArgumentException" (6 : Nat)) ∈ bg := bg_m2 208 rfl rfl
theorem tx_449 : (Jvm.Cond.castable "java/lang/IllegalArgumentException" "java/lang/IllegalArgumentException") ∈ lw_tbl := tb_m2 209 rfl
theorem tw_450 : (Jvm.Cond.selects "java/lang/IllegalArgumentException" ({ cls := "java/lang/Throwable", name := "fillInStackTrace", desc := "(I)Ljava/lang/Throwable;" } : Jvm.MethodName) ({ cls := "java/lang/Throwable", name := "fillInStackTrace", desc := "(I)Ljava/lang/Throwable;" } : Jvm.MethodName)) ∈ bg := bg_m2 210 rfl rfl
theorem tw_451 : (Jvm.Cond.lays "java/lang/IllegalArgumentException" "java/lang/Throwable" "cause" "Ljava/lang/Throwable;") ∈ bg := bg_m2 211 rfl rfl
theorem tw_452 : (Jvm.Cond.lays "java/lang/IllegalArgumentException" "java/lang/Throwable" "stackTrace" "[Ljava/lang/StackTraceElement;") ∈ bg := bg_m2 212 rfl rfl
theorem tw_453 : (Jvm.Cond.lays "java/lang/IllegalArgumentException" "java/lang/Throwable" "suppressedExceptions" "Ljava/util/List;") ∈ bg := bg_m2 213 rfl rfl
theorem tw_454 : (Jvm.Cond.lays "java/lang/IllegalArgumentException" "java/lang/Throwable" "detailMessage" "Ljava/lang/String;") ∈ bg := bg_m2 214 rfl rfl
theorem tw_455 : (Jvm.Cond.lays "java/lang/IllegalArgumentException" "java/lang/Throwable" "backtrace" "Ljava/lang/Object;") ∈ bg := bg_m2 215 rfl rfl
theorem tx_456 : (Jvm.Cond.stringRef "FleetFloor" (74 : Nat) "the map is not good") ∈ lw_tbl := tb_m2 216 rfl
theorem tw_457 : (Jvm.Cond.methodLink "FleetFloor" (76 : Nat) ({ cls := "java/lang/IllegalArgumentException", name := "<init>", desc := "(Ljava/lang/String;)V" } : Jvm.MethodName)) ∈ bg := bg_m2 217 rfl rfl
theorem tw_458 : (Jvm.Cond.instanceMethod ({ cls := "java/lang/IllegalArgumentException", name := "<init>", desc := "(Ljava/lang/String;)V" } : Jvm.MethodName)) ∈ bg := bg_m2 218 rfl rfl
theorem tw_459 : (Jvm.Cond.code ({ cls := "java/lang/IllegalArgumentException", name := "<init>", desc := "(Ljava/lang/String;)V" } : Jvm.MethodName) prog_15_method_2_code (2 : Nat) (Option.none : Option Jvm.ClassFile.FieldType)) ∈ bg := bg_m2 219 rfl rfl
theorem tw_460 : (Jvm.Cond.methodLink "java/lang/IllegalArgumentException" (7 : Nat) ({ cls := "java/lang/RuntimeException", name := "<init>", desc := "(Ljava/lang/String;)V" } : Jvm.MethodName)) ∈ bg := bg_m2 220 rfl rfl
theorem tw_461 : (Jvm.Cond.lays "java/lang/IllegalArgumentException" "java/lang/Throwable" "depth" "I") ∈ bg := bg_m2 221 rfl rfl
theorem tw_462 : (Jvm.Cond.superclass "java/lang/IllegalArgumentException" "java/lang/RuntimeException") ∈ bg := bg_m2 222 rfl rfl
theorem tw_463 : (Jvm.Cond.methodLink "FleetFloor" (77 : Nat) ({ cls := "FleetFloor$FloorMap", name := "cellsOf", desc := "(I)[I" } : Jvm.MethodName)) ∈ bg := bg_m2 223 rfl rfl
theorem tw_464 : (Jvm.Cond.instanceMethod ({ cls := "FleetFloor$FloorMap", name := "cellsOf", desc := "(I)[I" } : Jvm.MethodName)) ∈ bg := bg_m2 224 rfl rfl
theorem tw_465 : (Jvm.Cond.selects "FleetFloor$FloorMap" ({ cls := "FleetFloor$FloorMap", name := "cellsOf", desc := "(I)[I" } : Jvm.MethodName) ({ cls := "FleetFloor$FloorMap", name := "cellsOf", desc := "(I)[I" } : Jvm.MethodName)) ∈ bg := bg_m2 225 rfl rfl
theorem tw_466 : (Jvm.Cond.code ({ cls := "FleetFloor$FloorMap", name := "cellsOf", desc := "(I)[I" } : Jvm.MethodName) prog_4_method_3_code (5 : Nat) (Option.some (Jvm.ClassFile.FieldType.array Jvm.ClassFile.FieldType.int))) ∈ bg := bg_m2 226 rfl rfl
theorem tw_467 : (Jvm.Cond.instantiable "FleetFloor$Vehicle" (10 : Nat)) ∈ bg := bg_m2 227 rfl rfl
theorem tw_468 : (Jvm.Cond.methodLink "FleetFloor" (81 : Nat) ({ cls := "FleetFloor$Vehicle", name := "<init>", desc := "(II)V" } : Jvm.MethodName)) ∈ bg := bg_m2 228 rfl rfl
theorem tw_469 : (Jvm.Cond.instanceMethod ({ cls := "FleetFloor$Vehicle", name := "<init>", desc := "(II)V" } : Jvm.MethodName)) ∈ bg := bg_m2 229 rfl rfl
theorem tw_470 : (Jvm.Cond.code ({ cls := "FleetFloor$Vehicle", name := "<init>", desc := "(II)V" } : Jvm.MethodName) prog_9_method_1_code (3 : Nat) (Option.none : Option Jvm.ClassFile.FieldType)) ∈ bg := bg_m2 230 rfl rfl
theorem tw_471 : (Jvm.Cond.methodLink "FleetFloor$Vehicle" (3 : Nat) ({ cls := "java/lang/Object", name := "<init>", desc := "()V" } : Jvm.MethodName)) ∈ bg := bg_m2 231 rfl rfl
theorem tw_472 : (Jvm.Cond.classLink "FleetFloor$Vehicle" (18 : Nat) "java/util/ArrayList") ∈ bg := bg_m2 232 rfl rfl
theorem tw_473 : (Jvm.Cond.methodLink "FleetFloor$Vehicle" (20 : Nat) ({ cls := "java/util/ArrayList", name := "<init>", desc := "()V" } : Jvm.MethodName)) ∈ bg := bg_m2 233 rfl rfl
theorem tw_474 : (Jvm.Cond.fieldLink "FleetFloor$Vehicle" (9 : Nat) "FleetFloor$Vehicle" "number" "I") ∈ bg := bg_m2 234 rfl rfl
theorem tx_475 : (Jvm.Cond.fieldLinkNest "FleetFloor" (218 : Nat) "FleetFloor$Vehicle" "number" "I" "FleetFloor") ∈ lw_tbl := tb_m2 235 rfl
theorem tw_476 : (Jvm.Cond.fieldLink "FleetFloor$Vehicle" (15 : Nat) "FleetFloor$Vehicle" "parking" "I") ∈ bg := bg_m2 236 rfl rfl
theorem tx_477 : (Jvm.Cond.fieldLinkNest "FleetFloor$Planner" (53 : Nat) "FleetFloor$Vehicle" "parking" "I" "FleetFloor") ∈ lw_tbl := tb_m2 237 rfl
theorem tw_478 : (Jvm.Cond.fieldLink "FleetFloor$Vehicle" (21 : Nat) "FleetFloor$Vehicle" "moves" "Ljava/util/ArrayList;") ∈ bg := bg_m2 238 rfl rfl
theorem tx_479 : (Jvm.Cond.fieldLinkNest "FleetFloor$Planner" (76 : Nat) "FleetFloor$Vehicle" "moves" "Ljava/util/ArrayList;" "FleetFloor") ∈ lw_tbl := tb_m2 239 rfl
theorem tx_480 : (Jvm.Cond.fieldLinkNest "FleetFloor" (176 : Nat) "FleetFloor$Vehicle" "moves" "Ljava/util/ArrayList;" "FleetFloor") ∈ lw_tbl := tb_m3 0 rfl
theorem tw_481 : (Jvm.Cond.fieldLink "FleetFloor$Vehicle" (25 : Nat) "FleetFloor$Vehicle" "made" "I") ∈ bg := bg_m3 1 rfl rfl
theorem tx_482 : (Jvm.Cond.fieldLinkNest "FleetFloor" (160 : Nat) "FleetFloor$Vehicle" "made" "I" "FleetFloor") ∈ lw_tbl := tb_m3 2 rfl
theorem tw_483 : (Jvm.Cond.fieldLink "FleetFloor$Vehicle" (28 : Nat) "FleetFloor$Vehicle" "allowed" "I") ∈ bg := bg_m3 3 rfl rfl
theorem tx_484 : (Jvm.Cond.fieldLinkNest "FleetFloor" (167 : Nat) "FleetFloor$Vehicle" "allowed" "I" "FleetFloor") ∈ lw_tbl := tb_m3 4 rfl
theorem tw_485 : (Jvm.Cond.fieldLink "FleetFloor$Vehicle" (31 : Nat) "FleetFloor$Vehicle" "known" "I") ∈ bg := bg_m3 5 rfl rfl
theorem tx_486 : (Jvm.Cond.fieldLinkNest "FleetFloor" (170 : Nat) "FleetFloor$Vehicle" "known" "I" "FleetFloor") ∈ lw_tbl := tb_m3 6 rfl
theorem tw_487 : (Jvm.Cond.fieldLink "FleetFloor$Vehicle" (34 : Nat) "FleetFloor$Vehicle" "granted" "I") ∈ bg := bg_m3 7 rfl rfl
theorem tx_488 : (Jvm.Cond.fieldLinkNest "FleetFloor" (173 : Nat) "FleetFloor$Vehicle" "granted" "I" "FleetFloor") ∈ lw_tbl := tb_m3 8 rfl
theorem tw_489 : (Jvm.Cond.fieldLink "FleetFloor$Vehicle" (37 : Nat) "FleetFloor$Vehicle" "latestTask" "I") ∈ bg := bg_m3 9 rfl rfl
theorem tx_490 : (Jvm.Cond.fieldLinkNest "FleetFloor" (179 : Nat) "FleetFloor$Vehicle" "latestTask" "I" "FleetFloor") ∈ lw_tbl := tb_m3 10 rfl
theorem tw_491 : (Jvm.Cond.fieldLink "FleetFloor$Vehicle" (40 : Nat) "FleetFloor$Vehicle" "finishAt" "I") ∈ bg := bg_m3 11 rfl rfl
theorem tx_492 : (Jvm.Cond.fieldLinkNest "FleetFloor$Planner" (97 : Nat) "FleetFloor$Vehicle" "finishAt" "I" "FleetFloor") ∈ lw_tbl := tb_m3 12 rfl
theorem tx_493 : (Jvm.Cond.fieldLinkNest "FleetFloor" (211 : Nat) "FleetFloor$Vehicle" "finishAt" "I" "FleetFloor") ∈ lw_tbl := tb_m3 13 rfl
theorem tw_494 : (Jvm.Cond.fieldLink "FleetFloor$Vehicle" (43 : Nat) "FleetFloor$Vehicle" "justMoved" "Z") ∈ bg := bg_m3 14 rfl rfl
theorem tx_495 : (Jvm.Cond.fieldLinkNest "FleetFloor" (203 : Nat) "FleetFloor$Vehicle" "justMoved" "Z" "FleetFloor") ∈ lw_tbl := tb_m3 15 rfl
theorem tw_496 : (Jvm.Cond.laysFinal "FleetFloor$Vehicle" "FleetFloor$Vehicle" "number" "I") ∈ bg := bg_m3 16 rfl rfl
theorem tw_497 : (Jvm.Cond.soleField "FleetFloor$Vehicle" "number") ∈ bg := bg_m3 17 rfl rfl
theorem tw_498 : (Jvm.Cond.laysFinal "FleetFloor$Vehicle" "FleetFloor$Vehicle" "parking" "I") ∈ bg := bg_m3 18 rfl rfl
theorem tw_499 : (Jvm.Cond.soleField "FleetFloor$Vehicle" "parking") ∈ bg := bg_m3 19 rfl rfl
theorem tw_500 : (Jvm.Cond.laysFinal "FleetFloor$Vehicle" "FleetFloor$Vehicle" "moves" "Ljava/util/ArrayList;") ∈ bg := bg_m3 20 rfl rfl
theorem tw_501 : (Jvm.Cond.soleField "FleetFloor$Vehicle" "moves") ∈ bg := bg_m3 21 rfl rfl
theorem tw_502 : (Jvm.Cond.lays "FleetFloor$Vehicle" "FleetFloor$Vehicle" "made" "I") ∈ bg := bg_m3 22 rfl rfl
theorem tw_503 : (Jvm.Cond.soleField "FleetFloor$Vehicle" "made") ∈ bg := bg_m3 23 rfl rfl
theorem tw_504 : (Jvm.Cond.lays "FleetFloor$Vehicle" "FleetFloor$Vehicle" "allowed" "I") ∈ bg := bg_m3 24 rfl rfl
theorem tw_505 : (Jvm.Cond.soleField "FleetFloor$Vehicle" "allowed") ∈ bg := bg_m3 25 rfl rfl
theorem tw_506 : (Jvm.Cond.lays "FleetFloor$Vehicle" "FleetFloor$Vehicle" "known" "I") ∈ bg := bg_m3 26 rfl rfl
theorem tw_507 : (Jvm.Cond.soleField "FleetFloor$Vehicle" "known") ∈ bg := bg_m3 27 rfl rfl
theorem tw_508 : (Jvm.Cond.lays "FleetFloor$Vehicle" "FleetFloor$Vehicle" "granted" "I") ∈ bg := bg_m3 28 rfl rfl
theorem tw_509 : (Jvm.Cond.soleField "FleetFloor$Vehicle" "granted") ∈ bg := bg_m3 29 rfl rfl
theorem tw_510 : (Jvm.Cond.lays "FleetFloor$Vehicle" "FleetFloor$Vehicle" "latestTask" "I") ∈ bg := bg_m3 30 rfl rfl
theorem tw_511 : (Jvm.Cond.soleField "FleetFloor$Vehicle" "latestTask") ∈ bg := bg_m3 31 rfl rfl
theorem tw_512 : (Jvm.Cond.lays "FleetFloor$Vehicle" "FleetFloor$Vehicle" "finishAt" "I") ∈ bg := bg_m3 32 rfl rfl
theorem tw_513 : (Jvm.Cond.soleField "FleetFloor$Vehicle" "finishAt") ∈ bg := bg_m3 33 rfl rfl
theorem tw_514 : (Jvm.Cond.lays "FleetFloor$Vehicle" "FleetFloor$Vehicle" "justMoved" "Z") ∈ bg := bg_m3 34 rfl rfl
theorem tw_515 : (Jvm.Cond.soleField "FleetFloor$Vehicle" "justMoved") ∈ bg := bg_m3 35 rfl rfl
theorem tw_516 : (Jvm.Cond.superclass "FleetFloor$Vehicle" "java/lang/Object") ∈ bg := bg_m3 36 rfl rfl
theorem tw_517 : (Jvm.Cond.classLink "FleetFloor" (84 : Nat) "FleetFloor$Cells") ∈ bg := bg_m3 37 rfl rfl
theorem tx_518 : (Jvm.Cond.methodLinkNest "FleetFloor" (86 : Nat) ({ cls := "FleetFloor$Cells", name := "<init>", desc := "()V" } : Jvm.MethodName) "FleetFloor") ∈ lw_tbl := tb_m3 38 rfl
theorem tw_519 : (Jvm.Cond.methodLink "FleetFloor" (87 : Nat) ({ cls := "FleetFloor$FloorMap", name := "collect", desc := "(ILFleetFloor$Cells;)V" } : Jvm.MethodName)) ∈ bg := bg_m3 39 rfl rfl
theorem tw_520 : (Jvm.Cond.classLink "FleetFloor" (91 : Nat) "FleetFloor$Planner") ∈ bg := bg_m3 40 rfl rfl
theorem tw_521 : (Jvm.Cond.instantiable "FleetFloor$Planner" (13 : Nat)) ∈ bg := bg_m3 41 rfl rfl
theorem tw_522 : (Jvm.Cond.methodLink "FleetFloor" (93 : Nat) ({ cls := "FleetFloor$Planner", name := "<init>", desc := "(LFleetFloor$Cells;[LFleetFloor$Vehicle;)V" } : Jvm.MethodName)) ∈ bg := bg_m3 42 rfl rfl
theorem tw_523 : (Jvm.Cond.instanceMethod ({ cls := "FleetFloor$Planner", name := "<init>", desc := "(LFleetFloor$Cells;[LFleetFloor$Vehicle;)V" } : Jvm.MethodName)) ∈ bg := bg_m3 43 rfl rfl
theorem tw_524 : (Jvm.Cond.code ({ cls := "FleetFloor$Planner", name := "<init>", desc := "(LFleetFloor$Cells;[LFleetFloor$Vehicle;)V" } : Jvm.MethodName) prog_7_method_1_code (4 : Nat) (Option.none : Option Jvm.ClassFile.FieldType)) ∈ bg := bg_m3 44 rfl rfl
theorem tw_525 : (Jvm.Cond.methodLink "FleetFloor$Planner" (3 : Nat) ({ cls := "java/lang/Object", name := "<init>", desc := "()V" } : Jvm.MethodName)) ∈ bg := bg_m3 45 rfl rfl
theorem tw_526 : (Jvm.Cond.classLink "FleetFloor$Planner" (19 : Nat) "FleetFloor$Cells") ∈ bg := bg_m3 46 rfl rfl
theorem tx_527 : (Jvm.Cond.arrayOver (Jvm.ClassFile.FieldType.object "FleetFloor$Cells")) ∈ lw_tbl := tb_m3 47 rfl
theorem tx_528 : (Jvm.Cond.methodLinkNest "FleetFloor$Planner" (28 : Nat) ({ cls := "FleetFloor$Cells", name := "<init>", desc := "()V" } : Jvm.MethodName) "FleetFloor") ∈ lw_tbl := tb_m3 48 rfl
theorem tw_529 : (Jvm.Cond.fieldLink "FleetFloor$Planner" (9 : Nat) "FleetFloor$Planner" "common" "LFleetFloor$Cells;") ∈ bg := bg_m3 49 rfl rfl
theorem tw_530 : (Jvm.Cond.fieldLink "FleetFloor$Planner" (15 : Nat) "FleetFloor$Planner" "vehicles" "[LFleetFloor$Vehicle;") ∈ bg := bg_m3 50 rfl rfl
theorem tw_531 : (Jvm.Cond.fieldLink "FleetFloor$Planner" (21 : Nat) "FleetFloor$Planner" "canEnter" "[LFleetFloor$Cells;") ∈ bg := bg_m3 51 rfl rfl
theorem tw_532 : (Jvm.Cond.fieldLink "FleetFloor$Planner" (25 : Nat) "FleetFloor$Planner" "canBe" "[LFleetFloor$Cells;") ∈ bg := bg_m3 52 rfl rfl
theorem tw_533 : (Jvm.Cond.fieldLink "FleetFloor$Planner" (29 : Nat) "FleetFloor$Planner" "reached" "[LFleetFloor$Cells;") ∈ bg := bg_m3 53 rfl rfl
theorem tw_534 : (Jvm.Cond.fieldLink "FleetFloor$Planner" (32 : Nat) "FleetFloor$Planner" "aim" "LFleetFloor$Cells;") ∈ bg := bg_m3 54 rfl rfl
theorem tw_535 : (Jvm.Cond.fieldLink "FleetFloor$Planner" (35 : Nat) "FleetFloor$Planner" "scratch" "LFleetFloor$Cells;") ∈ bg := bg_m3 55 rfl rfl
theorem tw_536 : (Jvm.Cond.fieldLink "FleetFloor$Planner" (38 : Nat) "FleetFloor$Planner" "way" "[I") ∈ bg := bg_m3 56 rfl rfl
theorem tw_537 : (Jvm.Cond.fieldLink "FleetFloor$Planner" (48 : Nat) "FleetFloor$Planner" "first" "I") ∈ bg := bg_m3 57 rfl rfl
theorem tw_538 : (Jvm.Cond.fieldLink "FleetFloor$Planner" (52 : Nat) "FleetFloor$Planner" "second" "I") ∈ bg := bg_m3 58 rfl rfl
theorem tw_539 : (Jvm.Cond.fieldLink "FleetFloor$Planner" (58 : Nat) "FleetFloor$Planner" "parking" "I") ∈ bg := bg_m3 59 rfl rfl
theorem tw_540 : (Jvm.Cond.fieldLink "FleetFloor$Planner" (67 : Nat) "FleetFloor$Planner" "end" "I") ∈ bg := bg_m3 60 rfl rfl
theorem tw_541 : (Jvm.Cond.fieldLink "FleetFloor$Planner" (91 : Nat) "FleetFloor$Planner" "finish" "I") ∈ bg := bg_m3 61 rfl rfl
theorem tw_542 : (Jvm.Cond.laysFinal "FleetFloor$Planner" "FleetFloor$Planner" "common" "LFleetFloor$Cells;") ∈ bg := bg_m3 62 rfl rfl
theorem tw_543 : (Jvm.Cond.soleField "FleetFloor$Planner" "common") ∈ bg := bg_m3 63 rfl rfl
theorem tw_544 : (Jvm.Cond.laysFinal "FleetFloor$Planner" "FleetFloor$Planner" "vehicles" "[LFleetFloor$Vehicle;") ∈ bg := bg_m3 64 rfl rfl
theorem tw_545 : (Jvm.Cond.soleField "FleetFloor$Planner" "vehicles") ∈ bg := bg_m3 65 rfl rfl
theorem tw_546 : (Jvm.Cond.laysFinal "FleetFloor$Planner" "FleetFloor$Planner" "canEnter" "[LFleetFloor$Cells;") ∈ bg := bg_m3 66 rfl rfl
theorem tw_547 : (Jvm.Cond.soleField "FleetFloor$Planner" "canEnter") ∈ bg := bg_m3 67 rfl rfl
theorem tw_548 : (Jvm.Cond.laysFinal "FleetFloor$Planner" "FleetFloor$Planner" "canBe" "[LFleetFloor$Cells;") ∈ bg := bg_m3 68 rfl rfl
theorem tw_549 : (Jvm.Cond.soleField "FleetFloor$Planner" "canBe") ∈ bg := bg_m3 69 rfl rfl
theorem tw_550 : (Jvm.Cond.laysFinal "FleetFloor$Planner" "FleetFloor$Planner" "reached" "[LFleetFloor$Cells;") ∈ bg := bg_m3 70 rfl rfl
theorem tw_551 : (Jvm.Cond.soleField "FleetFloor$Planner" "reached") ∈ bg := bg_m3 71 rfl rfl
theorem tw_552 : (Jvm.Cond.laysFinal "FleetFloor$Planner" "FleetFloor$Planner" "aim" "LFleetFloor$Cells;") ∈ bg := bg_m3 72 rfl rfl
theorem tw_553 : (Jvm.Cond.soleField "FleetFloor$Planner" "aim") ∈ bg := bg_m3 73 rfl rfl
theorem tw_554 : (Jvm.Cond.laysFinal "FleetFloor$Planner" "FleetFloor$Planner" "scratch" "LFleetFloor$Cells;") ∈ bg := bg_m3 74 rfl rfl
theorem tw_555 : (Jvm.Cond.soleField "FleetFloor$Planner" "scratch") ∈ bg := bg_m3 75 rfl rfl
theorem tw_556 : (Jvm.Cond.laysFinal "FleetFloor$Planner" "FleetFloor$Planner" "way" "[I") ∈ bg := bg_m3 76 rfl rfl
theorem tw_557 : (Jvm.Cond.soleField "FleetFloor$Planner" "way") ∈ bg := bg_m3 77 rfl rfl
theorem tw_558 : (Jvm.Cond.lays "FleetFloor$Planner" "FleetFloor$Planner" "first" "I") ∈ bg := bg_m3 78 rfl rfl
theorem tw_559 : (Jvm.Cond.soleField "FleetFloor$Planner" "first") ∈ bg := bg_m3 79 rfl rfl
theorem tw_560 : (Jvm.Cond.lays "FleetFloor$Planner" "FleetFloor$Planner" "second" "I") ∈ bg := bg_m3 80 rfl rfl
theorem tw_561 : (Jvm.Cond.soleField "FleetFloor$Planner" "second") ∈ bg := bg_m3 81 rfl rfl
theorem tw_562 : (Jvm.Cond.lays "FleetFloor$Planner" "FleetFloor$Planner" "parking" "I") ∈ bg := bg_m3 82 rfl rfl
theorem tw_563 : (Jvm.Cond.soleField "FleetFloor$Planner" "parking") ∈ bg := bg_m3 83 rfl rfl
theorem tw_564 : (Jvm.Cond.lays "FleetFloor$Planner" "FleetFloor$Planner" "end" "I") ∈ bg := bg_m3 84 rfl rfl
theorem tw_565 : (Jvm.Cond.soleField "FleetFloor$Planner" "end") ∈ bg := bg_m3 85 rfl rfl
theorem tw_566 : (Jvm.Cond.lays "FleetFloor$Planner" "FleetFloor$Planner" "finish" "I") ∈ bg := bg_m3 86 rfl rfl
theorem tw_567 : (Jvm.Cond.soleField "FleetFloor$Planner" "finish") ∈ bg := bg_m3 87 rfl rfl
theorem tw_568 : (Jvm.Cond.superclass "FleetFloor$Planner" "java/lang/Object") ∈ bg := bg_m3 88 rfl rfl
theorem tw_569 : (Jvm.Cond.methodLink "FleetFloorLaw" (42 : Nat) ({ cls := "FleetFloorLaw", name := "task", desc := "(LFleetFloor;II[J)I" } : Jvm.MethodName)) ∈ bg := bg_m3 89 rfl rfl
theorem tw_570 : (Jvm.Cond.static ({ cls := "FleetFloorLaw", name := "task", desc := "(LFleetFloor;II[J)I" } : Jvm.MethodName)) ∈ bg := bg_m3 90 rfl rfl
theorem tw_571 : (Jvm.Cond.codeWith ({ cls := "FleetFloorLaw", name := "task", desc := "(LFleetFloor;II[J)I" } : Jvm.MethodName) method_4_code (5 : Nat) (Option.some Jvm.ClassFile.FieldType.int) [((0 : Nat), (10 : Nat), (13 : Nat), (15 : Nat)), ((0 : Nat), (10 : Nat), (17 : Nat), (13 : Nat))]) ∈ bg := bg_m3 91 rfl rfl
theorem tw_572 : (Jvm.Cond.methodLink "FleetFloorLaw" (17 : Nat) ({ cls := "FleetFloor", name := "task", desc := "(II)I" } : Jvm.MethodName)) ∈ bg := bg_m3 92 rfl rfl
theorem tw_573 : (Jvm.Cond.instanceMethod ({ cls := "FleetFloor", name := "task", desc := "(II)I" } : Jvm.MethodName)) ∈ bg := bg_m3 93 rfl rfl
theorem tw_574 : (Jvm.Cond.selects "FleetFloor" ({ cls := "FleetFloor", name := "task", desc := "(II)I" } : Jvm.MethodName) ({ cls := "FleetFloor", name := "task", desc := "(II)I" } : Jvm.MethodName)) ∈ bg := bg_m3 94 rfl rfl
theorem tw_575 : (Jvm.Cond.code ({ cls := "FleetFloor", name := "task", desc := "(II)I" } : Jvm.MethodName) prog_1_method_4_code (3 : Nat) (Option.some Jvm.ClassFile.FieldType.int)) ∈ bg := bg_m3 95 rfl rfl
theorem tx_576 : (Jvm.Cond.stringRef "FleetFloor" (100 : Nat) "the floor is not open, or there were all tasks") ∈ lw_tbl := tb_m3 96 rfl
theorem tw_577 : (Jvm.Cond.methodLink "FleetFloor" (102 : Nat) ({ cls := "FleetFloor", name := "isStation", desc := "(I)Z" } : Jvm.MethodName)) ∈ bg := bg_m3 97 rfl rfl
theorem tx_578 : (Jvm.Cond.privateMethod ({ cls := "FleetFloor", name := "isStation", desc := "(I)Z" } : Jvm.MethodName)) ∈ lw_tbl := tb_m3 98 rfl
theorem tw_579 : (Jvm.Cond.instanceMethod ({ cls := "FleetFloor", name := "isStation", desc := "(I)Z" } : Jvm.MethodName)) ∈ bg := bg_m3 99 rfl rfl
theorem tw_580 : (Jvm.Cond.code ({ cls := "FleetFloor", name := "isStation", desc := "(I)Z" } : Jvm.MethodName) prog_1_method_16_code (2 : Nat) (Option.some Jvm.ClassFile.FieldType.boolean)) ∈ bg := bg_m3 100 rfl rfl
theorem tx_581 : (Jvm.Cond.stringRef "FleetFloor" (106 : Nat) "there is no such station") ∈ lw_tbl := tb_m3 101 rfl
theorem tw_582 : (Jvm.Cond.instantiable "FleetFloor$Task" (4 : Nat)) ∈ bg := bg_m3 102 rfl rfl
theorem tw_583 : (Jvm.Cond.methodLink "FleetFloor" (110 : Nat) ({ cls := "FleetFloor$Task", name := "<init>", desc := "(II)V" } : Jvm.MethodName)) ∈ bg := bg_m3 103 rfl rfl
theorem tw_584 : (Jvm.Cond.instanceMethod ({ cls := "FleetFloor$Task", name := "<init>", desc := "(II)V" } : Jvm.MethodName)) ∈ bg := bg_m3 104 rfl rfl
theorem tw_585 : (Jvm.Cond.code ({ cls := "FleetFloor$Task", name := "<init>", desc := "(II)V" } : Jvm.MethodName) prog_8_method_1_code (3 : Nat) (Option.none : Option Jvm.ClassFile.FieldType)) ∈ bg := bg_m3 105 rfl rfl
theorem tw_586 : (Jvm.Cond.methodLink "FleetFloor$Task" (3 : Nat) ({ cls := "java/lang/Object", name := "<init>", desc := "()V" } : Jvm.MethodName)) ∈ bg := bg_m3 106 rfl rfl
theorem tw_587 : (Jvm.Cond.fieldLink "FleetFloor$Task" (9 : Nat) "FleetFloor$Task" "first" "I") ∈ bg := bg_m3 107 rfl rfl
theorem tx_588 : (Jvm.Cond.fieldLinkNest "FleetFloor$Planner" (42 : Nat) "FleetFloor$Task" "first" "I" "FleetFloor") ∈ lw_tbl := tb_m3 108 rfl
theorem tw_589 : (Jvm.Cond.fieldLink "FleetFloor$Task" (15 : Nat) "FleetFloor$Task" "second" "I") ∈ bg := bg_m3 109 rfl rfl
theorem tx_590 : (Jvm.Cond.fieldLinkNest "FleetFloor$Planner" (49 : Nat) "FleetFloor$Task" "second" "I" "FleetFloor") ∈ lw_tbl := tb_m3 110 rfl
theorem tw_591 : (Jvm.Cond.fieldLink "FleetFloor$Task" (18 : Nat) "FleetFloor$Task" "carrier" "I") ∈ bg := bg_m3 111 rfl rfl
theorem tx_592 : (Jvm.Cond.fieldLinkNest "FleetFloor" (194 : Nat) "FleetFloor$Task" "carrier" "I" "FleetFloor") ∈ lw_tbl := tb_m3 112 rfl
theorem tw_593 : (Jvm.Cond.fieldLink "FleetFloor$Task" (21 : Nat) "FleetFloor$Task" "finishedIn" "I") ∈ bg := bg_m3 113 rfl rfl
theorem tx_594 : (Jvm.Cond.fieldLinkNest "FleetFloor" (197 : Nat) "FleetFloor$Task" "finishedIn" "I" "FleetFloor") ∈ lw_tbl := tb_m3 114 rfl
theorem tw_595 : (Jvm.Cond.laysFinal "FleetFloor$Task" "FleetFloor$Task" "first" "I") ∈ bg := bg_m3 115 rfl rfl
theorem tw_596 : (Jvm.Cond.soleField "FleetFloor$Task" "first") ∈ bg := bg_m3 116 rfl rfl
theorem tw_597 : (Jvm.Cond.laysFinal "FleetFloor$Task" "FleetFloor$Task" "second" "I") ∈ bg := bg_m3 117 rfl rfl
theorem tw_598 : (Jvm.Cond.soleField "FleetFloor$Task" "second") ∈ bg := bg_m3 118 rfl rfl
theorem tw_599 : (Jvm.Cond.lays "FleetFloor$Task" "FleetFloor$Task" "carrier" "I") ∈ bg := bg_m3 119 rfl rfl
theorem tw_600 : (Jvm.Cond.soleField "FleetFloor$Task" "carrier") ∈ bg := bg_m3 120 rfl rfl
theorem tw_601 : (Jvm.Cond.lays "FleetFloor$Task" "FleetFloor$Task" "finishedIn" "I") ∈ bg := bg_m3 121 rfl rfl
theorem tw_602 : (Jvm.Cond.soleField "FleetFloor$Task" "finishedIn") ∈ bg := bg_m3 122 rfl rfl
theorem tw_603 : (Jvm.Cond.superclass "FleetFloor$Task" "java/lang/Object") ∈ bg := bg_m3 123 rfl rfl
theorem tw_604 : (Jvm.Cond.methodLink "FleetFloor" (111 : Nat) ({ cls := "java/util/ArrayList", name := "add", desc := "(Ljava/lang/Object;)Z" } : Jvm.MethodName)) ∈ bg := bg_m3 124 rfl rfl
theorem tw_605 : (Jvm.Cond.methodLink "FleetFloorLaw" (46 : Nat) ({ cls := "FleetFloorLaw", name := "tick", desc := "(LFleetFloor;[J)I" } : Jvm.MethodName)) ∈ bg := bg_m3 125 rfl rfl
theorem tw_606 : (Jvm.Cond.static ({ cls := "FleetFloorLaw", name := "tick", desc := "(LFleetFloor;[J)I" } : Jvm.MethodName)) ∈ bg := bg_m3 126 rfl rfl
theorem tw_607 : (Jvm.Cond.codeWith ({ cls := "FleetFloorLaw", name := "tick", desc := "(LFleetFloor;[J)I" } : Jvm.MethodName) method_5_code (3 : Nat) (Option.some Jvm.ClassFile.FieldType.int) [((0 : Nat), (8 : Nat), (11 : Nat), (15 : Nat))]) ∈ bg := bg_m3 127 rfl rfl
theorem tw_608 : (Jvm.Cond.methodLink "FleetFloorLaw" (21 : Nat) ({ cls := "FleetFloor", name := "tick", desc := "()I" } : Jvm.MethodName)) ∈ bg := bg_m3 128 rfl rfl
theorem tw_609 : (Jvm.Cond.instanceMethod ({ cls := "FleetFloor", name := "tick", desc := "()I" } : Jvm.MethodName)) ∈ bg := bg_m3 129 rfl rfl
theorem tw_610 : (Jvm.Cond.selects "FleetFloor" ({ cls := "FleetFloor", name := "tick", desc := "()I" } : Jvm.MethodName) ({ cls := "FleetFloor", name := "tick", desc := "()I" } : Jvm.MethodName)) ∈ bg := bg_m3 130 rfl rfl
theorem tw_611 : (Jvm.Cond.code ({ cls := "FleetFloor", name := "tick", desc := "()I" } : Jvm.MethodName) prog_1_method_5_code (2 : Nat) (Option.some Jvm.ClassFile.FieldType.int)) ∈ bg := bg_m3 131 rfl rfl
theorem tx_612 : (Jvm.Cond.stringRef "FleetFloor" (115 : Nat) "the floor is not open") ∈ lw_tbl := tb_m3 132 rfl
theorem tw_613 : (Jvm.Cond.methodLink "FleetFloor" (117 : Nat) ({ cls := "FleetFloor", name := "makeMoves", desc := "()I" } : Jvm.MethodName)) ∈ bg := bg_m3 133 rfl rfl
theorem tx_614 : (Jvm.Cond.privateMethod ({ cls := "FleetFloor", name := "makeMoves", desc := "()I" } : Jvm.MethodName)) ∈ lw_tbl := tb_m3 134 rfl
theorem tw_615 : (Jvm.Cond.instanceMethod ({ cls := "FleetFloor", name := "makeMoves", desc := "()I" } : Jvm.MethodName)) ∈ bg := bg_m3 135 rfl rfl
theorem tw_616 : (Jvm.Cond.code ({ cls := "FleetFloor", name := "makeMoves", desc := "()I" } : Jvm.MethodName) prog_1_method_18_code (4 : Nat) (Option.some Jvm.ClassFile.FieldType.int)) ∈ bg := bg_m3 136 rfl rfl
theorem tw_617 : (Jvm.Cond.methodLink "FleetFloor" (200 : Nat) ({ cls := "FleetFloor$Vehicle", name := "canMove", desc := "()Z" } : Jvm.MethodName)) ∈ bg := bg_m3 137 rfl rfl
theorem tw_618 : (Jvm.Cond.instanceMethod ({ cls := "FleetFloor$Vehicle", name := "canMove", desc := "()Z" } : Jvm.MethodName)) ∈ bg := bg_m3 138 rfl rfl
theorem tw_619 : (Jvm.Cond.selects "FleetFloor$Vehicle" ({ cls := "FleetFloor$Vehicle", name := "canMove", desc := "()Z" } : Jvm.MethodName) ({ cls := "FleetFloor$Vehicle", name := "canMove", desc := "()Z" } : Jvm.MethodName)) ∈ bg := bg_m3 139 rfl rfl
theorem tw_620 : (Jvm.Cond.code ({ cls := "FleetFloor$Vehicle", name := "canMove", desc := "()Z" } : Jvm.MethodName) prog_9_method_3_code (1 : Nat) (Option.some Jvm.ClassFile.FieldType.boolean)) ∈ bg := bg_m3 140 rfl rfl
theorem tw_621 : (Jvm.Cond.methodLink "FleetFloor" (207 : Nat) ({ cls := "FleetFloor", name := "noteFinish", desc := "(LFleetFloor$Vehicle;)V" } : Jvm.MethodName)) ∈ bg := bg_m3 141 rfl rfl
theorem tx_622 : (Jvm.Cond.privateMethod ({ cls := "FleetFloor", name := "noteFinish", desc := "(LFleetFloor$Vehicle;)V" } : Jvm.MethodName)) ∈ lw_tbl := tb_m3 142 rfl
theorem tw_623 : (Jvm.Cond.instanceMethod ({ cls := "FleetFloor", name := "noteFinish", desc := "(LFleetFloor$Vehicle;)V" } : Jvm.MethodName)) ∈ bg := bg_m3 143 rfl rfl
theorem tw_624 : (Jvm.Cond.code ({ cls := "FleetFloor", name := "noteFinish", desc := "(LFleetFloor$Vehicle;)V" } : Jvm.MethodName) prog_1_method_19_code (2 : Nat) (Option.none : Option Jvm.ClassFile.FieldType)) ∈ bg := bg_m3 144 rfl rfl
theorem tw_625 : (Jvm.Cond.methodLink "FleetFloor" (120 : Nat) ({ cls := "FleetFloor", name := "sendDones", desc := "()V" } : Jvm.MethodName)) ∈ bg := bg_m3 145 rfl rfl
theorem tx_626 : (Jvm.Cond.privateMethod ({ cls := "FleetFloor", name := "sendDones", desc := "()V" } : Jvm.MethodName)) ∈ lw_tbl := tb_m3 146 rfl
theorem tw_627 : (Jvm.Cond.instanceMethod ({ cls := "FleetFloor", name := "sendDones", desc := "()V" } : Jvm.MethodName)) ∈ bg := bg_m3 147 rfl rfl
theorem tw_628 : (Jvm.Cond.code ({ cls := "FleetFloor", name := "sendDones", desc := "()V" } : Jvm.MethodName) prog_1_method_20_code (3 : Nat) (Option.none : Option Jvm.ClassFile.FieldType)) ∈ bg := bg_m3 148 rfl rfl
theorem tw_629 : (Jvm.Cond.methodLink "FleetFloor" (214 : Nat) ({ cls := "FleetFloor", name := "reportsNow", desc := "(LFleetFloor$Vehicle;)Z" } : Jvm.MethodName)) ∈ bg := bg_m3 149 rfl rfl
theorem tx_630 : (Jvm.Cond.privateMethod ({ cls := "FleetFloor", name := "reportsNow", desc := "(LFleetFloor$Vehicle;)Z" } : Jvm.MethodName)) ∈ lw_tbl := tb_m3 150 rfl
theorem tw_631 : (Jvm.Cond.instanceMethod ({ cls := "FleetFloor", name := "reportsNow", desc := "(LFleetFloor$Vehicle;)Z" } : Jvm.MethodName)) ∈ bg := bg_m3 151 rfl rfl
theorem tw_632 : (Jvm.Cond.code ({ cls := "FleetFloor", name := "reportsNow", desc := "(LFleetFloor$Vehicle;)Z" } : Jvm.MethodName) prog_1_method_21_code (2 : Nat) (Option.some Jvm.ClassFile.FieldType.boolean)) ∈ bg := bg_m3 152 rfl rfl
theorem tw_633 : (Jvm.Cond.classLink "FleetFloor" (135 : Nat) "FleetFloor$Letter") ∈ bg := bg_m3 153 rfl rfl
theorem tw_634 : (Jvm.Cond.instantiable "FleetFloor$Letter" (3 : Nat)) ∈ bg := bg_m3 154 rfl rfl
theorem tx_635 : (Jvm.Cond.methodLinkNest "FleetFloor" (220 : Nat) ({ cls := "FleetFloor$Letter", name := "<init>", desc := "(III)V" } : Jvm.MethodName) "FleetFloor") ∈ lw_tbl := tb_m3 155 rfl
theorem tw_636 : (Jvm.Cond.instanceMethod ({ cls := "FleetFloor$Letter", name := "<init>", desc := "(III)V" } : Jvm.MethodName)) ∈ bg := bg_m3 156 rfl rfl
theorem tw_637 : (Jvm.Cond.code ({ cls := "FleetFloor$Letter", name := "<init>", desc := "(III)V" } : Jvm.MethodName) prog_5_method_1_code (4 : Nat) (Option.none : Option Jvm.ClassFile.FieldType)) ∈ bg := bg_m3 157 rfl rfl
theorem tw_638 : (Jvm.Cond.methodLink "FleetFloor$Letter" (1 : Nat) ({ cls := "java/lang/Record", name := "<init>", desc := "()V" } : Jvm.MethodName)) ∈ bg := bg_m3 158 rfl rfl
theorem tw_639 : (Jvm.Cond.instanceMethod ({ cls := "java/lang/Record", name := "<init>", desc := "()V" } : Jvm.MethodName)) ∈ bg := bg_m3 159 rfl rfl
theorem tw_640 : (Jvm.Cond.code ({ cls := "java/lang/Record", name := "<init>", desc := "()V" } : Jvm.MethodName) prog_19_method_1_code (1 : Nat) (Option.none : Option Jvm.ClassFile.FieldType)) ∈ bg := bg_m3 160 rfl rfl
theorem tw_641 : (Jvm.Cond.methodLink "java/lang/Record" (1 : Nat) ({ cls := "java/lang/Object", name := "<init>", desc := "()V" } : Jvm.MethodName)) ∈ bg := bg_m3 161 rfl rfl
theorem tw_642 : (Jvm.Cond.fieldLink "FleetFloor$Letter" (7 : Nat) "FleetFloor$Letter" "kind" "I") ∈ bg := bg_m3 162 rfl rfl
theorem tw_643 : (Jvm.Cond.fieldLink "FleetFloor$Letter" (13 : Nat) "FleetFloor$Letter" "owner" "I") ∈ bg := bg_m3 163 rfl rfl
theorem tw_644 : (Jvm.Cond.fieldLink "FleetFloor$Letter" (16 : Nat) "FleetFloor$Letter" "number" "I") ∈ bg := bg_m3 164 rfl rfl
theorem tw_645 : (Jvm.Cond.laysFinal "FleetFloor$Letter" "FleetFloor$Letter" "kind" "I") ∈ bg := bg_m3 165 rfl rfl
theorem tw_646 : (Jvm.Cond.soleField "FleetFloor$Letter" "kind") ∈ bg := bg_m3 166 rfl rfl
theorem tw_647 : (Jvm.Cond.laysFinal "FleetFloor$Letter" "FleetFloor$Letter" "owner" "I") ∈ bg := bg_m3 167 rfl rfl
theorem tw_648 : (Jvm.Cond.soleField "FleetFloor$Letter" "owner") ∈ bg := bg_m3 168 rfl rfl
theorem tw_649 : (Jvm.Cond.laysFinal "FleetFloor$Letter" "FleetFloor$Letter" "number" "I") ∈ bg := bg_m3 169 rfl rfl
theorem tw_650 : (Jvm.Cond.soleField "FleetFloor$Letter" "number") ∈ bg := bg_m3 170 rfl rfl
theorem tw_651 : (Jvm.Cond.superclass "FleetFloor$Letter" "java/lang/Record") ∈ bg := bg_m3 171 rfl rfl
theorem tw_652 : (Jvm.Cond.methodLink "FleetFloor" (123 : Nat) ({ cls := "FleetFloor", name := "makePlans", desc := "()V" } : Jvm.MethodName)) ∈ bg := bg_m3 172 rfl rfl
theorem tx_653 : (Jvm.Cond.privateMethod ({ cls := "FleetFloor", name := "makePlans", desc := "()V" } : Jvm.MethodName)) ∈ lw_tbl := tb_m3 173 rfl
theorem tw_654 : (Jvm.Cond.instanceMethod ({ cls := "FleetFloor", name := "makePlans", desc := "()V" } : Jvm.MethodName)) ∈ bg := bg_m3 174 rfl rfl
theorem tw_655 : (Jvm.Cond.code ({ cls := "FleetFloor", name := "makePlans", desc := "()V" } : Jvm.MethodName) prog_1_method_22_code (3 : Nat) (Option.none : Option Jvm.ClassFile.FieldType)) ∈ bg := bg_m3 175 rfl rfl
theorem tw_656 : (Jvm.Cond.methodLink "FleetFloor" (223 : Nat) ({ cls := "FleetFloor", name := "lowestIdle", desc := "()LFleetFloor$Vehicle;" } : Jvm.MethodName)) ∈ bg := bg_m3 176 rfl rfl
theorem tx_657 : (Jvm.Cond.privateMethod ({ cls := "FleetFloor", name := "lowestIdle", desc := "()LFleetFloor$Vehicle;" } : Jvm.MethodName)) ∈ lw_tbl := tb_m3 177 rfl
theorem tw_658 : (Jvm.Cond.instanceMethod ({ cls := "FleetFloor", name := "lowestIdle", desc := "()LFleetFloor$Vehicle;" } : Jvm.MethodName)) ∈ bg := bg_m3 178 rfl rfl
theorem tw_659 : (Jvm.Cond.code ({ cls := "FleetFloor", name := "lowestIdle", desc := "()LFleetFloor$Vehicle;" } : Jvm.MethodName) prog_1_method_23_code (2 : Nat) (Option.some (Jvm.ClassFile.FieldType.object "FleetFloor$Vehicle"))) ∈ bg := bg_m3 179 rfl rfl
theorem tw_660 : (Jvm.Cond.methodLink "FleetFloor" (235 : Nat) ({ cls := "FleetFloor$Vehicle", name := "isIdle", desc := "()Z" } : Jvm.MethodName)) ∈ bg := bg_m3 180 rfl rfl
theorem tw_661 : (Jvm.Cond.instanceMethod ({ cls := "FleetFloor$Vehicle", name := "isIdle", desc := "()Z" } : Jvm.MethodName)) ∈ bg := bg_m3 181 rfl rfl
theorem tw_662 : (Jvm.Cond.selects "FleetFloor$Vehicle" ({ cls := "FleetFloor$Vehicle", name := "isIdle", desc := "()Z" } : Jvm.MethodName) ({ cls := "FleetFloor$Vehicle", name := "isIdle", desc := "()Z" } : Jvm.MethodName)) ∈ bg := bg_m3 182 rfl rfl
theorem tw_663 : (Jvm.Cond.code ({ cls := "FleetFloor$Vehicle", name := "isIdle", desc := "()Z" } : Jvm.MethodName) prog_9_method_2_code (1 : Nat) (Option.some Jvm.ClassFile.FieldType.boolean)) ∈ bg := bg_m3 183 rfl rfl
theorem tw_664 : (Jvm.Cond.methodLink "FleetFloor" (227 : Nat) ({ cls := "FleetFloor$Planner", name := "find", desc := "(LFleetFloor$Vehicle;LFleetFloor$Task;I)Z" } : Jvm.MethodName)) ∈ bg := bg_m3 184 rfl rfl
theorem tw_665 : (Jvm.Cond.instanceMethod ({ cls := "FleetFloor$Planner", name := "find", desc := "(LFleetFloor$Vehicle;LFleetFloor$Task;I)Z" } : Jvm.MethodName)) ∈ bg := bg_m3 185 rfl rfl
theorem tw_666 : (Jvm.Cond.selects "FleetFloor$Planner" ({ cls := "FleetFloor$Planner", name := "find", desc := "(LFleetFloor$Vehicle;LFleetFloor$Task;I)Z" } : Jvm.MethodName) ({ cls := "FleetFloor$Planner", name := "find", desc := "(LFleetFloor$Vehicle;LFleetFloor$Task;I)Z" } : Jvm.MethodName)) ∈ bg := bg_m3 186 rfl rfl
theorem tw_667 : (Jvm.Cond.code ({ cls := "FleetFloor$Planner", name := "find", desc := "(LFleetFloor$Vehicle;LFleetFloor$Task;I)Z" } : Jvm.MethodName) prog_7_method_2_code (4 : Nat) (Option.some Jvm.ClassFile.FieldType.boolean)) ∈ bg := bg_m3 187 rfl rfl
theorem tw_668 : (Jvm.Cond.methodLink "FleetFloor$Planner" (59 : Nat) ({ cls := "FleetFloor$Planner", name := "layOut", desc := "(LFleetFloor$Vehicle;I)V" } : Jvm.MethodName)) ∈ bg := bg_m3 188 rfl rfl
theorem tx_669 : (Jvm.Cond.privateMethod ({ cls := "FleetFloor$Planner", name := "layOut", desc := "(LFleetFloor$Vehicle;I)V" } : Jvm.MethodName)) ∈ lw_tbl := tb_m3 189 rfl
theorem tw_670 : (Jvm.Cond.instanceMethod ({ cls := "FleetFloor$Planner", name := "layOut", desc := "(LFleetFloor$Vehicle;I)V" } : Jvm.MethodName)) ∈ bg := bg_m3 190 rfl rfl
theorem tw_671 : (Jvm.Cond.code ({ cls := "FleetFloor$Planner", name := "layOut", desc := "(LFleetFloor$Vehicle;I)V" } : Jvm.MethodName) prog_7_method_4_code (4 : Nat) (Option.none : Option Jvm.ClassFile.FieldType)) ∈ bg := bg_m3 191 rfl rfl
theorem tw_672 : (Jvm.Cond.methodLink "FleetFloor$Planner" (100 : Nat) ({ cls := "FleetFloor$Cells", name := "copy", desc := "(LFleetFloor$Cells;)V" } : Jvm.MethodName)) ∈ bg := bg_m3 192 rfl rfl
theorem tw_673 : (Jvm.Cond.instanceMethod ({ cls := "FleetFloor$Cells", name := "copy", desc := "(LFleetFloor$Cells;)V" } : Jvm.MethodName)) ∈ bg := bg_m3 193 rfl rfl
theorem tw_674 : (Jvm.Cond.selects "FleetFloor$Cells" ({ cls := "FleetFloor$Cells", name := "copy", desc := "(LFleetFloor$Cells;)V" } : Jvm.MethodName) ({ cls := "FleetFloor$Cells", name := "copy", desc := "(LFleetFloor$Cells;)V" } : Jvm.MethodName)) ∈ bg := bg_m3 194 rfl rfl
theorem tw_675 : (Jvm.Cond.code ({ cls := "FleetFloor$Cells", name := "copy", desc := "(LFleetFloor$Cells;)V" } : Jvm.MethodName) prog_3_method_3_code (2 : Nat) (Option.none : Option Jvm.ClassFile.FieldType)) ∈ bg := bg_m3 195 rfl rfl
theorem tw_676 : (Jvm.Cond.methodLink "FleetFloor$Planner" (104 : Nat) ({ cls := "FleetFloor$Cells", name := "put", desc := "(I)V" } : Jvm.MethodName)) ∈ bg := bg_m3 196 rfl rfl
theorem tw_677 : (Jvm.Cond.methodLink "FleetFloor$Planner" (108 : Nat) ({ cls := "FleetFloor$Planner", name := "keepClearOf", desc := "(LFleetFloor$Vehicle;I)V" } : Jvm.MethodName)) ∈ bg := bg_m3 197 rfl rfl
theorem tx_678 : (Jvm.Cond.privateMethod ({ cls := "FleetFloor$Planner", name := "keepClearOf", desc := "(LFleetFloor$Vehicle;I)V" } : Jvm.MethodName)) ∈ lw_tbl := tb_m3 198 rfl
theorem tw_679 : (Jvm.Cond.instanceMethod ({ cls := "FleetFloor$Planner", name := "keepClearOf", desc := "(LFleetFloor$Vehicle;I)V" } : Jvm.MethodName)) ∈ bg := bg_m3 199 rfl rfl
theorem tw_680 : (Jvm.Cond.code ({ cls := "FleetFloor$Planner", name := "keepClearOf", desc := "(LFleetFloor$Vehicle;I)V" } : Jvm.MethodName) prog_7_method_5_code (6 : Nat) (Option.none : Option Jvm.ClassFile.FieldType)) ∈ bg := bg_m3 200 rfl rfl
theorem tw_681 : (Jvm.Cond.methodLink "FleetFloor$Planner" (114 : Nat) ({ cls := "FleetFloor$Vehicle", name := "movesUpTo", desc := "(I)I" } : Jvm.MethodName)) ∈ bg := bg_m3 201 rfl rfl
theorem tw_682 : (Jvm.Cond.instanceMethod ({ cls := "FleetFloor$Vehicle", name := "movesUpTo", desc := "(I)I" } : Jvm.MethodName)) ∈ bg := bg_m3 202 rfl rfl
theorem tw_683 : (Jvm.Cond.selects "FleetFloor$Vehicle" ({ cls := "FleetFloor$Vehicle", name := "movesUpTo", desc := "(I)I" } : Jvm.MethodName) ({ cls := "FleetFloor$Vehicle", name := "movesUpTo", desc := "(I)I" } : Jvm.MethodName)) ∈ bg := bg_m3 203 rfl rfl
theorem tw_684 : (Jvm.Cond.code ({ cls := "FleetFloor$Vehicle", name := "movesUpTo", desc := "(I)I" } : Jvm.MethodName) prog_9_method_5_code (3 : Nat) (Option.some Jvm.ClassFile.FieldType.int)) ∈ bg := bg_m3 204 rfl rfl
theorem tw_685 : (Jvm.Cond.methodLink "FleetFloor$Vehicle" (60 : Nat) ({ cls := "FleetFloor$Move", name := "time", desc := "()I" } : Jvm.MethodName)) ∈ bg := bg_m3 205 rfl rfl
theorem tw_686 : (Jvm.Cond.methodLink "FleetFloor$Planner" (118 : Nat) ({ cls := "FleetFloor$Vehicle", name := "placeAfter", desc := "(I)I" } : Jvm.MethodName)) ∈ bg := bg_m3 206 rfl rfl
theorem tw_687 : (Jvm.Cond.methodLink "FleetFloor$Planner" (121 : Nat) ({ cls := "FleetFloor$Cells", name := "drop", desc := "(I)V" } : Jvm.MethodName)) ∈ bg := bg_m3 207 rfl rfl
theorem tw_688 : (Jvm.Cond.instanceMethod ({ cls := "FleetFloor$Cells", name := "drop", desc := "(I)V" } : Jvm.MethodName)) ∈ bg := bg_m3 208 rfl rfl
theorem tw_689 : (Jvm.Cond.selects "FleetFloor$Cells" ({ cls := "FleetFloor$Cells", name := "drop", desc := "(I)V" } : Jvm.MethodName) ({ cls := "FleetFloor$Cells", name := "drop", desc := "(I)V" } : Jvm.MethodName)) ∈ bg := bg_m3 209 rfl rfl
theorem tw_690 : (Jvm.Cond.code ({ cls := "FleetFloor$Cells", name := "drop", desc := "(I)V" } : Jvm.MethodName) prog_3_method_6_code (2 : Nat) (Option.none : Option Jvm.ClassFile.FieldType)) ∈ bg := bg_m3 210 rfl rfl
theorem tw_691 : (Jvm.Cond.methodLink "FleetFloor$Planner" (94 : Nat) ({ cls := "java/util/ArrayList", name := "size", desc := "()I" } : Jvm.MethodName)) ∈ bg := bg_m3 211 rfl rfl
theorem tw_692 : (Jvm.Cond.methodLink "FleetFloor$Planner" (124 : Nat) ({ cls := "java/util/ArrayList", name := "get", desc := "(I)Ljava/lang/Object;" } : Jvm.MethodName)) ∈ bg := bg_m3 212 rfl rfl
theorem tw_693 : (Jvm.Cond.classLink "FleetFloor$Planner" (80 : Nat) "FleetFloor$Move") ∈ bg := bg_m3 213 rfl rfl
theorem tw_694 : (Jvm.Cond.methodLink "FleetFloor$Planner" (128 : Nat) ({ cls := "FleetFloor$Move", name := "time", desc := "()I" } : Jvm.MethodName)) ∈ bg := bg_m3 214 rfl rfl
theorem tw_695 : (Jvm.Cond.methodLink "FleetFloor$Planner" (111 : Nat) ({ cls := "FleetFloor$Cells", name := "keep", desc := "(LFleetFloor$Cells;)V" } : Jvm.MethodName)) ∈ bg := bg_m3 215 rfl rfl
theorem tw_696 : (Jvm.Cond.methodLink "FleetFloor$Planner" (63 : Nat) ({ cls := "FleetFloor$Planner", name := "spread", desc := "()I" } : Jvm.MethodName)) ∈ bg := bg_m3 216 rfl rfl
theorem tx_697 : (Jvm.Cond.privateMethod ({ cls := "FleetFloor$Planner", name := "spread", desc := "()I" } : Jvm.MethodName)) ∈ lw_tbl := tb_m3 217 rfl
theorem tw_698 : (Jvm.Cond.instanceMethod ({ cls := "FleetFloor$Planner", name := "spread", desc := "()I" } : Jvm.MethodName)) ∈ bg := bg_m3 218 rfl rfl
theorem tw_699 : (Jvm.Cond.code ({ cls := "FleetFloor$Planner", name := "spread", desc := "()I" } : Jvm.MethodName) prog_7_method_7_code (3 : Nat) (Option.some Jvm.ClassFile.FieldType.int)) ∈ bg := bg_m3 219 rfl rfl
theorem tw_700 : (Jvm.Cond.methodLink "FleetFloor$Planner" (131 : Nat) ({ cls := "FleetFloor$Planner", name := "at", desc := "(II)LFleetFloor$Cells;" } : Jvm.MethodName)) ∈ bg := bg_m3 220 rfl rfl
theorem tx_701 : (Jvm.Cond.privateMethod ({ cls := "FleetFloor$Planner", name := "at", desc := "(II)LFleetFloor$Cells;" } : Jvm.MethodName)) ∈ lw_tbl := tb_m3 221 rfl
theorem tw_702 : (Jvm.Cond.instanceMethod ({ cls := "FleetFloor$Planner", name := "at", desc := "(II)LFleetFloor$Cells;" } : Jvm.MethodName)) ∈ bg := bg_m3 222 rfl rfl
theorem tw_703 : (Jvm.Cond.code ({ cls := "FleetFloor$Planner", name := "at", desc := "(II)LFleetFloor$Cells;" } : Jvm.MethodName) prog_7_method_6_code (3 : Nat) (Option.some (Jvm.ClassFile.FieldType.object "FleetFloor$Cells"))) ∈ bg := bg_m3 223 rfl rfl
theorem tw_704 : (Jvm.Cond.methodLink "FleetFloor$Planner" (135 : Nat) ({ cls := "FleetFloor$Cells", name := "clear", desc := "()V" } : Jvm.MethodName)) ∈ bg := bg_m3 224 rfl rfl
theorem tw_705 : (Jvm.Cond.instanceMethod ({ cls := "FleetFloor$Cells", name := "clear", desc := "()V" } : Jvm.MethodName)) ∈ bg := bg_m3 225 rfl rfl
theorem tw_706 : (Jvm.Cond.selects "FleetFloor$Cells" ({ cls := "FleetFloor$Cells", name := "clear", desc := "()V" } : Jvm.MethodName) ({ cls := "FleetFloor$Cells", name := "clear", desc := "()V" } : Jvm.MethodName)) ∈ bg := bg_m3 226 rfl rfl
theorem tw_707 : (Jvm.Cond.code ({ cls := "FleetFloor$Cells", name := "clear", desc := "()V" } : Jvm.MethodName) prog_3_method_2_code (1 : Nat) (Option.none : Option Jvm.ClassFile.FieldType)) ∈ bg := bg_m3 227 rfl rfl
theorem tw_708 : (Jvm.Cond.methodLink "FleetFloor$Planner" (138 : Nat) ({ cls := "FleetFloor$Planner", name := "stepOn", desc := "(II)V" } : Jvm.MethodName)) ∈ bg := bg_m3 228 rfl rfl
theorem tx_709 : (Jvm.Cond.privateMethod ({ cls := "FleetFloor$Planner", name := "stepOn", desc := "(II)V" } : Jvm.MethodName)) ∈ lw_tbl := tb_m3 229 rfl
theorem tw_710 : (Jvm.Cond.instanceMethod ({ cls := "FleetFloor$Planner", name := "stepOn", desc := "(II)V" } : Jvm.MethodName)) ∈ bg := bg_m3 230 rfl rfl
theorem tw_711 : (Jvm.Cond.code ({ cls := "FleetFloor$Planner", name := "stepOn", desc := "(II)V" } : Jvm.MethodName) prog_7_method_8_code (5 : Nat) (Option.none : Option Jvm.ClassFile.FieldType)) ∈ bg := bg_m3 231 rfl rfl
theorem tw_712 : (Jvm.Cond.methodLink "FleetFloor$Planner" (148 : Nat) ({ cls := "FleetFloor$Cells", name := "becomeNeighboursOf", desc := "(LFleetFloor$Cells;)V" } : Jvm.MethodName)) ∈ bg := bg_m3 232 rfl rfl
theorem tw_713 : (Jvm.Cond.methodLink "FleetFloor$Planner" (151 : Nat) ({ cls := "FleetFloor$Cells", name := "join", desc := "(LFleetFloor$Cells;)V" } : Jvm.MethodName)) ∈ bg := bg_m3 233 rfl rfl
theorem tw_714 : (Jvm.Cond.methodLink "FleetFloor$Planner" (141 : Nat) ({ cls := "FleetFloor$Planner", name := "changeLeg", desc := "(II)V" } : Jvm.MethodName)) ∈ bg := bg_m3 234 rfl rfl
theorem tx_715 : (Jvm.Cond.privateMethod ({ cls := "FleetFloor$Planner", name := "changeLeg", desc := "(II)V" } : Jvm.MethodName)) ∈ lw_tbl := tb_m3 235 rfl
theorem tw_716 : (Jvm.Cond.instanceMethod ({ cls := "FleetFloor$Planner", name := "changeLeg", desc := "(II)V" } : Jvm.MethodName)) ∈ bg := bg_m3 236 rfl rfl
theorem tw_717 : (Jvm.Cond.code ({ cls := "FleetFloor$Planner", name := "changeLeg", desc := "(II)V" } : Jvm.MethodName) prog_7_method_9_code (3 : Nat) (Option.none : Option Jvm.ClassFile.FieldType)) ∈ bg := bg_m3 237 rfl rfl
theorem tw_718 : (Jvm.Cond.methodLink "FleetFloor$Planner" (154 : Nat) ({ cls := "FleetFloor$Planner", name := "goalOf", desc := "(I)I" } : Jvm.MethodName)) ∈ bg := bg_m3 238 rfl rfl
theorem tx_719 : (Jvm.Cond.privateMethod ({ cls := "FleetFloor$Planner", name := "goalOf", desc := "(I)I" } : Jvm.MethodName)) ∈ lw_tbl := tb_m3 239 rfl
theorem tw_720 : (Jvm.Cond.instanceMethod ({ cls := "FleetFloor$Planner", name := "goalOf", desc := "(I)I" } : Jvm.MethodName)) ∈ bg := bg_m4 0 rfl rfl
theorem tw_721 : (Jvm.Cond.code ({ cls := "FleetFloor$Planner", name := "goalOf", desc := "(I)I" } : Jvm.MethodName) prog_7_method_10_code (2 : Nat) (Option.some Jvm.ClassFile.FieldType.int)) ∈ bg := bg_m4 1 rfl rfl
theorem tw_722 : (Jvm.Cond.methodLink "FleetFloor$Planner" (144 : Nat) ({ cls := "FleetFloor$Cells", name := "has", desc := "(I)Z" } : Jvm.MethodName)) ∈ bg := bg_m4 2 rfl rfl
theorem tw_723 : (Jvm.Cond.methodLink "FleetFloor$Planner" (70 : Nat) ({ cls := "FleetFloor$Planner", name := "prune", desc := "()V" } : Jvm.MethodName)) ∈ bg := bg_m4 3 rfl rfl
theorem tx_724 : (Jvm.Cond.privateMethod ({ cls := "FleetFloor$Planner", name := "prune", desc := "()V" } : Jvm.MethodName)) ∈ lw_tbl := tb_m4 4 rfl
theorem tw_725 : (Jvm.Cond.instanceMethod ({ cls := "FleetFloor$Planner", name := "prune", desc := "()V" } : Jvm.MethodName)) ∈ bg := bg_m4 5 rfl rfl
theorem tw_726 : (Jvm.Cond.code ({ cls := "FleetFloor$Planner", name := "prune", desc := "()V" } : Jvm.MethodName) prog_7_method_11_code (4 : Nat) (Option.none : Option Jvm.ClassFile.FieldType)) ∈ bg := bg_m4 6 rfl rfl
theorem tw_727 : (Jvm.Cond.methodLink "FleetFloor$Planner" (157 : Nat) ({ cls := "FleetFloor$Planner", name := "keepThoseBefore", desc := "(II)V" } : Jvm.MethodName)) ∈ bg := bg_m4 7 rfl rfl
theorem tx_728 : (Jvm.Cond.privateMethod ({ cls := "FleetFloor$Planner", name := "keepThoseBefore", desc := "(II)V" } : Jvm.MethodName)) ∈ lw_tbl := tb_m4 8 rfl
theorem tw_729 : (Jvm.Cond.instanceMethod ({ cls := "FleetFloor$Planner", name := "keepThoseBefore", desc := "(II)V" } : Jvm.MethodName)) ∈ bg := bg_m4 9 rfl rfl
theorem tw_730 : (Jvm.Cond.code ({ cls := "FleetFloor$Planner", name := "keepThoseBefore", desc := "(II)V" } : Jvm.MethodName) prog_7_method_12_code (3 : Nat) (Option.none : Option Jvm.ClassFile.FieldType)) ∈ bg := bg_m4 10 rfl rfl
theorem tw_731 : (Jvm.Cond.methodLink "FleetFloor$Planner" (73 : Nat) ({ cls := "FleetFloor$Planner", name := "follow", desc := "()V" } : Jvm.MethodName)) ∈ bg := bg_m4 11 rfl rfl
theorem tx_732 : (Jvm.Cond.privateMethod ({ cls := "FleetFloor$Planner", name := "follow", desc := "()V" } : Jvm.MethodName)) ∈ lw_tbl := tb_m4 12 rfl
theorem tw_733 : (Jvm.Cond.instanceMethod ({ cls := "FleetFloor$Planner", name := "follow", desc := "()V" } : Jvm.MethodName)) ∈ bg := bg_m4 13 rfl rfl
theorem tw_734 : (Jvm.Cond.code ({ cls := "FleetFloor$Planner", name := "follow", desc := "()V" } : Jvm.MethodName) prog_7_method_13_code (4 : Nat) (Option.none : Option Jvm.ClassFile.FieldType)) ∈ bg := bg_m4 14 rfl rfl
theorem tw_735 : (Jvm.Cond.methodLink "FleetFloor$Planner" (160 : Nat) ({ cls := "FleetFloor$Planner", name := "lowestStep", desc := "(III)I" } : Jvm.MethodName)) ∈ bg := bg_m4 15 rfl rfl
theorem tx_736 : (Jvm.Cond.privateMethod ({ cls := "FleetFloor$Planner", name := "lowestStep", desc := "(III)I" } : Jvm.MethodName)) ∈ lw_tbl := tb_m4 16 rfl
theorem tw_737 : (Jvm.Cond.instanceMethod ({ cls := "FleetFloor$Planner", name := "lowestStep", desc := "(III)I" } : Jvm.MethodName)) ∈ bg := bg_m4 17 rfl rfl
theorem tw_738 : (Jvm.Cond.code ({ cls := "FleetFloor$Planner", name := "lowestStep", desc := "(III)I" } : Jvm.MethodName) prog_7_method_14_code (6 : Nat) (Option.some Jvm.ClassFile.FieldType.int)) ∈ bg := bg_m4 18 rfl rfl
theorem tx_739 : (Jvm.Cond.methodLinkNest "FleetFloor$Planner" (168 : Nat) ({ cls := "FleetFloor", name := "neighbour", desc := "(II)I" } : Jvm.MethodName) "FleetFloor") ∈ lw_tbl := tb_m4 19 rfl
theorem tw_740 : (Jvm.Cond.static ({ cls := "FleetFloor", name := "neighbour", desc := "(II)I" } : Jvm.MethodName)) ∈ bg := bg_m4 20 rfl rfl
theorem tw_741 : (Jvm.Cond.code ({ cls := "FleetFloor", name := "neighbour", desc := "(II)I" } : Jvm.MethodName) prog_1_method_26_code (4 : Nat) (Option.some Jvm.ClassFile.FieldType.int)) ∈ bg := bg_m4 21 rfl rfl
theorem tw_742 : (Jvm.Cond.methodLink "FleetFloor$Planner" (164 : Nat) ({ cls := "FleetFloor$Planner", name := "legAt", desc := "(II)I" } : Jvm.MethodName)) ∈ bg := bg_m4 22 rfl rfl
theorem tx_743 : (Jvm.Cond.privateMethod ({ cls := "FleetFloor$Planner", name := "legAt", desc := "(II)I" } : Jvm.MethodName)) ∈ lw_tbl := tb_m4 23 rfl
theorem tw_744 : (Jvm.Cond.instanceMethod ({ cls := "FleetFloor$Planner", name := "legAt", desc := "(II)I" } : Jvm.MethodName)) ∈ bg := bg_m4 24 rfl rfl
theorem tw_745 : (Jvm.Cond.code ({ cls := "FleetFloor$Planner", name := "legAt", desc := "(II)I" } : Jvm.MethodName) prog_7_method_15_code (4 : Nat) (Option.some Jvm.ClassFile.FieldType.int)) ∈ bg := bg_m4 25 rfl rfl
theorem tw_746 : (Jvm.Cond.methodLink "FleetFloor" (231 : Nat) ({ cls := "FleetFloor$Planner", name := "append", desc := "(LFleetFloor$Vehicle;I)V" } : Jvm.MethodName)) ∈ bg := bg_m4 26 rfl rfl
theorem tw_747 : (Jvm.Cond.instanceMethod ({ cls := "FleetFloor$Planner", name := "append", desc := "(LFleetFloor$Vehicle;I)V" } : Jvm.MethodName)) ∈ bg := bg_m4 27 rfl rfl
theorem tw_748 : (Jvm.Cond.selects "FleetFloor$Planner" ({ cls := "FleetFloor$Planner", name := "append", desc := "(LFleetFloor$Vehicle;I)V" } : Jvm.MethodName) ({ cls := "FleetFloor$Planner", name := "append", desc := "(LFleetFloor$Vehicle;I)V" } : Jvm.MethodName)) ∈ bg := bg_m4 28 rfl rfl
theorem tw_749 : (Jvm.Cond.code ({ cls := "FleetFloor$Planner", name := "append", desc := "(LFleetFloor$Vehicle;I)V" } : Jvm.MethodName) prog_7_method_3_code (4 : Nat) (Option.none : Option Jvm.ClassFile.FieldType)) ∈ bg := bg_m4 29 rfl rfl
theorem tw_750 : (Jvm.Cond.instantiable "FleetFloor$Move" (2 : Nat)) ∈ bg := bg_m4 30 rfl rfl
theorem tx_751 : (Jvm.Cond.methodLinkNest "FleetFloor$Planner" (82 : Nat) ({ cls := "FleetFloor$Move", name := "<init>", desc := "(II)V" } : Jvm.MethodName) "FleetFloor") ∈ lw_tbl := tb_m4 31 rfl
theorem tw_752 : (Jvm.Cond.instanceMethod ({ cls := "FleetFloor$Move", name := "<init>", desc := "(II)V" } : Jvm.MethodName)) ∈ bg := bg_m4 32 rfl rfl
theorem tw_753 : (Jvm.Cond.code ({ cls := "FleetFloor$Move", name := "<init>", desc := "(II)V" } : Jvm.MethodName) prog_6_method_1_code (3 : Nat) (Option.none : Option Jvm.ClassFile.FieldType)) ∈ bg := bg_m4 33 rfl rfl
theorem tw_754 : (Jvm.Cond.methodLink "FleetFloor$Move" (1 : Nat) ({ cls := "java/lang/Record", name := "<init>", desc := "()V" } : Jvm.MethodName)) ∈ bg := bg_m4 34 rfl rfl
theorem tw_755 : (Jvm.Cond.fieldLink "FleetFloor$Move" (7 : Nat) "FleetFloor$Move" "place" "I") ∈ bg := bg_m4 35 rfl rfl
theorem tw_756 : (Jvm.Cond.fieldLink "FleetFloor$Move" (13 : Nat) "FleetFloor$Move" "time" "I") ∈ bg := bg_m4 36 rfl rfl
theorem tw_757 : (Jvm.Cond.laysFinal "FleetFloor$Move" "FleetFloor$Move" "place" "I") ∈ bg := bg_m4 37 rfl rfl
theorem tw_758 : (Jvm.Cond.soleField "FleetFloor$Move" "place") ∈ bg := bg_m4 38 rfl rfl
theorem tw_759 : (Jvm.Cond.laysFinal "FleetFloor$Move" "FleetFloor$Move" "time" "I") ∈ bg := bg_m4 39 rfl rfl
theorem tw_760 : (Jvm.Cond.soleField "FleetFloor$Move" "time") ∈ bg := bg_m4 40 rfl rfl
theorem tw_761 : (Jvm.Cond.superclass "FleetFloor$Move" "java/lang/Record") ∈ bg := bg_m4 41 rfl rfl
theorem tw_762 : (Jvm.Cond.methodLink "FleetFloor$Planner" (85 : Nat) ({ cls := "java/util/ArrayList", name := "add", desc := "(Ljava/lang/Object;)Z" } : Jvm.MethodName)) ∈ bg := bg_m4 42 rfl rfl
theorem tw_763 : (Jvm.Cond.methodLink "FleetFloor" (126 : Nat) ({ cls := "FleetFloor", name := "grantMoves", desc := "()V" } : Jvm.MethodName)) ∈ bg := bg_m4 43 rfl rfl
theorem tx_764 : (Jvm.Cond.privateMethod ({ cls := "FleetFloor", name := "grantMoves", desc := "()V" } : Jvm.MethodName)) ∈ lw_tbl := tb_m4 44 rfl
theorem tw_765 : (Jvm.Cond.instanceMethod ({ cls := "FleetFloor", name := "grantMoves", desc := "()V" } : Jvm.MethodName)) ∈ bg := bg_m4 45 rfl rfl
theorem tw_766 : (Jvm.Cond.code ({ cls := "FleetFloor", name := "grantMoves", desc := "()V" } : Jvm.MethodName) prog_1_method_24_code (5 : Nat) (Option.none : Option Jvm.ClassFile.FieldType)) ∈ bg := bg_m4 46 rfl rfl
theorem tw_767 : (Jvm.Cond.methodLink "FleetFloor" (238 : Nat) ({ cls := "FleetFloor", name := "isFree", desc := "(LFleetFloor$Vehicle;LFleetFloor$Move;)Z" } : Jvm.MethodName)) ∈ bg := bg_m4 47 rfl rfl
theorem tx_768 : (Jvm.Cond.privateMethod ({ cls := "FleetFloor", name := "isFree", desc := "(LFleetFloor$Vehicle;LFleetFloor$Move;)Z" } : Jvm.MethodName)) ∈ lw_tbl := tb_m4 48 rfl
theorem tw_769 : (Jvm.Cond.instanceMethod ({ cls := "FleetFloor", name := "isFree", desc := "(LFleetFloor$Vehicle;LFleetFloor$Move;)Z" } : Jvm.MethodName)) ∈ bg := bg_m4 49 rfl rfl
theorem tw_770 : (Jvm.Cond.code ({ cls := "FleetFloor", name := "isFree", desc := "(LFleetFloor$Vehicle;LFleetFloor$Move;)Z" } : Jvm.MethodName) prog_1_method_25_code (4 : Nat) (Option.some Jvm.ClassFile.FieldType.boolean)) ∈ bg := bg_m4 50 rfl rfl
theorem tw_771 : (Jvm.Cond.methodLink "FleetFloor" (248 : Nat) ({ cls := "FleetFloor$Vehicle", name := "comesBefore", desc := "(LFleetFloor$Move;)Z" } : Jvm.MethodName)) ∈ bg := bg_m4 51 rfl rfl
theorem tw_772 : (Jvm.Cond.instanceMethod ({ cls := "FleetFloor$Vehicle", name := "comesBefore", desc := "(LFleetFloor$Move;)Z" } : Jvm.MethodName)) ∈ bg := bg_m4 52 rfl rfl
theorem tw_773 : (Jvm.Cond.selects "FleetFloor$Vehicle" ({ cls := "FleetFloor$Vehicle", name := "comesBefore", desc := "(LFleetFloor$Move;)Z" } : Jvm.MethodName) ({ cls := "FleetFloor$Vehicle", name := "comesBefore", desc := "(LFleetFloor$Move;)Z" } : Jvm.MethodName)) ∈ bg := bg_m4 53 rfl rfl
theorem tw_774 : (Jvm.Cond.code ({ cls := "FleetFloor$Vehicle", name := "comesBefore", desc := "(LFleetFloor$Move;)Z" } : Jvm.MethodName) prog_9_method_7_code (4 : Nat) (Option.some Jvm.ClassFile.FieldType.boolean)) ∈ bg := bg_m4 54 rfl rfl
theorem tw_775 : (Jvm.Cond.methodLink "FleetFloor" (242 : Nat) ({ cls := "java/lang/Math", name := "max", desc := "(II)I" } : Jvm.MethodName)) ∈ bg := bg_m4 55 rfl rfl
theorem tw_776 : (Jvm.Cond.classLink "FleetFloorLaw" (25 : Nat) "FleetFloorModel") ∈ bg := bg_m4 56 rfl rfl
theorem tw_777 : (Jvm.Cond.instantiable "FleetFloorModel" (40 : Nat)) ∈ bg := bg_m4 57 rfl rfl
theorem tw_778 : (Jvm.Cond.methodLink "FleetFloorLaw" (27 : Nat) ({ cls := "FleetFloorModel", name := "<init>", desc := "()V" } : Jvm.MethodName)) ∈ bg := bg_m4 58 rfl rfl
theorem tw_779 : (Jvm.Cond.instanceMethod ({ cls := "FleetFloorModel", name := "<init>", desc := "()V" } : Jvm.MethodName)) ∈ bg := bg_m4 59 rfl rfl
theorem tw_780 : (Jvm.Cond.code ({ cls := "FleetFloorModel", name := "<init>", desc := "()V" } : Jvm.MethodName) prog_11_method_1_code (1 : Nat) (Option.none : Option Jvm.ClassFile.FieldType)) ∈ bg := bg_m4 60 rfl rfl
theorem tw_781 : (Jvm.Cond.methodLink "FleetFloorModel" (1 : Nat) ({ cls := "java/lang/Object", name := "<init>", desc := "()V" } : Jvm.MethodName)) ∈ bg := bg_m4 61 rfl rfl
theorem tw_782 : (Jvm.Cond.fieldLink "FleetFloorModel" (96 : Nat) "FleetFloorModel" "thrown" "I") ∈ bg := bg_m4 62 rfl rfl
theorem tw_783 : (Jvm.Cond.fieldLink "FleetFloorModel" (100 : Nat) "FleetFloorModel" "open" "Z") ∈ bg := bg_m4 63 rfl rfl
theorem tw_784 : (Jvm.Cond.fieldLink "FleetFloorModel" (7 : Nat) "FleetFloorModel" "kinds" "[I") ∈ bg := bg_m4 64 rfl rfl
theorem tw_785 : (Jvm.Cond.fieldLink "FleetFloorModel" (124 : Nat) "FleetFloorModel" "stations" "I") ∈ bg := bg_m4 65 rfl rfl
theorem tw_786 : (Jvm.Cond.fieldLink "FleetFloorModel" (127 : Nat) "FleetFloorModel" "vehicles" "I") ∈ bg := bg_m4 66 rfl rfl
theorem tw_787 : (Jvm.Cond.fieldLink "FleetFloorModel" (13 : Nat) "FleetFloorModel" "stationAt" "[I") ∈ bg := bg_m4 67 rfl rfl
theorem tw_788 : (Jvm.Cond.fieldLink "FleetFloorModel" (16 : Nat) "FleetFloorModel" "parkingAt" "[I") ∈ bg := bg_m4 68 rfl rfl
theorem tw_789 : (Jvm.Cond.fieldLink "FleetFloorModel" (19 : Nat) "FleetFloorModel" "seen" "[Z") ∈ bg := bg_m4 69 rfl rfl
theorem tw_790 : (Jvm.Cond.fieldLink "FleetFloorModel" (23 : Nat) "FleetFloorModel" "pile" "[I") ∈ bg := bg_m4 70 rfl rfl
theorem tw_791 : (Jvm.Cond.fieldLink "FleetFloorModel" (130 : Nat) "FleetFloorModel" "tasks" "I") ∈ bg := bg_m4 71 rfl rfl
theorem tw_792 : (Jvm.Cond.fieldLink "FleetFloorModel" (133 : Nat) "FleetFloorModel" "planned" "I") ∈ bg := bg_m4 72 rfl rfl
theorem tw_793 : (Jvm.Cond.fieldLink "FleetFloorModel" (26 : Nat) "FleetFloorModel" "first" "[I") ∈ bg := bg_m4 73 rfl rfl
theorem tw_794 : (Jvm.Cond.fieldLink "FleetFloorModel" (29 : Nat) "FleetFloorModel" "second" "[I") ∈ bg := bg_m4 74 rfl rfl
theorem tw_795 : (Jvm.Cond.fieldLink "FleetFloorModel" (32 : Nat) "FleetFloorModel" "owner" "[I") ∈ bg := bg_m4 75 rfl rfl
theorem tw_796 : (Jvm.Cond.fieldLink "FleetFloorModel" (35 : Nat) "FleetFloorModel" "start" "[I") ∈ bg := bg_m4 76 rfl rfl
theorem tw_797 : (Jvm.Cond.fieldLink "FleetFloorModel" (38 : Nat) "FleetFloorModel" "many" "[I") ∈ bg := bg_m4 77 rfl rfl
theorem tw_798 : (Jvm.Cond.fieldLink "FleetFloorModel" (41 : Nat) "FleetFloorModel" "base" "[I") ∈ bg := bg_m4 78 rfl rfl
theorem tw_799 : (Jvm.Cond.fieldLink "FleetFloorModel" (44 : Nat) "FleetFloorModel" "finishing" "[I") ∈ bg := bg_m4 79 rfl rfl
theorem tw_800 : (Jvm.Cond.fieldLink "FleetFloorModel" (47 : Nat) "FleetFloorModel" "finished" "[I") ∈ bg := bg_m4 80 rfl rfl
theorem tw_801 : (Jvm.Cond.fieldLink "FleetFloorModel" (177 : Nat) "FleetFloorModel" "rowed" "I") ∈ bg := bg_m4 81 rfl rfl
theorem tw_802 : (Jvm.Cond.fieldLink "FleetFloorModel" (50 : Nat) "FleetFloorModel" "moveCell" "[I") ∈ bg := bg_m4 82 rfl rfl
theorem tw_803 : (Jvm.Cond.fieldLink "FleetFloorModel" (53 : Nat) "FleetFloorModel" "moveTime" "[I") ∈ bg := bg_m4 83 rfl rfl
theorem tw_804 : (Jvm.Cond.fieldLink "FleetFloorModel" (56 : Nat) "FleetFloorModel" "at" "[I") ∈ bg := bg_m4 84 rfl rfl
theorem tw_805 : (Jvm.Cond.fieldLink "FleetFloorModel" (59 : Nat) "FleetFloorModel" "made" "[I") ∈ bg := bg_m4 85 rfl rfl
theorem tw_806 : (Jvm.Cond.fieldLink "FleetFloorModel" (62 : Nat) "FleetFloorModel" "may" "[I") ∈ bg := bg_m4 86 rfl rfl
theorem tw_807 : (Jvm.Cond.fieldLink "FleetFloorModel" (65 : Nat) "FleetFloorModel" "known" "[I") ∈ bg := bg_m4 87 rfl rfl
theorem tw_808 : (Jvm.Cond.fieldLink "FleetFloorModel" (68 : Nat) "FleetFloorModel" "granted" "[I") ∈ bg := bg_m4 88 rfl rfl
theorem tw_809 : (Jvm.Cond.fieldLink "FleetFloorModel" (71 : Nat) "FleetFloorModel" "moves" "[I") ∈ bg := bg_m4 89 rfl rfl
theorem tw_810 : (Jvm.Cond.fieldLink "FleetFloorModel" (74 : Nat) "FleetFloorModel" "latest" "[I") ∈ bg := bg_m4 90 rfl rfl
theorem tw_811 : (Jvm.Cond.fieldLink "FleetFloorModel" (136 : Nat) "FleetFloorModel" "clock" "I") ∈ bg := bg_m4 91 rfl rfl
theorem tw_812 : (Jvm.Cond.fieldLink "FleetFloorModel" (212 : Nat) "FleetFloorModel" "ticks" "I") ∈ bg := bg_m4 92 rfl rfl
theorem tw_813 : (Jvm.Cond.fieldLink "FleetFloorModel" (215 : Nat) "FleetFloorModel" "letters" "I") ∈ bg := bg_m4 93 rfl rfl
theorem tw_814 : (Jvm.Cond.fieldLink "FleetFloorModel" (77 : Nat) "FleetFloorModel" "letterKind" "[I") ∈ bg := bg_m4 94 rfl rfl
theorem tw_815 : (Jvm.Cond.fieldLink "FleetFloorModel" (80 : Nat) "FleetFloorModel" "letterOf" "[I") ∈ bg := bg_m4 95 rfl rfl
theorem tw_816 : (Jvm.Cond.fieldLink "FleetFloorModel" (83 : Nat) "FleetFloorModel" "letterNumber" "[I") ∈ bg := bg_m4 96 rfl rfl
theorem tw_817 : (Jvm.Cond.fieldLink "FleetFloorModel" (86 : Nat) "FleetFloorModel" "noBeing" "[J") ∈ bg := bg_m4 97 rfl rfl
theorem tw_818 : (Jvm.Cond.fieldLink "FleetFloorModel" (90 : Nat) "FleetFloorModel" "noComing" "[J") ∈ bg := bg_m4 98 rfl rfl
theorem tw_819 : (Jvm.Cond.fieldLink "FleetFloorModel" (93 : Nat) "FleetFloorModel" "reached" "[J") ∈ bg := bg_m4 99 rfl rfl
theorem tw_820 : (Jvm.Cond.fieldLink "FleetFloorModel" (146 : Nat) "FleetFloorModel" "planner" "I") ∈ bg := bg_m4 100 rfl rfl
theorem tw_821 : (Jvm.Cond.lays "FleetFloorModel" "FleetFloorModel" "thrown" "I") ∈ bg := bg_m4 101 rfl rfl
theorem tw_822 : (Jvm.Cond.soleField "FleetFloorModel" "thrown") ∈ bg := bg_m4 102 rfl rfl
theorem tw_823 : (Jvm.Cond.lays "FleetFloorModel" "FleetFloorModel" "open" "Z") ∈ bg := bg_m4 103 rfl rfl
theorem tw_824 : (Jvm.Cond.soleField "FleetFloorModel" "open") ∈ bg := bg_m4 104 rfl rfl
theorem tw_825 : (Jvm.Cond.laysFinal "FleetFloorModel" "FleetFloorModel" "kinds" "[I") ∈ bg := bg_m4 105 rfl rfl
theorem tw_826 : (Jvm.Cond.soleField "FleetFloorModel" "kinds") ∈ bg := bg_m4 106 rfl rfl
theorem tw_827 : (Jvm.Cond.lays "FleetFloorModel" "FleetFloorModel" "stations" "I") ∈ bg := bg_m4 107 rfl rfl
theorem tw_828 : (Jvm.Cond.soleField "FleetFloorModel" "stations") ∈ bg := bg_m4 108 rfl rfl
theorem tw_829 : (Jvm.Cond.lays "FleetFloorModel" "FleetFloorModel" "vehicles" "I") ∈ bg := bg_m4 109 rfl rfl
theorem tw_830 : (Jvm.Cond.soleField "FleetFloorModel" "vehicles") ∈ bg := bg_m4 110 rfl rfl
theorem tw_831 : (Jvm.Cond.laysFinal "FleetFloorModel" "FleetFloorModel" "stationAt" "[I") ∈ bg := bg_m4 111 rfl rfl
theorem tw_832 : (Jvm.Cond.soleField "FleetFloorModel" "stationAt") ∈ bg := bg_m4 112 rfl rfl
theorem tw_833 : (Jvm.Cond.laysFinal "FleetFloorModel" "FleetFloorModel" "parkingAt" "[I") ∈ bg := bg_m4 113 rfl rfl
theorem tw_834 : (Jvm.Cond.soleField "FleetFloorModel" "parkingAt") ∈ bg := bg_m4 114 rfl rfl
theorem tw_835 : (Jvm.Cond.laysFinal "FleetFloorModel" "FleetFloorModel" "seen" "[Z") ∈ bg := bg_m4 115 rfl rfl
theorem tw_836 : (Jvm.Cond.soleField "FleetFloorModel" "seen") ∈ bg := bg_m4 116 rfl rfl
theorem tw_837 : (Jvm.Cond.laysFinal "FleetFloorModel" "FleetFloorModel" "pile" "[I") ∈ bg := bg_m4 117 rfl rfl
theorem tw_838 : (Jvm.Cond.soleField "FleetFloorModel" "pile") ∈ bg := bg_m4 118 rfl rfl
theorem tw_839 : (Jvm.Cond.lays "FleetFloorModel" "FleetFloorModel" "tasks" "I") ∈ bg := bg_m4 119 rfl rfl
theorem tw_840 : (Jvm.Cond.soleField "FleetFloorModel" "tasks") ∈ bg := bg_m4 120 rfl rfl
theorem tw_841 : (Jvm.Cond.lays "FleetFloorModel" "FleetFloorModel" "planned" "I") ∈ bg := bg_m4 121 rfl rfl
theorem tw_842 : (Jvm.Cond.soleField "FleetFloorModel" "planned") ∈ bg := bg_m4 122 rfl rfl
theorem tw_843 : (Jvm.Cond.laysFinal "FleetFloorModel" "FleetFloorModel" "first" "[I") ∈ bg := bg_m4 123 rfl rfl
theorem tw_844 : (Jvm.Cond.soleField "FleetFloorModel" "first") ∈ bg := bg_m4 124 rfl rfl
theorem tw_845 : (Jvm.Cond.laysFinal "FleetFloorModel" "FleetFloorModel" "second" "[I") ∈ bg := bg_m4 125 rfl rfl
theorem tw_846 : (Jvm.Cond.soleField "FleetFloorModel" "second") ∈ bg := bg_m4 126 rfl rfl
theorem tw_847 : (Jvm.Cond.laysFinal "FleetFloorModel" "FleetFloorModel" "owner" "[I") ∈ bg := bg_m4 127 rfl rfl
theorem tw_848 : (Jvm.Cond.soleField "FleetFloorModel" "owner") ∈ bg := bg_m4 128 rfl rfl
theorem tw_849 : (Jvm.Cond.laysFinal "FleetFloorModel" "FleetFloorModel" "start" "[I") ∈ bg := bg_m4 129 rfl rfl
theorem tw_850 : (Jvm.Cond.soleField "FleetFloorModel" "start") ∈ bg := bg_m4 130 rfl rfl
theorem tw_851 : (Jvm.Cond.laysFinal "FleetFloorModel" "FleetFloorModel" "many" "[I") ∈ bg := bg_m4 131 rfl rfl
theorem tw_852 : (Jvm.Cond.soleField "FleetFloorModel" "many") ∈ bg := bg_m4 132 rfl rfl
theorem tw_853 : (Jvm.Cond.laysFinal "FleetFloorModel" "FleetFloorModel" "base" "[I") ∈ bg := bg_m4 133 rfl rfl
theorem tw_854 : (Jvm.Cond.soleField "FleetFloorModel" "base") ∈ bg := bg_m4 134 rfl rfl
theorem tw_855 : (Jvm.Cond.laysFinal "FleetFloorModel" "FleetFloorModel" "finishing" "[I") ∈ bg := bg_m4 135 rfl rfl
theorem tw_856 : (Jvm.Cond.soleField "FleetFloorModel" "finishing") ∈ bg := bg_m4 136 rfl rfl
theorem tw_857 : (Jvm.Cond.laysFinal "FleetFloorModel" "FleetFloorModel" "finished" "[I") ∈ bg := bg_m4 137 rfl rfl
theorem tw_858 : (Jvm.Cond.soleField "FleetFloorModel" "finished") ∈ bg := bg_m4 138 rfl rfl
theorem tw_859 : (Jvm.Cond.lays "FleetFloorModel" "FleetFloorModel" "rowed" "I") ∈ bg := bg_m4 139 rfl rfl
theorem tw_860 : (Jvm.Cond.soleField "FleetFloorModel" "rowed") ∈ bg := bg_m4 140 rfl rfl
theorem tw_861 : (Jvm.Cond.laysFinal "FleetFloorModel" "FleetFloorModel" "moveCell" "[I") ∈ bg := bg_m4 141 rfl rfl
theorem tw_862 : (Jvm.Cond.soleField "FleetFloorModel" "moveCell") ∈ bg := bg_m4 142 rfl rfl
theorem tw_863 : (Jvm.Cond.laysFinal "FleetFloorModel" "FleetFloorModel" "moveTime" "[I") ∈ bg := bg_m4 143 rfl rfl
theorem tw_864 : (Jvm.Cond.soleField "FleetFloorModel" "moveTime") ∈ bg := bg_m4 144 rfl rfl
theorem tw_865 : (Jvm.Cond.laysFinal "FleetFloorModel" "FleetFloorModel" "at" "[I") ∈ bg := bg_m4 145 rfl rfl
theorem tw_866 : (Jvm.Cond.soleField "FleetFloorModel" "at") ∈ bg := bg_m4 146 rfl rfl
theorem tw_867 : (Jvm.Cond.laysFinal "FleetFloorModel" "FleetFloorModel" "made" "[I") ∈ bg := bg_m4 147 rfl rfl
theorem tw_868 : (Jvm.Cond.soleField "FleetFloorModel" "made") ∈ bg := bg_m4 148 rfl rfl
theorem tw_869 : (Jvm.Cond.laysFinal "FleetFloorModel" "FleetFloorModel" "may" "[I") ∈ bg := bg_m4 149 rfl rfl
theorem tw_870 : (Jvm.Cond.soleField "FleetFloorModel" "may") ∈ bg := bg_m4 150 rfl rfl
theorem tw_871 : (Jvm.Cond.laysFinal "FleetFloorModel" "FleetFloorModel" "known" "[I") ∈ bg := bg_m4 151 rfl rfl
theorem tw_872 : (Jvm.Cond.soleField "FleetFloorModel" "known") ∈ bg := bg_m4 152 rfl rfl
theorem tw_873 : (Jvm.Cond.laysFinal "FleetFloorModel" "FleetFloorModel" "granted" "[I") ∈ bg := bg_m4 153 rfl rfl
theorem tw_874 : (Jvm.Cond.soleField "FleetFloorModel" "granted") ∈ bg := bg_m4 154 rfl rfl
theorem tw_875 : (Jvm.Cond.laysFinal "FleetFloorModel" "FleetFloorModel" "moves" "[I") ∈ bg := bg_m4 155 rfl rfl
theorem tw_876 : (Jvm.Cond.soleField "FleetFloorModel" "moves") ∈ bg := bg_m4 156 rfl rfl
theorem tw_877 : (Jvm.Cond.laysFinal "FleetFloorModel" "FleetFloorModel" "latest" "[I") ∈ bg := bg_m4 157 rfl rfl
theorem tw_878 : (Jvm.Cond.soleField "FleetFloorModel" "latest") ∈ bg := bg_m4 158 rfl rfl
theorem tw_879 : (Jvm.Cond.lays "FleetFloorModel" "FleetFloorModel" "clock" "I") ∈ bg := bg_m4 159 rfl rfl
theorem tw_880 : (Jvm.Cond.soleField "FleetFloorModel" "clock") ∈ bg := bg_m4 160 rfl rfl
theorem tw_881 : (Jvm.Cond.lays "FleetFloorModel" "FleetFloorModel" "ticks" "I") ∈ bg := bg_m4 161 rfl rfl
theorem tw_882 : (Jvm.Cond.soleField "FleetFloorModel" "ticks") ∈ bg := bg_m4 162 rfl rfl
theorem tw_883 : (Jvm.Cond.lays "FleetFloorModel" "FleetFloorModel" "letters" "I") ∈ bg := bg_m4 163 rfl rfl
theorem tw_884 : (Jvm.Cond.soleField "FleetFloorModel" "letters") ∈ bg := bg_m4 164 rfl rfl
theorem tw_885 : (Jvm.Cond.laysFinal "FleetFloorModel" "FleetFloorModel" "letterKind" "[I") ∈ bg := bg_m4 165 rfl rfl
theorem tw_886 : (Jvm.Cond.soleField "FleetFloorModel" "letterKind") ∈ bg := bg_m4 166 rfl rfl
theorem tw_887 : (Jvm.Cond.laysFinal "FleetFloorModel" "FleetFloorModel" "letterOf" "[I") ∈ bg := bg_m4 167 rfl rfl
theorem tw_888 : (Jvm.Cond.soleField "FleetFloorModel" "letterOf") ∈ bg := bg_m4 168 rfl rfl
theorem tw_889 : (Jvm.Cond.laysFinal "FleetFloorModel" "FleetFloorModel" "letterNumber" "[I") ∈ bg := bg_m4 169 rfl rfl
theorem tw_890 : (Jvm.Cond.soleField "FleetFloorModel" "letterNumber") ∈ bg := bg_m4 170 rfl rfl
theorem tw_891 : (Jvm.Cond.laysFinal "FleetFloorModel" "FleetFloorModel" "noBeing" "[J") ∈ bg := bg_m4 171 rfl rfl
theorem tw_892 : (Jvm.Cond.soleField "FleetFloorModel" "noBeing") ∈ bg := bg_m4 172 rfl rfl
theorem tw_893 : (Jvm.Cond.laysFinal "FleetFloorModel" "FleetFloorModel" "noComing" "[J") ∈ bg := bg_m4 173 rfl rfl
theorem tw_894 : (Jvm.Cond.soleField "FleetFloorModel" "noComing") ∈ bg := bg_m4 174 rfl rfl
theorem tw_895 : (Jvm.Cond.laysFinal "FleetFloorModel" "FleetFloorModel" "reached" "[J") ∈ bg := bg_m4 175 rfl rfl
theorem tw_896 : (Jvm.Cond.soleField "FleetFloorModel" "reached") ∈ bg := bg_m4 176 rfl rfl
theorem tw_897 : (Jvm.Cond.lays "FleetFloorModel" "FleetFloorModel" "planner" "I") ∈ bg := bg_m4 177 rfl rfl
theorem tw_898 : (Jvm.Cond.soleField "FleetFloorModel" "planner") ∈ bg := bg_m4 178 rfl rfl
theorem tw_899 : (Jvm.Cond.lays "FleetFloorModel" "FleetFloorModel" "done" "I") ∈ bg := bg_m4 179 rfl rfl
theorem tw_900 : (Jvm.Cond.soleField "FleetFloorModel" "done") ∈ bg := bg_m4 180 rfl rfl
theorem tw_901 : (Jvm.Cond.superclass "FleetFloorModel" "java/lang/Object") ∈ bg := bg_m4 181 rfl rfl
theorem tw_902 : (Jvm.Cond.arrayClass Jvm.ClassFile.FieldType.boolean) ∈ bg := bg_m4 182 rfl rfl
theorem tw_903 : (Jvm.Cond.arrayClass Jvm.ClassFile.FieldType.long) ∈ bg := bg_m4 183 rfl rfl
theorem tw_904 : (Jvm.Cond.methodLink "FleetFloorLaw" (39 : Nat) ({ cls := "FleetFloorModel", name := "thrown", desc := "()I" } : Jvm.MethodName)) ∈ bg := bg_m4 184 rfl rfl
theorem tw_905 : (Jvm.Cond.instanceMethod ({ cls := "FleetFloorModel", name := "thrown", desc := "()I" } : Jvm.MethodName)) ∈ bg := bg_m4 185 rfl rfl
theorem tw_906 : (Jvm.Cond.selects "FleetFloorModel" ({ cls := "FleetFloorModel", name := "thrown", desc := "()I" } : Jvm.MethodName) ({ cls := "FleetFloorModel", name := "thrown", desc := "()I" } : Jvm.MethodName)) ∈ bg := bg_m4 186 rfl rfl
theorem tw_907 : (Jvm.Cond.code ({ cls := "FleetFloorModel", name := "thrown", desc := "()I" } : Jvm.MethodName) prog_11_method_2_code (1 : Nat) (Option.some Jvm.ClassFile.FieldType.int)) ∈ bg := bg_m4 187 rfl rfl
theorem tw_908 : (Jvm.Cond.methodLink "FleetFloorLaw" (32 : Nat) ({ cls := "FleetFloorModel", name := "cell", desc := "(II)Z" } : Jvm.MethodName)) ∈ bg := bg_m4 188 rfl rfl
theorem tw_909 : (Jvm.Cond.instanceMethod ({ cls := "FleetFloorModel", name := "cell", desc := "(II)Z" } : Jvm.MethodName)) ∈ bg := bg_m4 189 rfl rfl
theorem tw_910 : (Jvm.Cond.selects "FleetFloorModel" ({ cls := "FleetFloorModel", name := "cell", desc := "(II)Z" } : Jvm.MethodName) ({ cls := "FleetFloorModel", name := "cell", desc := "(II)Z" } : Jvm.MethodName)) ∈ bg := bg_m4 190 rfl rfl
theorem tw_911 : (Jvm.Cond.code ({ cls := "FleetFloorModel", name := "cell", desc := "(II)Z" } : Jvm.MethodName) prog_11_method_5_code (3 : Nat) (Option.some Jvm.ClassFile.FieldType.boolean)) ∈ bg := bg_m4 191 rfl rfl
theorem tw_912 : (Jvm.Cond.methodLink "FleetFloorModel" (104 : Nat) ({ cls := "FleetFloorModel", name := "in", desc := "(III)Z" } : Jvm.MethodName)) ∈ bg := bg_m4 192 rfl rfl
theorem tw_913 : (Jvm.Cond.static ({ cls := "FleetFloorModel", name := "in", desc := "(III)Z" } : Jvm.MethodName)) ∈ bg := bg_m4 193 rfl rfl
theorem tw_914 : (Jvm.Cond.code ({ cls := "FleetFloorModel", name := "in", desc := "(III)Z" } : Jvm.MethodName) prog_11_method_4_code (3 : Nat) (Option.some Jvm.ClassFile.FieldType.boolean)) ∈ bg := bg_m4 194 rfl rfl
theorem tw_915 : (Jvm.Cond.methodLink "FleetFloorLaw" (38 : Nat) ({ cls := "FleetFloorModel", name := "open", desc := "()I" } : Jvm.MethodName)) ∈ bg := bg_m4 195 rfl rfl
theorem tw_916 : (Jvm.Cond.instanceMethod ({ cls := "FleetFloorModel", name := "open", desc := "()I" } : Jvm.MethodName)) ∈ bg := bg_m4 196 rfl rfl
theorem tw_917 : (Jvm.Cond.selects "FleetFloorModel" ({ cls := "FleetFloorModel", name := "open", desc := "()I" } : Jvm.MethodName) ({ cls := "FleetFloorModel", name := "open", desc := "()I" } : Jvm.MethodName)) ∈ bg := bg_m4 197 rfl rfl
theorem tw_918 : (Jvm.Cond.code ({ cls := "FleetFloorModel", name := "open", desc := "()I" } : Jvm.MethodName) prog_11_method_9_code (2 : Nat) (Option.some Jvm.ClassFile.FieldType.int)) ∈ bg := bg_m4 198 rfl rfl
theorem tw_919 : (Jvm.Cond.methodLink "FleetFloorModel" (116 : Nat) ({ cls := "FleetFloorModel", name := "isGood", desc := "()Z" } : Jvm.MethodName)) ∈ bg := bg_m4 199 rfl rfl
theorem tx_920 : (Jvm.Cond.privateMethod ({ cls := "FleetFloorModel", name := "isGood", desc := "()Z" } : Jvm.MethodName)) ∈ lw_tbl := tb_m4 200 rfl
theorem tw_921 : (Jvm.Cond.instanceMethod ({ cls := "FleetFloorModel", name := "isGood", desc := "()Z" } : Jvm.MethodName)) ∈ bg := bg_m4 201 rfl rfl
theorem tw_922 : (Jvm.Cond.code ({ cls := "FleetFloorModel", name := "isGood", desc := "()Z" } : Jvm.MethodName) prog_11_method_8_code (5 : Nat) (Option.some Jvm.ClassFile.FieldType.boolean)) ∈ bg := bg_m4 202 rfl rfl
theorem tw_923 : (Jvm.Cond.methodLink "FleetFloorModel" (112 : Nat) ({ cls := "FleetFloorModel", name := "leadsToAll", desc := "(I)Z" } : Jvm.MethodName)) ∈ bg := bg_m4 203 rfl rfl
theorem tx_924 : (Jvm.Cond.privateMethod ({ cls := "FleetFloorModel", name := "leadsToAll", desc := "(I)Z" } : Jvm.MethodName)) ∈ lw_tbl := tb_m4 204 rfl
theorem tw_925 : (Jvm.Cond.instanceMethod ({ cls := "FleetFloorModel", name := "leadsToAll", desc := "(I)Z" } : Jvm.MethodName)) ∈ bg := bg_m4 205 rfl rfl
theorem tw_926 : (Jvm.Cond.code ({ cls := "FleetFloorModel", name := "leadsToAll", desc := "(I)Z" } : Jvm.MethodName) prog_11_method_7_code (6 : Nat) (Option.some Jvm.ClassFile.FieldType.boolean)) ∈ bg := bg_m4 206 rfl rfl
theorem tw_927 : (Jvm.Cond.methodLink "FleetFloorModel" (108 : Nat) ({ cls := "FleetFloorModel", name := "neighbour", desc := "(II)I" } : Jvm.MethodName)) ∈ bg := bg_m4 207 rfl rfl
theorem tw_928 : (Jvm.Cond.static ({ cls := "FleetFloorModel", name := "neighbour", desc := "(II)I" } : Jvm.MethodName)) ∈ bg := bg_m4 208 rfl rfl
theorem tw_929 : (Jvm.Cond.code ({ cls := "FleetFloorModel", name := "neighbour", desc := "(II)I" } : Jvm.MethodName) prog_11_method_6_code (3 : Nat) (Option.some Jvm.ClassFile.FieldType.int)) ∈ bg := bg_m4 209 rfl rfl
theorem tw_930 : (Jvm.Cond.methodLink "FleetFloorModel" (120 : Nat) ({ cls := "FleetFloorModel", name := "throwing", desc := "(ZZ)Z" } : Jvm.MethodName)) ∈ bg := bg_m4 210 rfl rfl
theorem tx_931 : (Jvm.Cond.privateMethod ({ cls := "FleetFloorModel", name := "throwing", desc := "(ZZ)Z" } : Jvm.MethodName)) ∈ lw_tbl := tb_m4 211 rfl
theorem tw_932 : (Jvm.Cond.instanceMethod ({ cls := "FleetFloorModel", name := "throwing", desc := "(ZZ)Z" } : Jvm.MethodName)) ∈ bg := bg_m4 212 rfl rfl
theorem tw_933 : (Jvm.Cond.code ({ cls := "FleetFloorModel", name := "throwing", desc := "(ZZ)Z" } : Jvm.MethodName) prog_11_method_3_code (3 : Nat) (Option.some Jvm.ClassFile.FieldType.boolean)) ∈ bg := bg_m4 213 rfl rfl
theorem tw_934 : (Jvm.Cond.methodLink "FleetFloorLaw" (45 : Nat) ({ cls := "FleetFloorModel", name := "task", desc := "(II)I" } : Jvm.MethodName)) ∈ bg := bg_m4 214 rfl rfl
theorem tw_935 : (Jvm.Cond.instanceMethod ({ cls := "FleetFloorModel", name := "task", desc := "(II)I" } : Jvm.MethodName)) ∈ bg := bg_m4 215 rfl rfl
theorem tw_936 : (Jvm.Cond.selects "FleetFloorModel" ({ cls := "FleetFloorModel", name := "task", desc := "(II)I" } : Jvm.MethodName) ({ cls := "FleetFloorModel", name := "task", desc := "(II)I" } : Jvm.MethodName)) ∈ bg := bg_m4 216 rfl rfl
theorem tw_937 : (Jvm.Cond.code ({ cls := "FleetFloorModel", name := "task", desc := "(II)I" } : Jvm.MethodName) prog_11_method_10_code (3 : Nat) (Option.some Jvm.ClassFile.FieldType.int)) ∈ bg := bg_m4 217 rfl rfl
theorem tw_938 : (Jvm.Cond.methodLink "FleetFloorLaw" (52 : Nat) ({ cls := "FleetFloorModel", name := "letters", desc := "()I" } : Jvm.MethodName)) ∈ bg := bg_m4 218 rfl rfl
theorem tw_939 : (Jvm.Cond.instanceMethod ({ cls := "FleetFloorModel", name := "letters", desc := "()I" } : Jvm.MethodName)) ∈ bg := bg_m4 219 rfl rfl
theorem tw_940 : (Jvm.Cond.selects "FleetFloorModel" ({ cls := "FleetFloorModel", name := "letters", desc := "()I" } : Jvm.MethodName) ({ cls := "FleetFloorModel", name := "letters", desc := "()I" } : Jvm.MethodName)) ∈ bg := bg_m4 220 rfl rfl
theorem tw_941 : (Jvm.Cond.code ({ cls := "FleetFloorModel", name := "letters", desc := "()I" } : Jvm.MethodName) prog_11_method_31_code (1 : Nat) (Option.some Jvm.ClassFile.FieldType.int)) ∈ bg := bg_m4 221 rfl rfl
theorem tw_942 : (Jvm.Cond.methodLink "FleetFloorLaw" (56 : Nat) ({ cls := "FleetFloorModel", name := "letter", desc := "(II)I" } : Jvm.MethodName)) ∈ bg := bg_m4 222 rfl rfl
theorem tw_943 : (Jvm.Cond.instanceMethod ({ cls := "FleetFloorModel", name := "letter", desc := "(II)I" } : Jvm.MethodName)) ∈ bg := bg_m4 223 rfl rfl
theorem tw_944 : (Jvm.Cond.selects "FleetFloorModel" ({ cls := "FleetFloorModel", name := "letter", desc := "(II)I" } : Jvm.MethodName) ({ cls := "FleetFloorModel", name := "letter", desc := "(II)I" } : Jvm.MethodName)) ∈ bg := bg_m4 224 rfl rfl
theorem tw_945 : (Jvm.Cond.code ({ cls := "FleetFloorModel", name := "letter", desc := "(II)I" } : Jvm.MethodName) prog_11_method_33_code (3 : Nat) (Option.some Jvm.ClassFile.FieldType.int)) ∈ bg := bg_m4 225 rfl rfl
theorem tw_946 : (Jvm.Cond.methodLink "FleetFloorModel" (218 : Nat) ({ cls := "FleetFloorModel", name := "isLetter", desc := "(I)Z" } : Jvm.MethodName)) ∈ bg := bg_m4 226 rfl rfl
theorem tx_947 : (Jvm.Cond.privateMethod ({ cls := "FleetFloorModel", name := "isLetter", desc := "(I)Z" } : Jvm.MethodName)) ∈ lw_tbl := tb_m4 227 rfl
theorem tw_948 : (Jvm.Cond.instanceMethod ({ cls := "FleetFloorModel", name := "isLetter", desc := "(I)Z" } : Jvm.MethodName)) ∈ bg := bg_m4 228 rfl rfl
theorem tw_949 : (Jvm.Cond.code ({ cls := "FleetFloorModel", name := "isLetter", desc := "(I)Z" } : Jvm.MethodName) prog_11_method_32_code (2 : Nat) (Option.some Jvm.ClassFile.FieldType.boolean)) ∈ bg := bg_m4 229 rfl rfl
theorem tw_950 : (Jvm.Cond.methodLink "FleetFloorLaw" (61 : Nat) ({ cls := "FleetFloorModel", name := "deliver", desc := "(I)Z" } : Jvm.MethodName)) ∈ bg := bg_m4 230 rfl rfl
theorem tw_951 : (Jvm.Cond.instanceMethod ({ cls := "FleetFloorModel", name := "deliver", desc := "(I)Z" } : Jvm.MethodName)) ∈ bg := bg_m4 231 rfl rfl
theorem tw_952 : (Jvm.Cond.selects "FleetFloorModel" ({ cls := "FleetFloorModel", name := "deliver", desc := "(I)Z" } : Jvm.MethodName) ({ cls := "FleetFloorModel", name := "deliver", desc := "(I)Z" } : Jvm.MethodName)) ∈ bg := bg_m4 232 rfl rfl
theorem tw_953 : (Jvm.Cond.code ({ cls := "FleetFloorModel", name := "deliver", desc := "(I)Z" } : Jvm.MethodName) prog_11_method_35_code (4 : Nat) (Option.some Jvm.ClassFile.FieldType.boolean)) ∈ bg := bg_m4 233 rfl rfl
theorem tw_954 : (Jvm.Cond.methodLink "FleetFloorModel" (221 : Nat) ({ cls := "FleetFloorModel", name := "remove", desc := "(I)V" } : Jvm.MethodName)) ∈ bg := bg_m4 234 rfl rfl
theorem tx_955 : (Jvm.Cond.privateMethod ({ cls := "FleetFloorModel", name := "remove", desc := "(I)V" } : Jvm.MethodName)) ∈ lw_tbl := tb_m4 235 rfl
theorem tw_956 : (Jvm.Cond.instanceMethod ({ cls := "FleetFloorModel", name := "remove", desc := "(I)V" } : Jvm.MethodName)) ∈ bg := bg_m4 236 rfl rfl
theorem tw_957 : (Jvm.Cond.code ({ cls := "FleetFloorModel", name := "remove", desc := "(I)V" } : Jvm.MethodName) prog_11_method_34_code (3 : Nat) (Option.none : Option Jvm.ClassFile.FieldType)) ∈ bg := bg_m4 237 rfl rfl
theorem tw_958 : (Jvm.Cond.methodLink "FleetFloorLaw" (65 : Nat) ({ cls := "FleetFloorModel", name := "lose", desc := "(I)Z" } : Jvm.MethodName)) ∈ bg := bg_m4 238 rfl rfl
theorem tw_959 : (Jvm.Cond.instanceMethod ({ cls := "FleetFloorModel", name := "lose", desc := "(I)Z" } : Jvm.MethodName)) ∈ bg := bg_m4 239 rfl rfl
theorem tw_960 : (Jvm.Cond.selects "FleetFloorModel" ({ cls := "FleetFloorModel", name := "lose", desc := "(I)Z" } : Jvm.MethodName) ({ cls := "FleetFloorModel", name := "lose", desc := "(I)Z" } : Jvm.MethodName)) ∈ bg := bg_m5 0 rfl rfl
theorem tw_961 : (Jvm.Cond.code ({ cls := "FleetFloorModel", name := "lose", desc := "(I)Z" } : Jvm.MethodName) prog_11_method_36_code (2 : Nat) (Option.some Jvm.ClassFile.FieldType.boolean)) ∈ bg := bg_m5 1 rfl rfl
theorem tw_962 : (Jvm.Cond.methodLink "FleetFloorLaw" (69 : Nat) ({ cls := "FleetFloorModel", name := "twin", desc := "(I)Z" } : Jvm.MethodName)) ∈ bg := bg_m5 2 rfl rfl
theorem tw_963 : (Jvm.Cond.instanceMethod ({ cls := "FleetFloorModel", name := "twin", desc := "(I)Z" } : Jvm.MethodName)) ∈ bg := bg_m5 3 rfl rfl
theorem tw_964 : (Jvm.Cond.selects "FleetFloorModel" ({ cls := "FleetFloorModel", name := "twin", desc := "(I)Z" } : Jvm.MethodName) ({ cls := "FleetFloorModel", name := "twin", desc := "(I)Z" } : Jvm.MethodName)) ∈ bg := bg_m5 4 rfl rfl
theorem tw_965 : (Jvm.Cond.code ({ cls := "FleetFloorModel", name := "twin", desc := "(I)Z" } : Jvm.MethodName) prog_11_method_37_code (2 : Nat) (Option.some Jvm.ClassFile.FieldType.boolean)) ∈ bg := bg_m5 5 rfl rfl
theorem tw_966 : (Jvm.Cond.methodLink "FleetFloorModel" (208 : Nat) ({ cls := "FleetFloorModel", name := "send", desc := "(III)V" } : Jvm.MethodName)) ∈ bg := bg_m5 6 rfl rfl
theorem tx_967 : (Jvm.Cond.privateMethod ({ cls := "FleetFloorModel", name := "send", desc := "(III)V" } : Jvm.MethodName)) ∈ lw_tbl := tb_m5 7 rfl
theorem tw_968 : (Jvm.Cond.instanceMethod ({ cls := "FleetFloorModel", name := "send", desc := "(III)V" } : Jvm.MethodName)) ∈ bg := bg_m5 8 rfl rfl
theorem tw_969 : (Jvm.Cond.code ({ cls := "FleetFloorModel", name := "send", desc := "(III)V" } : Jvm.MethodName) prog_11_method_30_code (4 : Nat) (Option.none : Option Jvm.ClassFile.FieldType)) ∈ bg := bg_m5 9 rfl rfl
theorem tw_970 : (Jvm.Cond.methodLink "FleetFloorLaw" (48 : Nat) ({ cls := "FleetFloorModel", name := "tick", desc := "()I" } : Jvm.MethodName)) ∈ bg := bg_m5 10 rfl rfl
theorem tw_971 : (Jvm.Cond.instanceMethod ({ cls := "FleetFloorModel", name := "tick", desc := "()I" } : Jvm.MethodName)) ∈ bg := bg_m5 11 rfl rfl
theorem tw_972 : (Jvm.Cond.selects "FleetFloorModel" ({ cls := "FleetFloorModel", name := "tick", desc := "()I" } : Jvm.MethodName) ({ cls := "FleetFloorModel", name := "tick", desc := "()I" } : Jvm.MethodName)) ∈ bg := bg_m5 12 rfl rfl
theorem tw_973 : (Jvm.Cond.code ({ cls := "FleetFloorModel", name := "tick", desc := "()I" } : Jvm.MethodName) prog_11_method_39_code (4 : Nat) (Option.some Jvm.ClassFile.FieldType.int)) ∈ bg := bg_m5 13 rfl rfl
theorem tw_974 : (Jvm.Cond.methodLink "FleetFloorModel" (224 : Nat) ({ cls := "FleetFloorModel", name := "go", desc := "(I)V" } : Jvm.MethodName)) ∈ bg := bg_m5 14 rfl rfl
theorem tx_975 : (Jvm.Cond.privateMethod ({ cls := "FleetFloorModel", name := "go", desc := "(I)V" } : Jvm.MethodName)) ∈ lw_tbl := tb_m5 15 rfl
theorem tw_976 : (Jvm.Cond.instanceMethod ({ cls := "FleetFloorModel", name := "go", desc := "(I)V" } : Jvm.MethodName)) ∈ bg := bg_m5 16 rfl rfl
theorem tw_977 : (Jvm.Cond.code ({ cls := "FleetFloorModel", name := "go", desc := "(I)V" } : Jvm.MethodName) prog_11_method_38_code (3 : Nat) (Option.none : Option Jvm.ClassFile.FieldType)) ∈ bg := bg_m5 17 rfl rfl
theorem tw_978 : (Jvm.Cond.methodLink "FleetFloorModel" (139 : Nat) ({ cls := "FleetFloorModel", name := "placeOf", desc := "(II)I" } : Jvm.MethodName)) ∈ bg := bg_m5 18 rfl rfl
theorem tx_979 : (Jvm.Cond.privateMethod ({ cls := "FleetFloorModel", name := "placeOf", desc := "(II)I" } : Jvm.MethodName)) ∈ lw_tbl := tb_m5 19 rfl
theorem tw_980 : (Jvm.Cond.instanceMethod ({ cls := "FleetFloorModel", name := "placeOf", desc := "(II)I" } : Jvm.MethodName)) ∈ bg := bg_m5 20 rfl rfl
theorem tw_981 : (Jvm.Cond.code ({ cls := "FleetFloorModel", name := "placeOf", desc := "(II)I" } : Jvm.MethodName) prog_11_method_11_code (4 : Nat) (Option.some Jvm.ClassFile.FieldType.int)) ∈ bg := bg_m5 21 rfl rfl
theorem tw_982 : (Jvm.Cond.methodLink "FleetFloorModel" (205 : Nat) ({ cls := "FleetFloorModel", name := "isTurn", desc := "(I)Z" } : Jvm.MethodName)) ∈ bg := bg_m5 22 rfl rfl
theorem tx_983 : (Jvm.Cond.privateMethod ({ cls := "FleetFloorModel", name := "isTurn", desc := "(I)Z" } : Jvm.MethodName)) ∈ lw_tbl := tb_m5 23 rfl
theorem tw_984 : (Jvm.Cond.instanceMethod ({ cls := "FleetFloorModel", name := "isTurn", desc := "(I)Z" } : Jvm.MethodName)) ∈ bg := bg_m5 24 rfl rfl
theorem tw_985 : (Jvm.Cond.code ({ cls := "FleetFloorModel", name := "isTurn", desc := "(I)Z" } : Jvm.MethodName) prog_11_method_29_code (2 : Nat) (Option.some Jvm.ClassFile.FieldType.boolean)) ∈ bg := bg_m5 25 rfl rfl
theorem tw_986 : (Jvm.Cond.methodLink "FleetFloorModel" (227 : Nat) ({ cls := "FleetFloorModel", name := "planAll", desc := "()V" } : Jvm.MethodName)) ∈ bg := bg_m5 26 rfl rfl
theorem tx_987 : (Jvm.Cond.privateMethod ({ cls := "FleetFloorModel", name := "planAll", desc := "()V" } : Jvm.MethodName)) ∈ lw_tbl := tb_m5 27 rfl
theorem tw_988 : (Jvm.Cond.instanceMethod ({ cls := "FleetFloorModel", name := "planAll", desc := "()V" } : Jvm.MethodName)) ∈ bg := bg_m5 28 rfl rfl
theorem tw_989 : (Jvm.Cond.code ({ cls := "FleetFloorModel", name := "planAll", desc := "()V" } : Jvm.MethodName) prog_11_method_26_code (3 : Nat) (Option.none : Option Jvm.ClassFile.FieldType)) ∈ bg := bg_m5 29 rfl rfl
theorem tw_990 : (Jvm.Cond.methodLink "FleetFloorModel" (194 : Nat) ({ cls := "FleetFloorModel", name := "idle", desc := "()I" } : Jvm.MethodName)) ∈ bg := bg_m5 30 rfl rfl
theorem tx_991 : (Jvm.Cond.privateMethod ({ cls := "FleetFloorModel", name := "idle", desc := "()I" } : Jvm.MethodName)) ∈ lw_tbl := tb_m5 31 rfl
theorem tw_992 : (Jvm.Cond.instanceMethod ({ cls := "FleetFloorModel", name := "idle", desc := "()I" } : Jvm.MethodName)) ∈ bg := bg_m5 32 rfl rfl
theorem tw_993 : (Jvm.Cond.code ({ cls := "FleetFloorModel", name := "idle", desc := "()I" } : Jvm.MethodName) prog_11_method_25_code (2 : Nat) (Option.some Jvm.ClassFile.FieldType.int)) ∈ bg := bg_m5 33 rfl rfl
theorem tw_994 : (Jvm.Cond.methodLink "FleetFloorModel" (198 : Nat) ({ cls := "FleetFloorModel", name := "plans", desc := "(II)Z" } : Jvm.MethodName)) ∈ bg := bg_m5 34 rfl rfl
theorem tx_995 : (Jvm.Cond.privateMethod ({ cls := "FleetFloorModel", name := "plans", desc := "(II)Z" } : Jvm.MethodName)) ∈ lw_tbl := tb_m5 35 rfl
theorem tw_996 : (Jvm.Cond.instanceMethod ({ cls := "FleetFloorModel", name := "plans", desc := "(II)Z" } : Jvm.MethodName)) ∈ bg := bg_m5 36 rfl rfl
theorem tw_997 : (Jvm.Cond.code ({ cls := "FleetFloorModel", name := "plans", desc := "(II)Z" } : Jvm.MethodName) prog_11_method_24_code (4 : Nat) (Option.some Jvm.ClassFile.FieldType.boolean)) ∈ bg := bg_m5 37 rfl rfl
theorem tw_998 : (Jvm.Cond.methodLink "FleetFloorModel" (180 : Nat) ({ cls := "FleetFloorModel", name := "forbidAll", desc := "()V" } : Jvm.MethodName)) ∈ bg := bg_m5 38 rfl rfl
theorem tx_999 : (Jvm.Cond.privateMethod ({ cls := "FleetFloorModel", name := "forbidAll", desc := "()V" } : Jvm.MethodName)) ∈ lw_tbl := tb_m5 39 rfl
theorem tw_1000 : (Jvm.Cond.instanceMethod ({ cls := "FleetFloorModel", name := "forbidAll", desc := "()V" } : Jvm.MethodName)) ∈ bg := bg_m5 40 rfl rfl
theorem tw_1001 : (Jvm.Cond.code ({ cls := "FleetFloorModel", name := "forbidAll", desc := "()V" } : Jvm.MethodName) prog_11_method_15_code (2 : Nat) (Option.none : Option Jvm.ClassFile.FieldType)) ∈ bg := bg_m5 41 rfl rfl
theorem tw_1002 : (Jvm.Cond.methodLink "FleetFloorModel" (149 : Nat) ({ cls := "FleetFloorModel", name := "forbid", desc := "(I)V" } : Jvm.MethodName)) ∈ bg := bg_m5 42 rfl rfl
theorem tx_1003 : (Jvm.Cond.privateMethod ({ cls := "FleetFloorModel", name := "forbid", desc := "(I)V" } : Jvm.MethodName)) ∈ lw_tbl := tb_m5 43 rfl
theorem tw_1004 : (Jvm.Cond.instanceMethod ({ cls := "FleetFloorModel", name := "forbid", desc := "(I)V" } : Jvm.MethodName)) ∈ bg := bg_m5 44 rfl rfl
theorem tw_1005 : (Jvm.Cond.code ({ cls := "FleetFloorModel", name := "forbid", desc := "(I)V" } : Jvm.MethodName) prog_11_method_14_code (7 : Nat) (Option.none : Option Jvm.ClassFile.FieldType)) ∈ bg := bg_m5 45 rfl rfl
theorem tw_1006 : (Jvm.Cond.methodLink "FleetFloorModel" (142 : Nat) ({ cls := "FleetFloorModel", name := "add", desc := "([JII)V" } : Jvm.MethodName)) ∈ bg := bg_m5 46 rfl rfl
theorem tw_1007 : (Jvm.Cond.static ({ cls := "FleetFloorModel", name := "add", desc := "([JII)V" } : Jvm.MethodName)) ∈ bg := bg_m5 47 rfl rfl
theorem tw_1008 : (Jvm.Cond.code ({ cls := "FleetFloorModel", name := "add", desc := "([JII)V" } : Jvm.MethodName) prog_11_method_13_code (3 : Nat) (Option.none : Option Jvm.ClassFile.FieldType)) ∈ bg := bg_m5 48 rfl rfl
theorem tw_1009 : (Jvm.Cond.methodLink "FleetFloorModel" (183 : Nat) ({ cls := "FleetFloorModel", name := "spread", desc := "(I)I" } : Jvm.MethodName)) ∈ bg := bg_m5 49 rfl rfl
theorem tx_1010 : (Jvm.Cond.privateMethod ({ cls := "FleetFloorModel", name := "spread", desc := "(I)I" } : Jvm.MethodName)) ∈ lw_tbl := tb_m5 50 rfl
theorem tw_1011 : (Jvm.Cond.instanceMethod ({ cls := "FleetFloorModel", name := "spread", desc := "(I)I" } : Jvm.MethodName)) ∈ bg := bg_m5 51 rfl rfl
theorem tw_1012 : (Jvm.Cond.code ({ cls := "FleetFloorModel", name := "spread", desc := "(I)I" } : Jvm.MethodName) prog_11_method_19_code (6 : Nat) (Option.some Jvm.ClassFile.FieldType.int)) ∈ bg := bg_m5 52 rfl rfl
theorem tw_1013 : (Jvm.Cond.methodLink "FleetFloorModel" (156 : Nat) ({ cls := "FleetFloorModel", name := "isIn", desc := "([JII)Z" } : Jvm.MethodName)) ∈ bg := bg_m5 53 rfl rfl
theorem tw_1014 : (Jvm.Cond.static ({ cls := "FleetFloorModel", name := "isIn", desc := "([JII)Z" } : Jvm.MethodName)) ∈ bg := bg_m5 54 rfl rfl
theorem tw_1015 : (Jvm.Cond.code ({ cls := "FleetFloorModel", name := "isIn", desc := "([JII)Z" } : Jvm.MethodName) prog_11_method_12_code (3 : Nat) (Option.some Jvm.ClassFile.FieldType.boolean)) ∈ bg := bg_m5 55 rfl rfl
theorem tw_1016 : (Jvm.Cond.methodLink "FleetFloorModel" (160 : Nat) ({ cls := "FleetFloorModel", name := "spreadFrom", desc := "(IIII)V" } : Jvm.MethodName)) ∈ bg := bg_m5 56 rfl rfl
theorem tx_1017 : (Jvm.Cond.privateMethod ({ cls := "FleetFloorModel", name := "spreadFrom", desc := "(IIII)V" } : Jvm.MethodName)) ∈ lw_tbl := tb_m5 57 rfl
theorem tw_1018 : (Jvm.Cond.instanceMethod ({ cls := "FleetFloorModel", name := "spreadFrom", desc := "(IIII)V" } : Jvm.MethodName)) ∈ bg := bg_m5 58 rfl rfl
theorem tw_1019 : (Jvm.Cond.code ({ cls := "FleetFloorModel", name := "spreadFrom", desc := "(IIII)V" } : Jvm.MethodName) prog_11_method_20_code (7 : Nat) (Option.none : Option Jvm.ClassFile.FieldType)) ∈ bg := bg_m5 59 rfl rfl
theorem tw_1020 : (Jvm.Cond.methodLink "FleetFloorModel" (164 : Nat) ({ cls := "FleetFloorModel", name := "goes", desc := "(III)I" } : Jvm.MethodName)) ∈ bg := bg_m5 60 rfl rfl
theorem tx_1021 : (Jvm.Cond.privateMethod ({ cls := "FleetFloorModel", name := "goes", desc := "(III)I" } : Jvm.MethodName)) ∈ lw_tbl := tb_m5 61 rfl
theorem tw_1022 : (Jvm.Cond.instanceMethod ({ cls := "FleetFloorModel", name := "goes", desc := "(III)I" } : Jvm.MethodName)) ∈ bg := bg_m5 62 rfl rfl
theorem tw_1023 : (Jvm.Cond.code ({ cls := "FleetFloorModel", name := "goes", desc := "(III)I" } : Jvm.MethodName) prog_11_method_17_code (5 : Nat) (Option.some Jvm.ClassFile.FieldType.int)) ∈ bg := bg_m5 63 rfl rfl
theorem tw_1024 : (Jvm.Cond.methodLink "FleetFloorModel" (153 : Nat) ({ cls := "FleetFloorModel", name := "isOthers", desc := "(I)Z" } : Jvm.MethodName)) ∈ bg := bg_m5 64 rfl rfl
theorem tx_1025 : (Jvm.Cond.privateMethod ({ cls := "FleetFloorModel", name := "isOthers", desc := "(I)Z" } : Jvm.MethodName)) ∈ lw_tbl := tb_m5 65 rfl
theorem tw_1026 : (Jvm.Cond.instanceMethod ({ cls := "FleetFloorModel", name := "isOthers", desc := "(I)Z" } : Jvm.MethodName)) ∈ bg := bg_m5 66 rfl rfl
theorem tw_1027 : (Jvm.Cond.code ({ cls := "FleetFloorModel", name := "isOthers", desc := "(I)Z" } : Jvm.MethodName) prog_11_method_16_code (2 : Nat) (Option.some Jvm.ClassFile.FieldType.boolean)) ∈ bg := bg_m5 67 rfl rfl
theorem tw_1028 : (Jvm.Cond.methodLink "FleetFloorModel" (168 : Nat) ({ cls := "FleetFloorModel", name := "doneAt", desc := "(III)I" } : Jvm.MethodName)) ∈ bg := bg_m5 68 rfl rfl
theorem tx_1029 : (Jvm.Cond.privateMethod ({ cls := "FleetFloorModel", name := "doneAt", desc := "(III)I" } : Jvm.MethodName)) ∈ lw_tbl := tb_m5 69 rfl
theorem tw_1030 : (Jvm.Cond.instanceMethod ({ cls := "FleetFloorModel", name := "doneAt", desc := "(III)I" } : Jvm.MethodName)) ∈ bg := bg_m5 70 rfl rfl
theorem tw_1031 : (Jvm.Cond.code ({ cls := "FleetFloorModel", name := "doneAt", desc := "(III)I" } : Jvm.MethodName) prog_11_method_18_code (5 : Nat) (Option.some Jvm.ClassFile.FieldType.int)) ∈ bg := bg_m5 71 rfl rfl
theorem tw_1032 : (Jvm.Cond.methodLink "FleetFloorModel" (187 : Nat) ({ cls := "FleetFloorModel", name := "narrow", desc := "(II)V" } : Jvm.MethodName)) ∈ bg := bg_m5 72 rfl rfl
theorem tx_1033 : (Jvm.Cond.privateMethod ({ cls := "FleetFloorModel", name := "narrow", desc := "(II)V" } : Jvm.MethodName)) ∈ lw_tbl := tb_m5 73 rfl
theorem tw_1034 : (Jvm.Cond.instanceMethod ({ cls := "FleetFloorModel", name := "narrow", desc := "(II)V" } : Jvm.MethodName)) ∈ bg := bg_m5 74 rfl rfl
theorem tw_1035 : (Jvm.Cond.code ({ cls := "FleetFloorModel", name := "narrow", desc := "(II)V" } : Jvm.MethodName) prog_11_method_22_code (6 : Nat) (Option.none : Option Jvm.ClassFile.FieldType)) ∈ bg := bg_m5 75 rfl rfl
theorem tw_1036 : (Jvm.Cond.methodLink "FleetFloorModel" (171 : Nat) ({ cls := "FleetFloorModel", name := "lowest", desc := "(IIII)I" } : Jvm.MethodName)) ∈ bg := bg_m5 76 rfl rfl
theorem tx_1037 : (Jvm.Cond.privateMethod ({ cls := "FleetFloorModel", name := "lowest", desc := "(IIII)I" } : Jvm.MethodName)) ∈ lw_tbl := tb_m5 77 rfl
theorem tw_1038 : (Jvm.Cond.instanceMethod ({ cls := "FleetFloorModel", name := "lowest", desc := "(IIII)I" } : Jvm.MethodName)) ∈ bg := bg_m5 78 rfl rfl
theorem tw_1039 : (Jvm.Cond.code ({ cls := "FleetFloorModel", name := "lowest", desc := "(IIII)I" } : Jvm.MethodName) prog_11_method_21_code (7 : Nat) (Option.some Jvm.ClassFile.FieldType.int)) ∈ bg := bg_m5 79 rfl rfl
theorem tw_1040 : (Jvm.Cond.constantLong "FleetFloorModel" (175 : Nat) (-1 : Int64)) ∈ bg := bg_m5 80 rfl rfl
theorem tw_1041 : (Jvm.Cond.methodLink "FleetFloorModel" (191 : Nat) ({ cls := "FleetFloorModel", name := "take", desc := "(II)V" } : Jvm.MethodName)) ∈ bg := bg_m5 81 rfl rfl
theorem tx_1042 : (Jvm.Cond.privateMethod ({ cls := "FleetFloorModel", name := "take", desc := "(II)V" } : Jvm.MethodName)) ∈ lw_tbl := tb_m5 82 rfl
theorem tw_1043 : (Jvm.Cond.instanceMethod ({ cls := "FleetFloorModel", name := "take", desc := "(II)V" } : Jvm.MethodName)) ∈ bg := bg_m5 83 rfl rfl
theorem tw_1044 : (Jvm.Cond.code ({ cls := "FleetFloorModel", name := "take", desc := "(II)V" } : Jvm.MethodName) prog_11_method_23_code (8 : Nat) (Option.none : Option Jvm.ClassFile.FieldType)) ∈ bg := bg_m5 84 rfl rfl
theorem tw_1045 : (Jvm.Cond.methodLink "FleetFloorModel" (230 : Nat) ({ cls := "FleetFloorModel", name := "grant", desc := "(I)V" } : Jvm.MethodName)) ∈ bg := bg_m5 85 rfl rfl
theorem tx_1046 : (Jvm.Cond.privateMethod ({ cls := "FleetFloorModel", name := "grant", desc := "(I)V" } : Jvm.MethodName)) ∈ lw_tbl := tb_m5 86 rfl
theorem tw_1047 : (Jvm.Cond.instanceMethod ({ cls := "FleetFloorModel", name := "grant", desc := "(I)V" } : Jvm.MethodName)) ∈ bg := bg_m5 87 rfl rfl
theorem tw_1048 : (Jvm.Cond.code ({ cls := "FleetFloorModel", name := "grant", desc := "(I)V" } : Jvm.MethodName) prog_11_method_28_code (5 : Nat) (Option.none : Option Jvm.ClassFile.FieldType)) ∈ bg := bg_m5 88 rfl rfl
theorem tw_1049 : (Jvm.Cond.methodLink "FleetFloorModel" (202 : Nat) ({ cls := "FleetFloorModel", name := "isFree", desc := "(III)Z" } : Jvm.MethodName)) ∈ bg := bg_m5 89 rfl rfl
theorem tx_1050 : (Jvm.Cond.privateMethod ({ cls := "FleetFloorModel", name := "isFree", desc := "(III)Z" } : Jvm.MethodName)) ∈ lw_tbl := tb_m5 90 rfl
theorem tw_1051 : (Jvm.Cond.instanceMethod ({ cls := "FleetFloorModel", name := "isFree", desc := "(III)Z" } : Jvm.MethodName)) ∈ bg := bg_m5 91 rfl rfl
theorem tw_1052 : (Jvm.Cond.code ({ cls := "FleetFloorModel", name := "isFree", desc := "(III)Z" } : Jvm.MethodName) prog_11_method_27_code (8 : Nat) (Option.some Jvm.ClassFile.FieldType.boolean)) ∈ bg := bg_m5 92 rfl rfl
theorem tw_1053 : (Jvm.Cond.methodLink "FleetFloorLaw" (73 : Nat) ({ cls := "FleetFloorModel", name := "vehicle", desc := "(II)I" } : Jvm.MethodName)) ∈ bg := bg_m5 93 rfl rfl
theorem tw_1054 : (Jvm.Cond.instanceMethod ({ cls := "FleetFloorModel", name := "vehicle", desc := "(II)I" } : Jvm.MethodName)) ∈ bg := bg_m5 94 rfl rfl
theorem tw_1055 : (Jvm.Cond.selects "FleetFloorModel" ({ cls := "FleetFloorModel", name := "vehicle", desc := "(II)I" } : Jvm.MethodName) ({ cls := "FleetFloorModel", name := "vehicle", desc := "(II)I" } : Jvm.MethodName)) ∈ bg := bg_m5 95 rfl rfl
theorem tw_1056 : (Jvm.Cond.code ({ cls := "FleetFloorModel", name := "vehicle", desc := "(II)I" } : Jvm.MethodName) prog_11_method_40_code (3 : Nat) (Option.some Jvm.ClassFile.FieldType.int)) ∈ bg := bg_m5 96 rfl rfl
theorem tw_1057 : (Jvm.Cond.methodLink "FleetFloorLaw" (78 : Nat) ({ cls := "FleetFloorModel", name := "move", desc := "(III)I" } : Jvm.MethodName)) ∈ bg := bg_m5 97 rfl rfl
theorem tw_1058 : (Jvm.Cond.instanceMethod ({ cls := "FleetFloorModel", name := "move", desc := "(III)I" } : Jvm.MethodName)) ∈ bg := bg_m5 98 rfl rfl
theorem tw_1059 : (Jvm.Cond.selects "FleetFloorModel" ({ cls := "FleetFloorModel", name := "move", desc := "(III)I" } : Jvm.MethodName) ({ cls := "FleetFloorModel", name := "move", desc := "(III)I" } : Jvm.MethodName)) ∈ bg := bg_m5 99 rfl rfl
theorem tw_1060 : (Jvm.Cond.code ({ cls := "FleetFloorModel", name := "move", desc := "(III)I" } : Jvm.MethodName) prog_11_method_41_code (5 : Nat) (Option.some Jvm.ClassFile.FieldType.int)) ∈ bg := bg_m5 100 rfl rfl
theorem tw_1061 : (Jvm.Cond.methodLink "FleetFloorLaw" (82 : Nat) ({ cls := "FleetFloorModel", name := "taskOf", desc := "(II)I" } : Jvm.MethodName)) ∈ bg := bg_m5 101 rfl rfl
theorem tw_1062 : (Jvm.Cond.instanceMethod ({ cls := "FleetFloorModel", name := "taskOf", desc := "(II)I" } : Jvm.MethodName)) ∈ bg := bg_m5 102 rfl rfl
theorem tw_1063 : (Jvm.Cond.selects "FleetFloorModel" ({ cls := "FleetFloorModel", name := "taskOf", desc := "(II)I" } : Jvm.MethodName) ({ cls := "FleetFloorModel", name := "taskOf", desc := "(II)I" } : Jvm.MethodName)) ∈ bg := bg_m5 103 rfl rfl
theorem tw_1064 : (Jvm.Cond.code ({ cls := "FleetFloorModel", name := "taskOf", desc := "(II)I" } : Jvm.MethodName) prog_11_method_42_code (3 : Nat) (Option.some Jvm.ClassFile.FieldType.int)) ∈ bg := bg_m5 104 rfl rfl
theorem tw_1065 : (Jvm.Cond.methodLink "FleetFloorLaw" (87 : Nat) ({ cls := "FleetFloorModel", name := "count", desc := "(I)I" } : Jvm.MethodName)) ∈ bg := bg_m5 105 rfl rfl
theorem tw_1066 : (Jvm.Cond.instanceMethod ({ cls := "FleetFloorModel", name := "count", desc := "(I)I" } : Jvm.MethodName)) ∈ bg := bg_m5 106 rfl rfl
theorem tw_1067 : (Jvm.Cond.selects "FleetFloorModel" ({ cls := "FleetFloorModel", name := "count", desc := "(I)I" } : Jvm.MethodName) ({ cls := "FleetFloorModel", name := "count", desc := "(I)I" } : Jvm.MethodName)) ∈ bg := bg_m5 107 rfl rfl
theorem tw_1068 : (Jvm.Cond.code ({ cls := "FleetFloorModel", name := "count", desc := "(I)I" } : Jvm.MethodName) prog_11_method_43_code (2 : Nat) (Option.some Jvm.ClassFile.FieldType.int)) ∈ bg := bg_m5 108 rfl rfl
theorem tw_1069 : (Jvm.Cond.sameMethod "java/lang/Throwable" "java/lang/Throwable" "fillInStackTrace" "(I)Ljava/lang/Throwable;") ∈ bg := bg_m5 109 rfl rfl
theorem tx_1070 : (Jvm.Cond.castable "FleetFloor$Letter" "FleetFloor$Letter") ∈ lw_tbl := tb_m5 110 rfl
theorem tx_1071 : (Jvm.Cond.castable "FleetFloor$Move" "FleetFloor$Move") ∈ lw_tbl := tb_m5 111 rfl
theorem tx_1072 : (Jvm.Cond.castable "FleetFloor$Task" "FleetFloor$Task") ∈ lw_tbl := tb_m5 112 rfl
theorem tw_1073 : (Jvm.Cond.sameMethod "[Ljava/lang/Object;" "java/lang/Object" "getClass" "()Ljava/lang/Class;") ∈ bg := bg_m5 113 rfl rfl
theorem tw_1074 : (Jvm.Cond.selects "[Ljava/lang/Object;" ({ cls := "java/lang/Object", name := "getClass", desc := "()Ljava/lang/Class;" } : Jvm.MethodName) ({ cls := "java/lang/Object", name := "getClass", desc := "()Ljava/lang/Class;" } : Jvm.MethodName)) ∈ bg := bg_m5 114 rfl rfl
theorem tx_1075 : (Jvm.Cond.declares ({ cls := "java/lang/Object", name := "getClass", desc := "()Ljava/lang/Class;" } : Jvm.MethodName)) ∈ lw_tbl := tb_m5 115 rfl
theorem tx_1076 : (Jvm.Cond.castable "FleetFloor" "java/lang/Object") ∈ lw_tbl := tb_m5 116 rfl
theorem tx_1077 : (Jvm.Cond.castable "FleetFloor$FloorMap" "java/lang/Object") ∈ lw_tbl := tb_m5 117 rfl
theorem tx_1078 : (Jvm.Cond.castable "FleetFloor$Air" "java/lang/Object") ∈ lw_tbl := tb_m5 118 rfl
theorem tx_1079 : (Jvm.Cond.castable "FleetFloorModel" "java/lang/Object") ∈ lw_tbl := tb_m5 119 rfl
theorem tx_1080 : (Jvm.Cond.castable "FleetFloor$Cells" "java/lang/Object") ∈ lw_tbl := tb_m5 120 rfl
theorem tx_1081 : (Jvm.Cond.castable "FleetFloor$Vehicle" "java/lang/Object") ∈ lw_tbl := tb_m5 121 rfl
theorem tx_1082 : (Jvm.Cond.castable "FleetFloor$Planner" "java/lang/Object") ∈ lw_tbl := tb_m5 122 rfl
theorem tx_1083 : (Jvm.Cond.castable "FleetFloor$Task" "java/lang/Object") ∈ lw_tbl := tb_m5 123 rfl
theorem tx_1084 : (Jvm.Cond.castable "FleetFloor$Letter" "java/lang/Object") ∈ lw_tbl := tb_m5 124 rfl
theorem tx_1085 : (Jvm.Cond.castable "FleetFloor$Move" "java/lang/Object") ∈ lw_tbl := tb_m5 125 rfl
theorem tx_1086 : (Jvm.Cond.castable "java/lang/String" "java/lang/Object") ∈ lw_tbl := tb_m5 126 rfl
theorem ts_0 : Cond.selects "FleetFloor" ⟨"FleetFloor", "isOpen", "()Z"⟩ ⟨"FleetFloor", "isOpen", "()Z"⟩ ∈ bg := bg_s 0 rfl rfl
theorem ts_1 : Cond.selects "FleetFloor" ⟨"FleetFloor", "vehicleNumbered", "(I)LFleetFloor$Vehicle;"⟩ ⟨"FleetFloor", "vehicleNumbered", "(I)LFleetFloor$Vehicle;"⟩ ∈ bg := bg_s 1 rfl rfl
theorem ts_2 : Cond.selects "java/util/ArrayList" ⟨"java/util/ArrayList", "fastRemove", "([Ljava/lang/Object;I)V"⟩ ⟨"java/util/ArrayList", "fastRemove", "([Ljava/lang/Object;I)V"⟩ ∈ bg := bg_s 2 rfl rfl
theorem ts_3 : Cond.selects "java/util/ArrayList" ⟨"java/util/ArrayList", "add", "(Ljava/lang/Object;[Ljava/lang/Object;I)V"⟩ ⟨"java/util/ArrayList", "add", "(Ljava/lang/Object;[Ljava/lang/Object;I)V"⟩ ∈ bg := bg_s 3 rfl rfl
theorem ts_4 : Cond.selects "java/util/ArrayList" ⟨"java/util/ArrayList", "grow", "()[Ljava/lang/Object;"⟩ ⟨"java/util/ArrayList", "grow", "()[Ljava/lang/Object;"⟩ ∈ bg := bg_s 4 rfl rfl
theorem ts_5 : Cond.selects "java/util/ArrayList" ⟨"java/util/ArrayList", "grow", "(I)[Ljava/lang/Object;"⟩ ⟨"java/util/ArrayList", "grow", "(I)[Ljava/lang/Object;"⟩ ∈ bg := bg_s 5 rfl rfl
theorem ts_6 : Cond.selects "java/lang/Throwable" ⟨"java/lang/Throwable", "fillInStackTrace", "(I)Ljava/lang/Throwable;"⟩ ⟨"java/lang/Throwable", "fillInStackTrace", "(I)Ljava/lang/Throwable;"⟩ ∈ bg := bg_s 6 rfl rfl
theorem ts_7 : Cond.selects "FleetFloor$FloorMap" ⟨"FleetFloor$FloorMap", "countOf", "(I)I"⟩ ⟨"FleetFloor$FloorMap", "countOf", "(I)I"⟩ ∈ bg := bg_s 7 rfl rfl
theorem ts_8 : Cond.selects "FleetFloor$FloorMap" ⟨"FleetFloor$FloorMap", "isJoined", "()Z"⟩ ⟨"FleetFloor$FloorMap", "isJoined", "()Z"⟩ ∈ bg := bg_s 8 rfl rfl
theorem ts_9 : Cond.selects "FleetFloor" ⟨"FleetFloor", "isStation", "(I)Z"⟩ ⟨"FleetFloor", "isStation", "(I)Z"⟩ ∈ bg := bg_s 9 rfl rfl
theorem ts_10 : Cond.selects "FleetFloor" ⟨"FleetFloor", "makeMoves", "()I"⟩ ⟨"FleetFloor", "makeMoves", "()I"⟩ ∈ bg := bg_s 10 rfl rfl
theorem ts_11 : Cond.selects "FleetFloor" ⟨"FleetFloor", "noteFinish", "(LFleetFloor$Vehicle;)V"⟩ ⟨"FleetFloor", "noteFinish", "(LFleetFloor$Vehicle;)V"⟩ ∈ bg := bg_s 11 rfl rfl
theorem ts_12 : Cond.selects "FleetFloor" ⟨"FleetFloor", "sendDones", "()V"⟩ ⟨"FleetFloor", "sendDones", "()V"⟩ ∈ bg := bg_s 12 rfl rfl
theorem ts_13 : Cond.selects "FleetFloor" ⟨"FleetFloor", "reportsNow", "(LFleetFloor$Vehicle;)Z"⟩ ⟨"FleetFloor", "reportsNow", "(LFleetFloor$Vehicle;)Z"⟩ ∈ bg := bg_s 13 rfl rfl
theorem ts_14 : Cond.selects "FleetFloor" ⟨"FleetFloor", "makePlans", "()V"⟩ ⟨"FleetFloor", "makePlans", "()V"⟩ ∈ bg := bg_s 14 rfl rfl
theorem ts_15 : Cond.selects "FleetFloor" ⟨"FleetFloor", "lowestIdle", "()LFleetFloor$Vehicle;"⟩ ⟨"FleetFloor", "lowestIdle", "()LFleetFloor$Vehicle;"⟩ ∈ bg := bg_s 15 rfl rfl
theorem ts_16 : Cond.selects "FleetFloor$Planner" ⟨"FleetFloor$Planner", "layOut", "(LFleetFloor$Vehicle;I)V"⟩ ⟨"FleetFloor$Planner", "layOut", "(LFleetFloor$Vehicle;I)V"⟩ ∈ bg := bg_s 16 rfl rfl
theorem ts_17 : Cond.selects "FleetFloor$Planner" ⟨"FleetFloor$Planner", "keepClearOf", "(LFleetFloor$Vehicle;I)V"⟩ ⟨"FleetFloor$Planner", "keepClearOf", "(LFleetFloor$Vehicle;I)V"⟩ ∈ bg := bg_s 17 rfl rfl
theorem ts_18 : Cond.selects "FleetFloor$Planner" ⟨"FleetFloor$Planner", "spread", "()I"⟩ ⟨"FleetFloor$Planner", "spread", "()I"⟩ ∈ bg := bg_s 18 rfl rfl
theorem ts_19 : Cond.selects "FleetFloor$Planner" ⟨"FleetFloor$Planner", "at", "(II)LFleetFloor$Cells;"⟩ ⟨"FleetFloor$Planner", "at", "(II)LFleetFloor$Cells;"⟩ ∈ bg := bg_s 19 rfl rfl
theorem ts_20 : Cond.selects "FleetFloor$Planner" ⟨"FleetFloor$Planner", "stepOn", "(II)V"⟩ ⟨"FleetFloor$Planner", "stepOn", "(II)V"⟩ ∈ bg := bg_s 20 rfl rfl
theorem ts_21 : Cond.selects "FleetFloor$Planner" ⟨"FleetFloor$Planner", "changeLeg", "(II)V"⟩ ⟨"FleetFloor$Planner", "changeLeg", "(II)V"⟩ ∈ bg := bg_s 21 rfl rfl
theorem ts_22 : Cond.selects "FleetFloor$Planner" ⟨"FleetFloor$Planner", "goalOf", "(I)I"⟩ ⟨"FleetFloor$Planner", "goalOf", "(I)I"⟩ ∈ bg := bg_s 22 rfl rfl
theorem ts_23 : Cond.selects "FleetFloor$Planner" ⟨"FleetFloor$Planner", "prune", "()V"⟩ ⟨"FleetFloor$Planner", "prune", "()V"⟩ ∈ bg := bg_s 23 rfl rfl
theorem ts_24 : Cond.selects "FleetFloor$Planner" ⟨"FleetFloor$Planner", "keepThoseBefore", "(II)V"⟩ ⟨"FleetFloor$Planner", "keepThoseBefore", "(II)V"⟩ ∈ bg := bg_s 24 rfl rfl
theorem ts_25 : Cond.selects "FleetFloor$Planner" ⟨"FleetFloor$Planner", "follow", "()V"⟩ ⟨"FleetFloor$Planner", "follow", "()V"⟩ ∈ bg := bg_s 25 rfl rfl
theorem ts_26 : Cond.selects "FleetFloor$Planner" ⟨"FleetFloor$Planner", "lowestStep", "(III)I"⟩ ⟨"FleetFloor$Planner", "lowestStep", "(III)I"⟩ ∈ bg := bg_s 26 rfl rfl
theorem ts_27 : Cond.selects "FleetFloor$Planner" ⟨"FleetFloor$Planner", "legAt", "(II)I"⟩ ⟨"FleetFloor$Planner", "legAt", "(II)I"⟩ ∈ bg := bg_s 27 rfl rfl
theorem ts_28 : Cond.selects "FleetFloor" ⟨"FleetFloor", "grantMoves", "()V"⟩ ⟨"FleetFloor", "grantMoves", "()V"⟩ ∈ bg := bg_s 28 rfl rfl
theorem ts_29 : Cond.selects "FleetFloor" ⟨"FleetFloor", "isFree", "(LFleetFloor$Vehicle;LFleetFloor$Move;)Z"⟩ ⟨"FleetFloor", "isFree", "(LFleetFloor$Vehicle;LFleetFloor$Move;)Z"⟩ ∈ bg := bg_s 29 rfl rfl
theorem ts_30 : Cond.selects "FleetFloorModel" ⟨"FleetFloorModel", "isGood", "()Z"⟩ ⟨"FleetFloorModel", "isGood", "()Z"⟩ ∈ bg := bg_s 30 rfl rfl
theorem ts_31 : Cond.selects "FleetFloorModel" ⟨"FleetFloorModel", "leadsToAll", "(I)Z"⟩ ⟨"FleetFloorModel", "leadsToAll", "(I)Z"⟩ ∈ bg := bg_s 31 rfl rfl
theorem ts_32 : Cond.selects "FleetFloorModel" ⟨"FleetFloorModel", "throwing", "(ZZ)Z"⟩ ⟨"FleetFloorModel", "throwing", "(ZZ)Z"⟩ ∈ bg := bg_s 32 rfl rfl
theorem ts_33 : Cond.selects "FleetFloorModel" ⟨"FleetFloorModel", "isLetter", "(I)Z"⟩ ⟨"FleetFloorModel", "isLetter", "(I)Z"⟩ ∈ bg := bg_s 33 rfl rfl
theorem ts_34 : Cond.selects "FleetFloorModel" ⟨"FleetFloorModel", "remove", "(I)V"⟩ ⟨"FleetFloorModel", "remove", "(I)V"⟩ ∈ bg := bg_s 34 rfl rfl
theorem ts_35 : Cond.selects "FleetFloorModel" ⟨"FleetFloorModel", "send", "(III)V"⟩ ⟨"FleetFloorModel", "send", "(III)V"⟩ ∈ bg := bg_s 35 rfl rfl
theorem ts_36 : Cond.selects "FleetFloorModel" ⟨"FleetFloorModel", "go", "(I)V"⟩ ⟨"FleetFloorModel", "go", "(I)V"⟩ ∈ bg := bg_s 36 rfl rfl
theorem ts_37 : Cond.selects "FleetFloorModel" ⟨"FleetFloorModel", "placeOf", "(II)I"⟩ ⟨"FleetFloorModel", "placeOf", "(II)I"⟩ ∈ bg := bg_s 37 rfl rfl
theorem ts_38 : Cond.selects "FleetFloorModel" ⟨"FleetFloorModel", "isTurn", "(I)Z"⟩ ⟨"FleetFloorModel", "isTurn", "(I)Z"⟩ ∈ bg := bg_s 38 rfl rfl
theorem ts_39 : Cond.selects "FleetFloorModel" ⟨"FleetFloorModel", "planAll", "()V"⟩ ⟨"FleetFloorModel", "planAll", "()V"⟩ ∈ bg := bg_s 39 rfl rfl
theorem ts_40 : Cond.selects "FleetFloorModel" ⟨"FleetFloorModel", "idle", "()I"⟩ ⟨"FleetFloorModel", "idle", "()I"⟩ ∈ bg := bg_s 40 rfl rfl
theorem ts_41 : Cond.selects "FleetFloorModel" ⟨"FleetFloorModel", "plans", "(II)Z"⟩ ⟨"FleetFloorModel", "plans", "(II)Z"⟩ ∈ bg := bg_s 41 rfl rfl
theorem ts_42 : Cond.selects "FleetFloorModel" ⟨"FleetFloorModel", "forbidAll", "()V"⟩ ⟨"FleetFloorModel", "forbidAll", "()V"⟩ ∈ bg := bg_s 42 rfl rfl
theorem ts_43 : Cond.selects "FleetFloorModel" ⟨"FleetFloorModel", "forbid", "(I)V"⟩ ⟨"FleetFloorModel", "forbid", "(I)V"⟩ ∈ bg := bg_s 43 rfl rfl
theorem ts_44 : Cond.selects "FleetFloorModel" ⟨"FleetFloorModel", "spread", "(I)I"⟩ ⟨"FleetFloorModel", "spread", "(I)I"⟩ ∈ bg := bg_s 44 rfl rfl
theorem ts_45 : Cond.selects "FleetFloorModel" ⟨"FleetFloorModel", "spreadFrom", "(IIII)V"⟩ ⟨"FleetFloorModel", "spreadFrom", "(IIII)V"⟩ ∈ bg := bg_s 45 rfl rfl
theorem ts_46 : Cond.selects "FleetFloorModel" ⟨"FleetFloorModel", "goes", "(III)I"⟩ ⟨"FleetFloorModel", "goes", "(III)I"⟩ ∈ bg := bg_s 46 rfl rfl
theorem ts_47 : Cond.selects "FleetFloorModel" ⟨"FleetFloorModel", "isOthers", "(I)Z"⟩ ⟨"FleetFloorModel", "isOthers", "(I)Z"⟩ ∈ bg := bg_s 47 rfl rfl
theorem ts_48 : Cond.selects "FleetFloorModel" ⟨"FleetFloorModel", "doneAt", "(III)I"⟩ ⟨"FleetFloorModel", "doneAt", "(III)I"⟩ ∈ bg := bg_s 48 rfl rfl
theorem ts_49 : Cond.selects "FleetFloorModel" ⟨"FleetFloorModel", "narrow", "(II)V"⟩ ⟨"FleetFloorModel", "narrow", "(II)V"⟩ ∈ bg := bg_s 49 rfl rfl
theorem ts_50 : Cond.selects "FleetFloorModel" ⟨"FleetFloorModel", "lowest", "(IIII)I"⟩ ⟨"FleetFloorModel", "lowest", "(IIII)I"⟩ ∈ bg := bg_s 50 rfl rfl
theorem ts_51 : Cond.selects "FleetFloorModel" ⟨"FleetFloorModel", "take", "(II)V"⟩ ⟨"FleetFloorModel", "take", "(II)V"⟩ ∈ bg := bg_s 51 rfl rfl
theorem ts_52 : Cond.selects "FleetFloorModel" ⟨"FleetFloorModel", "grant", "(I)V"⟩ ⟨"FleetFloorModel", "grant", "(I)V"⟩ ∈ bg := bg_s 52 rfl rfl
theorem ts_53 : Cond.selects "FleetFloorModel" ⟨"FleetFloorModel", "isFree", "(III)Z"⟩ ⟨"FleetFloorModel", "isFree", "(III)Z"⟩ ∈ bg := bg_s 53 rfl rfl
