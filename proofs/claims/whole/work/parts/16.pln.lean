abbrev c_Pln_init : ByteArray := prog_7_method_1_code
abbrev y_Pln_init : MethodName := ⟨"FleetFloor$Planner", "<init>", "(LFleetFloor$Cells;[LFleetFloor$Vehicle;)V"⟩
theorem d_Pln_init_0 : decode c_Pln_init 0 = .ok (.aload_n 0, 1) := by decide +kernel
theorem d_Pln_init_1 : decode c_Pln_init 1 = .ok (.invokespecial 3, 3) := by decide +kernel
theorem d_Pln_init_4 : decode c_Pln_init 4 = .ok (.aload_n 0, 1) := by decide +kernel
theorem d_Pln_init_5 : decode c_Pln_init 5 = .ok (.aload_n 1, 1) := by decide +kernel
theorem d_Pln_init_6 : decode c_Pln_init 6 = .ok (.putfield 9, 3) := by decide +kernel
theorem d_Pln_init_9 : decode c_Pln_init 9 = .ok (.aload_n 0, 1) := by decide +kernel
theorem d_Pln_init_10 : decode c_Pln_init 10 = .ok (.aload_n 2, 1) := by decide +kernel
theorem d_Pln_init_11 : decode c_Pln_init 11 = .ok (.putfield 15, 3) := by decide +kernel
theorem d_Pln_init_14 : decode c_Pln_init 14 = .ok (.aload_n 0, 1) := by decide +kernel
theorem d_Pln_init_15 : decode c_Pln_init 15 = .ok (.sipush 153, 3) := by decide +kernel
theorem d_Pln_init_18 : decode c_Pln_init 18 = .ok (.anewarray 19, 3) := by decide +kernel
theorem d_Pln_init_21 : decode c_Pln_init 21 = .ok (.putfield 21, 3) := by decide +kernel
theorem d_Pln_init_24 : decode c_Pln_init 24 = .ok (.aload_n 0, 1) := by decide +kernel
theorem d_Pln_init_25 : decode c_Pln_init 25 = .ok (.sipush 153, 3) := by decide +kernel
theorem d_Pln_init_28 : decode c_Pln_init 28 = .ok (.anewarray 19, 3) := by decide +kernel
theorem d_Pln_init_31 : decode c_Pln_init 31 = .ok (.putfield 25, 3) := by decide +kernel
theorem d_Pln_init_34 : decode c_Pln_init 34 = .ok (.iconst 0, 1) := by decide +kernel
theorem d_Pln_init_35 : decode c_Pln_init 35 = .ok (.istore_n 3, 1) := by decide +kernel
theorem d_Pln_init_36 : decode c_Pln_init 36 = .ok (.iload_n 3, 1) := by decide +kernel
theorem d_Pln_init_37 : decode c_Pln_init 37 = .ok (.sipush 153, 3) := by decide +kernel
theorem d_Pln_init_40 : decode c_Pln_init 40 = .ok (.if_icmp .ge 35, 3) := by decide +kernel
theorem d_Pln_init_43 : decode c_Pln_init 43 = .ok (.aload_n 0, 1) := by decide +kernel
theorem d_Pln_init_44 : decode c_Pln_init 44 = .ok (.getfield 21, 3) := by decide +kernel
theorem d_Pln_init_47 : decode c_Pln_init 47 = .ok (.iload_n 3, 1) := by decide +kernel
theorem d_Pln_init_48 : decode c_Pln_init 48 = .ok (.new 19, 3) := by decide +kernel
theorem d_Pln_init_51 : decode c_Pln_init 51 = .ok (.dup, 1) := by decide +kernel
theorem d_Pln_init_52 : decode c_Pln_init 52 = .ok (.invokespecial 28, 3) := by decide +kernel
theorem d_Pln_init_55 : decode c_Pln_init 55 = .ok (.aastore, 1) := by decide +kernel
theorem d_Pln_init_56 : decode c_Pln_init 56 = .ok (.aload_n 0, 1) := by decide +kernel
theorem d_Pln_init_57 : decode c_Pln_init 57 = .ok (.getfield 25, 3) := by decide +kernel
theorem d_Pln_init_60 : decode c_Pln_init 60 = .ok (.iload_n 3, 1) := by decide +kernel
theorem d_Pln_init_61 : decode c_Pln_init 61 = .ok (.new 19, 3) := by decide +kernel
theorem d_Pln_init_64 : decode c_Pln_init 64 = .ok (.dup, 1) := by decide +kernel
theorem d_Pln_init_65 : decode c_Pln_init 65 = .ok (.invokespecial 28, 3) := by decide +kernel
theorem d_Pln_init_68 : decode c_Pln_init 68 = .ok (.aastore, 1) := by decide +kernel
theorem d_Pln_init_69 : decode c_Pln_init 69 = .ok (.iinc 3 1, 3) := by decide +kernel
theorem d_Pln_init_72 : decode c_Pln_init 72 = .ok (.goto (-36), 3) := by decide +kernel
theorem d_Pln_init_75 : decode c_Pln_init 75 = .ok (.aload_n 0, 1) := by decide +kernel
theorem d_Pln_init_76 : decode c_Pln_init 76 = .ok (.sipush 453, 3) := by decide +kernel
theorem d_Pln_init_79 : decode c_Pln_init 79 = .ok (.anewarray 19, 3) := by decide +kernel
theorem d_Pln_init_82 : decode c_Pln_init 82 = .ok (.putfield 29, 3) := by decide +kernel
theorem d_Pln_init_85 : decode c_Pln_init 85 = .ok (.iconst 0, 1) := by decide +kernel
theorem d_Pln_init_86 : decode c_Pln_init 86 = .ok (.istore_n 3, 1) := by decide +kernel
theorem d_Pln_init_87 : decode c_Pln_init 87 = .ok (.iload_n 3, 1) := by decide +kernel
theorem d_Pln_init_88 : decode c_Pln_init 88 = .ok (.aload_n 0, 1) := by decide +kernel
theorem d_Pln_init_89 : decode c_Pln_init 89 = .ok (.getfield 29, 3) := by decide +kernel
theorem d_Pln_init_92 : decode c_Pln_init 92 = .ok (.arraylength, 1) := by decide +kernel
theorem d_Pln_init_93 : decode c_Pln_init 93 = .ok (.if_icmp .ge 22, 3) := by decide +kernel
theorem d_Pln_init_96 : decode c_Pln_init 96 = .ok (.aload_n 0, 1) := by decide +kernel
theorem d_Pln_init_97 : decode c_Pln_init 97 = .ok (.getfield 29, 3) := by decide +kernel
theorem d_Pln_init_100 : decode c_Pln_init 100 = .ok (.iload_n 3, 1) := by decide +kernel
theorem d_Pln_init_101 : decode c_Pln_init 101 = .ok (.new 19, 3) := by decide +kernel
theorem d_Pln_init_104 : decode c_Pln_init 104 = .ok (.dup, 1) := by decide +kernel
theorem d_Pln_init_105 : decode c_Pln_init 105 = .ok (.invokespecial 28, 3) := by decide +kernel
theorem d_Pln_init_108 : decode c_Pln_init 108 = .ok (.aastore, 1) := by decide +kernel
theorem d_Pln_init_109 : decode c_Pln_init 109 = .ok (.iinc 3 1, 3) := by decide +kernel
theorem d_Pln_init_112 : decode c_Pln_init 112 = .ok (.goto (-25), 3) := by decide +kernel
theorem d_Pln_init_115 : decode c_Pln_init 115 = .ok (.aload_n 0, 1) := by decide +kernel
theorem d_Pln_init_116 : decode c_Pln_init 116 = .ok (.new 19, 3) := by decide +kernel
theorem d_Pln_init_119 : decode c_Pln_init 119 = .ok (.dup, 1) := by decide +kernel
theorem d_Pln_init_120 : decode c_Pln_init 120 = .ok (.invokespecial 28, 3) := by decide +kernel
theorem d_Pln_init_123 : decode c_Pln_init 123 = .ok (.putfield 32, 3) := by decide +kernel
theorem d_Pln_init_126 : decode c_Pln_init 126 = .ok (.aload_n 0, 1) := by decide +kernel
theorem d_Pln_init_127 : decode c_Pln_init 127 = .ok (.new 19, 3) := by decide +kernel
theorem d_Pln_init_130 : decode c_Pln_init 130 = .ok (.dup, 1) := by decide +kernel
theorem d_Pln_init_131 : decode c_Pln_init 131 = .ok (.invokespecial 28, 3) := by decide +kernel
theorem d_Pln_init_134 : decode c_Pln_init 134 = .ok (.putfield 35, 3) := by decide +kernel
theorem d_Pln_init_137 : decode c_Pln_init 137 = .ok (.aload_n 0, 1) := by decide +kernel
theorem d_Pln_init_138 : decode c_Pln_init 138 = .ok (.sipush 151, 3) := by decide +kernel
theorem d_Pln_init_141 : decode c_Pln_init 141 = .ok (.newarray .int, 2) := by decide +kernel
theorem d_Pln_init_143 : decode c_Pln_init 143 = .ok (.putfield 38, 3) := by decide +kernel
theorem d_Pln_init_146 : decode c_Pln_init 146 = .ok (.return_, 1) := by decide +kernel
abbrev c_Pln_find : ByteArray := prog_7_method_2_code
abbrev y_Pln_find : MethodName := ⟨"FleetFloor$Planner", "find", "(LFleetFloor$Vehicle;LFleetFloor$Task;I)Z"⟩
theorem d_Pln_find_0 : decode c_Pln_find 0 = .ok (.aload_n 0, 1) := by decide +kernel
theorem d_Pln_find_1 : decode c_Pln_find 1 = .ok (.aload_n 2, 1) := by decide +kernel
theorem d_Pln_find_2 : decode c_Pln_find 2 = .ok (.getfield 42, 3) := by decide +kernel
theorem d_Pln_find_5 : decode c_Pln_find 5 = .ok (.putfield 48, 3) := by decide +kernel
theorem d_Pln_find_8 : decode c_Pln_find 8 = .ok (.aload_n 0, 1) := by decide +kernel
theorem d_Pln_find_9 : decode c_Pln_find 9 = .ok (.aload_n 2, 1) := by decide +kernel
theorem d_Pln_find_10 : decode c_Pln_find 10 = .ok (.getfield 49, 3) := by decide +kernel
theorem d_Pln_find_13 : decode c_Pln_find 13 = .ok (.putfield 52, 3) := by decide +kernel
theorem d_Pln_find_16 : decode c_Pln_find 16 = .ok (.aload_n 0, 1) := by decide +kernel
theorem d_Pln_find_17 : decode c_Pln_find 17 = .ok (.aload_n 1, 1) := by decide +kernel
theorem d_Pln_find_18 : decode c_Pln_find 18 = .ok (.getfield 53, 3) := by decide +kernel
theorem d_Pln_find_21 : decode c_Pln_find 21 = .ok (.putfield 58, 3) := by decide +kernel
theorem d_Pln_find_24 : decode c_Pln_find 24 = .ok (.aload_n 0, 1) := by decide +kernel
theorem d_Pln_find_25 : decode c_Pln_find 25 = .ok (.aload_n 1, 1) := by decide +kernel
theorem d_Pln_find_26 : decode c_Pln_find 26 = .ok (.iload_n 3, 1) := by decide +kernel
theorem d_Pln_find_27 : decode c_Pln_find 27 = .ok (.invokevirtual 59, 3) := by decide +kernel
theorem d_Pln_find_30 : decode c_Pln_find 30 = .ok (.aload_n 0, 1) := by decide +kernel
theorem d_Pln_find_31 : decode c_Pln_find 31 = .ok (.aload_n 0, 1) := by decide +kernel
theorem d_Pln_find_32 : decode c_Pln_find 32 = .ok (.invokevirtual 63, 3) := by decide +kernel
theorem d_Pln_find_35 : decode c_Pln_find 35 = .ok (.putfield 67, 3) := by decide +kernel
theorem d_Pln_find_38 : decode c_Pln_find 38 = .ok (.aload_n 0, 1) := by decide +kernel
theorem d_Pln_find_39 : decode c_Pln_find 39 = .ok (.getfield 67, 3) := by decide +kernel
theorem d_Pln_find_42 : decode c_Pln_find 42 = .ok (.iconst (-1), 1) := by decide +kernel
theorem d_Pln_find_43 : decode c_Pln_find 43 = .ok (.if_icmp .ne 5, 3) := by decide +kernel
theorem d_Pln_find_46 : decode c_Pln_find 46 = .ok (.iconst 0, 1) := by decide +kernel
theorem d_Pln_find_47 : decode c_Pln_find 47 = .ok (.ireturn, 1) := by decide +kernel
theorem d_Pln_find_48 : decode c_Pln_find 48 = .ok (.aload_n 0, 1) := by decide +kernel
theorem d_Pln_find_49 : decode c_Pln_find 49 = .ok (.invokevirtual 70, 3) := by decide +kernel
theorem d_Pln_find_52 : decode c_Pln_find 52 = .ok (.aload_n 0, 1) := by decide +kernel
theorem d_Pln_find_53 : decode c_Pln_find 53 = .ok (.invokevirtual 73, 3) := by decide +kernel
theorem d_Pln_find_56 : decode c_Pln_find 56 = .ok (.iconst 1, 1) := by decide +kernel
theorem d_Pln_find_57 : decode c_Pln_find 57 = .ok (.ireturn, 1) := by decide +kernel
abbrev c_Pln_append : ByteArray := prog_7_method_3_code
abbrev y_Pln_append : MethodName := ⟨"FleetFloor$Planner", "append", "(LFleetFloor$Vehicle;I)V"⟩
theorem d_Pln_append_0 : decode c_Pln_append 0 = .ok (.iconst 1, 1) := by decide +kernel
theorem d_Pln_append_1 : decode c_Pln_append 1 = .ok (.istore_n 3, 1) := by decide +kernel
theorem d_Pln_append_2 : decode c_Pln_append 2 = .ok (.iload_n 3, 1) := by decide +kernel
theorem d_Pln_append_3 : decode c_Pln_append 3 = .ok (.aload_n 0, 1) := by decide +kernel
theorem d_Pln_append_4 : decode c_Pln_append 4 = .ok (.getfield 67, 3) := by decide +kernel
theorem d_Pln_append_7 : decode c_Pln_append 7 = .ok (.if_icmp .gt 78, 3) := by decide +kernel
theorem d_Pln_append_10 : decode c_Pln_append 10 = .ok (.iload_n 3, 1) := by decide +kernel
theorem d_Pln_append_11 : decode c_Pln_append 11 = .ok (.aload_n 0, 1) := by decide +kernel
theorem d_Pln_append_12 : decode c_Pln_append 12 = .ok (.getfield 38, 3) := by decide +kernel
theorem d_Pln_append_15 : decode c_Pln_append 15 = .ok (.arraylength, 1) := by decide +kernel
theorem d_Pln_append_16 : decode c_Pln_append 16 = .ok (.if_icmp .ge 69, 3) := by decide +kernel
theorem d_Pln_append_19 : decode c_Pln_append 19 = .ok (.aload_n 0, 1) := by decide +kernel
theorem d_Pln_append_20 : decode c_Pln_append 20 = .ok (.getfield 38, 3) := by decide +kernel
theorem d_Pln_append_23 : decode c_Pln_append 23 = .ok (.iload_n 3, 1) := by decide +kernel
theorem d_Pln_append_24 : decode c_Pln_append 24 = .ok (.iaload, 1) := by decide +kernel
theorem d_Pln_append_25 : decode c_Pln_append 25 = .ok (.aload_n 0, 1) := by decide +kernel
theorem d_Pln_append_26 : decode c_Pln_append 26 = .ok (.getfield 38, 3) := by decide +kernel
theorem d_Pln_append_29 : decode c_Pln_append 29 = .ok (.iload_n 3, 1) := by decide +kernel
theorem d_Pln_append_30 : decode c_Pln_append 30 = .ok (.iconst 1, 1) := by decide +kernel
theorem d_Pln_append_31 : decode c_Pln_append 31 = .ok (.isub, 1) := by decide +kernel
theorem d_Pln_append_32 : decode c_Pln_append 32 = .ok (.iaload, 1) := by decide +kernel
theorem d_Pln_append_33 : decode c_Pln_append 33 = .ok (.if_icmp .eq 27, 3) := by decide +kernel
theorem d_Pln_append_36 : decode c_Pln_append 36 = .ok (.aload_n 1, 1) := by decide +kernel
theorem d_Pln_append_37 : decode c_Pln_append 37 = .ok (.getfield 76, 3) := by decide +kernel
theorem d_Pln_append_40 : decode c_Pln_append 40 = .ok (.new 80, 3) := by decide +kernel
theorem d_Pln_append_43 : decode c_Pln_append 43 = .ok (.dup, 1) := by decide +kernel
theorem d_Pln_append_44 : decode c_Pln_append 44 = .ok (.aload_n 0, 1) := by decide +kernel
theorem d_Pln_append_45 : decode c_Pln_append 45 = .ok (.getfield 38, 3) := by decide +kernel
theorem d_Pln_append_48 : decode c_Pln_append 48 = .ok (.iload_n 3, 1) := by decide +kernel
theorem d_Pln_append_49 : decode c_Pln_append 49 = .ok (.iaload, 1) := by decide +kernel
theorem d_Pln_append_50 : decode c_Pln_append 50 = .ok (.iload_n 2, 1) := by decide +kernel
theorem d_Pln_append_51 : decode c_Pln_append 51 = .ok (.iload_n 3, 1) := by decide +kernel
theorem d_Pln_append_52 : decode c_Pln_append 52 = .ok (.iadd, 1) := by decide +kernel
theorem d_Pln_append_53 : decode c_Pln_append 53 = .ok (.invokespecial 82, 3) := by decide +kernel
theorem d_Pln_append_56 : decode c_Pln_append 56 = .ok (.invokevirtual 85, 3) := by decide +kernel
theorem d_Pln_append_59 : decode c_Pln_append 59 = .ok (.pop, 1) := by decide +kernel
theorem d_Pln_append_60 : decode c_Pln_append 60 = .ok (.iload_n 3, 1) := by decide +kernel
theorem d_Pln_append_61 : decode c_Pln_append 61 = .ok (.aload_n 0, 1) := by decide +kernel
theorem d_Pln_append_62 : decode c_Pln_append 62 = .ok (.getfield 91, 3) := by decide +kernel
theorem d_Pln_append_65 : decode c_Pln_append 65 = .ok (.if_icmp .ne 14, 3) := by decide +kernel
theorem d_Pln_append_68 : decode c_Pln_append 68 = .ok (.aload_n 1, 1) := by decide +kernel
theorem d_Pln_append_69 : decode c_Pln_append 69 = .ok (.aload_n 1, 1) := by decide +kernel
theorem d_Pln_append_70 : decode c_Pln_append 70 = .ok (.getfield 76, 3) := by decide +kernel
theorem d_Pln_append_73 : decode c_Pln_append 73 = .ok (.invokevirtual 94, 3) := by decide +kernel
theorem d_Pln_append_76 : decode c_Pln_append 76 = .ok (.putfield 97, 3) := by decide +kernel
theorem d_Pln_append_79 : decode c_Pln_append 79 = .ok (.iinc 3 1, 3) := by decide +kernel
theorem d_Pln_append_82 : decode c_Pln_append 82 = .ok (.goto (-80), 3) := by decide +kernel
theorem d_Pln_append_85 : decode c_Pln_append 85 = .ok (.return_, 1) := by decide +kernel
abbrev c_Pln_layOut : ByteArray := prog_7_method_4_code
abbrev y_Pln_layOut : MethodName := ⟨"FleetFloor$Planner", "layOut", "(LFleetFloor$Vehicle;I)V"⟩
theorem d_Pln_layOut_0 : decode c_Pln_layOut 0 = .ok (.iconst 0, 1) := by decide +kernel
theorem d_Pln_layOut_1 : decode c_Pln_layOut 1 = .ok (.istore_n 3, 1) := by decide +kernel
theorem d_Pln_layOut_2 : decode c_Pln_layOut 2 = .ok (.iload_n 3, 1) := by decide +kernel
theorem d_Pln_layOut_3 : decode c_Pln_layOut 3 = .ok (.sipush 153, 3) := by decide +kernel
theorem d_Pln_layOut_6 : decode c_Pln_layOut 6 = .ok (.if_icmp .ge 50, 3) := by decide +kernel
theorem d_Pln_layOut_9 : decode c_Pln_layOut 9 = .ok (.aload_n 0, 1) := by decide +kernel
theorem d_Pln_layOut_10 : decode c_Pln_layOut 10 = .ok (.getfield 25, 3) := by decide +kernel
theorem d_Pln_layOut_13 : decode c_Pln_layOut 13 = .ok (.iload_n 3, 1) := by decide +kernel
theorem d_Pln_layOut_14 : decode c_Pln_layOut 14 = .ok (.aaload, 1) := by decide +kernel
theorem d_Pln_layOut_15 : decode c_Pln_layOut 15 = .ok (.aload_n 0, 1) := by decide +kernel
theorem d_Pln_layOut_16 : decode c_Pln_layOut 16 = .ok (.getfield 9, 3) := by decide +kernel
theorem d_Pln_layOut_19 : decode c_Pln_layOut 19 = .ok (.invokevirtual 100, 3) := by decide +kernel
theorem d_Pln_layOut_22 : decode c_Pln_layOut 22 = .ok (.aload_n 0, 1) := by decide +kernel
theorem d_Pln_layOut_23 : decode c_Pln_layOut 23 = .ok (.getfield 25, 3) := by decide +kernel
theorem d_Pln_layOut_26 : decode c_Pln_layOut 26 = .ok (.iload_n 3, 1) := by decide +kernel
theorem d_Pln_layOut_27 : decode c_Pln_layOut 27 = .ok (.aaload, 1) := by decide +kernel
theorem d_Pln_layOut_28 : decode c_Pln_layOut 28 = .ok (.aload_n 0, 1) := by decide +kernel
theorem d_Pln_layOut_29 : decode c_Pln_layOut 29 = .ok (.getfield 58, 3) := by decide +kernel
theorem d_Pln_layOut_32 : decode c_Pln_layOut 32 = .ok (.invokevirtual 104, 3) := by decide +kernel
theorem d_Pln_layOut_35 : decode c_Pln_layOut 35 = .ok (.aload_n 0, 1) := by decide +kernel
theorem d_Pln_layOut_36 : decode c_Pln_layOut 36 = .ok (.getfield 21, 3) := by decide +kernel
theorem d_Pln_layOut_39 : decode c_Pln_layOut 39 = .ok (.iload_n 3, 1) := by decide +kernel
theorem d_Pln_layOut_40 : decode c_Pln_layOut 40 = .ok (.aaload, 1) := by decide +kernel
theorem d_Pln_layOut_41 : decode c_Pln_layOut 41 = .ok (.aload_n 0, 1) := by decide +kernel
theorem d_Pln_layOut_42 : decode c_Pln_layOut 42 = .ok (.getfield 25, 3) := by decide +kernel
theorem d_Pln_layOut_45 : decode c_Pln_layOut 45 = .ok (.iload_n 3, 1) := by decide +kernel
theorem d_Pln_layOut_46 : decode c_Pln_layOut 46 = .ok (.aaload, 1) := by decide +kernel
theorem d_Pln_layOut_47 : decode c_Pln_layOut 47 = .ok (.invokevirtual 100, 3) := by decide +kernel
theorem d_Pln_layOut_50 : decode c_Pln_layOut 50 = .ok (.iinc 3 1, 3) := by decide +kernel
theorem d_Pln_layOut_53 : decode c_Pln_layOut 53 = .ok (.goto (-51), 3) := by decide +kernel
theorem d_Pln_layOut_56 : decode c_Pln_layOut 56 = .ok (.iconst 0, 1) := by decide +kernel
theorem d_Pln_layOut_57 : decode c_Pln_layOut 57 = .ok (.istore_n 3, 1) := by decide +kernel
theorem d_Pln_layOut_58 : decode c_Pln_layOut 58 = .ok (.iload_n 3, 1) := by decide +kernel
theorem d_Pln_layOut_59 : decode c_Pln_layOut 59 = .ok (.aload_n 0, 1) := by decide +kernel
theorem d_Pln_layOut_60 : decode c_Pln_layOut 60 = .ok (.getfield 15, 3) := by decide +kernel
theorem d_Pln_layOut_63 : decode c_Pln_layOut 63 = .ok (.arraylength, 1) := by decide +kernel
theorem d_Pln_layOut_64 : decode c_Pln_layOut 64 = .ok (.if_icmp .ge 30, 3) := by decide +kernel
theorem d_Pln_layOut_67 : decode c_Pln_layOut 67 = .ok (.aload_n 0, 1) := by decide +kernel
theorem d_Pln_layOut_68 : decode c_Pln_layOut 68 = .ok (.getfield 15, 3) := by decide +kernel
theorem d_Pln_layOut_71 : decode c_Pln_layOut 71 = .ok (.iload_n 3, 1) := by decide +kernel
theorem d_Pln_layOut_72 : decode c_Pln_layOut 72 = .ok (.aaload, 1) := by decide +kernel
theorem d_Pln_layOut_73 : decode c_Pln_layOut 73 = .ok (.aload_n 1, 1) := by decide +kernel
theorem d_Pln_layOut_74 : decode c_Pln_layOut 74 = .ok (.if_acmp .eq 14, 3) := by decide +kernel
theorem d_Pln_layOut_77 : decode c_Pln_layOut 77 = .ok (.aload_n 0, 1) := by decide +kernel
theorem d_Pln_layOut_78 : decode c_Pln_layOut 78 = .ok (.aload_n 0, 1) := by decide +kernel
theorem d_Pln_layOut_79 : decode c_Pln_layOut 79 = .ok (.getfield 15, 3) := by decide +kernel
theorem d_Pln_layOut_82 : decode c_Pln_layOut 82 = .ok (.iload_n 3, 1) := by decide +kernel
theorem d_Pln_layOut_83 : decode c_Pln_layOut 83 = .ok (.aaload, 1) := by decide +kernel
theorem d_Pln_layOut_84 : decode c_Pln_layOut 84 = .ok (.iload_n 2, 1) := by decide +kernel
theorem d_Pln_layOut_85 : decode c_Pln_layOut 85 = .ok (.invokevirtual 108, 3) := by decide +kernel
theorem d_Pln_layOut_88 : decode c_Pln_layOut 88 = .ok (.iinc 3 1, 3) := by decide +kernel
theorem d_Pln_layOut_91 : decode c_Pln_layOut 91 = .ok (.goto (-33), 3) := by decide +kernel
theorem d_Pln_layOut_94 : decode c_Pln_layOut 94 = .ok (.iconst 0, 1) := by decide +kernel
theorem d_Pln_layOut_95 : decode c_Pln_layOut 95 = .ok (.istore_n 3, 1) := by decide +kernel
theorem d_Pln_layOut_96 : decode c_Pln_layOut 96 = .ok (.iload_n 3, 1) := by decide +kernel
theorem d_Pln_layOut_97 : decode c_Pln_layOut 97 = .ok (.sipush 153, 3) := by decide +kernel
theorem d_Pln_layOut_100 : decode c_Pln_layOut 100 = .ok (.if_icmp .ge 24, 3) := by decide +kernel
theorem d_Pln_layOut_103 : decode c_Pln_layOut 103 = .ok (.aload_n 0, 1) := by decide +kernel
theorem d_Pln_layOut_104 : decode c_Pln_layOut 104 = .ok (.getfield 21, 3) := by decide +kernel
theorem d_Pln_layOut_107 : decode c_Pln_layOut 107 = .ok (.iload_n 3, 1) := by decide +kernel
theorem d_Pln_layOut_108 : decode c_Pln_layOut 108 = .ok (.aaload, 1) := by decide +kernel
theorem d_Pln_layOut_109 : decode c_Pln_layOut 109 = .ok (.aload_n 0, 1) := by decide +kernel
theorem d_Pln_layOut_110 : decode c_Pln_layOut 110 = .ok (.getfield 25, 3) := by decide +kernel
theorem d_Pln_layOut_113 : decode c_Pln_layOut 113 = .ok (.iload_n 3, 1) := by decide +kernel
theorem d_Pln_layOut_114 : decode c_Pln_layOut 114 = .ok (.aaload, 1) := by decide +kernel
theorem d_Pln_layOut_115 : decode c_Pln_layOut 115 = .ok (.invokevirtual 111, 3) := by decide +kernel
theorem d_Pln_layOut_118 : decode c_Pln_layOut 118 = .ok (.iinc 3 1, 3) := by decide +kernel
theorem d_Pln_layOut_121 : decode c_Pln_layOut 121 = .ok (.goto (-25), 3) := by decide +kernel
theorem d_Pln_layOut_124 : decode c_Pln_layOut 124 = .ok (.return_, 1) := by decide +kernel
abbrev c_Pln_keepClearOf : ByteArray := prog_7_method_5_code
abbrev y_Pln_keepClearOf : MethodName := ⟨"FleetFloor$Planner", "keepClearOf", "(LFleetFloor$Vehicle;I)V"⟩
theorem d_Pln_keepClearOf_0 : decode c_Pln_keepClearOf 0 = .ok (.aload_n 1, 1) := by decide +kernel
theorem d_Pln_keepClearOf_1 : decode c_Pln_keepClearOf 1 = .ok (.iload_n 2, 1) := by decide +kernel
theorem d_Pln_keepClearOf_2 : decode c_Pln_keepClearOf 2 = .ok (.invokevirtual 114, 3) := by decide +kernel
theorem d_Pln_keepClearOf_5 : decode c_Pln_keepClearOf 5 = .ok (.istore_n 3, 1) := by decide +kernel
theorem d_Pln_keepClearOf_6 : decode c_Pln_keepClearOf 6 = .ok (.aload_n 1, 1) := by decide +kernel
theorem d_Pln_keepClearOf_7 : decode c_Pln_keepClearOf 7 = .ok (.iload_n 3, 1) := by decide +kernel
theorem d_Pln_keepClearOf_8 : decode c_Pln_keepClearOf 8 = .ok (.invokevirtual 118, 3) := by decide +kernel
theorem d_Pln_keepClearOf_11 : decode c_Pln_keepClearOf 11 = .ok (.istore 4, 2) := by decide +kernel
theorem d_Pln_keepClearOf_13 : decode c_Pln_keepClearOf 13 = .ok (.aload_n 0, 1) := by decide +kernel
theorem d_Pln_keepClearOf_14 : decode c_Pln_keepClearOf 14 = .ok (.getfield 21, 3) := by decide +kernel
theorem d_Pln_keepClearOf_17 : decode c_Pln_keepClearOf 17 = .ok (.iconst 1, 1) := by decide +kernel
theorem d_Pln_keepClearOf_18 : decode c_Pln_keepClearOf 18 = .ok (.aaload, 1) := by decide +kernel
theorem d_Pln_keepClearOf_19 : decode c_Pln_keepClearOf 19 = .ok (.iload 4, 2) := by decide +kernel
theorem d_Pln_keepClearOf_21 : decode c_Pln_keepClearOf 21 = .ok (.invokevirtual 121, 3) := by decide +kernel
theorem d_Pln_keepClearOf_24 : decode c_Pln_keepClearOf 24 = .ok (.iconst 1, 1) := by decide +kernel
theorem d_Pln_keepClearOf_25 : decode c_Pln_keepClearOf 25 = .ok (.istore 5, 2) := by decide +kernel
theorem d_Pln_keepClearOf_27 : decode c_Pln_keepClearOf 27 = .ok (.iload 5, 2) := by decide +kernel
theorem d_Pln_keepClearOf_29 : decode c_Pln_keepClearOf 29 = .ok (.sipush 152, 3) := by decide +kernel
theorem d_Pln_keepClearOf_32 : decode c_Pln_keepClearOf 32 = .ok (.if_icmp .ge 103, 3) := by decide +kernel
theorem d_Pln_keepClearOf_35 : decode c_Pln_keepClearOf 35 = .ok (.iload_n 3, 1) := by decide +kernel
theorem d_Pln_keepClearOf_36 : decode c_Pln_keepClearOf 36 = .ok (.aload_n 1, 1) := by decide +kernel
theorem d_Pln_keepClearOf_37 : decode c_Pln_keepClearOf 37 = .ok (.getfield 76, 3) := by decide +kernel
theorem d_Pln_keepClearOf_40 : decode c_Pln_keepClearOf 40 = .ok (.invokevirtual 94, 3) := by decide +kernel
theorem d_Pln_keepClearOf_43 : decode c_Pln_keepClearOf 43 = .ok (.if_icmp .ge 92, 3) := by decide +kernel
theorem d_Pln_keepClearOf_46 : decode c_Pln_keepClearOf 46 = .ok (.aload_n 1, 1) := by decide +kernel
theorem d_Pln_keepClearOf_47 : decode c_Pln_keepClearOf 47 = .ok (.getfield 76, 3) := by decide +kernel
theorem d_Pln_keepClearOf_50 : decode c_Pln_keepClearOf 50 = .ok (.iload_n 3, 1) := by decide +kernel
theorem d_Pln_keepClearOf_51 : decode c_Pln_keepClearOf 51 = .ok (.invokevirtual 124, 3) := by decide +kernel
theorem d_Pln_keepClearOf_54 : decode c_Pln_keepClearOf 54 = .ok (.checkcast 80, 3) := by decide +kernel
theorem d_Pln_keepClearOf_57 : decode c_Pln_keepClearOf 57 = .ok (.invokevirtual 128, 3) := by decide +kernel
theorem d_Pln_keepClearOf_60 : decode c_Pln_keepClearOf 60 = .ok (.iload_n 2, 1) := by decide +kernel
theorem d_Pln_keepClearOf_61 : decode c_Pln_keepClearOf 61 = .ok (.iload 5, 2) := by decide +kernel
theorem d_Pln_keepClearOf_63 : decode c_Pln_keepClearOf 63 = .ok (.iadd, 1) := by decide +kernel
theorem d_Pln_keepClearOf_64 : decode c_Pln_keepClearOf 64 = .ok (.if_icmp .ne 39, 3) := by decide +kernel
theorem d_Pln_keepClearOf_67 : decode c_Pln_keepClearOf 67 = .ok (.iinc 3 1, 3) := by decide +kernel
theorem d_Pln_keepClearOf_70 : decode c_Pln_keepClearOf 70 = .ok (.aload_n 1, 1) := by decide +kernel
theorem d_Pln_keepClearOf_71 : decode c_Pln_keepClearOf 71 = .ok (.iload_n 3, 1) := by decide +kernel
theorem d_Pln_keepClearOf_72 : decode c_Pln_keepClearOf 72 = .ok (.invokevirtual 118, 3) := by decide +kernel
theorem d_Pln_keepClearOf_75 : decode c_Pln_keepClearOf 75 = .ok (.istore 4, 2) := by decide +kernel
theorem d_Pln_keepClearOf_77 : decode c_Pln_keepClearOf 77 = .ok (.aload_n 0, 1) := by decide +kernel
theorem d_Pln_keepClearOf_78 : decode c_Pln_keepClearOf 78 = .ok (.getfield 25, 3) := by decide +kernel
theorem d_Pln_keepClearOf_81 : decode c_Pln_keepClearOf 81 = .ok (.iload 5, 2) := by decide +kernel
theorem d_Pln_keepClearOf_83 : decode c_Pln_keepClearOf 83 = .ok (.iconst 1, 1) := by decide +kernel
theorem d_Pln_keepClearOf_84 : decode c_Pln_keepClearOf 84 = .ok (.isub, 1) := by decide +kernel
theorem d_Pln_keepClearOf_85 : decode c_Pln_keepClearOf 85 = .ok (.aaload, 1) := by decide +kernel
theorem d_Pln_keepClearOf_86 : decode c_Pln_keepClearOf 86 = .ok (.iload 4, 2) := by decide +kernel
theorem d_Pln_keepClearOf_88 : decode c_Pln_keepClearOf 88 = .ok (.invokevirtual 121, 3) := by decide +kernel
theorem d_Pln_keepClearOf_91 : decode c_Pln_keepClearOf 91 = .ok (.aload_n 0, 1) := by decide +kernel
theorem d_Pln_keepClearOf_92 : decode c_Pln_keepClearOf 92 = .ok (.getfield 25, 3) := by decide +kernel
theorem d_Pln_keepClearOf_95 : decode c_Pln_keepClearOf 95 = .ok (.iload 5, 2) := by decide +kernel
theorem d_Pln_keepClearOf_97 : decode c_Pln_keepClearOf 97 = .ok (.aaload, 1) := by decide +kernel
theorem d_Pln_keepClearOf_98 : decode c_Pln_keepClearOf 98 = .ok (.iload 4, 2) := by decide +kernel
theorem d_Pln_keepClearOf_100 : decode c_Pln_keepClearOf 100 = .ok (.invokevirtual 121, 3) := by decide +kernel
theorem d_Pln_keepClearOf_103 : decode c_Pln_keepClearOf 103 = .ok (.aload_n 0, 1) := by decide +kernel
theorem d_Pln_keepClearOf_104 : decode c_Pln_keepClearOf 104 = .ok (.getfield 21, 3) := by decide +kernel
theorem d_Pln_keepClearOf_107 : decode c_Pln_keepClearOf 107 = .ok (.iload 5, 2) := by decide +kernel
theorem d_Pln_keepClearOf_109 : decode c_Pln_keepClearOf 109 = .ok (.aaload, 1) := by decide +kernel
theorem d_Pln_keepClearOf_110 : decode c_Pln_keepClearOf 110 = .ok (.iload 4, 2) := by decide +kernel
theorem d_Pln_keepClearOf_112 : decode c_Pln_keepClearOf 112 = .ok (.invokevirtual 121, 3) := by decide +kernel
theorem d_Pln_keepClearOf_115 : decode c_Pln_keepClearOf 115 = .ok (.aload_n 0, 1) := by decide +kernel
theorem d_Pln_keepClearOf_116 : decode c_Pln_keepClearOf 116 = .ok (.getfield 21, 3) := by decide +kernel
theorem d_Pln_keepClearOf_119 : decode c_Pln_keepClearOf 119 = .ok (.iload 5, 2) := by decide +kernel
theorem d_Pln_keepClearOf_121 : decode c_Pln_keepClearOf 121 = .ok (.iconst 1, 1) := by decide +kernel
theorem d_Pln_keepClearOf_122 : decode c_Pln_keepClearOf 122 = .ok (.iadd, 1) := by decide +kernel
theorem d_Pln_keepClearOf_123 : decode c_Pln_keepClearOf 123 = .ok (.aaload, 1) := by decide +kernel
theorem d_Pln_keepClearOf_124 : decode c_Pln_keepClearOf 124 = .ok (.iload 4, 2) := by decide +kernel
theorem d_Pln_keepClearOf_126 : decode c_Pln_keepClearOf 126 = .ok (.invokevirtual 121, 3) := by decide +kernel
theorem d_Pln_keepClearOf_129 : decode c_Pln_keepClearOf 129 = .ok (.iinc 5 1, 3) := by decide +kernel
theorem d_Pln_keepClearOf_132 : decode c_Pln_keepClearOf 132 = .ok (.goto (-105), 3) := by decide +kernel
theorem d_Pln_keepClearOf_135 : decode c_Pln_keepClearOf 135 = .ok (.return_, 1) := by decide +kernel
abbrev c_Pln_at : ByteArray := prog_7_method_6_code
abbrev y_Pln_at : MethodName := ⟨"FleetFloor$Planner", "at", "(II)LFleetFloor$Cells;"⟩
theorem d_Pln_at_0 : decode c_Pln_at 0 = .ok (.aload_n 0, 1) := by decide +kernel
theorem d_Pln_at_1 : decode c_Pln_at 1 = .ok (.getfield 29, 3) := by decide +kernel
theorem d_Pln_at_4 : decode c_Pln_at 4 = .ok (.iload_n 1, 1) := by decide +kernel
theorem d_Pln_at_5 : decode c_Pln_at 5 = .ok (.iconst 3, 1) := by decide +kernel
theorem d_Pln_at_6 : decode c_Pln_at 6 = .ok (.imul, 1) := by decide +kernel
theorem d_Pln_at_7 : decode c_Pln_at 7 = .ok (.iload_n 2, 1) := by decide +kernel
theorem d_Pln_at_8 : decode c_Pln_at 8 = .ok (.iadd, 1) := by decide +kernel
theorem d_Pln_at_9 : decode c_Pln_at 9 = .ok (.aaload, 1) := by decide +kernel
theorem d_Pln_at_10 : decode c_Pln_at 10 = .ok (.areturn, 1) := by decide +kernel
abbrev c_Pln_spread : ByteArray := prog_7_method_7_code
abbrev y_Pln_spread : MethodName := ⟨"FleetFloor$Planner", "spread", "()I"⟩
theorem d_Pln_spread_0 : decode c_Pln_spread 0 = .ok (.iconst 0, 1) := by decide +kernel
theorem d_Pln_spread_1 : decode c_Pln_spread 1 = .ok (.istore_n 1, 1) := by decide +kernel
theorem d_Pln_spread_2 : decode c_Pln_spread 2 = .ok (.iload_n 1, 1) := by decide +kernel
theorem d_Pln_spread_3 : decode c_Pln_spread 3 = .ok (.iconst 3, 1) := by decide +kernel
theorem d_Pln_spread_4 : decode c_Pln_spread 4 = .ok (.if_icmp .ge 18, 3) := by decide +kernel
theorem d_Pln_spread_7 : decode c_Pln_spread 7 = .ok (.aload_n 0, 1) := by decide +kernel
theorem d_Pln_spread_8 : decode c_Pln_spread 8 = .ok (.iconst 0, 1) := by decide +kernel
theorem d_Pln_spread_9 : decode c_Pln_spread 9 = .ok (.iload_n 1, 1) := by decide +kernel
theorem d_Pln_spread_10 : decode c_Pln_spread 10 = .ok (.invokevirtual 131, 3) := by decide +kernel
theorem d_Pln_spread_13 : decode c_Pln_spread 13 = .ok (.invokevirtual 135, 3) := by decide +kernel
theorem d_Pln_spread_16 : decode c_Pln_spread 16 = .ok (.iinc 1 1, 3) := by decide +kernel
theorem d_Pln_spread_19 : decode c_Pln_spread 19 = .ok (.goto (-17), 3) := by decide +kernel
theorem d_Pln_spread_22 : decode c_Pln_spread 22 = .ok (.aload_n 0, 1) := by decide +kernel
theorem d_Pln_spread_23 : decode c_Pln_spread 23 = .ok (.iconst 0, 1) := by decide +kernel
theorem d_Pln_spread_24 : decode c_Pln_spread 24 = .ok (.iconst 0, 1) := by decide +kernel
theorem d_Pln_spread_25 : decode c_Pln_spread 25 = .ok (.invokevirtual 131, 3) := by decide +kernel
theorem d_Pln_spread_28 : decode c_Pln_spread 28 = .ok (.aload_n 0, 1) := by decide +kernel
theorem d_Pln_spread_29 : decode c_Pln_spread 29 = .ok (.getfield 58, 3) := by decide +kernel
theorem d_Pln_spread_32 : decode c_Pln_spread 32 = .ok (.invokevirtual 104, 3) := by decide +kernel
theorem d_Pln_spread_35 : decode c_Pln_spread 35 = .ok (.iconst 1, 1) := by decide +kernel
theorem d_Pln_spread_36 : decode c_Pln_spread 36 = .ok (.istore_n 1, 1) := by decide +kernel
theorem d_Pln_spread_37 : decode c_Pln_spread 37 = .ok (.iload_n 1, 1) := by decide +kernel
theorem d_Pln_spread_38 : decode c_Pln_spread 38 = .ok (.sipush 150, 3) := by decide +kernel
theorem d_Pln_spread_41 : decode c_Pln_spread 41 = .ok (.if_icmp .gt 65, 3) := by decide +kernel
theorem d_Pln_spread_44 : decode c_Pln_spread 44 = .ok (.iconst 0, 1) := by decide +kernel
theorem d_Pln_spread_45 : decode c_Pln_spread 45 = .ok (.istore_n 2, 1) := by decide +kernel
theorem d_Pln_spread_46 : decode c_Pln_spread 46 = .ok (.iload_n 2, 1) := by decide +kernel
theorem d_Pln_spread_47 : decode c_Pln_spread 47 = .ok (.iconst 3, 1) := by decide +kernel
theorem d_Pln_spread_48 : decode c_Pln_spread 48 = .ok (.if_icmp .ge 15, 3) := by decide +kernel
theorem d_Pln_spread_51 : decode c_Pln_spread 51 = .ok (.aload_n 0, 1) := by decide +kernel
theorem d_Pln_spread_52 : decode c_Pln_spread 52 = .ok (.iload_n 1, 1) := by decide +kernel
theorem d_Pln_spread_53 : decode c_Pln_spread 53 = .ok (.iload_n 2, 1) := by decide +kernel
theorem d_Pln_spread_54 : decode c_Pln_spread 54 = .ok (.invokevirtual 138, 3) := by decide +kernel
theorem d_Pln_spread_57 : decode c_Pln_spread 57 = .ok (.iinc 2 1, 3) := by decide +kernel
theorem d_Pln_spread_60 : decode c_Pln_spread 60 = .ok (.goto (-14), 3) := by decide +kernel
theorem d_Pln_spread_63 : decode c_Pln_spread 63 = .ok (.iconst 0, 1) := by decide +kernel
theorem d_Pln_spread_64 : decode c_Pln_spread 64 = .ok (.istore_n 2, 1) := by decide +kernel
theorem d_Pln_spread_65 : decode c_Pln_spread 65 = .ok (.iload_n 2, 1) := by decide +kernel
theorem d_Pln_spread_66 : decode c_Pln_spread 66 = .ok (.iconst 2, 1) := by decide +kernel
theorem d_Pln_spread_67 : decode c_Pln_spread 67 = .ok (.if_icmp .ge 15, 3) := by decide +kernel
theorem d_Pln_spread_70 : decode c_Pln_spread 70 = .ok (.aload_n 0, 1) := by decide +kernel
theorem d_Pln_spread_71 : decode c_Pln_spread 71 = .ok (.iload_n 1, 1) := by decide +kernel
theorem d_Pln_spread_72 : decode c_Pln_spread 72 = .ok (.iload_n 2, 1) := by decide +kernel
theorem d_Pln_spread_73 : decode c_Pln_spread 73 = .ok (.invokevirtual 141, 3) := by decide +kernel
theorem d_Pln_spread_76 : decode c_Pln_spread 76 = .ok (.iinc 2 1, 3) := by decide +kernel
theorem d_Pln_spread_79 : decode c_Pln_spread 79 = .ok (.goto (-14), 3) := by decide +kernel
theorem d_Pln_spread_82 : decode c_Pln_spread 82 = .ok (.aload_n 0, 1) := by decide +kernel
theorem d_Pln_spread_83 : decode c_Pln_spread 83 = .ok (.iload_n 1, 1) := by decide +kernel
theorem d_Pln_spread_84 : decode c_Pln_spread 84 = .ok (.iconst 2, 1) := by decide +kernel
theorem d_Pln_spread_85 : decode c_Pln_spread 85 = .ok (.invokevirtual 131, 3) := by decide +kernel
theorem d_Pln_spread_88 : decode c_Pln_spread 88 = .ok (.aload_n 0, 1) := by decide +kernel
theorem d_Pln_spread_89 : decode c_Pln_spread 89 = .ok (.getfield 58, 3) := by decide +kernel
theorem d_Pln_spread_92 : decode c_Pln_spread 92 = .ok (.invokevirtual 144, 3) := by decide +kernel
theorem d_Pln_spread_95 : decode c_Pln_spread 95 = .ok (.ifCond .eq 5, 3) := by decide +kernel
theorem d_Pln_spread_98 : decode c_Pln_spread 98 = .ok (.iload_n 1, 1) := by decide +kernel
theorem d_Pln_spread_99 : decode c_Pln_spread 99 = .ok (.ireturn, 1) := by decide +kernel
theorem d_Pln_spread_100 : decode c_Pln_spread 100 = .ok (.iinc 1 1, 3) := by decide +kernel
theorem d_Pln_spread_103 : decode c_Pln_spread 103 = .ok (.goto (-66), 3) := by decide +kernel
theorem d_Pln_spread_106 : decode c_Pln_spread 106 = .ok (.iconst (-1), 1) := by decide +kernel
theorem d_Pln_spread_107 : decode c_Pln_spread 107 = .ok (.ireturn, 1) := by decide +kernel
abbrev c_Pln_stepOn : ByteArray := prog_7_method_8_code
abbrev y_Pln_stepOn : MethodName := ⟨"FleetFloor$Planner", "stepOn", "(II)V"⟩
theorem d_Pln_stepOn_0 : decode c_Pln_stepOn 0 = .ok (.aload_n 0, 1) := by decide +kernel
theorem d_Pln_stepOn_1 : decode c_Pln_stepOn 1 = .ok (.iload_n 1, 1) := by decide +kernel
theorem d_Pln_stepOn_2 : decode c_Pln_stepOn 2 = .ok (.iconst 1, 1) := by decide +kernel
theorem d_Pln_stepOn_3 : decode c_Pln_stepOn 3 = .ok (.isub, 1) := by decide +kernel
theorem d_Pln_stepOn_4 : decode c_Pln_stepOn 4 = .ok (.iload_n 2, 1) := by decide +kernel
theorem d_Pln_stepOn_5 : decode c_Pln_stepOn 5 = .ok (.invokevirtual 131, 3) := by decide +kernel
theorem d_Pln_stepOn_8 : decode c_Pln_stepOn 8 = .ok (.astore_n 3, 1) := by decide +kernel
theorem d_Pln_stepOn_9 : decode c_Pln_stepOn 9 = .ok (.aload_n 0, 1) := by decide +kernel
theorem d_Pln_stepOn_10 : decode c_Pln_stepOn 10 = .ok (.iload_n 1, 1) := by decide +kernel
theorem d_Pln_stepOn_11 : decode c_Pln_stepOn 11 = .ok (.iload_n 2, 1) := by decide +kernel
theorem d_Pln_stepOn_12 : decode c_Pln_stepOn 12 = .ok (.invokevirtual 131, 3) := by decide +kernel
theorem d_Pln_stepOn_15 : decode c_Pln_stepOn 15 = .ok (.astore 4, 2) := by decide +kernel
theorem d_Pln_stepOn_17 : decode c_Pln_stepOn 17 = .ok (.aload 4, 2) := by decide +kernel
theorem d_Pln_stepOn_19 : decode c_Pln_stepOn 19 = .ok (.aload_n 3, 1) := by decide +kernel
theorem d_Pln_stepOn_20 : decode c_Pln_stepOn 20 = .ok (.invokevirtual 148, 3) := by decide +kernel
theorem d_Pln_stepOn_23 : decode c_Pln_stepOn 23 = .ok (.aload 4, 2) := by decide +kernel
theorem d_Pln_stepOn_25 : decode c_Pln_stepOn 25 = .ok (.aload_n 0, 1) := by decide +kernel
theorem d_Pln_stepOn_26 : decode c_Pln_stepOn 26 = .ok (.getfield 21, 3) := by decide +kernel
theorem d_Pln_stepOn_29 : decode c_Pln_stepOn 29 = .ok (.iload_n 1, 1) := by decide +kernel
theorem d_Pln_stepOn_30 : decode c_Pln_stepOn 30 = .ok (.aaload, 1) := by decide +kernel
theorem d_Pln_stepOn_31 : decode c_Pln_stepOn 31 = .ok (.invokevirtual 111, 3) := by decide +kernel
theorem d_Pln_stepOn_34 : decode c_Pln_stepOn 34 = .ok (.aload_n 0, 1) := by decide +kernel
theorem d_Pln_stepOn_35 : decode c_Pln_stepOn 35 = .ok (.getfield 35, 3) := by decide +kernel
theorem d_Pln_stepOn_38 : decode c_Pln_stepOn 38 = .ok (.aload_n 3, 1) := by decide +kernel
theorem d_Pln_stepOn_39 : decode c_Pln_stepOn 39 = .ok (.invokevirtual 100, 3) := by decide +kernel
theorem d_Pln_stepOn_42 : decode c_Pln_stepOn 42 = .ok (.aload_n 0, 1) := by decide +kernel
theorem d_Pln_stepOn_43 : decode c_Pln_stepOn 43 = .ok (.getfield 35, 3) := by decide +kernel
theorem d_Pln_stepOn_46 : decode c_Pln_stepOn 46 = .ok (.aload_n 0, 1) := by decide +kernel
theorem d_Pln_stepOn_47 : decode c_Pln_stepOn 47 = .ok (.getfield 25, 3) := by decide +kernel
theorem d_Pln_stepOn_50 : decode c_Pln_stepOn 50 = .ok (.iload_n 1, 1) := by decide +kernel
theorem d_Pln_stepOn_51 : decode c_Pln_stepOn 51 = .ok (.aaload, 1) := by decide +kernel
theorem d_Pln_stepOn_52 : decode c_Pln_stepOn 52 = .ok (.invokevirtual 111, 3) := by decide +kernel
theorem d_Pln_stepOn_55 : decode c_Pln_stepOn 55 = .ok (.aload 4, 2) := by decide +kernel
theorem d_Pln_stepOn_57 : decode c_Pln_stepOn 57 = .ok (.aload_n 0, 1) := by decide +kernel
theorem d_Pln_stepOn_58 : decode c_Pln_stepOn 58 = .ok (.getfield 35, 3) := by decide +kernel
theorem d_Pln_stepOn_61 : decode c_Pln_stepOn 61 = .ok (.invokevirtual 151, 3) := by decide +kernel
theorem d_Pln_stepOn_64 : decode c_Pln_stepOn 64 = .ok (.return_, 1) := by decide +kernel
abbrev c_Pln_changeLeg : ByteArray := prog_7_method_9_code
abbrev y_Pln_changeLeg : MethodName := ⟨"FleetFloor$Planner", "changeLeg", "(II)V"⟩
theorem d_Pln_changeLeg_0 : decode c_Pln_changeLeg 0 = .ok (.aload_n 0, 1) := by decide +kernel
theorem d_Pln_changeLeg_1 : decode c_Pln_changeLeg 1 = .ok (.iload_n 1, 1) := by decide +kernel
theorem d_Pln_changeLeg_2 : decode c_Pln_changeLeg 2 = .ok (.iload_n 2, 1) := by decide +kernel
theorem d_Pln_changeLeg_3 : decode c_Pln_changeLeg 3 = .ok (.invokevirtual 131, 3) := by decide +kernel
theorem d_Pln_changeLeg_6 : decode c_Pln_changeLeg 6 = .ok (.aload_n 0, 1) := by decide +kernel
theorem d_Pln_changeLeg_7 : decode c_Pln_changeLeg 7 = .ok (.iload_n 2, 1) := by decide +kernel
theorem d_Pln_changeLeg_8 : decode c_Pln_changeLeg 8 = .ok (.invokevirtual 154, 3) := by decide +kernel
theorem d_Pln_changeLeg_11 : decode c_Pln_changeLeg 11 = .ok (.invokevirtual 144, 3) := by decide +kernel
theorem d_Pln_changeLeg_14 : decode c_Pln_changeLeg 14 = .ok (.ifCond .eq 33, 3) := by decide +kernel
theorem d_Pln_changeLeg_17 : decode c_Pln_changeLeg 17 = .ok (.aload_n 0, 1) := by decide +kernel
theorem d_Pln_changeLeg_18 : decode c_Pln_changeLeg 18 = .ok (.iload_n 1, 1) := by decide +kernel
theorem d_Pln_changeLeg_19 : decode c_Pln_changeLeg 19 = .ok (.iload_n 2, 1) := by decide +kernel
theorem d_Pln_changeLeg_20 : decode c_Pln_changeLeg 20 = .ok (.invokevirtual 131, 3) := by decide +kernel
theorem d_Pln_changeLeg_23 : decode c_Pln_changeLeg 23 = .ok (.aload_n 0, 1) := by decide +kernel
theorem d_Pln_changeLeg_24 : decode c_Pln_changeLeg 24 = .ok (.iload_n 2, 1) := by decide +kernel
theorem d_Pln_changeLeg_25 : decode c_Pln_changeLeg 25 = .ok (.invokevirtual 154, 3) := by decide +kernel
theorem d_Pln_changeLeg_28 : decode c_Pln_changeLeg 28 = .ok (.invokevirtual 121, 3) := by decide +kernel
theorem d_Pln_changeLeg_31 : decode c_Pln_changeLeg 31 = .ok (.aload_n 0, 1) := by decide +kernel
theorem d_Pln_changeLeg_32 : decode c_Pln_changeLeg 32 = .ok (.iload_n 1, 1) := by decide +kernel
theorem d_Pln_changeLeg_33 : decode c_Pln_changeLeg 33 = .ok (.iload_n 2, 1) := by decide +kernel
theorem d_Pln_changeLeg_34 : decode c_Pln_changeLeg 34 = .ok (.iconst 1, 1) := by decide +kernel
theorem d_Pln_changeLeg_35 : decode c_Pln_changeLeg 35 = .ok (.iadd, 1) := by decide +kernel
theorem d_Pln_changeLeg_36 : decode c_Pln_changeLeg 36 = .ok (.invokevirtual 131, 3) := by decide +kernel
theorem d_Pln_changeLeg_39 : decode c_Pln_changeLeg 39 = .ok (.aload_n 0, 1) := by decide +kernel
theorem d_Pln_changeLeg_40 : decode c_Pln_changeLeg 40 = .ok (.iload_n 2, 1) := by decide +kernel
theorem d_Pln_changeLeg_41 : decode c_Pln_changeLeg 41 = .ok (.invokevirtual 154, 3) := by decide +kernel
theorem d_Pln_changeLeg_44 : decode c_Pln_changeLeg 44 = .ok (.invokevirtual 104, 3) := by decide +kernel
theorem d_Pln_changeLeg_47 : decode c_Pln_changeLeg 47 = .ok (.return_, 1) := by decide +kernel
abbrev c_Pln_goalOf : ByteArray := prog_7_method_10_code
abbrev y_Pln_goalOf : MethodName := ⟨"FleetFloor$Planner", "goalOf", "(I)I"⟩
theorem d_Pln_goalOf_0 : decode c_Pln_goalOf 0 = .ok (.iload_n 1, 1) := by decide +kernel
theorem d_Pln_goalOf_1 : decode c_Pln_goalOf 1 = .ok (.ifCond .ne 10, 3) := by decide +kernel
theorem d_Pln_goalOf_4 : decode c_Pln_goalOf 4 = .ok (.aload_n 0, 1) := by decide +kernel
theorem d_Pln_goalOf_5 : decode c_Pln_goalOf 5 = .ok (.getfield 48, 3) := by decide +kernel
theorem d_Pln_goalOf_8 : decode c_Pln_goalOf 8 = .ok (.goto 19, 3) := by decide +kernel
theorem d_Pln_goalOf_11 : decode c_Pln_goalOf 11 = .ok (.iload_n 1, 1) := by decide +kernel
theorem d_Pln_goalOf_12 : decode c_Pln_goalOf 12 = .ok (.iconst 1, 1) := by decide +kernel
theorem d_Pln_goalOf_13 : decode c_Pln_goalOf 13 = .ok (.if_icmp .ne 10, 3) := by decide +kernel
theorem d_Pln_goalOf_16 : decode c_Pln_goalOf 16 = .ok (.aload_n 0, 1) := by decide +kernel
theorem d_Pln_goalOf_17 : decode c_Pln_goalOf 17 = .ok (.getfield 52, 3) := by decide +kernel
theorem d_Pln_goalOf_20 : decode c_Pln_goalOf 20 = .ok (.goto 7, 3) := by decide +kernel
theorem d_Pln_goalOf_23 : decode c_Pln_goalOf 23 = .ok (.aload_n 0, 1) := by decide +kernel
theorem d_Pln_goalOf_24 : decode c_Pln_goalOf 24 = .ok (.getfield 58, 3) := by decide +kernel
theorem d_Pln_goalOf_27 : decode c_Pln_goalOf 27 = .ok (.ireturn, 1) := by decide +kernel
abbrev c_Pln_prune : ByteArray := prog_7_method_11_code
abbrev y_Pln_prune : MethodName := ⟨"FleetFloor$Planner", "prune", "()V"⟩
theorem d_Pln_prune_0 : decode c_Pln_prune 0 = .ok (.iconst 0, 1) := by decide +kernel
theorem d_Pln_prune_1 : decode c_Pln_prune 1 = .ok (.istore_n 1, 1) := by decide +kernel
theorem d_Pln_prune_2 : decode c_Pln_prune 2 = .ok (.iload_n 1, 1) := by decide +kernel
theorem d_Pln_prune_3 : decode c_Pln_prune 3 = .ok (.iconst 3, 1) := by decide +kernel
theorem d_Pln_prune_4 : decode c_Pln_prune 4 = .ok (.if_icmp .ge 21, 3) := by decide +kernel
theorem d_Pln_prune_7 : decode c_Pln_prune 7 = .ok (.aload_n 0, 1) := by decide +kernel
theorem d_Pln_prune_8 : decode c_Pln_prune 8 = .ok (.aload_n 0, 1) := by decide +kernel
theorem d_Pln_prune_9 : decode c_Pln_prune 9 = .ok (.getfield 67, 3) := by decide +kernel
theorem d_Pln_prune_12 : decode c_Pln_prune 12 = .ok (.iload_n 1, 1) := by decide +kernel
theorem d_Pln_prune_13 : decode c_Pln_prune 13 = .ok (.invokevirtual 131, 3) := by decide +kernel
theorem d_Pln_prune_16 : decode c_Pln_prune 16 = .ok (.invokevirtual 135, 3) := by decide +kernel
theorem d_Pln_prune_19 : decode c_Pln_prune 19 = .ok (.iinc 1 1, 3) := by decide +kernel
theorem d_Pln_prune_22 : decode c_Pln_prune 22 = .ok (.goto (-20), 3) := by decide +kernel
theorem d_Pln_prune_25 : decode c_Pln_prune 25 = .ok (.aload_n 0, 1) := by decide +kernel
theorem d_Pln_prune_26 : decode c_Pln_prune 26 = .ok (.aload_n 0, 1) := by decide +kernel
theorem d_Pln_prune_27 : decode c_Pln_prune 27 = .ok (.getfield 67, 3) := by decide +kernel
theorem d_Pln_prune_30 : decode c_Pln_prune 30 = .ok (.iconst 2, 1) := by decide +kernel
theorem d_Pln_prune_31 : decode c_Pln_prune 31 = .ok (.invokevirtual 131, 3) := by decide +kernel
theorem d_Pln_prune_34 : decode c_Pln_prune 34 = .ok (.aload_n 0, 1) := by decide +kernel
theorem d_Pln_prune_35 : decode c_Pln_prune 35 = .ok (.getfield 58, 3) := by decide +kernel
theorem d_Pln_prune_38 : decode c_Pln_prune 38 = .ok (.invokevirtual 104, 3) := by decide +kernel
theorem d_Pln_prune_41 : decode c_Pln_prune 41 = .ok (.aload_n 0, 1) := by decide +kernel
theorem d_Pln_prune_42 : decode c_Pln_prune 42 = .ok (.getfield 67, 3) := by decide +kernel
theorem d_Pln_prune_45 : decode c_Pln_prune 45 = .ok (.iconst 1, 1) := by decide +kernel
theorem d_Pln_prune_46 : decode c_Pln_prune 46 = .ok (.isub, 1) := by decide +kernel
theorem d_Pln_prune_47 : decode c_Pln_prune 47 = .ok (.istore_n 1, 1) := by decide +kernel
theorem d_Pln_prune_48 : decode c_Pln_prune 48 = .ok (.iload_n 1, 1) := by decide +kernel
theorem d_Pln_prune_49 : decode c_Pln_prune 49 = .ok (.ifCond .lt 78, 3) := by decide +kernel
theorem d_Pln_prune_52 : decode c_Pln_prune 52 = .ok (.aload_n 0, 1) := by decide +kernel
theorem d_Pln_prune_53 : decode c_Pln_prune 53 = .ok (.getfield 32, 3) := by decide +kernel
theorem d_Pln_prune_56 : decode c_Pln_prune 56 = .ok (.invokevirtual 135, 3) := by decide +kernel
theorem d_Pln_prune_59 : decode c_Pln_prune 59 = .ok (.iconst 2, 1) := by decide +kernel
theorem d_Pln_prune_60 : decode c_Pln_prune 60 = .ok (.istore_n 2, 1) := by decide +kernel
theorem d_Pln_prune_61 : decode c_Pln_prune 61 = .ok (.iload_n 2, 1) := by decide +kernel
theorem d_Pln_prune_62 : decode c_Pln_prune 62 = .ok (.ifCond .lt 59, 3) := by decide +kernel
theorem d_Pln_prune_65 : decode c_Pln_prune 65 = .ok (.aload_n 0, 1) := by decide +kernel
theorem d_Pln_prune_66 : decode c_Pln_prune 66 = .ok (.getfield 32, 3) := by decide +kernel
theorem d_Pln_prune_69 : decode c_Pln_prune 69 = .ok (.aload_n 0, 1) := by decide +kernel
theorem d_Pln_prune_70 : decode c_Pln_prune 70 = .ok (.iload_n 2, 1) := by decide +kernel
theorem d_Pln_prune_71 : decode c_Pln_prune 71 = .ok (.invokevirtual 154, 3) := by decide +kernel
theorem d_Pln_prune_74 : decode c_Pln_prune 74 = .ok (.invokevirtual 144, 3) := by decide +kernel
theorem d_Pln_prune_77 : decode c_Pln_prune 77 = .ok (.istore_n 3, 1) := by decide +kernel
theorem d_Pln_prune_78 : decode c_Pln_prune 78 = .ok (.aload_n 0, 1) := by decide +kernel
theorem d_Pln_prune_79 : decode c_Pln_prune 79 = .ok (.getfield 32, 3) := by decide +kernel
theorem d_Pln_prune_82 : decode c_Pln_prune 82 = .ok (.aload_n 0, 1) := by decide +kernel
theorem d_Pln_prune_83 : decode c_Pln_prune 83 = .ok (.iload_n 1, 1) := by decide +kernel
theorem d_Pln_prune_84 : decode c_Pln_prune 84 = .ok (.iconst 1, 1) := by decide +kernel
theorem d_Pln_prune_85 : decode c_Pln_prune 85 = .ok (.iadd, 1) := by decide +kernel
theorem d_Pln_prune_86 : decode c_Pln_prune 86 = .ok (.iload_n 2, 1) := by decide +kernel
theorem d_Pln_prune_87 : decode c_Pln_prune 87 = .ok (.invokevirtual 131, 3) := by decide +kernel
theorem d_Pln_prune_90 : decode c_Pln_prune 90 = .ok (.invokevirtual 100, 3) := by decide +kernel
theorem d_Pln_prune_93 : decode c_Pln_prune 93 = .ok (.iload_n 3, 1) := by decide +kernel
theorem d_Pln_prune_94 : decode c_Pln_prune 94 = .ok (.ifCond .eq 15, 3) := by decide +kernel
theorem d_Pln_prune_97 : decode c_Pln_prune 97 = .ok (.aload_n 0, 1) := by decide +kernel
theorem d_Pln_prune_98 : decode c_Pln_prune 98 = .ok (.getfield 32, 3) := by decide +kernel
theorem d_Pln_prune_101 : decode c_Pln_prune 101 = .ok (.aload_n 0, 1) := by decide +kernel
theorem d_Pln_prune_102 : decode c_Pln_prune 102 = .ok (.iload_n 2, 1) := by decide +kernel
theorem d_Pln_prune_103 : decode c_Pln_prune 103 = .ok (.invokevirtual 154, 3) := by decide +kernel
theorem d_Pln_prune_106 : decode c_Pln_prune 106 = .ok (.invokevirtual 104, 3) := by decide +kernel
theorem d_Pln_prune_109 : decode c_Pln_prune 109 = .ok (.aload_n 0, 1) := by decide +kernel
theorem d_Pln_prune_110 : decode c_Pln_prune 110 = .ok (.iload_n 1, 1) := by decide +kernel
theorem d_Pln_prune_111 : decode c_Pln_prune 111 = .ok (.iload_n 2, 1) := by decide +kernel
theorem d_Pln_prune_112 : decode c_Pln_prune 112 = .ok (.invokevirtual 157, 3) := by decide +kernel
theorem d_Pln_prune_115 : decode c_Pln_prune 115 = .ok (.iinc 2 (-1), 3) := by decide +kernel
theorem d_Pln_prune_118 : decode c_Pln_prune 118 = .ok (.goto (-57), 3) := by decide +kernel
theorem d_Pln_prune_121 : decode c_Pln_prune 121 = .ok (.iinc 1 (-1), 3) := by decide +kernel
theorem d_Pln_prune_124 : decode c_Pln_prune 124 = .ok (.goto (-76), 3) := by decide +kernel
theorem d_Pln_prune_127 : decode c_Pln_prune 127 = .ok (.return_, 1) := by decide +kernel
abbrev c_Pln_keepThoseBefore : ByteArray := prog_7_method_12_code
abbrev y_Pln_keepThoseBefore : MethodName := ⟨"FleetFloor$Planner", "keepThoseBefore", "(II)V"⟩
theorem d_Pln_keepThoseBefore_0 : decode c_Pln_keepThoseBefore 0 = .ok (.aload_n 0, 1) := by decide +kernel
theorem d_Pln_keepThoseBefore_1 : decode c_Pln_keepThoseBefore 1 = .ok (.getfield 35, 3) := by decide +kernel
theorem d_Pln_keepThoseBefore_4 : decode c_Pln_keepThoseBefore 4 = .ok (.aload_n 0, 1) := by decide +kernel
theorem d_Pln_keepThoseBefore_5 : decode c_Pln_keepThoseBefore 5 = .ok (.getfield 32, 3) := by decide +kernel
theorem d_Pln_keepThoseBefore_8 : decode c_Pln_keepThoseBefore 8 = .ok (.invokevirtual 148, 3) := by decide +kernel
theorem d_Pln_keepThoseBefore_11 : decode c_Pln_keepThoseBefore 11 = .ok (.aload_n 0, 1) := by decide +kernel
theorem d_Pln_keepThoseBefore_12 : decode c_Pln_keepThoseBefore 12 = .ok (.getfield 35, 3) := by decide +kernel
theorem d_Pln_keepThoseBefore_15 : decode c_Pln_keepThoseBefore 15 = .ok (.aload_n 0, 1) := by decide +kernel
theorem d_Pln_keepThoseBefore_16 : decode c_Pln_keepThoseBefore 16 = .ok (.getfield 32, 3) := by decide +kernel
theorem d_Pln_keepThoseBefore_19 : decode c_Pln_keepThoseBefore 19 = .ok (.invokevirtual 151, 3) := by decide +kernel
theorem d_Pln_keepThoseBefore_22 : decode c_Pln_keepThoseBefore 22 = .ok (.aload_n 0, 1) := by decide +kernel
theorem d_Pln_keepThoseBefore_23 : decode c_Pln_keepThoseBefore 23 = .ok (.iload_n 1, 1) := by decide +kernel
theorem d_Pln_keepThoseBefore_24 : decode c_Pln_keepThoseBefore 24 = .ok (.iload_n 2, 1) := by decide +kernel
theorem d_Pln_keepThoseBefore_25 : decode c_Pln_keepThoseBefore 25 = .ok (.invokevirtual 131, 3) := by decide +kernel
theorem d_Pln_keepThoseBefore_28 : decode c_Pln_keepThoseBefore 28 = .ok (.aload_n 0, 1) := by decide +kernel
theorem d_Pln_keepThoseBefore_29 : decode c_Pln_keepThoseBefore 29 = .ok (.getfield 35, 3) := by decide +kernel
theorem d_Pln_keepThoseBefore_32 : decode c_Pln_keepThoseBefore 32 = .ok (.invokevirtual 111, 3) := by decide +kernel
theorem d_Pln_keepThoseBefore_35 : decode c_Pln_keepThoseBefore 35 = .ok (.return_, 1) := by decide +kernel
abbrev c_Pln_follow : ByteArray := prog_7_method_13_code
abbrev y_Pln_follow : MethodName := ⟨"FleetFloor$Planner", "follow", "()V"⟩
theorem d_Pln_follow_0 : decode c_Pln_follow 0 = .ok (.aload_n 0, 1) := by decide +kernel
theorem d_Pln_follow_1 : decode c_Pln_follow 1 = .ok (.getfield 38, 3) := by decide +kernel
theorem d_Pln_follow_4 : decode c_Pln_follow 4 = .ok (.iconst 0, 1) := by decide +kernel
theorem d_Pln_follow_5 : decode c_Pln_follow 5 = .ok (.aload_n 0, 1) := by decide +kernel
theorem d_Pln_follow_6 : decode c_Pln_follow 6 = .ok (.getfield 58, 3) := by decide +kernel
theorem d_Pln_follow_9 : decode c_Pln_follow 9 = .ok (.iastore, 1) := by decide +kernel
theorem d_Pln_follow_10 : decode c_Pln_follow 10 = .ok (.aload_n 0, 1) := by decide +kernel
theorem d_Pln_follow_11 : decode c_Pln_follow 11 = .ok (.iconst (-1), 1) := by decide +kernel
theorem d_Pln_follow_12 : decode c_Pln_follow 12 = .ok (.putfield 91, 3) := by decide +kernel
theorem d_Pln_follow_15 : decode c_Pln_follow 15 = .ok (.iconst 0, 1) := by decide +kernel
theorem d_Pln_follow_16 : decode c_Pln_follow 16 = .ok (.istore_n 1, 1) := by decide +kernel
theorem d_Pln_follow_17 : decode c_Pln_follow 17 = .ok (.iconst 1, 1) := by decide +kernel
theorem d_Pln_follow_18 : decode c_Pln_follow 18 = .ok (.istore_n 2, 1) := by decide +kernel
theorem d_Pln_follow_19 : decode c_Pln_follow 19 = .ok (.iload_n 2, 1) := by decide +kernel
theorem d_Pln_follow_20 : decode c_Pln_follow 20 = .ok (.aload_n 0, 1) := by decide +kernel
theorem d_Pln_follow_21 : decode c_Pln_follow 21 = .ok (.getfield 67, 3) := by decide +kernel
theorem d_Pln_follow_24 : decode c_Pln_follow 24 = .ok (.if_icmp .gt 67, 3) := by decide +kernel
theorem d_Pln_follow_27 : decode c_Pln_follow 27 = .ok (.iload_n 2, 1) := by decide +kernel
theorem d_Pln_follow_28 : decode c_Pln_follow 28 = .ok (.aload_n 0, 1) := by decide +kernel
theorem d_Pln_follow_29 : decode c_Pln_follow 29 = .ok (.getfield 38, 3) := by decide +kernel
theorem d_Pln_follow_32 : decode c_Pln_follow 32 = .ok (.arraylength, 1) := by decide +kernel
theorem d_Pln_follow_33 : decode c_Pln_follow 33 = .ok (.if_icmp .ge 58, 3) := by decide +kernel
theorem d_Pln_follow_36 : decode c_Pln_follow 36 = .ok (.aload_n 0, 1) := by decide +kernel
theorem d_Pln_follow_37 : decode c_Pln_follow 37 = .ok (.getfield 38, 3) := by decide +kernel
theorem d_Pln_follow_40 : decode c_Pln_follow 40 = .ok (.iload_n 2, 1) := by decide +kernel
theorem d_Pln_follow_41 : decode c_Pln_follow 41 = .ok (.aload_n 0, 1) := by decide +kernel
theorem d_Pln_follow_42 : decode c_Pln_follow 42 = .ok (.iload_n 2, 1) := by decide +kernel
theorem d_Pln_follow_43 : decode c_Pln_follow 43 = .ok (.aload_n 0, 1) := by decide +kernel
theorem d_Pln_follow_44 : decode c_Pln_follow 44 = .ok (.getfield 38, 3) := by decide +kernel
theorem d_Pln_follow_47 : decode c_Pln_follow 47 = .ok (.iload_n 2, 1) := by decide +kernel
theorem d_Pln_follow_48 : decode c_Pln_follow 48 = .ok (.iconst 1, 1) := by decide +kernel
theorem d_Pln_follow_49 : decode c_Pln_follow 49 = .ok (.isub, 1) := by decide +kernel
theorem d_Pln_follow_50 : decode c_Pln_follow 50 = .ok (.iaload, 1) := by decide +kernel
theorem d_Pln_follow_51 : decode c_Pln_follow 51 = .ok (.iload_n 1, 1) := by decide +kernel
theorem d_Pln_follow_52 : decode c_Pln_follow 52 = .ok (.invokevirtual 160, 3) := by decide +kernel
theorem d_Pln_follow_55 : decode c_Pln_follow 55 = .ok (.iastore, 1) := by decide +kernel
theorem d_Pln_follow_56 : decode c_Pln_follow 56 = .ok (.aload_n 0, 1) := by decide +kernel
theorem d_Pln_follow_57 : decode c_Pln_follow 57 = .ok (.aload_n 0, 1) := by decide +kernel
theorem d_Pln_follow_58 : decode c_Pln_follow 58 = .ok (.getfield 38, 3) := by decide +kernel
theorem d_Pln_follow_61 : decode c_Pln_follow 61 = .ok (.iload_n 2, 1) := by decide +kernel
theorem d_Pln_follow_62 : decode c_Pln_follow 62 = .ok (.iaload, 1) := by decide +kernel
theorem d_Pln_follow_63 : decode c_Pln_follow 63 = .ok (.iload_n 1, 1) := by decide +kernel
theorem d_Pln_follow_64 : decode c_Pln_follow 64 = .ok (.invokevirtual 164, 3) := by decide +kernel
theorem d_Pln_follow_67 : decode c_Pln_follow 67 = .ok (.istore_n 3, 1) := by decide +kernel
theorem d_Pln_follow_68 : decode c_Pln_follow 68 = .ok (.iload_n 3, 1) := by decide +kernel
theorem d_Pln_follow_69 : decode c_Pln_follow 69 = .ok (.iconst 2, 1) := by decide +kernel
theorem d_Pln_follow_70 : decode c_Pln_follow 70 = .ok (.if_icmp .ne 13, 3) := by decide +kernel
theorem d_Pln_follow_73 : decode c_Pln_follow 73 = .ok (.iload_n 1, 1) := by decide +kernel
theorem d_Pln_follow_74 : decode c_Pln_follow 74 = .ok (.iconst 2, 1) := by decide +kernel
theorem d_Pln_follow_75 : decode c_Pln_follow 75 = .ok (.if_icmp .eq 8, 3) := by decide +kernel
theorem d_Pln_follow_78 : decode c_Pln_follow 78 = .ok (.aload_n 0, 1) := by decide +kernel
theorem d_Pln_follow_79 : decode c_Pln_follow 79 = .ok (.iload_n 2, 1) := by decide +kernel
theorem d_Pln_follow_80 : decode c_Pln_follow 80 = .ok (.putfield 91, 3) := by decide +kernel
theorem d_Pln_follow_83 : decode c_Pln_follow 83 = .ok (.iload_n 3, 1) := by decide +kernel
theorem d_Pln_follow_84 : decode c_Pln_follow 84 = .ok (.istore_n 1, 1) := by decide +kernel
theorem d_Pln_follow_85 : decode c_Pln_follow 85 = .ok (.iinc 2 1, 3) := by decide +kernel
theorem d_Pln_follow_88 : decode c_Pln_follow 88 = .ok (.goto (-69), 3) := by decide +kernel
theorem d_Pln_follow_91 : decode c_Pln_follow 91 = .ok (.return_, 1) := by decide +kernel
abbrev c_Pln_lowestStep : ByteArray := prog_7_method_14_code
abbrev y_Pln_lowestStep : MethodName := ⟨"FleetFloor$Planner", "lowestStep", "(III)I"⟩
theorem d_Pln_lowestStep_0 : decode c_Pln_lowestStep 0 = .ok (.iconst 0, 1) := by decide +kernel
theorem d_Pln_lowestStep_1 : decode c_Pln_lowestStep 1 = .ok (.istore 4, 2) := by decide +kernel
theorem d_Pln_lowestStep_3 : decode c_Pln_lowestStep 3 = .ok (.iload 4, 2) := by decide +kernel
theorem d_Pln_lowestStep_5 : decode c_Pln_lowestStep 5 = .ok (.iconst 4, 1) := by decide +kernel
theorem d_Pln_lowestStep_6 : decode c_Pln_lowestStep 6 = .ok (.if_icmp .ge 46, 3) := by decide +kernel
theorem d_Pln_lowestStep_9 : decode c_Pln_lowestStep 9 = .ok (.iload_n 2, 1) := by decide +kernel
theorem d_Pln_lowestStep_10 : decode c_Pln_lowestStep 10 = .ok (.iload 4, 2) := by decide +kernel
theorem d_Pln_lowestStep_12 : decode c_Pln_lowestStep 12 = .ok (.invokestatic 168, 3) := by decide +kernel
theorem d_Pln_lowestStep_15 : decode c_Pln_lowestStep 15 = .ok (.istore 5, 2) := by decide +kernel
theorem d_Pln_lowestStep_17 : decode c_Pln_lowestStep 17 = .ok (.iload 5, 2) := by decide +kernel
theorem d_Pln_lowestStep_19 : decode c_Pln_lowestStep 19 = .ok (.iconst (-1), 1) := by decide +kernel
theorem d_Pln_lowestStep_20 : decode c_Pln_lowestStep 20 = .ok (.if_icmp .eq 26, 3) := by decide +kernel
theorem d_Pln_lowestStep_23 : decode c_Pln_lowestStep 23 = .ok (.aload_n 0, 1) := by decide +kernel
theorem d_Pln_lowestStep_24 : decode c_Pln_lowestStep 24 = .ok (.iload_n 1, 1) := by decide +kernel
theorem d_Pln_lowestStep_25 : decode c_Pln_lowestStep 25 = .ok (.aload_n 0, 1) := by decide +kernel
theorem d_Pln_lowestStep_26 : decode c_Pln_lowestStep 26 = .ok (.iload 5, 2) := by decide +kernel
theorem d_Pln_lowestStep_28 : decode c_Pln_lowestStep 28 = .ok (.iload_n 3, 1) := by decide +kernel
theorem d_Pln_lowestStep_29 : decode c_Pln_lowestStep 29 = .ok (.invokevirtual 164, 3) := by decide +kernel
theorem d_Pln_lowestStep_32 : decode c_Pln_lowestStep 32 = .ok (.invokevirtual 131, 3) := by decide +kernel
theorem d_Pln_lowestStep_35 : decode c_Pln_lowestStep 35 = .ok (.iload 5, 2) := by decide +kernel
theorem d_Pln_lowestStep_37 : decode c_Pln_lowestStep 37 = .ok (.invokevirtual 144, 3) := by decide +kernel
theorem d_Pln_lowestStep_40 : decode c_Pln_lowestStep 40 = .ok (.ifCond .eq 6, 3) := by decide +kernel
theorem d_Pln_lowestStep_43 : decode c_Pln_lowestStep 43 = .ok (.iload 5, 2) := by decide +kernel
theorem d_Pln_lowestStep_45 : decode c_Pln_lowestStep 45 = .ok (.ireturn, 1) := by decide +kernel
theorem d_Pln_lowestStep_46 : decode c_Pln_lowestStep 46 = .ok (.iinc 4 1, 3) := by decide +kernel
theorem d_Pln_lowestStep_49 : decode c_Pln_lowestStep 49 = .ok (.goto (-46), 3) := by decide +kernel
theorem d_Pln_lowestStep_52 : decode c_Pln_lowestStep 52 = .ok (.iload_n 2, 1) := by decide +kernel
theorem d_Pln_lowestStep_53 : decode c_Pln_lowestStep 53 = .ok (.ireturn, 1) := by decide +kernel
abbrev c_Pln_legAt : ByteArray := prog_7_method_15_code
abbrev y_Pln_legAt : MethodName := ⟨"FleetFloor$Planner", "legAt", "(II)I"⟩
theorem d_Pln_legAt_0 : decode c_Pln_legAt 0 = .ok (.iload_n 2, 1) := by decide +kernel
theorem d_Pln_legAt_1 : decode c_Pln_legAt 1 = .ok (.istore_n 3, 1) := by decide +kernel
theorem d_Pln_legAt_2 : decode c_Pln_legAt 2 = .ok (.iload_n 3, 1) := by decide +kernel
theorem d_Pln_legAt_3 : decode c_Pln_legAt 3 = .ok (.ifCond .ne 13, 3) := by decide +kernel
theorem d_Pln_legAt_6 : decode c_Pln_legAt 6 = .ok (.iload_n 1, 1) := by decide +kernel
theorem d_Pln_legAt_7 : decode c_Pln_legAt 7 = .ok (.aload_n 0, 1) := by decide +kernel
theorem d_Pln_legAt_8 : decode c_Pln_legAt 8 = .ok (.getfield 48, 3) := by decide +kernel
theorem d_Pln_legAt_11 : decode c_Pln_legAt 11 = .ok (.if_icmp .ne 5, 3) := by decide +kernel
theorem d_Pln_legAt_14 : decode c_Pln_legAt 14 = .ok (.iconst 1, 1) := by decide +kernel
theorem d_Pln_legAt_15 : decode c_Pln_legAt 15 = .ok (.istore_n 3, 1) := by decide +kernel
theorem d_Pln_legAt_16 : decode c_Pln_legAt 16 = .ok (.iload_n 3, 1) := by decide +kernel
theorem d_Pln_legAt_17 : decode c_Pln_legAt 17 = .ok (.iconst 1, 1) := by decide +kernel
theorem d_Pln_legAt_18 : decode c_Pln_legAt 18 = .ok (.if_icmp .ne 13, 3) := by decide +kernel
theorem d_Pln_legAt_21 : decode c_Pln_legAt 21 = .ok (.iload_n 1, 1) := by decide +kernel
theorem d_Pln_legAt_22 : decode c_Pln_legAt 22 = .ok (.aload_n 0, 1) := by decide +kernel
theorem d_Pln_legAt_23 : decode c_Pln_legAt 23 = .ok (.getfield 52, 3) := by decide +kernel
theorem d_Pln_legAt_26 : decode c_Pln_legAt 26 = .ok (.if_icmp .ne 5, 3) := by decide +kernel
theorem d_Pln_legAt_29 : decode c_Pln_legAt 29 = .ok (.iconst 2, 1) := by decide +kernel
theorem d_Pln_legAt_30 : decode c_Pln_legAt 30 = .ok (.istore_n 3, 1) := by decide +kernel
theorem d_Pln_legAt_31 : decode c_Pln_legAt 31 = .ok (.iload_n 3, 1) := by decide +kernel
theorem d_Pln_legAt_32 : decode c_Pln_legAt 32 = .ok (.ireturn, 1) := by decide +kernel
