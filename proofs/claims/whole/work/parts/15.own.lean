abbrev c_FF_init : ByteArray := prog_1_method_1_code
abbrev y_FF_init : MethodName := ⟨"FleetFloor", "<init>", "()V"⟩
theorem d_FF_init_0 : decode c_FF_init 0 = .ok (.aload_n 0, 1) := by decide +kernel
theorem d_FF_init_1 : decode c_FF_init 1 = .ok (.invokespecial 3, 3) := by decide +kernel
theorem d_FF_init_4 : decode c_FF_init 4 = .ok (.aload_n 0, 1) := by decide +kernel
theorem d_FF_init_5 : decode c_FF_init 5 = .ok (.new 9, 3) := by decide +kernel
theorem d_FF_init_8 : decode c_FF_init 8 = .ok (.dup, 1) := by decide +kernel
theorem d_FF_init_9 : decode c_FF_init 9 = .ok (.invokespecial 11, 3) := by decide +kernel
theorem d_FF_init_12 : decode c_FF_init 12 = .ok (.putfield 12, 3) := by decide +kernel
theorem d_FF_init_15 : decode c_FF_init 15 = .ok (.aload_n 0, 1) := by decide +kernel
theorem d_FF_init_16 : decode c_FF_init 16 = .ok (.new 16, 3) := by decide +kernel
theorem d_FF_init_19 : decode c_FF_init 19 = .ok (.dup, 1) := by decide +kernel
theorem d_FF_init_20 : decode c_FF_init 20 = .ok (.invokespecial 18, 3) := by decide +kernel
theorem d_FF_init_23 : decode c_FF_init 23 = .ok (.putfield 19, 3) := by decide +kernel
theorem d_FF_init_26 : decode c_FF_init 26 = .ok (.aload_n 0, 1) := by decide +kernel
theorem d_FF_init_27 : decode c_FF_init 27 = .ok (.new 23, 3) := by decide +kernel
theorem d_FF_init_30 : decode c_FF_init 30 = .ok (.dup, 1) := by decide +kernel
theorem d_FF_init_31 : decode c_FF_init 31 = .ok (.invokespecial 25, 3) := by decide +kernel
theorem d_FF_init_34 : decode c_FF_init 34 = .ok (.putfield 26, 3) := by decide +kernel
theorem d_FF_init_37 : decode c_FF_init 37 = .ok (.aload_n 0, 1) := by decide +kernel
theorem d_FF_init_38 : decode c_FF_init 38 = .ok (.iconst 0, 1) := by decide +kernel
theorem d_FF_init_39 : decode c_FF_init 39 = .ok (.anewarray 30, 3) := by decide +kernel
theorem d_FF_init_42 : decode c_FF_init 42 = .ok (.putfield 32, 3) := by decide +kernel
theorem d_FF_init_45 : decode c_FF_init 45 = .ok (.aload_n 0, 1) := by decide +kernel
theorem d_FF_init_46 : decode c_FF_init 46 = .ok (.iconst 0, 1) := by decide +kernel
theorem d_FF_init_47 : decode c_FF_init 47 = .ok (.newarray .int, 2) := by decide +kernel
theorem d_FF_init_49 : decode c_FF_init 49 = .ok (.putfield 36, 3) := by decide +kernel
theorem d_FF_init_52 : decode c_FF_init 52 = .ok (.aload_n 0, 1) := by decide +kernel
theorem d_FF_init_53 : decode c_FF_init 53 = .ok (.aconst_null, 1) := by decide +kernel
theorem d_FF_init_54 : decode c_FF_init 54 = .ok (.putfield 40, 3) := by decide +kernel
theorem d_FF_init_57 : decode c_FF_init 57 = .ok (.aload_n 0, 1) := by decide +kernel
theorem d_FF_init_58 : decode c_FF_init 58 = .ok (.iconst 0, 1) := by decide +kernel
theorem d_FF_init_59 : decode c_FF_init 59 = .ok (.putfield 44, 3) := by decide +kernel
theorem d_FF_init_62 : decode c_FF_init 62 = .ok (.aload_n 0, 1) := by decide +kernel
theorem d_FF_init_63 : decode c_FF_init 63 = .ok (.iconst 0, 1) := by decide +kernel
theorem d_FF_init_64 : decode c_FF_init 64 = .ok (.putfield 48, 3) := by decide +kernel
theorem d_FF_init_67 : decode c_FF_init 67 = .ok (.aload_n 0, 1) := by decide +kernel
theorem d_FF_init_68 : decode c_FF_init 68 = .ok (.iconst 0, 1) := by decide +kernel
theorem d_FF_init_69 : decode c_FF_init 69 = .ok (.putfield 51, 3) := by decide +kernel
theorem d_FF_init_72 : decode c_FF_init 72 = .ok (.return_, 1) := by decide +kernel
abbrev c_FF_cell : ByteArray := prog_1_method_2_code
abbrev y_FF_cell : MethodName := ⟨"FleetFloor", "cell", "(II)Z"⟩
theorem d_FF_cell_0 : decode c_FF_cell 0 = .ok (.aload_n 0, 1) := by decide +kernel
theorem d_FF_cell_1 : decode c_FF_cell 1 = .ok (.invokevirtual 54, 3) := by decide +kernel
theorem d_FF_cell_4 : decode c_FF_cell 4 = .ok (.ifCond .ne 19, 3) := by decide +kernel
theorem d_FF_cell_7 : decode c_FF_cell 7 = .ok (.aload_n 0, 1) := by decide +kernel
theorem d_FF_cell_8 : decode c_FF_cell 8 = .ok (.getfield 12, 3) := by decide +kernel
theorem d_FF_cell_11 : decode c_FF_cell 11 = .ok (.iload_n 1, 1) := by decide +kernel
theorem d_FF_cell_12 : decode c_FF_cell 12 = .ok (.iload_n 2, 1) := by decide +kernel
theorem d_FF_cell_13 : decode c_FF_cell 13 = .ok (.invokevirtual 58, 3) := by decide +kernel
theorem d_FF_cell_16 : decode c_FF_cell 16 = .ok (.ifCond .eq 7, 3) := by decide +kernel
theorem d_FF_cell_19 : decode c_FF_cell 19 = .ok (.iconst 1, 1) := by decide +kernel
theorem d_FF_cell_20 : decode c_FF_cell 20 = .ok (.goto 4, 3) := by decide +kernel
theorem d_FF_cell_23 : decode c_FF_cell 23 = .ok (.iconst 0, 1) := by decide +kernel
theorem d_FF_cell_24 : decode c_FF_cell 24 = .ok (.ireturn, 1) := by decide +kernel
abbrev c_FF_open : ByteArray := prog_1_method_3_code
abbrev y_FF_open : MethodName := ⟨"FleetFloor", "open", "()I"⟩
theorem d_FF_open_0 : decode c_FF_open 0 = .ok (.aload_n 0, 1) := by decide +kernel
theorem d_FF_open_1 : decode c_FF_open 1 = .ok (.invokevirtual 54, 3) := by decide +kernel
theorem d_FF_open_4 : decode c_FF_open 4 = .ok (.ifCond .eq 13, 3) := by decide +kernel
theorem d_FF_open_7 : decode c_FF_open 7 = .ok (.new 62, 3) := by decide +kernel
theorem d_FF_open_10 : decode c_FF_open 10 = .ok (.dup, 1) := by decide +kernel
theorem d_FF_open_11 : decode c_FF_open 11 = .ok (.ldc 64, 2) := by decide +kernel
theorem d_FF_open_13 : decode c_FF_open 13 = .ok (.invokespecial 66, 3) := by decide +kernel
theorem d_FF_open_16 : decode c_FF_open 16 = .ok (.athrow, 1) := by decide +kernel
theorem d_FF_open_17 : decode c_FF_open 17 = .ok (.aload_n 0, 1) := by decide +kernel
theorem d_FF_open_18 : decode c_FF_open 18 = .ok (.getfield 12, 3) := by decide +kernel
theorem d_FF_open_21 : decode c_FF_open 21 = .ok (.invokevirtual 69, 3) := by decide +kernel
theorem d_FF_open_24 : decode c_FF_open 24 = .ok (.ifCond .ne 13, 3) := by decide +kernel
theorem d_FF_open_27 : decode c_FF_open 27 = .ok (.new 72, 3) := by decide +kernel
theorem d_FF_open_30 : decode c_FF_open 30 = .ok (.dup, 1) := by decide +kernel
theorem d_FF_open_31 : decode c_FF_open 31 = .ok (.ldc 74, 2) := by decide +kernel
theorem d_FF_open_33 : decode c_FF_open 33 = .ok (.invokespecial 76, 3) := by decide +kernel
theorem d_FF_open_36 : decode c_FF_open 36 = .ok (.athrow, 1) := by decide +kernel
theorem d_FF_open_37 : decode c_FF_open 37 = .ok (.aload_n 0, 1) := by decide +kernel
theorem d_FF_open_38 : decode c_FF_open 38 = .ok (.aload_n 0, 1) := by decide +kernel
theorem d_FF_open_39 : decode c_FF_open 39 = .ok (.getfield 12, 3) := by decide +kernel
theorem d_FF_open_42 : decode c_FF_open 42 = .ok (.iconst 2, 1) := by decide +kernel
theorem d_FF_open_43 : decode c_FF_open 43 = .ok (.invokevirtual 77, 3) := by decide +kernel
theorem d_FF_open_46 : decode c_FF_open 46 = .ok (.putfield 36, 3) := by decide +kernel
theorem d_FF_open_49 : decode c_FF_open 49 = .ok (.aload_n 0, 1) := by decide +kernel
theorem d_FF_open_50 : decode c_FF_open 50 = .ok (.getfield 12, 3) := by decide +kernel
theorem d_FF_open_53 : decode c_FF_open 53 = .ok (.iconst 3, 1) := by decide +kernel
theorem d_FF_open_54 : decode c_FF_open 54 = .ok (.invokevirtual 77, 3) := by decide +kernel
theorem d_FF_open_57 : decode c_FF_open 57 = .ok (.astore_n 1, 1) := by decide +kernel
theorem d_FF_open_58 : decode c_FF_open 58 = .ok (.aload_n 0, 1) := by decide +kernel
theorem d_FF_open_59 : decode c_FF_open 59 = .ok (.aload_n 1, 1) := by decide +kernel
theorem d_FF_open_60 : decode c_FF_open 60 = .ok (.arraylength, 1) := by decide +kernel
theorem d_FF_open_61 : decode c_FF_open 61 = .ok (.anewarray 30, 3) := by decide +kernel
theorem d_FF_open_64 : decode c_FF_open 64 = .ok (.putfield 32, 3) := by decide +kernel
theorem d_FF_open_67 : decode c_FF_open 67 = .ok (.iconst 0, 1) := by decide +kernel
theorem d_FF_open_68 : decode c_FF_open 68 = .ok (.istore_n 2, 1) := by decide +kernel
theorem d_FF_open_69 : decode c_FF_open 69 = .ok (.iload_n 2, 1) := by decide +kernel
theorem d_FF_open_70 : decode c_FF_open 70 = .ok (.aload_n 1, 1) := by decide +kernel
theorem d_FF_open_71 : decode c_FF_open 71 = .ok (.arraylength, 1) := by decide +kernel
theorem d_FF_open_72 : decode c_FF_open 72 = .ok (.if_icmp .ge 26, 3) := by decide +kernel
theorem d_FF_open_75 : decode c_FF_open 75 = .ok (.aload_n 0, 1) := by decide +kernel
theorem d_FF_open_76 : decode c_FF_open 76 = .ok (.getfield 32, 3) := by decide +kernel
theorem d_FF_open_79 : decode c_FF_open 79 = .ok (.iload_n 2, 1) := by decide +kernel
theorem d_FF_open_80 : decode c_FF_open 80 = .ok (.new 30, 3) := by decide +kernel
theorem d_FF_open_83 : decode c_FF_open 83 = .ok (.dup, 1) := by decide +kernel
theorem d_FF_open_84 : decode c_FF_open 84 = .ok (.iload_n 2, 1) := by decide +kernel
theorem d_FF_open_85 : decode c_FF_open 85 = .ok (.aload_n 1, 1) := by decide +kernel
theorem d_FF_open_86 : decode c_FF_open 86 = .ok (.iload_n 2, 1) := by decide +kernel
theorem d_FF_open_87 : decode c_FF_open 87 = .ok (.iaload, 1) := by decide +kernel
theorem d_FF_open_88 : decode c_FF_open 88 = .ok (.invokespecial 81, 3) := by decide +kernel
theorem d_FF_open_91 : decode c_FF_open 91 = .ok (.aastore, 1) := by decide +kernel
theorem d_FF_open_92 : decode c_FF_open 92 = .ok (.iinc 2 1, 3) := by decide +kernel
theorem d_FF_open_95 : decode c_FF_open 95 = .ok (.goto (-26), 3) := by decide +kernel
theorem d_FF_open_98 : decode c_FF_open 98 = .ok (.new 84, 3) := by decide +kernel
theorem d_FF_open_101 : decode c_FF_open 101 = .ok (.dup, 1) := by decide +kernel
theorem d_FF_open_102 : decode c_FF_open 102 = .ok (.invokespecial 86, 3) := by decide +kernel
theorem d_FF_open_105 : decode c_FF_open 105 = .ok (.astore_n 2, 1) := by decide +kernel
theorem d_FF_open_106 : decode c_FF_open 106 = .ok (.aload_n 0, 1) := by decide +kernel
theorem d_FF_open_107 : decode c_FF_open 107 = .ok (.getfield 12, 3) := by decide +kernel
theorem d_FF_open_110 : decode c_FF_open 110 = .ok (.iconst 1, 1) := by decide +kernel
theorem d_FF_open_111 : decode c_FF_open 111 = .ok (.aload_n 2, 1) := by decide +kernel
theorem d_FF_open_112 : decode c_FF_open 112 = .ok (.invokevirtual 87, 3) := by decide +kernel
theorem d_FF_open_115 : decode c_FF_open 115 = .ok (.aload_n 0, 1) := by decide +kernel
theorem d_FF_open_116 : decode c_FF_open 116 = .ok (.getfield 12, 3) := by decide +kernel
theorem d_FF_open_119 : decode c_FF_open 119 = .ok (.iconst 2, 1) := by decide +kernel
theorem d_FF_open_120 : decode c_FF_open 120 = .ok (.aload_n 2, 1) := by decide +kernel
theorem d_FF_open_121 : decode c_FF_open 121 = .ok (.invokevirtual 87, 3) := by decide +kernel
theorem d_FF_open_124 : decode c_FF_open 124 = .ok (.aload_n 0, 1) := by decide +kernel
theorem d_FF_open_125 : decode c_FF_open 125 = .ok (.new 91, 3) := by decide +kernel
theorem d_FF_open_128 : decode c_FF_open 128 = .ok (.dup, 1) := by decide +kernel
theorem d_FF_open_129 : decode c_FF_open 129 = .ok (.aload_n 2, 1) := by decide +kernel
theorem d_FF_open_130 : decode c_FF_open 130 = .ok (.aload_n 0, 1) := by decide +kernel
theorem d_FF_open_131 : decode c_FF_open 131 = .ok (.getfield 32, 3) := by decide +kernel
theorem d_FF_open_134 : decode c_FF_open 134 = .ok (.invokespecial 93, 3) := by decide +kernel
theorem d_FF_open_137 : decode c_FF_open 137 = .ok (.putfield 40, 3) := by decide +kernel
theorem d_FF_open_140 : decode c_FF_open 140 = .ok (.aload_n 0, 1) := by decide +kernel
theorem d_FF_open_141 : decode c_FF_open 141 = .ok (.getfield 32, 3) := by decide +kernel
theorem d_FF_open_144 : decode c_FF_open 144 = .ok (.arraylength, 1) := by decide +kernel
theorem d_FF_open_145 : decode c_FF_open 145 = .ok (.ireturn, 1) := by decide +kernel
abbrev c_FF_task : ByteArray := prog_1_method_4_code
abbrev y_FF_task : MethodName := ⟨"FleetFloor", "task", "(II)I"⟩
theorem d_FF_task_0 : decode c_FF_task 0 = .ok (.aload_n 0, 1) := by decide +kernel
theorem d_FF_task_1 : decode c_FF_task 1 = .ok (.invokevirtual 54, 3) := by decide +kernel
theorem d_FF_task_4 : decode c_FF_task 4 = .ok (.ifCond .eq 15, 3) := by decide +kernel
theorem d_FF_task_7 : decode c_FF_task 7 = .ok (.aload_n 0, 1) := by decide +kernel
theorem d_FF_task_8 : decode c_FF_task 8 = .ok (.getfield 26, 3) := by decide +kernel
theorem d_FF_task_11 : decode c_FF_task 11 = .ok (.invokevirtual 96, 3) := by decide +kernel
theorem d_FF_task_14 : decode c_FF_task 14 = .ok (.bipush 24, 2) := by decide +kernel
theorem d_FF_task_16 : decode c_FF_task 16 = .ok (.if_icmp .lt 13, 3) := by decide +kernel
theorem d_FF_task_19 : decode c_FF_task 19 = .ok (.new 62, 3) := by decide +kernel
theorem d_FF_task_22 : decode c_FF_task 22 = .ok (.dup, 1) := by decide +kernel
theorem d_FF_task_23 : decode c_FF_task 23 = .ok (.ldc 100, 2) := by decide +kernel
theorem d_FF_task_25 : decode c_FF_task 25 = .ok (.invokespecial 66, 3) := by decide +kernel
theorem d_FF_task_28 : decode c_FF_task 28 = .ok (.athrow, 1) := by decide +kernel
theorem d_FF_task_29 : decode c_FF_task 29 = .ok (.aload_n 0, 1) := by decide +kernel
theorem d_FF_task_30 : decode c_FF_task 30 = .ok (.iload_n 1, 1) := by decide +kernel
theorem d_FF_task_31 : decode c_FF_task 31 = .ok (.invokevirtual 102, 3) := by decide +kernel
theorem d_FF_task_34 : decode c_FF_task 34 = .ok (.ifCond .eq 11, 3) := by decide +kernel
theorem d_FF_task_37 : decode c_FF_task 37 = .ok (.aload_n 0, 1) := by decide +kernel
theorem d_FF_task_38 : decode c_FF_task 38 = .ok (.iload_n 2, 1) := by decide +kernel
theorem d_FF_task_39 : decode c_FF_task 39 = .ok (.invokevirtual 102, 3) := by decide +kernel
theorem d_FF_task_42 : decode c_FF_task 42 = .ok (.ifCond .ne 13, 3) := by decide +kernel
theorem d_FF_task_45 : decode c_FF_task 45 = .ok (.new 72, 3) := by decide +kernel
theorem d_FF_task_48 : decode c_FF_task 48 = .ok (.dup, 1) := by decide +kernel
theorem d_FF_task_49 : decode c_FF_task 49 = .ok (.ldc 106, 2) := by decide +kernel
theorem d_FF_task_51 : decode c_FF_task 51 = .ok (.invokespecial 76, 3) := by decide +kernel
theorem d_FF_task_54 : decode c_FF_task 54 = .ok (.athrow, 1) := by decide +kernel
theorem d_FF_task_55 : decode c_FF_task 55 = .ok (.aload_n 0, 1) := by decide +kernel
theorem d_FF_task_56 : decode c_FF_task 56 = .ok (.getfield 26, 3) := by decide +kernel
theorem d_FF_task_59 : decode c_FF_task 59 = .ok (.new 108, 3) := by decide +kernel
theorem d_FF_task_62 : decode c_FF_task 62 = .ok (.dup, 1) := by decide +kernel
theorem d_FF_task_63 : decode c_FF_task 63 = .ok (.aload_n 0, 1) := by decide +kernel
theorem d_FF_task_64 : decode c_FF_task 64 = .ok (.getfield 36, 3) := by decide +kernel
theorem d_FF_task_67 : decode c_FF_task 67 = .ok (.iload_n 1, 1) := by decide +kernel
theorem d_FF_task_68 : decode c_FF_task 68 = .ok (.iaload, 1) := by decide +kernel
theorem d_FF_task_69 : decode c_FF_task 69 = .ok (.aload_n 0, 1) := by decide +kernel
theorem d_FF_task_70 : decode c_FF_task 70 = .ok (.getfield 36, 3) := by decide +kernel
theorem d_FF_task_73 : decode c_FF_task 73 = .ok (.iload_n 2, 1) := by decide +kernel
theorem d_FF_task_74 : decode c_FF_task 74 = .ok (.iaload, 1) := by decide +kernel
theorem d_FF_task_75 : decode c_FF_task 75 = .ok (.invokespecial 110, 3) := by decide +kernel
theorem d_FF_task_78 : decode c_FF_task 78 = .ok (.invokevirtual 111, 3) := by decide +kernel
theorem d_FF_task_81 : decode c_FF_task 81 = .ok (.pop, 1) := by decide +kernel
theorem d_FF_task_82 : decode c_FF_task 82 = .ok (.aload_n 0, 1) := by decide +kernel
theorem d_FF_task_83 : decode c_FF_task 83 = .ok (.getfield 26, 3) := by decide +kernel
theorem d_FF_task_86 : decode c_FF_task 86 = .ok (.invokevirtual 96, 3) := by decide +kernel
theorem d_FF_task_89 : decode c_FF_task 89 = .ok (.iconst 1, 1) := by decide +kernel
theorem d_FF_task_90 : decode c_FF_task 90 = .ok (.isub, 1) := by decide +kernel
theorem d_FF_task_91 : decode c_FF_task 91 = .ok (.ireturn, 1) := by decide +kernel
abbrev c_FF_tick : ByteArray := prog_1_method_5_code
abbrev y_FF_tick : MethodName := ⟨"FleetFloor", "tick", "()I"⟩
theorem d_FF_tick_0 : decode c_FF_tick 0 = .ok (.aload_n 0, 1) := by decide +kernel
theorem d_FF_tick_1 : decode c_FF_tick 1 = .ok (.invokevirtual 54, 3) := by decide +kernel
theorem d_FF_tick_4 : decode c_FF_tick 4 = .ok (.ifCond .ne 13, 3) := by decide +kernel
theorem d_FF_tick_7 : decode c_FF_tick 7 = .ok (.new 62, 3) := by decide +kernel
theorem d_FF_tick_10 : decode c_FF_tick 10 = .ok (.dup, 1) := by decide +kernel
theorem d_FF_tick_11 : decode c_FF_tick 11 = .ok (.ldc 115, 2) := by decide +kernel
theorem d_FF_tick_13 : decode c_FF_tick 13 = .ok (.invokespecial 66, 3) := by decide +kernel
theorem d_FF_tick_16 : decode c_FF_tick 16 = .ok (.athrow, 1) := by decide +kernel
theorem d_FF_tick_17 : decode c_FF_tick 17 = .ok (.aload_n 0, 1) := by decide +kernel
theorem d_FF_tick_18 : decode c_FF_tick 18 = .ok (.invokevirtual 117, 3) := by decide +kernel
theorem d_FF_tick_21 : decode c_FF_tick 21 = .ok (.istore_n 1, 1) := by decide +kernel
theorem d_FF_tick_22 : decode c_FF_tick 22 = .ok (.aload_n 0, 1) := by decide +kernel
theorem d_FF_tick_23 : decode c_FF_tick 23 = .ok (.invokevirtual 120, 3) := by decide +kernel
theorem d_FF_tick_26 : decode c_FF_tick 26 = .ok (.aload_n 0, 1) := by decide +kernel
theorem d_FF_tick_27 : decode c_FF_tick 27 = .ok (.getfield 48, 3) := by decide +kernel
theorem d_FF_tick_30 : decode c_FF_tick 30 = .ok (.iconst 4, 1) := by decide +kernel
theorem d_FF_tick_31 : decode c_FF_tick 31 = .ok (.irem, 1) := by decide +kernel
theorem d_FF_tick_32 : decode c_FF_tick 32 = .ok (.ifCond .ne 7, 3) := by decide +kernel
theorem d_FF_tick_35 : decode c_FF_tick 35 = .ok (.aload_n 0, 1) := by decide +kernel
theorem d_FF_tick_36 : decode c_FF_tick 36 = .ok (.invokevirtual 123, 3) := by decide +kernel
theorem d_FF_tick_39 : decode c_FF_tick 39 = .ok (.aload_n 0, 1) := by decide +kernel
theorem d_FF_tick_40 : decode c_FF_tick 40 = .ok (.invokevirtual 126, 3) := by decide +kernel
theorem d_FF_tick_43 : decode c_FF_tick 43 = .ok (.aload_n 0, 1) := by decide +kernel
theorem d_FF_tick_44 : decode c_FF_tick 44 = .ok (.dup, 1) := by decide +kernel
theorem d_FF_tick_45 : decode c_FF_tick 45 = .ok (.getfield 48, 3) := by decide +kernel
theorem d_FF_tick_48 : decode c_FF_tick 48 = .ok (.iconst 1, 1) := by decide +kernel
theorem d_FF_tick_49 : decode c_FF_tick 49 = .ok (.iadd, 1) := by decide +kernel
theorem d_FF_tick_50 : decode c_FF_tick 50 = .ok (.putfield 48, 3) := by decide +kernel
theorem d_FF_tick_53 : decode c_FF_tick 53 = .ok (.iload_n 1, 1) := by decide +kernel
theorem d_FF_tick_54 : decode c_FF_tick 54 = .ok (.ireturn, 1) := by decide +kernel
abbrev c_FF_letters : ByteArray := prog_1_method_6_code
abbrev y_FF_letters : MethodName := ⟨"FleetFloor", "letters", "()I"⟩
theorem d_FF_letters_0 : decode c_FF_letters 0 = .ok (.aload_n 0, 1) := by decide +kernel
theorem d_FF_letters_1 : decode c_FF_letters 1 = .ok (.getfield 19, 3) := by decide +kernel
theorem d_FF_letters_4 : decode c_FF_letters 4 = .ok (.invokevirtual 129, 3) := by decide +kernel
theorem d_FF_letters_7 : decode c_FF_letters 7 = .ok (.ireturn, 1) := by decide +kernel
abbrev c_FF_letter : ByteArray := prog_1_method_7_code
abbrev y_FF_letter : MethodName := ⟨"FleetFloor", "letter", "(II)I"⟩
theorem d_FF_letter_0 : decode c_FF_letter 0 = .ok (.aload_n 0, 1) := by decide +kernel
theorem d_FF_letter_1 : decode c_FF_letter 1 = .ok (.getfield 19, 3) := by decide +kernel
theorem d_FF_letter_4 : decode c_FF_letter 4 = .ok (.iload_n 1, 1) := by decide +kernel
theorem d_FF_letter_5 : decode c_FF_letter 5 = .ok (.invokevirtual 130, 3) := by decide +kernel
theorem d_FF_letter_8 : decode c_FF_letter 8 = .ok (.astore_n 3, 1) := by decide +kernel
theorem d_FF_letter_9 : decode c_FF_letter 9 = .ok (.aload_n 3, 1) := by decide +kernel
theorem d_FF_letter_10 : decode c_FF_letter 10 = .ok (.ifnonnull 5, 3) := by decide +kernel
theorem d_FF_letter_13 : decode c_FF_letter 13 = .ok (.iconst (-1), 1) := by decide +kernel
theorem d_FF_letter_14 : decode c_FF_letter 14 = .ok (.ireturn, 1) := by decide +kernel
theorem d_FF_letter_15 : decode c_FF_letter 15 = .ok (.iload_n 2, 1) := by decide +kernel
theorem d_FF_letter_16 : decode c_FF_letter 16 = .ok (.tableswitch 43 0 2 #[28, 33, 38], 28) := by decide +kernel
theorem d_FF_letter_44 : decode c_FF_letter 44 = .ok (.aload_n 3, 1) := by decide +kernel
theorem d_FF_letter_45 : decode c_FF_letter 45 = .ok (.invokevirtual 134, 3) := by decide +kernel
theorem d_FF_letter_48 : decode c_FF_letter 48 = .ok (.ireturn, 1) := by decide +kernel
theorem d_FF_letter_49 : decode c_FF_letter 49 = .ok (.aload_n 3, 1) := by decide +kernel
theorem d_FF_letter_50 : decode c_FF_letter 50 = .ok (.invokevirtual 139, 3) := by decide +kernel
theorem d_FF_letter_53 : decode c_FF_letter 53 = .ok (.ireturn, 1) := by decide +kernel
theorem d_FF_letter_54 : decode c_FF_letter 54 = .ok (.aload_n 3, 1) := by decide +kernel
theorem d_FF_letter_55 : decode c_FF_letter 55 = .ok (.invokevirtual 142, 3) := by decide +kernel
theorem d_FF_letter_58 : decode c_FF_letter 58 = .ok (.ireturn, 1) := by decide +kernel
theorem d_FF_letter_59 : decode c_FF_letter 59 = .ok (.iconst (-1), 1) := by decide +kernel
theorem d_FF_letter_60 : decode c_FF_letter 60 = .ok (.ireturn, 1) := by decide +kernel
abbrev c_FF_deliver : ByteArray := prog_1_method_8_code
abbrev y_FF_deliver : MethodName := ⟨"FleetFloor", "deliver", "(I)Z"⟩
theorem d_FF_deliver_0 : decode c_FF_deliver 0 = .ok (.aload_n 0, 1) := by decide +kernel
theorem d_FF_deliver_1 : decode c_FF_deliver 1 = .ok (.getfield 19, 3) := by decide +kernel
theorem d_FF_deliver_4 : decode c_FF_deliver 4 = .ok (.iload_n 1, 1) := by decide +kernel
theorem d_FF_deliver_5 : decode c_FF_deliver 5 = .ok (.invokevirtual 130, 3) := by decide +kernel
theorem d_FF_deliver_8 : decode c_FF_deliver 8 = .ok (.astore_n 2, 1) := by decide +kernel
theorem d_FF_deliver_9 : decode c_FF_deliver 9 = .ok (.aload_n 2, 1) := by decide +kernel
theorem d_FF_deliver_10 : decode c_FF_deliver 10 = .ok (.ifnonnull 5, 3) := by decide +kernel
theorem d_FF_deliver_13 : decode c_FF_deliver 13 = .ok (.iconst 0, 1) := by decide +kernel
theorem d_FF_deliver_14 : decode c_FF_deliver 14 = .ok (.ireturn, 1) := by decide +kernel
theorem d_FF_deliver_15 : decode c_FF_deliver 15 = .ok (.aload_n 0, 1) := by decide +kernel
theorem d_FF_deliver_16 : decode c_FF_deliver 16 = .ok (.aload_n 2, 1) := by decide +kernel
theorem d_FF_deliver_17 : decode c_FF_deliver 17 = .ok (.invokevirtual 139, 3) := by decide +kernel
theorem d_FF_deliver_20 : decode c_FF_deliver 20 = .ok (.invokevirtual 145, 3) := by decide +kernel
theorem d_FF_deliver_23 : decode c_FF_deliver 23 = .ok (.astore_n 3, 1) := by decide +kernel
theorem d_FF_deliver_24 : decode c_FF_deliver 24 = .ok (.aload_n 3, 1) := by decide +kernel
theorem d_FF_deliver_25 : decode c_FF_deliver 25 = .ok (.ifnull 8, 3) := by decide +kernel
theorem d_FF_deliver_28 : decode c_FF_deliver 28 = .ok (.aload_n 3, 1) := by decide +kernel
theorem d_FF_deliver_29 : decode c_FF_deliver 29 = .ok (.aload_n 2, 1) := by decide +kernel
theorem d_FF_deliver_30 : decode c_FF_deliver 30 = .ok (.invokevirtual 149, 3) := by decide +kernel
theorem d_FF_deliver_33 : decode c_FF_deliver 33 = .ok (.aload_n 0, 1) := by decide +kernel
theorem d_FF_deliver_34 : decode c_FF_deliver 34 = .ok (.getfield 19, 3) := by decide +kernel
theorem d_FF_deliver_37 : decode c_FF_deliver 37 = .ok (.iload_n 1, 1) := by decide +kernel
theorem d_FF_deliver_38 : decode c_FF_deliver 38 = .ok (.invokevirtual 153, 3) := by decide +kernel
theorem d_FF_deliver_41 : decode c_FF_deliver 41 = .ok (.ireturn, 1) := by decide +kernel
abbrev c_FF_lose : ByteArray := prog_1_method_9_code
abbrev y_FF_lose : MethodName := ⟨"FleetFloor", "lose", "(I)Z"⟩
theorem d_FF_lose_0 : decode c_FF_lose 0 = .ok (.aload_n 0, 1) := by decide +kernel
theorem d_FF_lose_1 : decode c_FF_lose 1 = .ok (.getfield 19, 3) := by decide +kernel
theorem d_FF_lose_4 : decode c_FF_lose 4 = .ok (.iload_n 1, 1) := by decide +kernel
theorem d_FF_lose_5 : decode c_FF_lose 5 = .ok (.invokevirtual 153, 3) := by decide +kernel
theorem d_FF_lose_8 : decode c_FF_lose 8 = .ok (.ireturn, 1) := by decide +kernel
abbrev c_FF_twin : ByteArray := prog_1_method_10_code
abbrev y_FF_twin : MethodName := ⟨"FleetFloor", "twin", "(I)Z"⟩
theorem d_FF_twin_0 : decode c_FF_twin 0 = .ok (.aload_n 0, 1) := by decide +kernel
theorem d_FF_twin_1 : decode c_FF_twin 1 = .ok (.getfield 19, 3) := by decide +kernel
theorem d_FF_twin_4 : decode c_FF_twin 4 = .ok (.iload_n 1, 1) := by decide +kernel
theorem d_FF_twin_5 : decode c_FF_twin 5 = .ok (.invokevirtual 130, 3) := by decide +kernel
theorem d_FF_twin_8 : decode c_FF_twin 8 = .ok (.astore_n 2, 1) := by decide +kernel
theorem d_FF_twin_9 : decode c_FF_twin 9 = .ok (.aload_n 2, 1) := by decide +kernel
theorem d_FF_twin_10 : decode c_FF_twin 10 = .ok (.ifnull 18, 3) := by decide +kernel
theorem d_FF_twin_13 : decode c_FF_twin 13 = .ok (.aload_n 0, 1) := by decide +kernel
theorem d_FF_twin_14 : decode c_FF_twin 14 = .ok (.getfield 19, 3) := by decide +kernel
theorem d_FF_twin_17 : decode c_FF_twin 17 = .ok (.aload_n 2, 1) := by decide +kernel
theorem d_FF_twin_18 : decode c_FF_twin 18 = .ok (.invokevirtual 156, 3) := by decide +kernel
theorem d_FF_twin_21 : decode c_FF_twin 21 = .ok (.ifCond .eq 7, 3) := by decide +kernel
theorem d_FF_twin_24 : decode c_FF_twin 24 = .ok (.iconst 1, 1) := by decide +kernel
theorem d_FF_twin_25 : decode c_FF_twin 25 = .ok (.goto 4, 3) := by decide +kernel
theorem d_FF_twin_28 : decode c_FF_twin 28 = .ok (.iconst 0, 1) := by decide +kernel
theorem d_FF_twin_29 : decode c_FF_twin 29 = .ok (.ireturn, 1) := by decide +kernel
abbrev c_FF_vehicle : ByteArray := prog_1_method_11_code
abbrev y_FF_vehicle : MethodName := ⟨"FleetFloor", "vehicle", "(II)I"⟩
theorem d_FF_vehicle_0 : decode c_FF_vehicle 0 = .ok (.aload_n 0, 1) := by decide +kernel
theorem d_FF_vehicle_1 : decode c_FF_vehicle 1 = .ok (.iload_n 1, 1) := by decide +kernel
theorem d_FF_vehicle_2 : decode c_FF_vehicle 2 = .ok (.invokevirtual 145, 3) := by decide +kernel
theorem d_FF_vehicle_5 : decode c_FF_vehicle 5 = .ok (.astore_n 3, 1) := by decide +kernel
theorem d_FF_vehicle_6 : decode c_FF_vehicle 6 = .ok (.aload_n 3, 1) := by decide +kernel
theorem d_FF_vehicle_7 : decode c_FF_vehicle 7 = .ok (.ifnonnull 5, 3) := by decide +kernel
theorem d_FF_vehicle_10 : decode c_FF_vehicle 10 = .ok (.iconst (-1), 1) := by decide +kernel
theorem d_FF_vehicle_11 : decode c_FF_vehicle 11 = .ok (.ireturn, 1) := by decide +kernel
theorem d_FF_vehicle_12 : decode c_FF_vehicle 12 = .ok (.iload_n 2, 1) := by decide +kernel
theorem d_FF_vehicle_13 : decode c_FF_vehicle 13 = .ok (.tableswitch 85 0 6 #[43, 52, 57, 62, 67, 72, 80], 43) := by decide +kernel
theorem d_FF_vehicle_56 : decode c_FF_vehicle 56 = .ok (.aload_n 3, 1) := by decide +kernel
theorem d_FF_vehicle_57 : decode c_FF_vehicle 57 = .ok (.aload_n 3, 1) := by decide +kernel
theorem d_FF_vehicle_58 : decode c_FF_vehicle 58 = .ok (.getfield 160, 3) := by decide +kernel
theorem d_FF_vehicle_61 : decode c_FF_vehicle 61 = .ok (.invokevirtual 163, 3) := by decide +kernel
theorem d_FF_vehicle_64 : decode c_FF_vehicle 64 = .ok (.ireturn, 1) := by decide +kernel
theorem d_FF_vehicle_65 : decode c_FF_vehicle 65 = .ok (.aload_n 3, 1) := by decide +kernel
theorem d_FF_vehicle_66 : decode c_FF_vehicle 66 = .ok (.getfield 160, 3) := by decide +kernel
theorem d_FF_vehicle_69 : decode c_FF_vehicle 69 = .ok (.ireturn, 1) := by decide +kernel
theorem d_FF_vehicle_70 : decode c_FF_vehicle 70 = .ok (.aload_n 3, 1) := by decide +kernel
theorem d_FF_vehicle_71 : decode c_FF_vehicle 71 = .ok (.getfield 167, 3) := by decide +kernel
theorem d_FF_vehicle_74 : decode c_FF_vehicle 74 = .ok (.ireturn, 1) := by decide +kernel
theorem d_FF_vehicle_75 : decode c_FF_vehicle 75 = .ok (.aload_n 3, 1) := by decide +kernel
theorem d_FF_vehicle_76 : decode c_FF_vehicle 76 = .ok (.getfield 170, 3) := by decide +kernel
theorem d_FF_vehicle_79 : decode c_FF_vehicle 79 = .ok (.ireturn, 1) := by decide +kernel
theorem d_FF_vehicle_80 : decode c_FF_vehicle 80 = .ok (.aload_n 3, 1) := by decide +kernel
theorem d_FF_vehicle_81 : decode c_FF_vehicle 81 = .ok (.getfield 173, 3) := by decide +kernel
theorem d_FF_vehicle_84 : decode c_FF_vehicle 84 = .ok (.ireturn, 1) := by decide +kernel
theorem d_FF_vehicle_85 : decode c_FF_vehicle 85 = .ok (.aload_n 3, 1) := by decide +kernel
theorem d_FF_vehicle_86 : decode c_FF_vehicle 86 = .ok (.getfield 176, 3) := by decide +kernel
theorem d_FF_vehicle_89 : decode c_FF_vehicle 89 = .ok (.invokevirtual 96, 3) := by decide +kernel
theorem d_FF_vehicle_92 : decode c_FF_vehicle 92 = .ok (.ireturn, 1) := by decide +kernel
theorem d_FF_vehicle_93 : decode c_FF_vehicle 93 = .ok (.aload_n 3, 1) := by decide +kernel
theorem d_FF_vehicle_94 : decode c_FF_vehicle 94 = .ok (.getfield 179, 3) := by decide +kernel
theorem d_FF_vehicle_97 : decode c_FF_vehicle 97 = .ok (.ireturn, 1) := by decide +kernel
theorem d_FF_vehicle_98 : decode c_FF_vehicle 98 = .ok (.iconst (-1), 1) := by decide +kernel
theorem d_FF_vehicle_99 : decode c_FF_vehicle 99 = .ok (.ireturn, 1) := by decide +kernel
abbrev c_FF_move : ByteArray := prog_1_method_12_code
abbrev y_FF_move : MethodName := ⟨"FleetFloor", "move", "(III)I"⟩
theorem d_FF_move_0 : decode c_FF_move 0 = .ok (.aload_n 0, 1) := by decide +kernel
theorem d_FF_move_1 : decode c_FF_move 1 = .ok (.iload_n 1, 1) := by decide +kernel
theorem d_FF_move_2 : decode c_FF_move 2 = .ok (.invokevirtual 145, 3) := by decide +kernel
theorem d_FF_move_5 : decode c_FF_move 5 = .ok (.astore 4, 2) := by decide +kernel
theorem d_FF_move_7 : decode c_FF_move 7 = .ok (.aload 4, 2) := by decide +kernel
theorem d_FF_move_9 : decode c_FF_move 9 = .ok (.ifnull 19, 3) := by decide +kernel
theorem d_FF_move_12 : decode c_FF_move 12 = .ok (.iload_n 2, 1) := by decide +kernel
theorem d_FF_move_13 : decode c_FF_move 13 = .ok (.ifCond .lt 15, 3) := by decide +kernel
theorem d_FF_move_16 : decode c_FF_move 16 = .ok (.iload_n 2, 1) := by decide +kernel
theorem d_FF_move_17 : decode c_FF_move 17 = .ok (.aload 4, 2) := by decide +kernel
theorem d_FF_move_19 : decode c_FF_move 19 = .ok (.getfield 176, 3) := by decide +kernel
theorem d_FF_move_22 : decode c_FF_move 22 = .ok (.invokevirtual 96, 3) := by decide +kernel
theorem d_FF_move_25 : decode c_FF_move 25 = .ok (.if_icmp .lt 5, 3) := by decide +kernel
theorem d_FF_move_28 : decode c_FF_move 28 = .ok (.iconst (-1), 1) := by decide +kernel
theorem d_FF_move_29 : decode c_FF_move 29 = .ok (.ireturn, 1) := by decide +kernel
theorem d_FF_move_30 : decode c_FF_move 30 = .ok (.aload 4, 2) := by decide +kernel
theorem d_FF_move_32 : decode c_FF_move 32 = .ok (.getfield 176, 3) := by decide +kernel
theorem d_FF_move_35 : decode c_FF_move 35 = .ok (.iload_n 2, 1) := by decide +kernel
theorem d_FF_move_36 : decode c_FF_move 36 = .ok (.invokevirtual 182, 3) := by decide +kernel
theorem d_FF_move_39 : decode c_FF_move 39 = .ok (.checkcast 186, 3) := by decide +kernel
theorem d_FF_move_42 : decode c_FF_move 42 = .ok (.astore 5, 2) := by decide +kernel
theorem d_FF_move_44 : decode c_FF_move 44 = .ok (.iload_n 3, 1) := by decide +kernel
theorem d_FF_move_45 : decode c_FF_move 45 = .ok (.lookupswitch 39 #[(0, 27), (1, 33)], 27) := by decide +kernel
theorem d_FF_move_72 : decode c_FF_move 72 = .ok (.aload 5, 2) := by decide +kernel
theorem d_FF_move_74 : decode c_FF_move 74 = .ok (.invokevirtual 188, 3) := by decide +kernel
theorem d_FF_move_77 : decode c_FF_move 77 = .ok (.ireturn, 1) := by decide +kernel
theorem d_FF_move_78 : decode c_FF_move 78 = .ok (.aload 5, 2) := by decide +kernel
theorem d_FF_move_80 : decode c_FF_move 80 = .ok (.invokevirtual 191, 3) := by decide +kernel
theorem d_FF_move_83 : decode c_FF_move 83 = .ok (.ireturn, 1) := by decide +kernel
theorem d_FF_move_84 : decode c_FF_move 84 = .ok (.iconst (-1), 1) := by decide +kernel
theorem d_FF_move_85 : decode c_FF_move 85 = .ok (.ireturn, 1) := by decide +kernel
abbrev c_FF_taskOf : ByteArray := prog_1_method_13_code
abbrev y_FF_taskOf : MethodName := ⟨"FleetFloor", "taskOf", "(II)I"⟩
theorem d_FF_taskOf_0 : decode c_FF_taskOf 0 = .ok (.iload_n 1, 1) := by decide +kernel
theorem d_FF_taskOf_1 : decode c_FF_taskOf 1 = .ok (.ifCond .lt 14, 3) := by decide +kernel
theorem d_FF_taskOf_4 : decode c_FF_taskOf 4 = .ok (.iload_n 1, 1) := by decide +kernel
theorem d_FF_taskOf_5 : decode c_FF_taskOf 5 = .ok (.aload_n 0, 1) := by decide +kernel
theorem d_FF_taskOf_6 : decode c_FF_taskOf 6 = .ok (.getfield 26, 3) := by decide +kernel
theorem d_FF_taskOf_9 : decode c_FF_taskOf 9 = .ok (.invokevirtual 96, 3) := by decide +kernel
theorem d_FF_taskOf_12 : decode c_FF_taskOf 12 = .ok (.if_icmp .lt 5, 3) := by decide +kernel
theorem d_FF_taskOf_15 : decode c_FF_taskOf 15 = .ok (.iconst (-1), 1) := by decide +kernel
theorem d_FF_taskOf_16 : decode c_FF_taskOf 16 = .ok (.ireturn, 1) := by decide +kernel
theorem d_FF_taskOf_17 : decode c_FF_taskOf 17 = .ok (.aload_n 0, 1) := by decide +kernel
theorem d_FF_taskOf_18 : decode c_FF_taskOf 18 = .ok (.getfield 26, 3) := by decide +kernel
theorem d_FF_taskOf_21 : decode c_FF_taskOf 21 = .ok (.iload_n 1, 1) := by decide +kernel
theorem d_FF_taskOf_22 : decode c_FF_taskOf 22 = .ok (.invokevirtual 182, 3) := by decide +kernel
theorem d_FF_taskOf_25 : decode c_FF_taskOf 25 = .ok (.checkcast 108, 3) := by decide +kernel
theorem d_FF_taskOf_28 : decode c_FF_taskOf 28 = .ok (.astore_n 3, 1) := by decide +kernel
theorem d_FF_taskOf_29 : decode c_FF_taskOf 29 = .ok (.iload_n 2, 1) := by decide +kernel
theorem d_FF_taskOf_30 : decode c_FF_taskOf 30 = .ok (.lookupswitch 36 #[(0, 26), (1, 31)], 26) := by decide +kernel
theorem d_FF_taskOf_56 : decode c_FF_taskOf 56 = .ok (.aload_n 3, 1) := by decide +kernel
theorem d_FF_taskOf_57 : decode c_FF_taskOf 57 = .ok (.getfield 194, 3) := by decide +kernel
theorem d_FF_taskOf_60 : decode c_FF_taskOf 60 = .ok (.ireturn, 1) := by decide +kernel
theorem d_FF_taskOf_61 : decode c_FF_taskOf 61 = .ok (.aload_n 3, 1) := by decide +kernel
theorem d_FF_taskOf_62 : decode c_FF_taskOf 62 = .ok (.getfield 197, 3) := by decide +kernel
theorem d_FF_taskOf_65 : decode c_FF_taskOf 65 = .ok (.ireturn, 1) := by decide +kernel
theorem d_FF_taskOf_66 : decode c_FF_taskOf 66 = .ok (.iconst (-1), 1) := by decide +kernel
theorem d_FF_taskOf_67 : decode c_FF_taskOf 67 = .ok (.ireturn, 1) := by decide +kernel
abbrev c_FF_count : ByteArray := prog_1_method_14_code
abbrev y_FF_count : MethodName := ⟨"FleetFloor", "count", "(I)I"⟩
theorem d_FF_count_0 : decode c_FF_count 0 = .ok (.aload_n 0, 1) := by decide +kernel
theorem d_FF_count_1 : decode c_FF_count 1 = .ok (.invokevirtual 54, 3) := by decide +kernel
theorem d_FF_count_4 : decode c_FF_count 4 = .ok (.ifCond .ne 5, 3) := by decide +kernel
theorem d_FF_count_7 : decode c_FF_count 7 = .ok (.iconst (-1), 1) := by decide +kernel
theorem d_FF_count_8 : decode c_FF_count 8 = .ok (.ireturn, 1) := by decide +kernel
theorem d_FF_count_9 : decode c_FF_count 9 = .ok (.iload_n 1, 1) := by decide +kernel
theorem d_FF_count_10 : decode c_FF_count 10 = .ok (.tableswitch 71 0 4 #[34, 47, 55, 60, 65], 34) := by decide +kernel
theorem d_FF_count_44 : decode c_FF_count 44 = .ok (.aload_n 0, 1) := by decide +kernel
theorem d_FF_count_45 : decode c_FF_count 45 = .ok (.getfield 26, 3) := by decide +kernel
theorem d_FF_count_48 : decode c_FF_count 48 = .ok (.invokevirtual 96, 3) := by decide +kernel
theorem d_FF_count_51 : decode c_FF_count 51 = .ok (.aload_n 0, 1) := by decide +kernel
theorem d_FF_count_52 : decode c_FF_count 52 = .ok (.getfield 44, 3) := by decide +kernel
theorem d_FF_count_55 : decode c_FF_count 55 = .ok (.isub, 1) := by decide +kernel
theorem d_FF_count_56 : decode c_FF_count 56 = .ok (.ireturn, 1) := by decide +kernel
theorem d_FF_count_57 : decode c_FF_count 57 = .ok (.aload_n 0, 1) := by decide +kernel
theorem d_FF_count_58 : decode c_FF_count 58 = .ok (.getfield 26, 3) := by decide +kernel
theorem d_FF_count_61 : decode c_FF_count 61 = .ok (.invokevirtual 96, 3) := by decide +kernel
theorem d_FF_count_64 : decode c_FF_count 64 = .ok (.ireturn, 1) := by decide +kernel
theorem d_FF_count_65 : decode c_FF_count 65 = .ok (.aload_n 0, 1) := by decide +kernel
theorem d_FF_count_66 : decode c_FF_count 66 = .ok (.getfield 48, 3) := by decide +kernel
theorem d_FF_count_69 : decode c_FF_count 69 = .ok (.ireturn, 1) := by decide +kernel
theorem d_FF_count_70 : decode c_FF_count 70 = .ok (.aload_n 0, 1) := by decide +kernel
theorem d_FF_count_71 : decode c_FF_count 71 = .ok (.getfield 51, 3) := by decide +kernel
theorem d_FF_count_74 : decode c_FF_count 74 = .ok (.ireturn, 1) := by decide +kernel
theorem d_FF_count_75 : decode c_FF_count 75 = .ok (.aload_n 0, 1) := by decide +kernel
theorem d_FF_count_76 : decode c_FF_count 76 = .ok (.getfield 36, 3) := by decide +kernel
theorem d_FF_count_79 : decode c_FF_count 79 = .ok (.arraylength, 1) := by decide +kernel
theorem d_FF_count_80 : decode c_FF_count 80 = .ok (.ireturn, 1) := by decide +kernel
theorem d_FF_count_81 : decode c_FF_count 81 = .ok (.iconst (-1), 1) := by decide +kernel
theorem d_FF_count_82 : decode c_FF_count 82 = .ok (.ireturn, 1) := by decide +kernel
abbrev c_FF_isOpen : ByteArray := prog_1_method_15_code
abbrev y_FF_isOpen : MethodName := ⟨"FleetFloor", "isOpen", "()Z"⟩
theorem d_FF_isOpen_0 : decode c_FF_isOpen 0 = .ok (.aload_n 0, 1) := by decide +kernel
theorem d_FF_isOpen_1 : decode c_FF_isOpen 1 = .ok (.getfield 40, 3) := by decide +kernel
theorem d_FF_isOpen_4 : decode c_FF_isOpen 4 = .ok (.ifnull 7, 3) := by decide +kernel
theorem d_FF_isOpen_7 : decode c_FF_isOpen 7 = .ok (.iconst 1, 1) := by decide +kernel
theorem d_FF_isOpen_8 : decode c_FF_isOpen 8 = .ok (.goto 4, 3) := by decide +kernel
theorem d_FF_isOpen_11 : decode c_FF_isOpen 11 = .ok (.iconst 0, 1) := by decide +kernel
theorem d_FF_isOpen_12 : decode c_FF_isOpen 12 = .ok (.ireturn, 1) := by decide +kernel
abbrev c_FF_isStation : ByteArray := prog_1_method_16_code
abbrev y_FF_isStation : MethodName := ⟨"FleetFloor", "isStation", "(I)Z"⟩
theorem d_FF_isStation_0 : decode c_FF_isStation 0 = .ok (.iload_n 1, 1) := by decide +kernel
theorem d_FF_isStation_1 : decode c_FF_isStation 1 = .ok (.ifCond .lt 16, 3) := by decide +kernel
theorem d_FF_isStation_4 : decode c_FF_isStation 4 = .ok (.iload_n 1, 1) := by decide +kernel
theorem d_FF_isStation_5 : decode c_FF_isStation 5 = .ok (.aload_n 0, 1) := by decide +kernel
theorem d_FF_isStation_6 : decode c_FF_isStation 6 = .ok (.getfield 36, 3) := by decide +kernel
theorem d_FF_isStation_9 : decode c_FF_isStation 9 = .ok (.arraylength, 1) := by decide +kernel
theorem d_FF_isStation_10 : decode c_FF_isStation 10 = .ok (.if_icmp .ge 7, 3) := by decide +kernel
theorem d_FF_isStation_13 : decode c_FF_isStation 13 = .ok (.iconst 1, 1) := by decide +kernel
theorem d_FF_isStation_14 : decode c_FF_isStation 14 = .ok (.goto 4, 3) := by decide +kernel
theorem d_FF_isStation_17 : decode c_FF_isStation 17 = .ok (.iconst 0, 1) := by decide +kernel
theorem d_FF_isStation_18 : decode c_FF_isStation 18 = .ok (.ireturn, 1) := by decide +kernel
abbrev c_FF_vehicleNumbered : ByteArray := prog_1_method_17_code
abbrev y_FF_vehicleNumbered : MethodName := ⟨"FleetFloor", "vehicleNumbered", "(I)LFleetFloor$Vehicle;"⟩
theorem d_FF_vehicleNumbered_0 : decode c_FF_vehicleNumbered 0 = .ok (.iload_n 1, 1) := by decide +kernel
theorem d_FF_vehicleNumbered_1 : decode c_FF_vehicleNumbered 1 = .ok (.ifCond .lt 21, 3) := by decide +kernel
theorem d_FF_vehicleNumbered_4 : decode c_FF_vehicleNumbered 4 = .ok (.iload_n 1, 1) := by decide +kernel
theorem d_FF_vehicleNumbered_5 : decode c_FF_vehicleNumbered 5 = .ok (.aload_n 0, 1) := by decide +kernel
theorem d_FF_vehicleNumbered_6 : decode c_FF_vehicleNumbered 6 = .ok (.getfield 32, 3) := by decide +kernel
theorem d_FF_vehicleNumbered_9 : decode c_FF_vehicleNumbered 9 = .ok (.arraylength, 1) := by decide +kernel
theorem d_FF_vehicleNumbered_10 : decode c_FF_vehicleNumbered 10 = .ok (.if_icmp .ge 12, 3) := by decide +kernel
theorem d_FF_vehicleNumbered_13 : decode c_FF_vehicleNumbered 13 = .ok (.aload_n 0, 1) := by decide +kernel
theorem d_FF_vehicleNumbered_14 : decode c_FF_vehicleNumbered 14 = .ok (.getfield 32, 3) := by decide +kernel
theorem d_FF_vehicleNumbered_17 : decode c_FF_vehicleNumbered 17 = .ok (.iload_n 1, 1) := by decide +kernel
theorem d_FF_vehicleNumbered_18 : decode c_FF_vehicleNumbered 18 = .ok (.aaload, 1) := by decide +kernel
theorem d_FF_vehicleNumbered_19 : decode c_FF_vehicleNumbered 19 = .ok (.goto 4, 3) := by decide +kernel
theorem d_FF_vehicleNumbered_22 : decode c_FF_vehicleNumbered 22 = .ok (.aconst_null, 1) := by decide +kernel
theorem d_FF_vehicleNumbered_23 : decode c_FF_vehicleNumbered 23 = .ok (.areturn, 1) := by decide +kernel
abbrev c_FF_makeMoves : ByteArray := prog_1_method_18_code
abbrev y_FF_makeMoves : MethodName := ⟨"FleetFloor", "makeMoves", "()I"⟩
theorem d_FF_makeMoves_0 : decode c_FF_makeMoves 0 = .ok (.iconst 0, 1) := by decide +kernel
theorem d_FF_makeMoves_1 : decode c_FF_makeMoves 1 = .ok (.istore_n 1, 1) := by decide +kernel
theorem d_FF_makeMoves_2 : decode c_FF_makeMoves 2 = .ok (.iconst 0, 1) := by decide +kernel
theorem d_FF_makeMoves_3 : decode c_FF_makeMoves 3 = .ok (.istore_n 2, 1) := by decide +kernel
theorem d_FF_makeMoves_4 : decode c_FF_makeMoves 4 = .ok (.iload_n 2, 1) := by decide +kernel
theorem d_FF_makeMoves_5 : decode c_FF_makeMoves 5 = .ok (.aload_n 0, 1) := by decide +kernel
theorem d_FF_makeMoves_6 : decode c_FF_makeMoves 6 = .ok (.getfield 32, 3) := by decide +kernel
theorem d_FF_makeMoves_9 : decode c_FF_makeMoves 9 = .ok (.arraylength, 1) := by decide +kernel
theorem d_FF_makeMoves_10 : decode c_FF_makeMoves 10 = .ok (.if_icmp .ge 49, 3) := by decide +kernel
theorem d_FF_makeMoves_13 : decode c_FF_makeMoves 13 = .ok (.aload_n 0, 1) := by decide +kernel
theorem d_FF_makeMoves_14 : decode c_FF_makeMoves 14 = .ok (.getfield 32, 3) := by decide +kernel
theorem d_FF_makeMoves_17 : decode c_FF_makeMoves 17 = .ok (.iload_n 2, 1) := by decide +kernel
theorem d_FF_makeMoves_18 : decode c_FF_makeMoves 18 = .ok (.aaload, 1) := by decide +kernel
theorem d_FF_makeMoves_19 : decode c_FF_makeMoves 19 = .ok (.astore_n 3, 1) := by decide +kernel
theorem d_FF_makeMoves_20 : decode c_FF_makeMoves 20 = .ok (.aload_n 3, 1) := by decide +kernel
theorem d_FF_makeMoves_21 : decode c_FF_makeMoves 21 = .ok (.aload_n 3, 1) := by decide +kernel
theorem d_FF_makeMoves_22 : decode c_FF_makeMoves 22 = .ok (.invokevirtual 200, 3) := by decide +kernel
theorem d_FF_makeMoves_25 : decode c_FF_makeMoves 25 = .ok (.putfield 203, 3) := by decide +kernel
theorem d_FF_makeMoves_28 : decode c_FF_makeMoves 28 = .ok (.aload_n 3, 1) := by decide +kernel
theorem d_FF_makeMoves_29 : decode c_FF_makeMoves 29 = .ok (.getfield 203, 3) := by decide +kernel
theorem d_FF_makeMoves_32 : decode c_FF_makeMoves 32 = .ok (.ifCond .eq 21, 3) := by decide +kernel
theorem d_FF_makeMoves_35 : decode c_FF_makeMoves 35 = .ok (.iinc 1 1, 3) := by decide +kernel
theorem d_FF_makeMoves_38 : decode c_FF_makeMoves 38 = .ok (.aload_n 3, 1) := by decide +kernel
theorem d_FF_makeMoves_39 : decode c_FF_makeMoves 39 = .ok (.dup, 1) := by decide +kernel
theorem d_FF_makeMoves_40 : decode c_FF_makeMoves 40 = .ok (.getfield 160, 3) := by decide +kernel
theorem d_FF_makeMoves_43 : decode c_FF_makeMoves 43 = .ok (.iconst 1, 1) := by decide +kernel
theorem d_FF_makeMoves_44 : decode c_FF_makeMoves 44 = .ok (.iadd, 1) := by decide +kernel
theorem d_FF_makeMoves_45 : decode c_FF_makeMoves 45 = .ok (.putfield 160, 3) := by decide +kernel
theorem d_FF_makeMoves_48 : decode c_FF_makeMoves 48 = .ok (.aload_n 0, 1) := by decide +kernel
theorem d_FF_makeMoves_49 : decode c_FF_makeMoves 49 = .ok (.aload_n 3, 1) := by decide +kernel
theorem d_FF_makeMoves_50 : decode c_FF_makeMoves 50 = .ok (.invokevirtual 207, 3) := by decide +kernel
theorem d_FF_makeMoves_53 : decode c_FF_makeMoves 53 = .ok (.iinc 2 1, 3) := by decide +kernel
theorem d_FF_makeMoves_56 : decode c_FF_makeMoves 56 = .ok (.goto (-52), 3) := by decide +kernel
theorem d_FF_makeMoves_59 : decode c_FF_makeMoves 59 = .ok (.iload_n 1, 1) := by decide +kernel
theorem d_FF_makeMoves_60 : decode c_FF_makeMoves 60 = .ok (.ireturn, 1) := by decide +kernel
abbrev c_FF_noteFinish : ByteArray := prog_1_method_19_code
abbrev y_FF_noteFinish : MethodName := ⟨"FleetFloor", "noteFinish", "(LFleetFloor$Vehicle;)V"⟩
theorem d_FF_noteFinish_0 : decode c_FF_noteFinish 0 = .ok (.aload_n 1, 1) := by decide +kernel
theorem d_FF_noteFinish_1 : decode c_FF_noteFinish 1 = .ok (.getfield 160, 3) := by decide +kernel
theorem d_FF_noteFinish_4 : decode c_FF_noteFinish 4 = .ok (.aload_n 1, 1) := by decide +kernel
theorem d_FF_noteFinish_5 : decode c_FF_noteFinish 5 = .ok (.getfield 211, 3) := by decide +kernel
theorem d_FF_noteFinish_8 : decode c_FF_noteFinish 8 = .ok (.if_icmp .ne 45, 3) := by decide +kernel
theorem d_FF_noteFinish_11 : decode c_FF_noteFinish 11 = .ok (.aload_n 1, 1) := by decide +kernel
theorem d_FF_noteFinish_12 : decode c_FF_noteFinish 12 = .ok (.getfield 179, 3) := by decide +kernel
theorem d_FF_noteFinish_15 : decode c_FF_noteFinish 15 = .ok (.ifCond .lt 38, 3) := by decide +kernel
theorem d_FF_noteFinish_18 : decode c_FF_noteFinish 18 = .ok (.aload_n 1, 1) := by decide +kernel
theorem d_FF_noteFinish_19 : decode c_FF_noteFinish 19 = .ok (.getfield 179, 3) := by decide +kernel
theorem d_FF_noteFinish_22 : decode c_FF_noteFinish 22 = .ok (.aload_n 0, 1) := by decide +kernel
theorem d_FF_noteFinish_23 : decode c_FF_noteFinish 23 = .ok (.getfield 26, 3) := by decide +kernel
theorem d_FF_noteFinish_26 : decode c_FF_noteFinish 26 = .ok (.invokevirtual 96, 3) := by decide +kernel
theorem d_FF_noteFinish_29 : decode c_FF_noteFinish 29 = .ok (.if_icmp .ge 24, 3) := by decide +kernel
theorem d_FF_noteFinish_32 : decode c_FF_noteFinish 32 = .ok (.aload_n 0, 1) := by decide +kernel
theorem d_FF_noteFinish_33 : decode c_FF_noteFinish 33 = .ok (.getfield 26, 3) := by decide +kernel
theorem d_FF_noteFinish_36 : decode c_FF_noteFinish 36 = .ok (.aload_n 1, 1) := by decide +kernel
theorem d_FF_noteFinish_37 : decode c_FF_noteFinish 37 = .ok (.getfield 179, 3) := by decide +kernel
theorem d_FF_noteFinish_40 : decode c_FF_noteFinish 40 = .ok (.invokevirtual 182, 3) := by decide +kernel
theorem d_FF_noteFinish_43 : decode c_FF_noteFinish 43 = .ok (.checkcast 108, 3) := by decide +kernel
theorem d_FF_noteFinish_46 : decode c_FF_noteFinish 46 = .ok (.aload_n 0, 1) := by decide +kernel
theorem d_FF_noteFinish_47 : decode c_FF_noteFinish 47 = .ok (.getfield 48, 3) := by decide +kernel
theorem d_FF_noteFinish_50 : decode c_FF_noteFinish 50 = .ok (.putfield 197, 3) := by decide +kernel
theorem d_FF_noteFinish_53 : decode c_FF_noteFinish 53 = .ok (.return_, 1) := by decide +kernel
abbrev c_FF_sendDones : ByteArray := prog_1_method_20_code
abbrev y_FF_sendDones : MethodName := ⟨"FleetFloor", "sendDones", "()V"⟩
theorem d_FF_sendDones_0 : decode c_FF_sendDones 0 = .ok (.iconst 0, 1) := by decide +kernel
theorem d_FF_sendDones_1 : decode c_FF_sendDones 1 = .ok (.istore_n 1, 1) := by decide +kernel
theorem d_FF_sendDones_2 : decode c_FF_sendDones 2 = .ok (.iload_n 1, 1) := by decide +kernel
theorem d_FF_sendDones_3 : decode c_FF_sendDones 3 = .ok (.aload_n 0, 1) := by decide +kernel
theorem d_FF_sendDones_4 : decode c_FF_sendDones 4 = .ok (.getfield 32, 3) := by decide +kernel
theorem d_FF_sendDones_7 : decode c_FF_sendDones 7 = .ok (.arraylength, 1) := by decide +kernel
theorem d_FF_sendDones_8 : decode c_FF_sendDones 8 = .ok (.if_icmp .ge 55, 3) := by decide +kernel
theorem d_FF_sendDones_11 : decode c_FF_sendDones 11 = .ok (.aload_n 0, 1) := by decide +kernel
theorem d_FF_sendDones_12 : decode c_FF_sendDones 12 = .ok (.getfield 32, 3) := by decide +kernel
theorem d_FF_sendDones_15 : decode c_FF_sendDones 15 = .ok (.iload_n 1, 1) := by decide +kernel
theorem d_FF_sendDones_16 : decode c_FF_sendDones 16 = .ok (.aaload, 1) := by decide +kernel
theorem d_FF_sendDones_17 : decode c_FF_sendDones 17 = .ok (.astore_n 2, 1) := by decide +kernel
theorem d_FF_sendDones_18 : decode c_FF_sendDones 18 = .ok (.aload_n 2, 1) := by decide +kernel
theorem d_FF_sendDones_19 : decode c_FF_sendDones 19 = .ok (.getfield 203, 3) := by decide +kernel
theorem d_FF_sendDones_22 : decode c_FF_sendDones 22 = .ok (.ifCond .ne 11, 3) := by decide +kernel
theorem d_FF_sendDones_25 : decode c_FF_sendDones 25 = .ok (.aload_n 0, 1) := by decide +kernel
theorem d_FF_sendDones_26 : decode c_FF_sendDones 26 = .ok (.aload_n 2, 1) := by decide +kernel
theorem d_FF_sendDones_27 : decode c_FF_sendDones 27 = .ok (.invokevirtual 214, 3) := by decide +kernel
theorem d_FF_sendDones_30 : decode c_FF_sendDones 30 = .ok (.ifCond .eq 27, 3) := by decide +kernel
theorem d_FF_sendDones_33 : decode c_FF_sendDones 33 = .ok (.aload_n 0, 1) := by decide +kernel
theorem d_FF_sendDones_34 : decode c_FF_sendDones 34 = .ok (.getfield 19, 3) := by decide +kernel
theorem d_FF_sendDones_37 : decode c_FF_sendDones 37 = .ok (.new 135, 3) := by decide +kernel
theorem d_FF_sendDones_40 : decode c_FF_sendDones 40 = .ok (.dup, 1) := by decide +kernel
theorem d_FF_sendDones_41 : decode c_FF_sendDones 41 = .ok (.iconst 1, 1) := by decide +kernel
theorem d_FF_sendDones_42 : decode c_FF_sendDones 42 = .ok (.aload_n 2, 1) := by decide +kernel
theorem d_FF_sendDones_43 : decode c_FF_sendDones 43 = .ok (.getfield 218, 3) := by decide +kernel
theorem d_FF_sendDones_46 : decode c_FF_sendDones 46 = .ok (.aload_n 2, 1) := by decide +kernel
theorem d_FF_sendDones_47 : decode c_FF_sendDones 47 = .ok (.getfield 160, 3) := by decide +kernel
theorem d_FF_sendDones_50 : decode c_FF_sendDones 50 = .ok (.invokespecial 220, 3) := by decide +kernel
theorem d_FF_sendDones_53 : decode c_FF_sendDones 53 = .ok (.invokevirtual 156, 3) := by decide +kernel
theorem d_FF_sendDones_56 : decode c_FF_sendDones 56 = .ok (.pop, 1) := by decide +kernel
theorem d_FF_sendDones_57 : decode c_FF_sendDones 57 = .ok (.iinc 1 1, 3) := by decide +kernel
theorem d_FF_sendDones_60 : decode c_FF_sendDones 60 = .ok (.goto (-58), 3) := by decide +kernel
theorem d_FF_sendDones_63 : decode c_FF_sendDones 63 = .ok (.return_, 1) := by decide +kernel
abbrev c_FF_reportsNow : ByteArray := prog_1_method_21_code
abbrev y_FF_reportsNow : MethodName := ⟨"FleetFloor", "reportsNow", "(LFleetFloor$Vehicle;)Z"⟩
theorem d_FF_reportsNow_0 : decode c_FF_reportsNow 0 = .ok (.aload_n 0, 1) := by decide +kernel
theorem d_FF_reportsNow_1 : decode c_FF_reportsNow 1 = .ok (.getfield 48, 3) := by decide +kernel
theorem d_FF_reportsNow_4 : decode c_FF_reportsNow 4 = .ok (.bipush 8, 2) := by decide +kernel
theorem d_FF_reportsNow_6 : decode c_FF_reportsNow 6 = .ok (.irem, 1) := by decide +kernel
theorem d_FF_reportsNow_7 : decode c_FF_reportsNow 7 = .ok (.aload_n 1, 1) := by decide +kernel
theorem d_FF_reportsNow_8 : decode c_FF_reportsNow 8 = .ok (.getfield 218, 3) := by decide +kernel
theorem d_FF_reportsNow_11 : decode c_FF_reportsNow 11 = .ok (.bipush 8, 2) := by decide +kernel
theorem d_FF_reportsNow_13 : decode c_FF_reportsNow 13 = .ok (.irem, 1) := by decide +kernel
theorem d_FF_reportsNow_14 : decode c_FF_reportsNow 14 = .ok (.if_icmp .ne 7, 3) := by decide +kernel
theorem d_FF_reportsNow_17 : decode c_FF_reportsNow 17 = .ok (.iconst 1, 1) := by decide +kernel
theorem d_FF_reportsNow_18 : decode c_FF_reportsNow 18 = .ok (.goto 4, 3) := by decide +kernel
theorem d_FF_reportsNow_21 : decode c_FF_reportsNow 21 = .ok (.iconst 0, 1) := by decide +kernel
theorem d_FF_reportsNow_22 : decode c_FF_reportsNow 22 = .ok (.ireturn, 1) := by decide +kernel
abbrev c_FF_makePlans : ByteArray := prog_1_method_22_code
abbrev y_FF_makePlans : MethodName := ⟨"FleetFloor", "makePlans", "()V"⟩
theorem d_FF_makePlans_0 : decode c_FF_makePlans 0 = .ok (.aload_n 0, 1) := by decide +kernel
theorem d_FF_makePlans_1 : decode c_FF_makePlans 1 = .ok (.getfield 44, 3) := by decide +kernel
theorem d_FF_makePlans_4 : decode c_FF_makePlans 4 = .ok (.istore_n 1, 1) := by decide +kernel
theorem d_FF_makePlans_5 : decode c_FF_makePlans 5 = .ok (.iload_n 1, 1) := by decide +kernel
theorem d_FF_makePlans_6 : decode c_FF_makePlans 6 = .ok (.aload_n 0, 1) := by decide +kernel
theorem d_FF_makePlans_7 : decode c_FF_makePlans 7 = .ok (.getfield 26, 3) := by decide +kernel
theorem d_FF_makePlans_10 : decode c_FF_makePlans 10 = .ok (.invokevirtual 96, 3) := by decide +kernel
theorem d_FF_makePlans_13 : decode c_FF_makePlans 13 = .ok (.if_icmp .ge 94, 3) := by decide +kernel
theorem d_FF_makePlans_16 : decode c_FF_makePlans 16 = .ok (.aload_n 0, 1) := by decide +kernel
theorem d_FF_makePlans_17 : decode c_FF_makePlans 17 = .ok (.invokevirtual 223, 3) := by decide +kernel
theorem d_FF_makePlans_20 : decode c_FF_makePlans 20 = .ok (.astore_n 2, 1) := by decide +kernel
theorem d_FF_makePlans_21 : decode c_FF_makePlans 21 = .ok (.aload_n 0, 1) := by decide +kernel
theorem d_FF_makePlans_22 : decode c_FF_makePlans 22 = .ok (.getfield 40, 3) := by decide +kernel
theorem d_FF_makePlans_25 : decode c_FF_makePlans 25 = .ok (.ifnull 33, 3) := by decide +kernel
theorem d_FF_makePlans_28 : decode c_FF_makePlans 28 = .ok (.aload_n 2, 1) := by decide +kernel
theorem d_FF_makePlans_29 : decode c_FF_makePlans 29 = .ok (.ifnull 29, 3) := by decide +kernel
theorem d_FF_makePlans_32 : decode c_FF_makePlans 32 = .ok (.aload_n 0, 1) := by decide +kernel
theorem d_FF_makePlans_33 : decode c_FF_makePlans 33 = .ok (.getfield 40, 3) := by decide +kernel
theorem d_FF_makePlans_36 : decode c_FF_makePlans 36 = .ok (.aload_n 2, 1) := by decide +kernel
theorem d_FF_makePlans_37 : decode c_FF_makePlans 37 = .ok (.aload_n 0, 1) := by decide +kernel
theorem d_FF_makePlans_38 : decode c_FF_makePlans 38 = .ok (.getfield 26, 3) := by decide +kernel
theorem d_FF_makePlans_41 : decode c_FF_makePlans 41 = .ok (.iload_n 1, 1) := by decide +kernel
theorem d_FF_makePlans_42 : decode c_FF_makePlans 42 = .ok (.invokevirtual 182, 3) := by decide +kernel
theorem d_FF_makePlans_45 : decode c_FF_makePlans 45 = .ok (.checkcast 108, 3) := by decide +kernel
theorem d_FF_makePlans_48 : decode c_FF_makePlans 48 = .ok (.aload_n 0, 1) := by decide +kernel
theorem d_FF_makePlans_49 : decode c_FF_makePlans 49 = .ok (.getfield 51, 3) := by decide +kernel
theorem d_FF_makePlans_52 : decode c_FF_makePlans 52 = .ok (.invokevirtual 227, 3) := by decide +kernel
theorem d_FF_makePlans_55 : decode c_FF_makePlans 55 = .ok (.ifCond .ne 4, 3) := by decide +kernel
theorem d_FF_makePlans_58 : decode c_FF_makePlans 58 = .ok (.return_, 1) := by decide +kernel
theorem d_FF_makePlans_59 : decode c_FF_makePlans 59 = .ok (.aload_n 0, 1) := by decide +kernel
theorem d_FF_makePlans_60 : decode c_FF_makePlans 60 = .ok (.getfield 40, 3) := by decide +kernel
theorem d_FF_makePlans_63 : decode c_FF_makePlans 63 = .ok (.aload_n 2, 1) := by decide +kernel
theorem d_FF_makePlans_64 : decode c_FF_makePlans 64 = .ok (.aload_n 0, 1) := by decide +kernel
theorem d_FF_makePlans_65 : decode c_FF_makePlans 65 = .ok (.getfield 51, 3) := by decide +kernel
theorem d_FF_makePlans_68 : decode c_FF_makePlans 68 = .ok (.invokevirtual 231, 3) := by decide +kernel
theorem d_FF_makePlans_71 : decode c_FF_makePlans 71 = .ok (.aload_n 2, 1) := by decide +kernel
theorem d_FF_makePlans_72 : decode c_FF_makePlans 72 = .ok (.iload_n 1, 1) := by decide +kernel
theorem d_FF_makePlans_73 : decode c_FF_makePlans 73 = .ok (.putfield 179, 3) := by decide +kernel
theorem d_FF_makePlans_76 : decode c_FF_makePlans 76 = .ok (.aload_n 0, 1) := by decide +kernel
theorem d_FF_makePlans_77 : decode c_FF_makePlans 77 = .ok (.getfield 26, 3) := by decide +kernel
theorem d_FF_makePlans_80 : decode c_FF_makePlans 80 = .ok (.iload_n 1, 1) := by decide +kernel
theorem d_FF_makePlans_81 : decode c_FF_makePlans 81 = .ok (.invokevirtual 182, 3) := by decide +kernel
theorem d_FF_makePlans_84 : decode c_FF_makePlans 84 = .ok (.checkcast 108, 3) := by decide +kernel
theorem d_FF_makePlans_87 : decode c_FF_makePlans 87 = .ok (.aload_n 2, 1) := by decide +kernel
theorem d_FF_makePlans_88 : decode c_FF_makePlans 88 = .ok (.getfield 218, 3) := by decide +kernel
theorem d_FF_makePlans_91 : decode c_FF_makePlans 91 = .ok (.putfield 194, 3) := by decide +kernel
theorem d_FF_makePlans_94 : decode c_FF_makePlans 94 = .ok (.aload_n 0, 1) := by decide +kernel
theorem d_FF_makePlans_95 : decode c_FF_makePlans 95 = .ok (.iload_n 1, 1) := by decide +kernel
theorem d_FF_makePlans_96 : decode c_FF_makePlans 96 = .ok (.iconst 1, 1) := by decide +kernel
theorem d_FF_makePlans_97 : decode c_FF_makePlans 97 = .ok (.iadd, 1) := by decide +kernel
theorem d_FF_makePlans_98 : decode c_FF_makePlans 98 = .ok (.putfield 44, 3) := by decide +kernel
theorem d_FF_makePlans_101 : decode c_FF_makePlans 101 = .ok (.iinc 1 1, 3) := by decide +kernel
theorem d_FF_makePlans_104 : decode c_FF_makePlans 104 = .ok (.goto (-99), 3) := by decide +kernel
theorem d_FF_makePlans_107 : decode c_FF_makePlans 107 = .ok (.return_, 1) := by decide +kernel
abbrev c_FF_lowestIdle : ByteArray := prog_1_method_23_code
abbrev y_FF_lowestIdle : MethodName := ⟨"FleetFloor", "lowestIdle", "()LFleetFloor$Vehicle;"⟩
theorem d_FF_lowestIdle_0 : decode c_FF_lowestIdle 0 = .ok (.iconst 0, 1) := by decide +kernel
theorem d_FF_lowestIdle_1 : decode c_FF_lowestIdle 1 = .ok (.istore_n 1, 1) := by decide +kernel
theorem d_FF_lowestIdle_2 : decode c_FF_lowestIdle 2 = .ok (.iload_n 1, 1) := by decide +kernel
theorem d_FF_lowestIdle_3 : decode c_FF_lowestIdle 3 = .ok (.aload_n 0, 1) := by decide +kernel
theorem d_FF_lowestIdle_4 : decode c_FF_lowestIdle 4 = .ok (.getfield 32, 3) := by decide +kernel
theorem d_FF_lowestIdle_7 : decode c_FF_lowestIdle 7 = .ok (.arraylength, 1) := by decide +kernel
theorem d_FF_lowestIdle_8 : decode c_FF_lowestIdle 8 = .ok (.if_icmp .ge 28, 3) := by decide +kernel
theorem d_FF_lowestIdle_11 : decode c_FF_lowestIdle 11 = .ok (.aload_n 0, 1) := by decide +kernel
theorem d_FF_lowestIdle_12 : decode c_FF_lowestIdle 12 = .ok (.getfield 32, 3) := by decide +kernel
theorem d_FF_lowestIdle_15 : decode c_FF_lowestIdle 15 = .ok (.iload_n 1, 1) := by decide +kernel
theorem d_FF_lowestIdle_16 : decode c_FF_lowestIdle 16 = .ok (.aaload, 1) := by decide +kernel
theorem d_FF_lowestIdle_17 : decode c_FF_lowestIdle 17 = .ok (.invokevirtual 235, 3) := by decide +kernel
theorem d_FF_lowestIdle_20 : decode c_FF_lowestIdle 20 = .ok (.ifCond .eq 10, 3) := by decide +kernel
theorem d_FF_lowestIdle_23 : decode c_FF_lowestIdle 23 = .ok (.aload_n 0, 1) := by decide +kernel
theorem d_FF_lowestIdle_24 : decode c_FF_lowestIdle 24 = .ok (.getfield 32, 3) := by decide +kernel
theorem d_FF_lowestIdle_27 : decode c_FF_lowestIdle 27 = .ok (.iload_n 1, 1) := by decide +kernel
theorem d_FF_lowestIdle_28 : decode c_FF_lowestIdle 28 = .ok (.aaload, 1) := by decide +kernel
theorem d_FF_lowestIdle_29 : decode c_FF_lowestIdle 29 = .ok (.areturn, 1) := by decide +kernel
theorem d_FF_lowestIdle_30 : decode c_FF_lowestIdle 30 = .ok (.iinc 1 1, 3) := by decide +kernel
theorem d_FF_lowestIdle_33 : decode c_FF_lowestIdle 33 = .ok (.goto (-31), 3) := by decide +kernel
theorem d_FF_lowestIdle_36 : decode c_FF_lowestIdle 36 = .ok (.aconst_null, 1) := by decide +kernel
theorem d_FF_lowestIdle_37 : decode c_FF_lowestIdle 37 = .ok (.areturn, 1) := by decide +kernel
abbrev c_FF_grantMoves : ByteArray := prog_1_method_24_code
abbrev y_FF_grantMoves : MethodName := ⟨"FleetFloor", "grantMoves", "()V"⟩
theorem d_FF_grantMoves_0 : decode c_FF_grantMoves 0 = .ok (.iconst 0, 1) := by decide +kernel
theorem d_FF_grantMoves_1 : decode c_FF_grantMoves 1 = .ok (.istore_n 1, 1) := by decide +kernel
theorem d_FF_grantMoves_2 : decode c_FF_grantMoves 2 = .ok (.iload_n 1, 1) := by decide +kernel
theorem d_FF_grantMoves_3 : decode c_FF_grantMoves 3 = .ok (.aload_n 0, 1) := by decide +kernel
theorem d_FF_grantMoves_4 : decode c_FF_grantMoves 4 = .ok (.getfield 32, 3) := by decide +kernel
theorem d_FF_grantMoves_7 : decode c_FF_grantMoves 7 = .ok (.arraylength, 1) := by decide +kernel
theorem d_FF_grantMoves_8 : decode c_FF_grantMoves 8 = .ok (.if_icmp .ge 136, 3) := by decide +kernel
theorem d_FF_grantMoves_11 : decode c_FF_grantMoves 11 = .ok (.aload_n 0, 1) := by decide +kernel
theorem d_FF_grantMoves_12 : decode c_FF_grantMoves 12 = .ok (.getfield 32, 3) := by decide +kernel
theorem d_FF_grantMoves_15 : decode c_FF_grantMoves 15 = .ok (.iload_n 1, 1) := by decide +kernel
theorem d_FF_grantMoves_16 : decode c_FF_grantMoves 16 = .ok (.aaload, 1) := by decide +kernel
theorem d_FF_grantMoves_17 : decode c_FF_grantMoves 17 = .ok (.astore_n 2, 1) := by decide +kernel
theorem d_FF_grantMoves_18 : decode c_FF_grantMoves 18 = .ok (.aload_n 2, 1) := by decide +kernel
theorem d_FF_grantMoves_19 : decode c_FF_grantMoves 19 = .ok (.getfield 173, 3) := by decide +kernel
theorem d_FF_grantMoves_22 : decode c_FF_grantMoves 22 = .ok (.istore_n 3, 1) := by decide +kernel
theorem d_FF_grantMoves_23 : decode c_FF_grantMoves 23 = .ok (.iload_n 3, 1) := by decide +kernel
theorem d_FF_grantMoves_24 : decode c_FF_grantMoves 24 = .ok (.istore 4, 2) := by decide +kernel
theorem d_FF_grantMoves_26 : decode c_FF_grantMoves 26 = .ok (.iload 4, 2) := by decide +kernel
theorem d_FF_grantMoves_28 : decode c_FF_grantMoves 28 = .ok (.aload_n 2, 1) := by decide +kernel
theorem d_FF_grantMoves_29 : decode c_FF_grantMoves 29 = .ok (.getfield 176, 3) := by decide +kernel
theorem d_FF_grantMoves_32 : decode c_FF_grantMoves 32 = .ok (.invokevirtual 96, 3) := by decide +kernel
theorem d_FF_grantMoves_35 : decode c_FF_grantMoves 35 = .ok (.if_icmp .ge 63, 3) := by decide +kernel
theorem d_FF_grantMoves_38 : decode c_FF_grantMoves 38 = .ok (.aload_n 0, 1) := by decide +kernel
theorem d_FF_grantMoves_39 : decode c_FF_grantMoves 39 = .ok (.aload_n 2, 1) := by decide +kernel
theorem d_FF_grantMoves_40 : decode c_FF_grantMoves 40 = .ok (.aload_n 2, 1) := by decide +kernel
theorem d_FF_grantMoves_41 : decode c_FF_grantMoves 41 = .ok (.getfield 176, 3) := by decide +kernel
theorem d_FF_grantMoves_44 : decode c_FF_grantMoves 44 = .ok (.iload 4, 2) := by decide +kernel
theorem d_FF_grantMoves_46 : decode c_FF_grantMoves 46 = .ok (.invokevirtual 182, 3) := by decide +kernel
theorem d_FF_grantMoves_49 : decode c_FF_grantMoves 49 = .ok (.checkcast 186, 3) := by decide +kernel
theorem d_FF_grantMoves_52 : decode c_FF_grantMoves 52 = .ok (.invokevirtual 238, 3) := by decide +kernel
theorem d_FF_grantMoves_55 : decode c_FF_grantMoves 55 = .ok (.ifCond .eq 43, 3) := by decide +kernel
theorem d_FF_grantMoves_58 : decode c_FF_grantMoves 58 = .ok (.aload_n 2, 1) := by decide +kernel
theorem d_FF_grantMoves_59 : decode c_FF_grantMoves 59 = .ok (.iload 4, 2) := by decide +kernel
theorem d_FF_grantMoves_61 : decode c_FF_grantMoves 61 = .ok (.iconst 1, 1) := by decide +kernel
theorem d_FF_grantMoves_62 : decode c_FF_grantMoves 62 = .ok (.iadd, 1) := by decide +kernel
theorem d_FF_grantMoves_63 : decode c_FF_grantMoves 63 = .ok (.putfield 173, 3) := by decide +kernel
theorem d_FF_grantMoves_66 : decode c_FF_grantMoves 66 = .ok (.aload_n 0, 1) := by decide +kernel
theorem d_FF_grantMoves_67 : decode c_FF_grantMoves 67 = .ok (.aload_n 0, 1) := by decide +kernel
theorem d_FF_grantMoves_68 : decode c_FF_grantMoves 68 = .ok (.getfield 51, 3) := by decide +kernel
theorem d_FF_grantMoves_71 : decode c_FF_grantMoves 71 = .ok (.aload_n 2, 1) := by decide +kernel
theorem d_FF_grantMoves_72 : decode c_FF_grantMoves 72 = .ok (.getfield 176, 3) := by decide +kernel
theorem d_FF_grantMoves_75 : decode c_FF_grantMoves 75 = .ok (.iload 4, 2) := by decide +kernel
theorem d_FF_grantMoves_77 : decode c_FF_grantMoves 77 = .ok (.invokevirtual 182, 3) := by decide +kernel
theorem d_FF_grantMoves_80 : decode c_FF_grantMoves 80 = .ok (.checkcast 186, 3) := by decide +kernel
theorem d_FF_grantMoves_83 : decode c_FF_grantMoves 83 = .ok (.invokevirtual 191, 3) := by decide +kernel
theorem d_FF_grantMoves_86 : decode c_FF_grantMoves 86 = .ok (.invokestatic 242, 3) := by decide +kernel
theorem d_FF_grantMoves_89 : decode c_FF_grantMoves 89 = .ok (.putfield 51, 3) := by decide +kernel
theorem d_FF_grantMoves_92 : decode c_FF_grantMoves 92 = .ok (.iinc 4 1, 3) := by decide +kernel
theorem d_FF_grantMoves_95 : decode c_FF_grantMoves 95 = .ok (.goto (-69), 3) := by decide +kernel
theorem d_FF_grantMoves_98 : decode c_FF_grantMoves 98 = .ok (.aload_n 2, 1) := by decide +kernel
theorem d_FF_grantMoves_99 : decode c_FF_grantMoves 99 = .ok (.getfield 173, 3) := by decide +kernel
theorem d_FF_grantMoves_102 : decode c_FF_grantMoves 102 = .ok (.iload_n 3, 1) := by decide +kernel
theorem d_FF_grantMoves_103 : decode c_FF_grantMoves 103 = .ok (.if_icmp .gt 11, 3) := by decide +kernel
theorem d_FF_grantMoves_106 : decode c_FF_grantMoves 106 = .ok (.aload_n 0, 1) := by decide +kernel
theorem d_FF_grantMoves_107 : decode c_FF_grantMoves 107 = .ok (.aload_n 2, 1) := by decide +kernel
theorem d_FF_grantMoves_108 : decode c_FF_grantMoves 108 = .ok (.invokevirtual 214, 3) := by decide +kernel
theorem d_FF_grantMoves_111 : decode c_FF_grantMoves 111 = .ok (.ifCond .eq 27, 3) := by decide +kernel
theorem d_FF_grantMoves_114 : decode c_FF_grantMoves 114 = .ok (.aload_n 0, 1) := by decide +kernel
theorem d_FF_grantMoves_115 : decode c_FF_grantMoves 115 = .ok (.getfield 19, 3) := by decide +kernel
theorem d_FF_grantMoves_118 : decode c_FF_grantMoves 118 = .ok (.new 135, 3) := by decide +kernel
theorem d_FF_grantMoves_121 : decode c_FF_grantMoves 121 = .ok (.dup, 1) := by decide +kernel
theorem d_FF_grantMoves_122 : decode c_FF_grantMoves 122 = .ok (.iconst 0, 1) := by decide +kernel
theorem d_FF_grantMoves_123 : decode c_FF_grantMoves 123 = .ok (.aload_n 2, 1) := by decide +kernel
theorem d_FF_grantMoves_124 : decode c_FF_grantMoves 124 = .ok (.getfield 218, 3) := by decide +kernel
theorem d_FF_grantMoves_127 : decode c_FF_grantMoves 127 = .ok (.aload_n 2, 1) := by decide +kernel
theorem d_FF_grantMoves_128 : decode c_FF_grantMoves 128 = .ok (.getfield 173, 3) := by decide +kernel
theorem d_FF_grantMoves_131 : decode c_FF_grantMoves 131 = .ok (.invokespecial 220, 3) := by decide +kernel
theorem d_FF_grantMoves_134 : decode c_FF_grantMoves 134 = .ok (.invokevirtual 156, 3) := by decide +kernel
theorem d_FF_grantMoves_137 : decode c_FF_grantMoves 137 = .ok (.pop, 1) := by decide +kernel
theorem d_FF_grantMoves_138 : decode c_FF_grantMoves 138 = .ok (.iinc 1 1, 3) := by decide +kernel
theorem d_FF_grantMoves_141 : decode c_FF_grantMoves 141 = .ok (.goto (-139), 3) := by decide +kernel
theorem d_FF_grantMoves_144 : decode c_FF_grantMoves 144 = .ok (.return_, 1) := by decide +kernel
abbrev c_FF_isFree : ByteArray := prog_1_method_25_code
abbrev y_FF_isFree : MethodName := ⟨"FleetFloor", "isFree", "(LFleetFloor$Vehicle;LFleetFloor$Move;)Z"⟩
theorem d_FF_isFree_0 : decode c_FF_isFree 0 = .ok (.iconst 0, 1) := by decide +kernel
theorem d_FF_isFree_1 : decode c_FF_isFree 1 = .ok (.istore_n 3, 1) := by decide +kernel
theorem d_FF_isFree_2 : decode c_FF_isFree 2 = .ok (.iload_n 3, 1) := by decide +kernel
theorem d_FF_isFree_3 : decode c_FF_isFree 3 = .ok (.aload_n 0, 1) := by decide +kernel
theorem d_FF_isFree_4 : decode c_FF_isFree 4 = .ok (.getfield 32, 3) := by decide +kernel
theorem d_FF_isFree_7 : decode c_FF_isFree 7 = .ok (.arraylength, 1) := by decide +kernel
theorem d_FF_isFree_8 : decode c_FF_isFree 8 = .ok (.if_icmp .ge 34, 3) := by decide +kernel
theorem d_FF_isFree_11 : decode c_FF_isFree 11 = .ok (.aload_n 0, 1) := by decide +kernel
theorem d_FF_isFree_12 : decode c_FF_isFree 12 = .ok (.getfield 32, 3) := by decide +kernel
theorem d_FF_isFree_15 : decode c_FF_isFree 15 = .ok (.iload_n 3, 1) := by decide +kernel
theorem d_FF_isFree_16 : decode c_FF_isFree 16 = .ok (.aaload, 1) := by decide +kernel
theorem d_FF_isFree_17 : decode c_FF_isFree 17 = .ok (.aload_n 1, 1) := by decide +kernel
theorem d_FF_isFree_18 : decode c_FF_isFree 18 = .ok (.if_acmp .eq 18, 3) := by decide +kernel
theorem d_FF_isFree_21 : decode c_FF_isFree 21 = .ok (.aload_n 0, 1) := by decide +kernel
theorem d_FF_isFree_22 : decode c_FF_isFree 22 = .ok (.getfield 32, 3) := by decide +kernel
theorem d_FF_isFree_25 : decode c_FF_isFree 25 = .ok (.iload_n 3, 1) := by decide +kernel
theorem d_FF_isFree_26 : decode c_FF_isFree 26 = .ok (.aaload, 1) := by decide +kernel
theorem d_FF_isFree_27 : decode c_FF_isFree 27 = .ok (.aload_n 2, 1) := by decide +kernel
theorem d_FF_isFree_28 : decode c_FF_isFree 28 = .ok (.invokevirtual 248, 3) := by decide +kernel
theorem d_FF_isFree_31 : decode c_FF_isFree 31 = .ok (.ifCond .eq 5, 3) := by decide +kernel
theorem d_FF_isFree_34 : decode c_FF_isFree 34 = .ok (.iconst 0, 1) := by decide +kernel
theorem d_FF_isFree_35 : decode c_FF_isFree 35 = .ok (.ireturn, 1) := by decide +kernel
theorem d_FF_isFree_36 : decode c_FF_isFree 36 = .ok (.iinc 3 1, 3) := by decide +kernel
theorem d_FF_isFree_39 : decode c_FF_isFree 39 = .ok (.goto (-37), 3) := by decide +kernel
theorem d_FF_isFree_42 : decode c_FF_isFree 42 = .ok (.iconst 1, 1) := by decide +kernel
theorem d_FF_isFree_43 : decode c_FF_isFree 43 = .ok (.ireturn, 1) := by decide +kernel
abbrev c_FF_neighbour : ByteArray := prog_1_method_26_code
abbrev y_FF_neighbour : MethodName := ⟨"FleetFloor", "neighbour", "(II)I"⟩
theorem d_FF_neighbour_0 : decode c_FF_neighbour 0 = .ok (.iload_n 0, 1) := by decide +kernel
theorem d_FF_neighbour_1 : decode c_FF_neighbour 1 = .ok (.bipush 12, 2) := by decide +kernel
theorem d_FF_neighbour_3 : decode c_FF_neighbour 3 = .ok (.irem, 1) := by decide +kernel
theorem d_FF_neighbour_4 : decode c_FF_neighbour 4 = .ok (.istore_n 2, 1) := by decide +kernel
theorem d_FF_neighbour_5 : decode c_FF_neighbour 5 = .ok (.iload_n 0, 1) := by decide +kernel
theorem d_FF_neighbour_6 : decode c_FF_neighbour 6 = .ok (.bipush 12, 2) := by decide +kernel
theorem d_FF_neighbour_8 : decode c_FF_neighbour 8 = .ok (.idiv, 1) := by decide +kernel
theorem d_FF_neighbour_9 : decode c_FF_neighbour 9 = .ok (.istore_n 3, 1) := by decide +kernel
theorem d_FF_neighbour_10 : decode c_FF_neighbour 10 = .ok (.iload_n 1, 1) := by decide +kernel
theorem d_FF_neighbour_11 : decode c_FF_neighbour 11 = .ok (.tableswitch 83 0 3 #[29, 42, 56, 71], 29) := by decide +kernel
theorem d_FF_neighbour_40 : decode c_FF_neighbour 40 = .ok (.iload_n 3, 1) := by decide +kernel
theorem d_FF_neighbour_41 : decode c_FF_neighbour 41 = .ok (.ifCond .le 10, 3) := by decide +kernel
theorem d_FF_neighbour_44 : decode c_FF_neighbour 44 = .ok (.iload_n 0, 1) := by decide +kernel
theorem d_FF_neighbour_45 : decode c_FF_neighbour 45 = .ok (.bipush 12, 2) := by decide +kernel
theorem d_FF_neighbour_47 : decode c_FF_neighbour 47 = .ok (.isub, 1) := by decide +kernel
theorem d_FF_neighbour_48 : decode c_FF_neighbour 48 = .ok (.goto 4, 3) := by decide +kernel
theorem d_FF_neighbour_51 : decode c_FF_neighbour 51 = .ok (.iconst (-1), 1) := by decide +kernel
theorem d_FF_neighbour_52 : decode c_FF_neighbour 52 = .ok (.ireturn, 1) := by decide +kernel
theorem d_FF_neighbour_53 : decode c_FF_neighbour 53 = .ok (.iload_n 2, 1) := by decide +kernel
theorem d_FF_neighbour_54 : decode c_FF_neighbour 54 = .ok (.bipush 11, 2) := by decide +kernel
theorem d_FF_neighbour_56 : decode c_FF_neighbour 56 = .ok (.if_icmp .ge 9, 3) := by decide +kernel
theorem d_FF_neighbour_59 : decode c_FF_neighbour 59 = .ok (.iload_n 0, 1) := by decide +kernel
theorem d_FF_neighbour_60 : decode c_FF_neighbour 60 = .ok (.iconst 1, 1) := by decide +kernel
theorem d_FF_neighbour_61 : decode c_FF_neighbour 61 = .ok (.iadd, 1) := by decide +kernel
theorem d_FF_neighbour_62 : decode c_FF_neighbour 62 = .ok (.goto 4, 3) := by decide +kernel
theorem d_FF_neighbour_65 : decode c_FF_neighbour 65 = .ok (.iconst (-1), 1) := by decide +kernel
theorem d_FF_neighbour_66 : decode c_FF_neighbour 66 = .ok (.ireturn, 1) := by decide +kernel
theorem d_FF_neighbour_67 : decode c_FF_neighbour 67 = .ok (.iload_n 3, 1) := by decide +kernel
theorem d_FF_neighbour_68 : decode c_FF_neighbour 68 = .ok (.bipush 7, 2) := by decide +kernel
theorem d_FF_neighbour_70 : decode c_FF_neighbour 70 = .ok (.if_icmp .ge 10, 3) := by decide +kernel
theorem d_FF_neighbour_73 : decode c_FF_neighbour 73 = .ok (.iload_n 0, 1) := by decide +kernel
theorem d_FF_neighbour_74 : decode c_FF_neighbour 74 = .ok (.bipush 12, 2) := by decide +kernel
theorem d_FF_neighbour_76 : decode c_FF_neighbour 76 = .ok (.iadd, 1) := by decide +kernel
theorem d_FF_neighbour_77 : decode c_FF_neighbour 77 = .ok (.goto 4, 3) := by decide +kernel
theorem d_FF_neighbour_80 : decode c_FF_neighbour 80 = .ok (.iconst (-1), 1) := by decide +kernel
theorem d_FF_neighbour_81 : decode c_FF_neighbour 81 = .ok (.ireturn, 1) := by decide +kernel
theorem d_FF_neighbour_82 : decode c_FF_neighbour 82 = .ok (.iload_n 2, 1) := by decide +kernel
theorem d_FF_neighbour_83 : decode c_FF_neighbour 83 = .ok (.ifCond .le 9, 3) := by decide +kernel
theorem d_FF_neighbour_86 : decode c_FF_neighbour 86 = .ok (.iload_n 0, 1) := by decide +kernel
theorem d_FF_neighbour_87 : decode c_FF_neighbour 87 = .ok (.iconst 1, 1) := by decide +kernel
theorem d_FF_neighbour_88 : decode c_FF_neighbour 88 = .ok (.isub, 1) := by decide +kernel
theorem d_FF_neighbour_89 : decode c_FF_neighbour 89 = .ok (.goto 4, 3) := by decide +kernel
theorem d_FF_neighbour_92 : decode c_FF_neighbour 92 = .ok (.iconst (-1), 1) := by decide +kernel
theorem d_FF_neighbour_93 : decode c_FF_neighbour 93 = .ok (.ireturn, 1) := by decide +kernel
theorem d_FF_neighbour_94 : decode c_FF_neighbour 94 = .ok (.iconst (-1), 1) := by decide +kernel
theorem d_FF_neighbour_95 : decode c_FF_neighbour 95 = .ok (.ireturn, 1) := by decide +kernel
abbrev c_Air_init : ByteArray := prog_2_method_1_code
abbrev y_Air_init : MethodName := ⟨"FleetFloor$Air", "<init>", "()V"⟩
theorem d_Air_init_0 : decode c_Air_init 0 = .ok (.aload_n 0, 1) := by decide +kernel
theorem d_Air_init_1 : decode c_Air_init 1 = .ok (.invokespecial 3, 3) := by decide +kernel
theorem d_Air_init_4 : decode c_Air_init 4 = .ok (.aload_n 0, 1) := by decide +kernel
theorem d_Air_init_5 : decode c_Air_init 5 = .ok (.new 9, 3) := by decide +kernel
theorem d_Air_init_8 : decode c_Air_init 8 = .ok (.dup, 1) := by decide +kernel
theorem d_Air_init_9 : decode c_Air_init 9 = .ok (.invokespecial 11, 3) := by decide +kernel
theorem d_Air_init_12 : decode c_Air_init 12 = .ok (.putfield 12, 3) := by decide +kernel
theorem d_Air_init_15 : decode c_Air_init 15 = .ok (.return_, 1) := by decide +kernel
abbrev c_Air_size : ByteArray := prog_2_method_2_code
abbrev y_Air_size : MethodName := ⟨"FleetFloor$Air", "size", "()I"⟩
theorem d_Air_size_0 : decode c_Air_size 0 = .ok (.aload_n 0, 1) := by decide +kernel
theorem d_Air_size_1 : decode c_Air_size 1 = .ok (.getfield 12, 3) := by decide +kernel
theorem d_Air_size_4 : decode c_Air_size 4 = .ok (.invokevirtual 18, 3) := by decide +kernel
theorem d_Air_size_7 : decode c_Air_size 7 = .ok (.ireturn, 1) := by decide +kernel
abbrev c_Air_look : ByteArray := prog_2_method_3_code
abbrev y_Air_look : MethodName := ⟨"FleetFloor$Air", "look", "(I)LFleetFloor$Letter;"⟩
theorem d_Air_look_0 : decode c_Air_look 0 = .ok (.iload_n 1, 1) := by decide +kernel
theorem d_Air_look_1 : decode c_Air_look 1 = .ok (.ifCond .lt 28, 3) := by decide +kernel
theorem d_Air_look_4 : decode c_Air_look 4 = .ok (.iload_n 1, 1) := by decide +kernel
theorem d_Air_look_5 : decode c_Air_look 5 = .ok (.aload_n 0, 1) := by decide +kernel
theorem d_Air_look_6 : decode c_Air_look 6 = .ok (.getfield 12, 3) := by decide +kernel
theorem d_Air_look_9 : decode c_Air_look 9 = .ok (.invokevirtual 18, 3) := by decide +kernel
theorem d_Air_look_12 : decode c_Air_look 12 = .ok (.if_icmp .ge 17, 3) := by decide +kernel
theorem d_Air_look_15 : decode c_Air_look 15 = .ok (.aload_n 0, 1) := by decide +kernel
theorem d_Air_look_16 : decode c_Air_look 16 = .ok (.getfield 12, 3) := by decide +kernel
theorem d_Air_look_19 : decode c_Air_look 19 = .ok (.iload_n 1, 1) := by decide +kernel
theorem d_Air_look_20 : decode c_Air_look 20 = .ok (.invokevirtual 22, 3) := by decide +kernel
theorem d_Air_look_23 : decode c_Air_look 23 = .ok (.checkcast 26, 3) := by decide +kernel
theorem d_Air_look_26 : decode c_Air_look 26 = .ok (.goto 4, 3) := by decide +kernel
theorem d_Air_look_29 : decode c_Air_look 29 = .ok (.aconst_null, 1) := by decide +kernel
theorem d_Air_look_30 : decode c_Air_look 30 = .ok (.areturn, 1) := by decide +kernel
abbrev c_Air_send : ByteArray := prog_2_method_4_code
abbrev y_Air_send : MethodName := ⟨"FleetFloor$Air", "send", "(LFleetFloor$Letter;)Z"⟩
theorem d_Air_send_0 : decode c_Air_send 0 = .ok (.aload_n 0, 1) := by decide +kernel
theorem d_Air_send_1 : decode c_Air_send 1 = .ok (.getfield 12, 3) := by decide +kernel
theorem d_Air_send_4 : decode c_Air_send 4 = .ok (.invokevirtual 18, 3) := by decide +kernel
theorem d_Air_send_7 : decode c_Air_send 7 = .ok (.bipush 60, 2) := by decide +kernel
theorem d_Air_send_9 : decode c_Air_send 9 = .ok (.if_icmp .lt 5, 3) := by decide +kernel
theorem d_Air_send_12 : decode c_Air_send 12 = .ok (.iconst 0, 1) := by decide +kernel
theorem d_Air_send_13 : decode c_Air_send 13 = .ok (.ireturn, 1) := by decide +kernel
theorem d_Air_send_14 : decode c_Air_send 14 = .ok (.aload_n 0, 1) := by decide +kernel
theorem d_Air_send_15 : decode c_Air_send 15 = .ok (.getfield 12, 3) := by decide +kernel
theorem d_Air_send_18 : decode c_Air_send 18 = .ok (.aload_n 1, 1) := by decide +kernel
theorem d_Air_send_19 : decode c_Air_send 19 = .ok (.invokevirtual 28, 3) := by decide +kernel
theorem d_Air_send_22 : decode c_Air_send 22 = .ok (.pop, 1) := by decide +kernel
theorem d_Air_send_23 : decode c_Air_send 23 = .ok (.iconst 1, 1) := by decide +kernel
theorem d_Air_send_24 : decode c_Air_send 24 = .ok (.ireturn, 1) := by decide +kernel
abbrev c_Air_remove : ByteArray := prog_2_method_5_code
abbrev y_Air_remove : MethodName := ⟨"FleetFloor$Air", "remove", "(I)Z"⟩
theorem d_Air_remove_0 : decode c_Air_remove 0 = .ok (.iload_n 1, 1) := by decide +kernel
theorem d_Air_remove_1 : decode c_Air_remove 1 = .ok (.ifCond .lt 14, 3) := by decide +kernel
theorem d_Air_remove_4 : decode c_Air_remove 4 = .ok (.iload_n 1, 1) := by decide +kernel
theorem d_Air_remove_5 : decode c_Air_remove 5 = .ok (.aload_n 0, 1) := by decide +kernel
theorem d_Air_remove_6 : decode c_Air_remove 6 = .ok (.getfield 12, 3) := by decide +kernel
theorem d_Air_remove_9 : decode c_Air_remove 9 = .ok (.invokevirtual 18, 3) := by decide +kernel
theorem d_Air_remove_12 : decode c_Air_remove 12 = .ok (.if_icmp .lt 5, 3) := by decide +kernel
theorem d_Air_remove_15 : decode c_Air_remove 15 = .ok (.iconst 0, 1) := by decide +kernel
theorem d_Air_remove_16 : decode c_Air_remove 16 = .ok (.ireturn, 1) := by decide +kernel
theorem d_Air_remove_17 : decode c_Air_remove 17 = .ok (.aload_n 0, 1) := by decide +kernel
theorem d_Air_remove_18 : decode c_Air_remove 18 = .ok (.getfield 12, 3) := by decide +kernel
theorem d_Air_remove_21 : decode c_Air_remove 21 = .ok (.iload_n 1, 1) := by decide +kernel
theorem d_Air_remove_22 : decode c_Air_remove 22 = .ok (.invokevirtual 32, 3) := by decide +kernel
theorem d_Air_remove_25 : decode c_Air_remove 25 = .ok (.pop, 1) := by decide +kernel
theorem d_Air_remove_26 : decode c_Air_remove 26 = .ok (.iconst 1, 1) := by decide +kernel
theorem d_Air_remove_27 : decode c_Air_remove 27 = .ok (.ireturn, 1) := by decide +kernel
abbrev c_Cel_init : ByteArray := prog_3_method_1_code
abbrev y_Cel_init : MethodName := ⟨"FleetFloor$Cells", "<init>", "()V"⟩
theorem d_Cel_init_0 : decode c_Cel_init 0 = .ok (.aload_n 0, 1) := by decide +kernel
theorem d_Cel_init_1 : decode c_Cel_init 1 = .ok (.invokespecial 5, 3) := by decide +kernel
theorem d_Cel_init_4 : decode c_Cel_init 4 = .ok (.return_, 1) := by decide +kernel
abbrev c_Cel_clear : ByteArray := prog_3_method_2_code
abbrev y_Cel_clear : MethodName := ⟨"FleetFloor$Cells", "clear", "()V"⟩
theorem d_Cel_clear_0 : decode c_Cel_clear 0 = .ok (.aload_n 0, 1) := by decide +kernel
theorem d_Cel_clear_1 : decode c_Cel_clear 1 = .ok (.lconst 0, 1) := by decide +kernel
theorem d_Cel_clear_2 : decode c_Cel_clear 2 = .ok (.putfield 11, 3) := by decide +kernel
theorem d_Cel_clear_5 : decode c_Cel_clear 5 = .ok (.aload_n 0, 1) := by decide +kernel
theorem d_Cel_clear_6 : decode c_Cel_clear 6 = .ok (.lconst 0, 1) := by decide +kernel
theorem d_Cel_clear_7 : decode c_Cel_clear 7 = .ok (.putfield 15, 3) := by decide +kernel
theorem d_Cel_clear_10 : decode c_Cel_clear 10 = .ok (.return_, 1) := by decide +kernel
abbrev c_Cel_copy : ByteArray := prog_3_method_3_code
abbrev y_Cel_copy : MethodName := ⟨"FleetFloor$Cells", "copy", "(LFleetFloor$Cells;)V"⟩
theorem d_Cel_copy_0 : decode c_Cel_copy 0 = .ok (.aload_n 0, 1) := by decide +kernel
theorem d_Cel_copy_1 : decode c_Cel_copy 1 = .ok (.aload_n 1, 1) := by decide +kernel
theorem d_Cel_copy_2 : decode c_Cel_copy 2 = .ok (.getfield 11, 3) := by decide +kernel
theorem d_Cel_copy_5 : decode c_Cel_copy 5 = .ok (.putfield 11, 3) := by decide +kernel
theorem d_Cel_copy_8 : decode c_Cel_copy 8 = .ok (.aload_n 0, 1) := by decide +kernel
theorem d_Cel_copy_9 : decode c_Cel_copy 9 = .ok (.aload_n 1, 1) := by decide +kernel
theorem d_Cel_copy_10 : decode c_Cel_copy 10 = .ok (.getfield 15, 3) := by decide +kernel
theorem d_Cel_copy_13 : decode c_Cel_copy 13 = .ok (.putfield 15, 3) := by decide +kernel
theorem d_Cel_copy_16 : decode c_Cel_copy 16 = .ok (.return_, 1) := by decide +kernel
abbrev c_Cel_has : ByteArray := prog_3_method_4_code
abbrev y_Cel_has : MethodName := ⟨"FleetFloor$Cells", "has", "(I)Z"⟩
theorem d_Cel_has_0 : decode c_Cel_has 0 = .ok (.iload_n 1, 1) := by decide +kernel
theorem d_Cel_has_1 : decode c_Cel_has 1 = .ok (.bipush 48, 2) := by decide +kernel
theorem d_Cel_has_3 : decode c_Cel_has 3 = .ok (.if_icmp .ge 12, 3) := by decide +kernel
theorem d_Cel_has_6 : decode c_Cel_has 6 = .ok (.aload_n 0, 1) := by decide +kernel
theorem d_Cel_has_7 : decode c_Cel_has 7 = .ok (.getfield 11, 3) := by decide +kernel
theorem d_Cel_has_10 : decode c_Cel_has 10 = .ok (.iload_n 1, 1) := by decide +kernel
theorem d_Cel_has_11 : decode c_Cel_has 11 = .ok (.lushr, 1) := by decide +kernel
theorem d_Cel_has_12 : decode c_Cel_has 12 = .ok (.goto 12, 3) := by decide +kernel
theorem d_Cel_has_15 : decode c_Cel_has 15 = .ok (.aload_n 0, 1) := by decide +kernel
theorem d_Cel_has_16 : decode c_Cel_has 16 = .ok (.getfield 15, 3) := by decide +kernel
theorem d_Cel_has_19 : decode c_Cel_has 19 = .ok (.iload_n 1, 1) := by decide +kernel
theorem d_Cel_has_20 : decode c_Cel_has 20 = .ok (.bipush 48, 2) := by decide +kernel
theorem d_Cel_has_22 : decode c_Cel_has 22 = .ok (.isub, 1) := by decide +kernel
theorem d_Cel_has_23 : decode c_Cel_has 23 = .ok (.lushr, 1) := by decide +kernel
theorem d_Cel_has_24 : decode c_Cel_has 24 = .ok (.lconst 1, 1) := by decide +kernel
theorem d_Cel_has_25 : decode c_Cel_has 25 = .ok (.land, 1) := by decide +kernel
theorem d_Cel_has_26 : decode c_Cel_has 26 = .ok (.lconst 0, 1) := by decide +kernel
theorem d_Cel_has_27 : decode c_Cel_has 27 = .ok (.lcmp, 1) := by decide +kernel
theorem d_Cel_has_28 : decode c_Cel_has 28 = .ok (.ifCond .eq 7, 3) := by decide +kernel
theorem d_Cel_has_31 : decode c_Cel_has 31 = .ok (.iconst 1, 1) := by decide +kernel
theorem d_Cel_has_32 : decode c_Cel_has 32 = .ok (.goto 4, 3) := by decide +kernel
theorem d_Cel_has_35 : decode c_Cel_has 35 = .ok (.iconst 0, 1) := by decide +kernel
theorem d_Cel_has_36 : decode c_Cel_has 36 = .ok (.ireturn, 1) := by decide +kernel
abbrev c_Cel_put : ByteArray := prog_3_method_5_code
abbrev y_Cel_put : MethodName := ⟨"FleetFloor$Cells", "put", "(I)V"⟩
theorem d_Cel_put_0 : decode c_Cel_put 0 = .ok (.iload_n 1, 1) := by decide +kernel
theorem d_Cel_put_1 : decode c_Cel_put 1 = .ok (.bipush 48, 2) := by decide +kernel
theorem d_Cel_put_3 : decode c_Cel_put 3 = .ok (.if_icmp .ge 18, 3) := by decide +kernel
theorem d_Cel_put_6 : decode c_Cel_put 6 = .ok (.aload_n 0, 1) := by decide +kernel
theorem d_Cel_put_7 : decode c_Cel_put 7 = .ok (.dup, 1) := by decide +kernel
theorem d_Cel_put_8 : decode c_Cel_put 8 = .ok (.getfield 11, 3) := by decide +kernel
theorem d_Cel_put_11 : decode c_Cel_put 11 = .ok (.lconst 1, 1) := by decide +kernel
theorem d_Cel_put_12 : decode c_Cel_put 12 = .ok (.iload_n 1, 1) := by decide +kernel
theorem d_Cel_put_13 : decode c_Cel_put 13 = .ok (.lshl, 1) := by decide +kernel
theorem d_Cel_put_14 : decode c_Cel_put 14 = .ok (.lor, 1) := by decide +kernel
theorem d_Cel_put_15 : decode c_Cel_put 15 = .ok (.putfield 11, 3) := by decide +kernel
theorem d_Cel_put_18 : decode c_Cel_put 18 = .ok (.goto 18, 3) := by decide +kernel
theorem d_Cel_put_21 : decode c_Cel_put 21 = .ok (.aload_n 0, 1) := by decide +kernel
theorem d_Cel_put_22 : decode c_Cel_put 22 = .ok (.dup, 1) := by decide +kernel
theorem d_Cel_put_23 : decode c_Cel_put 23 = .ok (.getfield 15, 3) := by decide +kernel
theorem d_Cel_put_26 : decode c_Cel_put 26 = .ok (.lconst 1, 1) := by decide +kernel
theorem d_Cel_put_27 : decode c_Cel_put 27 = .ok (.iload_n 1, 1) := by decide +kernel
theorem d_Cel_put_28 : decode c_Cel_put 28 = .ok (.bipush 48, 2) := by decide +kernel
theorem d_Cel_put_30 : decode c_Cel_put 30 = .ok (.isub, 1) := by decide +kernel
theorem d_Cel_put_31 : decode c_Cel_put 31 = .ok (.lshl, 1) := by decide +kernel
theorem d_Cel_put_32 : decode c_Cel_put 32 = .ok (.lor, 1) := by decide +kernel
theorem d_Cel_put_33 : decode c_Cel_put 33 = .ok (.putfield 15, 3) := by decide +kernel
theorem d_Cel_put_36 : decode c_Cel_put 36 = .ok (.return_, 1) := by decide +kernel
abbrev c_Cel_drop : ByteArray := prog_3_method_6_code
abbrev y_Cel_drop : MethodName := ⟨"FleetFloor$Cells", "drop", "(I)V"⟩
theorem d_Cel_drop_0 : decode c_Cel_drop 0 = .ok (.iload_n 1, 1) := by decide +kernel
theorem d_Cel_drop_1 : decode c_Cel_drop 1 = .ok (.bipush 48, 2) := by decide +kernel
theorem d_Cel_drop_3 : decode c_Cel_drop 3 = .ok (.if_icmp .ge 22, 3) := by decide +kernel
theorem d_Cel_drop_6 : decode c_Cel_drop 6 = .ok (.aload_n 0, 1) := by decide +kernel
theorem d_Cel_drop_7 : decode c_Cel_drop 7 = .ok (.dup, 1) := by decide +kernel
theorem d_Cel_drop_8 : decode c_Cel_drop 8 = .ok (.getfield 11, 3) := by decide +kernel
theorem d_Cel_drop_11 : decode c_Cel_drop 11 = .ok (.lconst 1, 1) := by decide +kernel
theorem d_Cel_drop_12 : decode c_Cel_drop 12 = .ok (.iload_n 1, 1) := by decide +kernel
theorem d_Cel_drop_13 : decode c_Cel_drop 13 = .ok (.lshl, 1) := by decide +kernel
theorem d_Cel_drop_14 : decode c_Cel_drop 14 = .ok (.ldc2_w 18, 3) := by decide +kernel
theorem d_Cel_drop_17 : decode c_Cel_drop 17 = .ok (.lxor, 1) := by decide +kernel
theorem d_Cel_drop_18 : decode c_Cel_drop 18 = .ok (.land, 1) := by decide +kernel
theorem d_Cel_drop_19 : decode c_Cel_drop 19 = .ok (.putfield 11, 3) := by decide +kernel
theorem d_Cel_drop_22 : decode c_Cel_drop 22 = .ok (.goto 22, 3) := by decide +kernel
theorem d_Cel_drop_25 : decode c_Cel_drop 25 = .ok (.aload_n 0, 1) := by decide +kernel
theorem d_Cel_drop_26 : decode c_Cel_drop 26 = .ok (.dup, 1) := by decide +kernel
theorem d_Cel_drop_27 : decode c_Cel_drop 27 = .ok (.getfield 15, 3) := by decide +kernel
theorem d_Cel_drop_30 : decode c_Cel_drop 30 = .ok (.lconst 1, 1) := by decide +kernel
theorem d_Cel_drop_31 : decode c_Cel_drop 31 = .ok (.iload_n 1, 1) := by decide +kernel
theorem d_Cel_drop_32 : decode c_Cel_drop 32 = .ok (.bipush 48, 2) := by decide +kernel
theorem d_Cel_drop_34 : decode c_Cel_drop 34 = .ok (.isub, 1) := by decide +kernel
theorem d_Cel_drop_35 : decode c_Cel_drop 35 = .ok (.lshl, 1) := by decide +kernel
theorem d_Cel_drop_36 : decode c_Cel_drop 36 = .ok (.ldc2_w 18, 3) := by decide +kernel
theorem d_Cel_drop_39 : decode c_Cel_drop 39 = .ok (.lxor, 1) := by decide +kernel
theorem d_Cel_drop_40 : decode c_Cel_drop 40 = .ok (.land, 1) := by decide +kernel
theorem d_Cel_drop_41 : decode c_Cel_drop 41 = .ok (.putfield 15, 3) := by decide +kernel
theorem d_Cel_drop_44 : decode c_Cel_drop 44 = .ok (.return_, 1) := by decide +kernel
abbrev c_Cel_join : ByteArray := prog_3_method_7_code
abbrev y_Cel_join : MethodName := ⟨"FleetFloor$Cells", "join", "(LFleetFloor$Cells;)V"⟩
theorem d_Cel_join_0 : decode c_Cel_join 0 = .ok (.aload_n 0, 1) := by decide +kernel
theorem d_Cel_join_1 : decode c_Cel_join 1 = .ok (.dup, 1) := by decide +kernel
theorem d_Cel_join_2 : decode c_Cel_join 2 = .ok (.getfield 11, 3) := by decide +kernel
theorem d_Cel_join_5 : decode c_Cel_join 5 = .ok (.aload_n 1, 1) := by decide +kernel
theorem d_Cel_join_6 : decode c_Cel_join 6 = .ok (.getfield 11, 3) := by decide +kernel
theorem d_Cel_join_9 : decode c_Cel_join 9 = .ok (.lor, 1) := by decide +kernel
theorem d_Cel_join_10 : decode c_Cel_join 10 = .ok (.putfield 11, 3) := by decide +kernel
theorem d_Cel_join_13 : decode c_Cel_join 13 = .ok (.aload_n 0, 1) := by decide +kernel
theorem d_Cel_join_14 : decode c_Cel_join 14 = .ok (.dup, 1) := by decide +kernel
theorem d_Cel_join_15 : decode c_Cel_join 15 = .ok (.getfield 15, 3) := by decide +kernel
theorem d_Cel_join_18 : decode c_Cel_join 18 = .ok (.aload_n 1, 1) := by decide +kernel
theorem d_Cel_join_19 : decode c_Cel_join 19 = .ok (.getfield 15, 3) := by decide +kernel
theorem d_Cel_join_22 : decode c_Cel_join 22 = .ok (.lor, 1) := by decide +kernel
theorem d_Cel_join_23 : decode c_Cel_join 23 = .ok (.putfield 15, 3) := by decide +kernel
theorem d_Cel_join_26 : decode c_Cel_join 26 = .ok (.return_, 1) := by decide +kernel
abbrev c_Cel_keep : ByteArray := prog_3_method_8_code
abbrev y_Cel_keep : MethodName := ⟨"FleetFloor$Cells", "keep", "(LFleetFloor$Cells;)V"⟩
theorem d_Cel_keep_0 : decode c_Cel_keep 0 = .ok (.aload_n 0, 1) := by decide +kernel
theorem d_Cel_keep_1 : decode c_Cel_keep 1 = .ok (.dup, 1) := by decide +kernel
theorem d_Cel_keep_2 : decode c_Cel_keep 2 = .ok (.getfield 11, 3) := by decide +kernel
theorem d_Cel_keep_5 : decode c_Cel_keep 5 = .ok (.aload_n 1, 1) := by decide +kernel
theorem d_Cel_keep_6 : decode c_Cel_keep 6 = .ok (.getfield 11, 3) := by decide +kernel
theorem d_Cel_keep_9 : decode c_Cel_keep 9 = .ok (.land, 1) := by decide +kernel
theorem d_Cel_keep_10 : decode c_Cel_keep 10 = .ok (.putfield 11, 3) := by decide +kernel
theorem d_Cel_keep_13 : decode c_Cel_keep 13 = .ok (.aload_n 0, 1) := by decide +kernel
theorem d_Cel_keep_14 : decode c_Cel_keep 14 = .ok (.dup, 1) := by decide +kernel
theorem d_Cel_keep_15 : decode c_Cel_keep 15 = .ok (.getfield 15, 3) := by decide +kernel
theorem d_Cel_keep_18 : decode c_Cel_keep 18 = .ok (.aload_n 1, 1) := by decide +kernel
theorem d_Cel_keep_19 : decode c_Cel_keep 19 = .ok (.getfield 15, 3) := by decide +kernel
theorem d_Cel_keep_22 : decode c_Cel_keep 22 = .ok (.land, 1) := by decide +kernel
theorem d_Cel_keep_23 : decode c_Cel_keep 23 = .ok (.putfield 15, 3) := by decide +kernel
theorem d_Cel_keep_26 : decode c_Cel_keep 26 = .ok (.return_, 1) := by decide +kernel
abbrev c_Cel_hasAll : ByteArray := prog_3_method_9_code
abbrev y_Cel_hasAll : MethodName := ⟨"FleetFloor$Cells", "hasAll", "(LFleetFloor$Cells;)Z"⟩
theorem d_Cel_hasAll_0 : decode c_Cel_hasAll 0 = .ok (.aload_n 1, 1) := by decide +kernel
theorem d_Cel_hasAll_1 : decode c_Cel_hasAll 1 = .ok (.getfield 11, 3) := by decide +kernel
theorem d_Cel_hasAll_4 : decode c_Cel_hasAll 4 = .ok (.aload_n 0, 1) := by decide +kernel
theorem d_Cel_hasAll_5 : decode c_Cel_hasAll 5 = .ok (.getfield 11, 3) := by decide +kernel
theorem d_Cel_hasAll_8 : decode c_Cel_hasAll 8 = .ok (.ldc2_w 18, 3) := by decide +kernel
theorem d_Cel_hasAll_11 : decode c_Cel_hasAll 11 = .ok (.lxor, 1) := by decide +kernel
theorem d_Cel_hasAll_12 : decode c_Cel_hasAll 12 = .ok (.land, 1) := by decide +kernel
theorem d_Cel_hasAll_13 : decode c_Cel_hasAll 13 = .ok (.lconst 0, 1) := by decide +kernel
theorem d_Cel_hasAll_14 : decode c_Cel_hasAll 14 = .ok (.lcmp, 1) := by decide +kernel
theorem d_Cel_hasAll_15 : decode c_Cel_hasAll 15 = .ok (.ifCond .ne 25, 3) := by decide +kernel
theorem d_Cel_hasAll_18 : decode c_Cel_hasAll 18 = .ok (.aload_n 1, 1) := by decide +kernel
theorem d_Cel_hasAll_19 : decode c_Cel_hasAll 19 = .ok (.getfield 15, 3) := by decide +kernel
theorem d_Cel_hasAll_22 : decode c_Cel_hasAll 22 = .ok (.aload_n 0, 1) := by decide +kernel
theorem d_Cel_hasAll_23 : decode c_Cel_hasAll 23 = .ok (.getfield 15, 3) := by decide +kernel
theorem d_Cel_hasAll_26 : decode c_Cel_hasAll 26 = .ok (.ldc2_w 18, 3) := by decide +kernel
theorem d_Cel_hasAll_29 : decode c_Cel_hasAll 29 = .ok (.lxor, 1) := by decide +kernel
theorem d_Cel_hasAll_30 : decode c_Cel_hasAll 30 = .ok (.land, 1) := by decide +kernel
theorem d_Cel_hasAll_31 : decode c_Cel_hasAll 31 = .ok (.lconst 0, 1) := by decide +kernel
theorem d_Cel_hasAll_32 : decode c_Cel_hasAll 32 = .ok (.lcmp, 1) := by decide +kernel
theorem d_Cel_hasAll_33 : decode c_Cel_hasAll 33 = .ok (.ifCond .ne 7, 3) := by decide +kernel
theorem d_Cel_hasAll_36 : decode c_Cel_hasAll 36 = .ok (.iconst 1, 1) := by decide +kernel
theorem d_Cel_hasAll_37 : decode c_Cel_hasAll 37 = .ok (.goto 4, 3) := by decide +kernel
theorem d_Cel_hasAll_40 : decode c_Cel_hasAll 40 = .ok (.iconst 0, 1) := by decide +kernel
theorem d_Cel_hasAll_41 : decode c_Cel_hasAll 41 = .ok (.ireturn, 1) := by decide +kernel
abbrev c_Cel_becomeNeighboursOf : ByteArray := prog_3_method_10_code
abbrev y_Cel_becomeNeighboursOf : MethodName := ⟨"FleetFloor$Cells", "becomeNeighboursOf", "(LFleetFloor$Cells;)V"⟩
theorem d_Cel_becomeNeighboursOf_0 : decode c_Cel_becomeNeighboursOf 0 = .ok (.aload_n 1, 1) := by decide +kernel
theorem d_Cel_becomeNeighboursOf_1 : decode c_Cel_becomeNeighboursOf 1 = .ok (.getfield 11, 3) := by decide +kernel
theorem d_Cel_becomeNeighboursOf_4 : decode c_Cel_becomeNeighboursOf 4 = .ok (.lstore_n 2, 1) := by decide +kernel
theorem d_Cel_becomeNeighboursOf_5 : decode c_Cel_becomeNeighboursOf 5 = .ok (.aload_n 1, 1) := by decide +kernel
theorem d_Cel_becomeNeighboursOf_6 : decode c_Cel_becomeNeighboursOf 6 = .ok (.getfield 15, 3) := by decide +kernel
theorem d_Cel_becomeNeighboursOf_9 : decode c_Cel_becomeNeighboursOf 9 = .ok (.lstore 4, 2) := by decide +kernel
theorem d_Cel_becomeNeighboursOf_11 : decode c_Cel_becomeNeighboursOf 11 = .ok (.aload_n 0, 1) := by decide +kernel
theorem d_Cel_becomeNeighboursOf_12 : decode c_Cel_becomeNeighboursOf 12 = .ok (.lload_n 2, 1) := by decide +kernel
theorem d_Cel_becomeNeighboursOf_13 : decode c_Cel_becomeNeighboursOf 13 = .ok (.invokestatic 20, 3) := by decide +kernel
theorem d_Cel_becomeNeighboursOf_16 : decode c_Cel_becomeNeighboursOf 16 = .ok (.lload 4, 2) := by decide +kernel
theorem d_Cel_becomeNeighboursOf_18 : decode c_Cel_becomeNeighboursOf 18 = .ok (.bipush 36, 2) := by decide +kernel
theorem d_Cel_becomeNeighboursOf_20 : decode c_Cel_becomeNeighboursOf 20 = .ok (.lshl, 1) := by decide +kernel
theorem d_Cel_becomeNeighboursOf_21 : decode c_Cel_becomeNeighboursOf 21 = .ok (.ldc2_w 24, 3) := by decide +kernel
theorem d_Cel_becomeNeighboursOf_24 : decode c_Cel_becomeNeighboursOf 24 = .ok (.land, 1) := by decide +kernel
theorem d_Cel_becomeNeighboursOf_25 : decode c_Cel_becomeNeighboursOf 25 = .ok (.lor, 1) := by decide +kernel
theorem d_Cel_becomeNeighboursOf_26 : decode c_Cel_becomeNeighboursOf 26 = .ok (.putfield 11, 3) := by decide +kernel
theorem d_Cel_becomeNeighboursOf_29 : decode c_Cel_becomeNeighboursOf 29 = .ok (.aload_n 0, 1) := by decide +kernel
theorem d_Cel_becomeNeighboursOf_30 : decode c_Cel_becomeNeighboursOf 30 = .ok (.lload 4, 2) := by decide +kernel
theorem d_Cel_becomeNeighboursOf_32 : decode c_Cel_becomeNeighboursOf 32 = .ok (.invokestatic 20, 3) := by decide +kernel
theorem d_Cel_becomeNeighboursOf_35 : decode c_Cel_becomeNeighboursOf 35 = .ok (.lload_n 2, 1) := by decide +kernel
theorem d_Cel_becomeNeighboursOf_36 : decode c_Cel_becomeNeighboursOf 36 = .ok (.bipush 36, 2) := by decide +kernel
theorem d_Cel_becomeNeighboursOf_38 : decode c_Cel_becomeNeighboursOf 38 = .ok (.lushr, 1) := by decide +kernel
theorem d_Cel_becomeNeighboursOf_39 : decode c_Cel_becomeNeighboursOf 39 = .ok (.lor, 1) := by decide +kernel
theorem d_Cel_becomeNeighboursOf_40 : decode c_Cel_becomeNeighboursOf 40 = .ok (.putfield 15, 3) := by decide +kernel
theorem d_Cel_becomeNeighboursOf_43 : decode c_Cel_becomeNeighboursOf 43 = .ok (.return_, 1) := by decide +kernel
abbrev c_Cel_neighboursInHalf : ByteArray := prog_3_method_11_code
abbrev y_Cel_neighboursInHalf : MethodName := ⟨"FleetFloor$Cells", "neighboursInHalf", "(J)J"⟩
theorem d_Cel_neighboursInHalf_0 : decode c_Cel_neighboursInHalf 0 = .ok (.lload_n 0, 1) := by decide +kernel
theorem d_Cel_neighboursInHalf_1 : decode c_Cel_neighboursInHalf 1 = .ok (.bipush 12, 2) := by decide +kernel
theorem d_Cel_neighboursInHalf_3 : decode c_Cel_neighboursInHalf 3 = .ok (.lshl, 1) := by decide +kernel
theorem d_Cel_neighboursInHalf_4 : decode c_Cel_neighboursInHalf 4 = .ok (.ldc2_w 24, 3) := by decide +kernel
theorem d_Cel_neighboursInHalf_7 : decode c_Cel_neighboursInHalf 7 = .ok (.land, 1) := by decide +kernel
theorem d_Cel_neighboursInHalf_8 : decode c_Cel_neighboursInHalf 8 = .ok (.lload_n 0, 1) := by decide +kernel
theorem d_Cel_neighboursInHalf_9 : decode c_Cel_neighboursInHalf 9 = .ok (.bipush 12, 2) := by decide +kernel
theorem d_Cel_neighboursInHalf_11 : decode c_Cel_neighboursInHalf 11 = .ok (.lushr, 1) := by decide +kernel
theorem d_Cel_neighboursInHalf_12 : decode c_Cel_neighboursInHalf 12 = .ok (.lor, 1) := by decide +kernel
theorem d_Cel_neighboursInHalf_13 : decode c_Cel_neighboursInHalf 13 = .ok (.lload_n 0, 1) := by decide +kernel
theorem d_Cel_neighboursInHalf_14 : decode c_Cel_neighboursInHalf 14 = .ok (.ldc2_w 26, 3) := by decide +kernel
theorem d_Cel_neighboursInHalf_17 : decode c_Cel_neighboursInHalf 17 = .ok (.land, 1) := by decide +kernel
theorem d_Cel_neighboursInHalf_18 : decode c_Cel_neighboursInHalf 18 = .ok (.iconst 1, 1) := by decide +kernel
theorem d_Cel_neighboursInHalf_19 : decode c_Cel_neighboursInHalf 19 = .ok (.lshl, 1) := by decide +kernel
theorem d_Cel_neighboursInHalf_20 : decode c_Cel_neighboursInHalf 20 = .ok (.lor, 1) := by decide +kernel
theorem d_Cel_neighboursInHalf_21 : decode c_Cel_neighboursInHalf 21 = .ok (.lload_n 0, 1) := by decide +kernel
theorem d_Cel_neighboursInHalf_22 : decode c_Cel_neighboursInHalf 22 = .ok (.ldc2_w 28, 3) := by decide +kernel
theorem d_Cel_neighboursInHalf_25 : decode c_Cel_neighboursInHalf 25 = .ok (.land, 1) := by decide +kernel
theorem d_Cel_neighboursInHalf_26 : decode c_Cel_neighboursInHalf 26 = .ok (.iconst 1, 1) := by decide +kernel
theorem d_Cel_neighboursInHalf_27 : decode c_Cel_neighboursInHalf 27 = .ok (.lushr, 1) := by decide +kernel
theorem d_Cel_neighboursInHalf_28 : decode c_Cel_neighboursInHalf 28 = .ok (.lor, 1) := by decide +kernel
theorem d_Cel_neighboursInHalf_29 : decode c_Cel_neighboursInHalf 29 = .ok (.lreturn, 1) := by decide +kernel
abbrev c_Map_init : ByteArray := prog_4_method_1_code
abbrev y_Map_init : MethodName := ⟨"FleetFloor$FloorMap", "<init>", "()V"⟩
theorem d_Map_init_0 : decode c_Map_init 0 = .ok (.aload_n 0, 1) := by decide +kernel
theorem d_Map_init_1 : decode c_Map_init 1 = .ok (.invokespecial 3, 3) := by decide +kernel
theorem d_Map_init_4 : decode c_Map_init 4 = .ok (.aload_n 0, 1) := by decide +kernel
theorem d_Map_init_5 : decode c_Map_init 5 = .ok (.bipush 96, 2) := by decide +kernel
theorem d_Map_init_7 : decode c_Map_init 7 = .ok (.newarray .int, 2) := by decide +kernel
theorem d_Map_init_9 : decode c_Map_init 9 = .ok (.putfield 9, 3) := by decide +kernel
theorem d_Map_init_12 : decode c_Map_init 12 = .ok (.return_, 1) := by decide +kernel
abbrev c_Map_change : ByteArray := prog_4_method_2_code
abbrev y_Map_change : MethodName := ⟨"FleetFloor$FloorMap", "change", "(II)Z"⟩
theorem d_Map_change_0 : decode c_Map_change 0 = .ok (.iload_n 1, 1) := by decide +kernel
theorem d_Map_change_1 : decode c_Map_change 1 = .ok (.ifCond .lt 18, 3) := by decide +kernel
theorem d_Map_change_4 : decode c_Map_change 4 = .ok (.iload_n 1, 1) := by decide +kernel
theorem d_Map_change_5 : decode c_Map_change 5 = .ok (.bipush 96, 2) := by decide +kernel
theorem d_Map_change_7 : decode c_Map_change 7 = .ok (.if_icmp .ge 12, 3) := by decide +kernel
theorem d_Map_change_10 : decode c_Map_change 10 = .ok (.iload_n 2, 1) := by decide +kernel
theorem d_Map_change_11 : decode c_Map_change 11 = .ok (.ifCond .lt 8, 3) := by decide +kernel
theorem d_Map_change_14 : decode c_Map_change 14 = .ok (.iload_n 2, 1) := by decide +kernel
theorem d_Map_change_15 : decode c_Map_change 15 = .ok (.iconst 3, 1) := by decide +kernel
theorem d_Map_change_16 : decode c_Map_change 16 = .ok (.if_icmp .le 5, 3) := by decide +kernel
theorem d_Map_change_19 : decode c_Map_change 19 = .ok (.iconst 0, 1) := by decide +kernel
theorem d_Map_change_20 : decode c_Map_change 20 = .ok (.ireturn, 1) := by decide +kernel
theorem d_Map_change_21 : decode c_Map_change 21 = .ok (.aload_n 0, 1) := by decide +kernel
theorem d_Map_change_22 : decode c_Map_change 22 = .ok (.getfield 9, 3) := by decide +kernel
theorem d_Map_change_25 : decode c_Map_change 25 = .ok (.iload_n 1, 1) := by decide +kernel
theorem d_Map_change_26 : decode c_Map_change 26 = .ok (.iload_n 2, 1) := by decide +kernel
theorem d_Map_change_27 : decode c_Map_change 27 = .ok (.iastore, 1) := by decide +kernel
theorem d_Map_change_28 : decode c_Map_change 28 = .ok (.iconst 1, 1) := by decide +kernel
theorem d_Map_change_29 : decode c_Map_change 29 = .ok (.ireturn, 1) := by decide +kernel
abbrev c_Map_cellsOf : ByteArray := prog_4_method_3_code
abbrev y_Map_cellsOf : MethodName := ⟨"FleetFloor$FloorMap", "cellsOf", "(I)[I"⟩
theorem d_Map_cellsOf_0 : decode c_Map_cellsOf 0 = .ok (.aload_n 0, 1) := by decide +kernel
theorem d_Map_cellsOf_1 : decode c_Map_cellsOf 1 = .ok (.iload_n 1, 1) := by decide +kernel
theorem d_Map_cellsOf_2 : decode c_Map_cellsOf 2 = .ok (.invokevirtual 15, 3) := by decide +kernel
theorem d_Map_cellsOf_5 : decode c_Map_cellsOf 5 = .ok (.newarray .int, 2) := by decide +kernel
theorem d_Map_cellsOf_7 : decode c_Map_cellsOf 7 = .ok (.astore_n 2, 1) := by decide +kernel
theorem d_Map_cellsOf_8 : decode c_Map_cellsOf 8 = .ok (.iconst 0, 1) := by decide +kernel
theorem d_Map_cellsOf_9 : decode c_Map_cellsOf 9 = .ok (.istore_n 3, 1) := by decide +kernel
theorem d_Map_cellsOf_10 : decode c_Map_cellsOf 10 = .ok (.iconst 0, 1) := by decide +kernel
theorem d_Map_cellsOf_11 : decode c_Map_cellsOf 11 = .ok (.istore 4, 2) := by decide +kernel
theorem d_Map_cellsOf_13 : decode c_Map_cellsOf 13 = .ok (.iload 4, 2) := by decide +kernel
theorem d_Map_cellsOf_15 : decode c_Map_cellsOf 15 = .ok (.bipush 96, 2) := by decide +kernel
theorem d_Map_cellsOf_17 : decode c_Map_cellsOf 17 = .ok (.if_icmp .ge 34, 3) := by decide +kernel
theorem d_Map_cellsOf_20 : decode c_Map_cellsOf 20 = .ok (.iload_n 3, 1) := by decide +kernel
theorem d_Map_cellsOf_21 : decode c_Map_cellsOf 21 = .ok (.aload_n 2, 1) := by decide +kernel
theorem d_Map_cellsOf_22 : decode c_Map_cellsOf 22 = .ok (.arraylength, 1) := by decide +kernel
theorem d_Map_cellsOf_23 : decode c_Map_cellsOf 23 = .ok (.if_icmp .ge 28, 3) := by decide +kernel
theorem d_Map_cellsOf_26 : decode c_Map_cellsOf 26 = .ok (.aload_n 0, 1) := by decide +kernel
theorem d_Map_cellsOf_27 : decode c_Map_cellsOf 27 = .ok (.getfield 9, 3) := by decide +kernel
theorem d_Map_cellsOf_30 : decode c_Map_cellsOf 30 = .ok (.iload 4, 2) := by decide +kernel
theorem d_Map_cellsOf_32 : decode c_Map_cellsOf 32 = .ok (.iaload, 1) := by decide +kernel
theorem d_Map_cellsOf_33 : decode c_Map_cellsOf 33 = .ok (.iload_n 1, 1) := by decide +kernel
theorem d_Map_cellsOf_34 : decode c_Map_cellsOf 34 = .ok (.if_icmp .ne 11, 3) := by decide +kernel
theorem d_Map_cellsOf_37 : decode c_Map_cellsOf 37 = .ok (.aload_n 2, 1) := by decide +kernel
theorem d_Map_cellsOf_38 : decode c_Map_cellsOf 38 = .ok (.iload_n 3, 1) := by decide +kernel
theorem d_Map_cellsOf_39 : decode c_Map_cellsOf 39 = .ok (.iload 4, 2) := by decide +kernel
theorem d_Map_cellsOf_41 : decode c_Map_cellsOf 41 = .ok (.iastore, 1) := by decide +kernel
theorem d_Map_cellsOf_42 : decode c_Map_cellsOf 42 = .ok (.iinc 3 1, 3) := by decide +kernel
theorem d_Map_cellsOf_45 : decode c_Map_cellsOf 45 = .ok (.iinc 4 1, 3) := by decide +kernel
theorem d_Map_cellsOf_48 : decode c_Map_cellsOf 48 = .ok (.goto (-35), 3) := by decide +kernel
theorem d_Map_cellsOf_51 : decode c_Map_cellsOf 51 = .ok (.aload_n 2, 1) := by decide +kernel
theorem d_Map_cellsOf_52 : decode c_Map_cellsOf 52 = .ok (.areturn, 1) := by decide +kernel
abbrev c_Map_collect : ByteArray := prog_4_method_4_code
abbrev y_Map_collect : MethodName := ⟨"FleetFloor$FloorMap", "collect", "(ILFleetFloor$Cells;)V"⟩
theorem d_Map_collect_0 : decode c_Map_collect 0 = .ok (.iconst 0, 1) := by decide +kernel
theorem d_Map_collect_1 : decode c_Map_collect 1 = .ok (.istore_n 3, 1) := by decide +kernel
theorem d_Map_collect_2 : decode c_Map_collect 2 = .ok (.iload_n 3, 1) := by decide +kernel
theorem d_Map_collect_3 : decode c_Map_collect 3 = .ok (.bipush 96, 2) := by decide +kernel
theorem d_Map_collect_5 : decode c_Map_collect 5 = .ok (.if_icmp .ge 24, 3) := by decide +kernel
theorem d_Map_collect_8 : decode c_Map_collect 8 = .ok (.aload_n 0, 1) := by decide +kernel
theorem d_Map_collect_9 : decode c_Map_collect 9 = .ok (.getfield 9, 3) := by decide +kernel
theorem d_Map_collect_12 : decode c_Map_collect 12 = .ok (.iload_n 3, 1) := by decide +kernel
theorem d_Map_collect_13 : decode c_Map_collect 13 = .ok (.iaload, 1) := by decide +kernel
theorem d_Map_collect_14 : decode c_Map_collect 14 = .ok (.iload_n 1, 1) := by decide +kernel
theorem d_Map_collect_15 : decode c_Map_collect 15 = .ok (.if_icmp .ne 8, 3) := by decide +kernel
theorem d_Map_collect_18 : decode c_Map_collect 18 = .ok (.aload_n 2, 1) := by decide +kernel
theorem d_Map_collect_19 : decode c_Map_collect 19 = .ok (.iload_n 3, 1) := by decide +kernel
theorem d_Map_collect_20 : decode c_Map_collect 20 = .ok (.invokevirtual 19, 3) := by decide +kernel
theorem d_Map_collect_23 : decode c_Map_collect 23 = .ok (.iinc 3 1, 3) := by decide +kernel
theorem d_Map_collect_26 : decode c_Map_collect 26 = .ok (.goto (-24), 3) := by decide +kernel
theorem d_Map_collect_29 : decode c_Map_collect 29 = .ok (.return_, 1) := by decide +kernel
abbrev c_Map_isGood : ByteArray := prog_4_method_5_code
abbrev y_Map_isGood : MethodName := ⟨"FleetFloor$FloorMap", "isGood", "()Z"⟩
theorem d_Map_isGood_0 : decode c_Map_isGood 0 = .ok (.aload_n 0, 1) := by decide +kernel
theorem d_Map_isGood_1 : decode c_Map_isGood 1 = .ok (.iconst 3, 1) := by decide +kernel
theorem d_Map_isGood_2 : decode c_Map_isGood 2 = .ok (.invokevirtual 15, 3) := by decide +kernel
theorem d_Map_isGood_5 : decode c_Map_isGood 5 = .ok (.istore_n 1, 1) := by decide +kernel
theorem d_Map_isGood_6 : decode c_Map_isGood 6 = .ok (.aload_n 0, 1) := by decide +kernel
theorem d_Map_isGood_7 : decode c_Map_isGood 7 = .ok (.iconst 2, 1) := by decide +kernel
theorem d_Map_isGood_8 : decode c_Map_isGood 8 = .ok (.invokevirtual 15, 3) := by decide +kernel
theorem d_Map_isGood_11 : decode c_Map_isGood 11 = .ok (.istore_n 2, 1) := by decide +kernel
theorem d_Map_isGood_12 : decode c_Map_isGood 12 = .ok (.iload_n 1, 1) := by decide +kernel
theorem d_Map_isGood_13 : decode c_Map_isGood 13 = .ok (.iconst 1, 1) := by decide +kernel
theorem d_Map_isGood_14 : decode c_Map_isGood 14 = .ok (.if_icmp .lt 31, 3) := by decide +kernel
theorem d_Map_isGood_17 : decode c_Map_isGood 17 = .ok (.iload_n 1, 1) := by decide +kernel
theorem d_Map_isGood_18 : decode c_Map_isGood 18 = .ok (.bipush 6, 2) := by decide +kernel
theorem d_Map_isGood_20 : decode c_Map_isGood 20 = .ok (.if_icmp .gt 25, 3) := by decide +kernel
theorem d_Map_isGood_23 : decode c_Map_isGood 23 = .ok (.iload_n 2, 1) := by decide +kernel
theorem d_Map_isGood_24 : decode c_Map_isGood 24 = .ok (.iconst 2, 1) := by decide +kernel
theorem d_Map_isGood_25 : decode c_Map_isGood 25 = .ok (.if_icmp .lt 20, 3) := by decide +kernel
theorem d_Map_isGood_28 : decode c_Map_isGood 28 = .ok (.iload_n 2, 1) := by decide +kernel
theorem d_Map_isGood_29 : decode c_Map_isGood 29 = .ok (.bipush 16, 2) := by decide +kernel
theorem d_Map_isGood_31 : decode c_Map_isGood 31 = .ok (.if_icmp .gt 14, 3) := by decide +kernel
theorem d_Map_isGood_34 : decode c_Map_isGood 34 = .ok (.aload_n 0, 1) := by decide +kernel
theorem d_Map_isGood_35 : decode c_Map_isGood 35 = .ok (.invokevirtual 25, 3) := by decide +kernel
theorem d_Map_isGood_38 : decode c_Map_isGood 38 = .ok (.ifCond .eq 7, 3) := by decide +kernel
theorem d_Map_isGood_41 : decode c_Map_isGood 41 = .ok (.iconst 1, 1) := by decide +kernel
theorem d_Map_isGood_42 : decode c_Map_isGood 42 = .ok (.goto 4, 3) := by decide +kernel
theorem d_Map_isGood_45 : decode c_Map_isGood 45 = .ok (.iconst 0, 1) := by decide +kernel
theorem d_Map_isGood_46 : decode c_Map_isGood 46 = .ok (.ireturn, 1) := by decide +kernel
abbrev c_Map_countOf : ByteArray := prog_4_method_6_code
abbrev y_Map_countOf : MethodName := ⟨"FleetFloor$FloorMap", "countOf", "(I)I"⟩
theorem d_Map_countOf_0 : decode c_Map_countOf 0 = .ok (.iconst 0, 1) := by decide +kernel
theorem d_Map_countOf_1 : decode c_Map_countOf 1 = .ok (.istore_n 2, 1) := by decide +kernel
theorem d_Map_countOf_2 : decode c_Map_countOf 2 = .ok (.iconst 0, 1) := by decide +kernel
theorem d_Map_countOf_3 : decode c_Map_countOf 3 = .ok (.istore_n 3, 1) := by decide +kernel
theorem d_Map_countOf_4 : decode c_Map_countOf 4 = .ok (.iload_n 3, 1) := by decide +kernel
theorem d_Map_countOf_5 : decode c_Map_countOf 5 = .ok (.bipush 96, 2) := by decide +kernel
theorem d_Map_countOf_7 : decode c_Map_countOf 7 = .ok (.if_icmp .ge 22, 3) := by decide +kernel
theorem d_Map_countOf_10 : decode c_Map_countOf 10 = .ok (.aload_n 0, 1) := by decide +kernel
theorem d_Map_countOf_11 : decode c_Map_countOf 11 = .ok (.getfield 9, 3) := by decide +kernel
theorem d_Map_countOf_14 : decode c_Map_countOf 14 = .ok (.iload_n 3, 1) := by decide +kernel
theorem d_Map_countOf_15 : decode c_Map_countOf 15 = .ok (.iaload, 1) := by decide +kernel
theorem d_Map_countOf_16 : decode c_Map_countOf 16 = .ok (.iload_n 1, 1) := by decide +kernel
theorem d_Map_countOf_17 : decode c_Map_countOf 17 = .ok (.if_icmp .ne 6, 3) := by decide +kernel
theorem d_Map_countOf_20 : decode c_Map_countOf 20 = .ok (.iinc 2 1, 3) := by decide +kernel
theorem d_Map_countOf_23 : decode c_Map_countOf 23 = .ok (.iinc 3 1, 3) := by decide +kernel
theorem d_Map_countOf_26 : decode c_Map_countOf 26 = .ok (.goto (-22), 3) := by decide +kernel
theorem d_Map_countOf_29 : decode c_Map_countOf 29 = .ok (.iload_n 2, 1) := by decide +kernel
theorem d_Map_countOf_30 : decode c_Map_countOf 30 = .ok (.ireturn, 1) := by decide +kernel
abbrev c_Map_isJoined : ByteArray := prog_4_method_7_code
abbrev y_Map_isJoined : MethodName := ⟨"FleetFloor$FloorMap", "isJoined", "()Z"⟩
theorem d_Map_isJoined_0 : decode c_Map_isJoined 0 = .ok (.new 20, 3) := by decide +kernel
theorem d_Map_isJoined_3 : decode c_Map_isJoined 3 = .ok (.dup, 1) := by decide +kernel
theorem d_Map_isJoined_4 : decode c_Map_isJoined 4 = .ok (.invokespecial 29, 3) := by decide +kernel
theorem d_Map_isJoined_7 : decode c_Map_isJoined 7 = .ok (.astore_n 1, 1) := by decide +kernel
theorem d_Map_isJoined_8 : decode c_Map_isJoined 8 = .ok (.aload_n 0, 1) := by decide +kernel
theorem d_Map_isJoined_9 : decode c_Map_isJoined 9 = .ok (.iconst 1, 1) := by decide +kernel
theorem d_Map_isJoined_10 : decode c_Map_isJoined 10 = .ok (.aload_n 1, 1) := by decide +kernel
theorem d_Map_isJoined_11 : decode c_Map_isJoined 11 = .ok (.invokevirtual 30, 3) := by decide +kernel
theorem d_Map_isJoined_14 : decode c_Map_isJoined 14 = .ok (.new 20, 3) := by decide +kernel
theorem d_Map_isJoined_17 : decode c_Map_isJoined 17 = .ok (.dup, 1) := by decide +kernel
theorem d_Map_isJoined_18 : decode c_Map_isJoined 18 = .ok (.invokespecial 29, 3) := by decide +kernel
theorem d_Map_isJoined_21 : decode c_Map_isJoined 21 = .ok (.astore_n 2, 1) := by decide +kernel
theorem d_Map_isJoined_22 : decode c_Map_isJoined 22 = .ok (.aload_n 0, 1) := by decide +kernel
theorem d_Map_isJoined_23 : decode c_Map_isJoined 23 = .ok (.iconst 2, 1) := by decide +kernel
theorem d_Map_isJoined_24 : decode c_Map_isJoined 24 = .ok (.aload_n 2, 1) := by decide +kernel
theorem d_Map_isJoined_25 : decode c_Map_isJoined 25 = .ok (.invokevirtual 30, 3) := by decide +kernel
theorem d_Map_isJoined_28 : decode c_Map_isJoined 28 = .ok (.aload_n 0, 1) := by decide +kernel
theorem d_Map_isJoined_29 : decode c_Map_isJoined 29 = .ok (.iconst 3, 1) := by decide +kernel
theorem d_Map_isJoined_30 : decode c_Map_isJoined 30 = .ok (.aload_n 2, 1) := by decide +kernel
theorem d_Map_isJoined_31 : decode c_Map_isJoined 31 = .ok (.invokevirtual 30, 3) := by decide +kernel
theorem d_Map_isJoined_34 : decode c_Map_isJoined 34 = .ok (.iconst 0, 1) := by decide +kernel
theorem d_Map_isJoined_35 : decode c_Map_isJoined 35 = .ok (.istore_n 3, 1) := by decide +kernel
theorem d_Map_isJoined_36 : decode c_Map_isJoined 36 = .ok (.iload_n 3, 1) := by decide +kernel
theorem d_Map_isJoined_37 : decode c_Map_isJoined 37 = .ok (.bipush 96, 2) := by decide +kernel
theorem d_Map_isJoined_39 : decode c_Map_isJoined 39 = .ok (.if_icmp .ge 28, 3) := by decide +kernel
theorem d_Map_isJoined_42 : decode c_Map_isJoined 42 = .ok (.aload_n 2, 1) := by decide +kernel
theorem d_Map_isJoined_43 : decode c_Map_isJoined 43 = .ok (.iload_n 3, 1) := by decide +kernel
theorem d_Map_isJoined_44 : decode c_Map_isJoined 44 = .ok (.invokevirtual 34, 3) := by decide +kernel
theorem d_Map_isJoined_47 : decode c_Map_isJoined 47 = .ok (.ifCond .eq 14, 3) := by decide +kernel
theorem d_Map_isJoined_50 : decode c_Map_isJoined 50 = .ok (.iload_n 3, 1) := by decide +kernel
theorem d_Map_isJoined_51 : decode c_Map_isJoined 51 = .ok (.aload_n 1, 1) := by decide +kernel
theorem d_Map_isJoined_52 : decode c_Map_isJoined 52 = .ok (.aload_n 2, 1) := by decide +kernel
theorem d_Map_isJoined_53 : decode c_Map_isJoined 53 = .ok (.invokestatic 38, 3) := by decide +kernel
theorem d_Map_isJoined_56 : decode c_Map_isJoined 56 = .ok (.ifCond .ne 5, 3) := by decide +kernel
theorem d_Map_isJoined_59 : decode c_Map_isJoined 59 = .ok (.iconst 0, 1) := by decide +kernel
theorem d_Map_isJoined_60 : decode c_Map_isJoined 60 = .ok (.ireturn, 1) := by decide +kernel
theorem d_Map_isJoined_61 : decode c_Map_isJoined 61 = .ok (.iinc 3 1, 3) := by decide +kernel
theorem d_Map_isJoined_64 : decode c_Map_isJoined 64 = .ok (.goto (-28), 3) := by decide +kernel
theorem d_Map_isJoined_67 : decode c_Map_isJoined 67 = .ok (.iconst 1, 1) := by decide +kernel
theorem d_Map_isJoined_68 : decode c_Map_isJoined 68 = .ok (.ireturn, 1) := by decide +kernel
abbrev c_Map_reachesAll : ByteArray := prog_4_method_8_code
abbrev y_Map_reachesAll : MethodName := ⟨"FleetFloor$FloorMap", "reachesAll", "(ILFleetFloor$Cells;LFleetFloor$Cells;)Z"⟩
theorem d_Map_reachesAll_0 : decode c_Map_reachesAll 0 = .ok (.new 20, 3) := by decide +kernel
theorem d_Map_reachesAll_3 : decode c_Map_reachesAll 3 = .ok (.dup, 1) := by decide +kernel
theorem d_Map_reachesAll_4 : decode c_Map_reachesAll 4 = .ok (.invokespecial 29, 3) := by decide +kernel
theorem d_Map_reachesAll_7 : decode c_Map_reachesAll 7 = .ok (.astore_n 3, 1) := by decide +kernel
theorem d_Map_reachesAll_8 : decode c_Map_reachesAll 8 = .ok (.aload_n 3, 1) := by decide +kernel
theorem d_Map_reachesAll_9 : decode c_Map_reachesAll 9 = .ok (.iload_n 0, 1) := by decide +kernel
theorem d_Map_reachesAll_10 : decode c_Map_reachesAll 10 = .ok (.invokevirtual 19, 3) := by decide +kernel
theorem d_Map_reachesAll_13 : decode c_Map_reachesAll 13 = .ok (.new 20, 3) := by decide +kernel
theorem d_Map_reachesAll_16 : decode c_Map_reachesAll 16 = .ok (.dup, 1) := by decide +kernel
theorem d_Map_reachesAll_17 : decode c_Map_reachesAll 17 = .ok (.invokespecial 29, 3) := by decide +kernel
theorem d_Map_reachesAll_20 : decode c_Map_reachesAll 20 = .ok (.astore 4, 2) := by decide +kernel
theorem d_Map_reachesAll_22 : decode c_Map_reachesAll 22 = .ok (.iconst 0, 1) := by decide +kernel
theorem d_Map_reachesAll_23 : decode c_Map_reachesAll 23 = .ok (.istore 5, 2) := by decide +kernel
theorem d_Map_reachesAll_25 : decode c_Map_reachesAll 25 = .ok (.iload 5, 2) := by decide +kernel
theorem d_Map_reachesAll_27 : decode c_Map_reachesAll 27 = .ok (.bipush 96, 2) := by decide +kernel
theorem d_Map_reachesAll_29 : decode c_Map_reachesAll 29 = .ok (.if_icmp .ge 55, 3) := by decide +kernel
theorem d_Map_reachesAll_32 : decode c_Map_reachesAll 32 = .ok (.aload 4, 2) := by decide +kernel
theorem d_Map_reachesAll_34 : decode c_Map_reachesAll 34 = .ok (.aload_n 3, 1) := by decide +kernel
theorem d_Map_reachesAll_35 : decode c_Map_reachesAll 35 = .ok (.invokevirtual 42, 3) := by decide +kernel
theorem d_Map_reachesAll_38 : decode c_Map_reachesAll 38 = .ok (.aload 4, 2) := by decide +kernel
theorem d_Map_reachesAll_40 : decode c_Map_reachesAll 40 = .ok (.iload_n 0, 1) := by decide +kernel
theorem d_Map_reachesAll_41 : decode c_Map_reachesAll 41 = .ok (.invokevirtual 19, 3) := by decide +kernel
theorem d_Map_reachesAll_44 : decode c_Map_reachesAll 44 = .ok (.aload 4, 2) := by decide +kernel
theorem d_Map_reachesAll_46 : decode c_Map_reachesAll 46 = .ok (.aload_n 2, 1) := by decide +kernel
theorem d_Map_reachesAll_47 : decode c_Map_reachesAll 47 = .ok (.invokevirtual 46, 3) := by decide +kernel
theorem d_Map_reachesAll_50 : decode c_Map_reachesAll 50 = .ok (.ifCond .eq 5, 3) := by decide +kernel
theorem d_Map_reachesAll_53 : decode c_Map_reachesAll 53 = .ok (.iconst 1, 1) := by decide +kernel
theorem d_Map_reachesAll_54 : decode c_Map_reachesAll 54 = .ok (.ireturn, 1) := by decide +kernel
theorem d_Map_reachesAll_55 : decode c_Map_reachesAll 55 = .ok (.aload 4, 2) := by decide +kernel
theorem d_Map_reachesAll_57 : decode c_Map_reachesAll 57 = .ok (.aload_n 1, 1) := by decide +kernel
theorem d_Map_reachesAll_58 : decode c_Map_reachesAll 58 = .ok (.invokevirtual 50, 3) := by decide +kernel
theorem d_Map_reachesAll_61 : decode c_Map_reachesAll 61 = .ok (.aload_n 3, 1) := by decide +kernel
theorem d_Map_reachesAll_62 : decode c_Map_reachesAll 62 = .ok (.aload 4, 2) := by decide +kernel
theorem d_Map_reachesAll_64 : decode c_Map_reachesAll 64 = .ok (.invokevirtual 46, 3) := by decide +kernel
theorem d_Map_reachesAll_67 : decode c_Map_reachesAll 67 = .ok (.ifCond .eq 5, 3) := by decide +kernel
theorem d_Map_reachesAll_70 : decode c_Map_reachesAll 70 = .ok (.iconst 0, 1) := by decide +kernel
theorem d_Map_reachesAll_71 : decode c_Map_reachesAll 71 = .ok (.ireturn, 1) := by decide +kernel
theorem d_Map_reachesAll_72 : decode c_Map_reachesAll 72 = .ok (.aload_n 3, 1) := by decide +kernel
theorem d_Map_reachesAll_73 : decode c_Map_reachesAll 73 = .ok (.aload 4, 2) := by decide +kernel
theorem d_Map_reachesAll_75 : decode c_Map_reachesAll 75 = .ok (.invokevirtual 53, 3) := by decide +kernel
theorem d_Map_reachesAll_78 : decode c_Map_reachesAll 78 = .ok (.iinc 5 1, 3) := by decide +kernel
theorem d_Map_reachesAll_81 : decode c_Map_reachesAll 81 = .ok (.goto (-56), 3) := by decide +kernel
theorem d_Map_reachesAll_84 : decode c_Map_reachesAll 84 = .ok (.iconst 0, 1) := by decide +kernel
theorem d_Map_reachesAll_85 : decode c_Map_reachesAll 85 = .ok (.ireturn, 1) := by decide +kernel
abbrev c_Let_init : ByteArray := prog_5_method_1_code
abbrev y_Let_init : MethodName := ⟨"FleetFloor$Letter", "<init>", "(III)V"⟩
theorem d_Let_init_0 : decode c_Let_init 0 = .ok (.aload_n 0, 1) := by decide +kernel
theorem d_Let_init_1 : decode c_Let_init 1 = .ok (.invokespecial 1, 3) := by decide +kernel
theorem d_Let_init_4 : decode c_Let_init 4 = .ok (.aload_n 0, 1) := by decide +kernel
theorem d_Let_init_5 : decode c_Let_init 5 = .ok (.iload_n 1, 1) := by decide +kernel
theorem d_Let_init_6 : decode c_Let_init 6 = .ok (.putfield 7, 3) := by decide +kernel
theorem d_Let_init_9 : decode c_Let_init 9 = .ok (.aload_n 0, 1) := by decide +kernel
theorem d_Let_init_10 : decode c_Let_init 10 = .ok (.iload_n 2, 1) := by decide +kernel
theorem d_Let_init_11 : decode c_Let_init 11 = .ok (.putfield 13, 3) := by decide +kernel
theorem d_Let_init_14 : decode c_Let_init 14 = .ok (.aload_n 0, 1) := by decide +kernel
theorem d_Let_init_15 : decode c_Let_init 15 = .ok (.iload_n 3, 1) := by decide +kernel
theorem d_Let_init_16 : decode c_Let_init 16 = .ok (.putfield 16, 3) := by decide +kernel
theorem d_Let_init_19 : decode c_Let_init 19 = .ok (.return_, 1) := by decide +kernel
abbrev c_Let_kind : ByteArray := prog_5_method_5_code
abbrev y_Let_kind : MethodName := ⟨"FleetFloor$Letter", "kind", "()I"⟩
theorem d_Let_kind_0 : decode c_Let_kind 0 = .ok (.aload_n 0, 1) := by decide +kernel
theorem d_Let_kind_1 : decode c_Let_kind 1 = .ok (.getfield 7, 3) := by decide +kernel
theorem d_Let_kind_4 : decode c_Let_kind 4 = .ok (.ireturn, 1) := by decide +kernel
abbrev c_Let_owner : ByteArray := prog_5_method_6_code
abbrev y_Let_owner : MethodName := ⟨"FleetFloor$Letter", "owner", "()I"⟩
theorem d_Let_owner_0 : decode c_Let_owner 0 = .ok (.aload_n 0, 1) := by decide +kernel
theorem d_Let_owner_1 : decode c_Let_owner 1 = .ok (.getfield 13, 3) := by decide +kernel
theorem d_Let_owner_4 : decode c_Let_owner 4 = .ok (.ireturn, 1) := by decide +kernel
abbrev c_Let_number : ByteArray := prog_5_method_7_code
abbrev y_Let_number : MethodName := ⟨"FleetFloor$Letter", "number", "()I"⟩
theorem d_Let_number_0 : decode c_Let_number 0 = .ok (.aload_n 0, 1) := by decide +kernel
theorem d_Let_number_1 : decode c_Let_number 1 = .ok (.getfield 16, 3) := by decide +kernel
theorem d_Let_number_4 : decode c_Let_number 4 = .ok (.ireturn, 1) := by decide +kernel
abbrev c_Mov_init : ByteArray := prog_6_method_1_code
abbrev y_Mov_init : MethodName := ⟨"FleetFloor$Move", "<init>", "(II)V"⟩
theorem d_Mov_init_0 : decode c_Mov_init 0 = .ok (.aload_n 0, 1) := by decide +kernel
theorem d_Mov_init_1 : decode c_Mov_init 1 = .ok (.invokespecial 1, 3) := by decide +kernel
theorem d_Mov_init_4 : decode c_Mov_init 4 = .ok (.aload_n 0, 1) := by decide +kernel
theorem d_Mov_init_5 : decode c_Mov_init 5 = .ok (.iload_n 1, 1) := by decide +kernel
theorem d_Mov_init_6 : decode c_Mov_init 6 = .ok (.putfield 7, 3) := by decide +kernel
theorem d_Mov_init_9 : decode c_Mov_init 9 = .ok (.aload_n 0, 1) := by decide +kernel
theorem d_Mov_init_10 : decode c_Mov_init 10 = .ok (.iload_n 2, 1) := by decide +kernel
theorem d_Mov_init_11 : decode c_Mov_init 11 = .ok (.putfield 13, 3) := by decide +kernel
theorem d_Mov_init_14 : decode c_Mov_init 14 = .ok (.return_, 1) := by decide +kernel
abbrev c_Mov_place : ByteArray := prog_6_method_5_code
abbrev y_Mov_place : MethodName := ⟨"FleetFloor$Move", "place", "()I"⟩
theorem d_Mov_place_0 : decode c_Mov_place 0 = .ok (.aload_n 0, 1) := by decide +kernel
theorem d_Mov_place_1 : decode c_Mov_place 1 = .ok (.getfield 7, 3) := by decide +kernel
theorem d_Mov_place_4 : decode c_Mov_place 4 = .ok (.ireturn, 1) := by decide +kernel
abbrev c_Mov_time : ByteArray := prog_6_method_6_code
abbrev y_Mov_time : MethodName := ⟨"FleetFloor$Move", "time", "()I"⟩
theorem d_Mov_time_0 : decode c_Mov_time 0 = .ok (.aload_n 0, 1) := by decide +kernel
theorem d_Mov_time_1 : decode c_Mov_time 1 = .ok (.getfield 13, 3) := by decide +kernel
theorem d_Mov_time_4 : decode c_Mov_time 4 = .ok (.ireturn, 1) := by decide +kernel
abbrev c_Tsk_init : ByteArray := prog_8_method_1_code
abbrev y_Tsk_init : MethodName := ⟨"FleetFloor$Task", "<init>", "(II)V"⟩
theorem d_Tsk_init_0 : decode c_Tsk_init 0 = .ok (.aload_n 0, 1) := by decide +kernel
theorem d_Tsk_init_1 : decode c_Tsk_init 1 = .ok (.invokespecial 3, 3) := by decide +kernel
theorem d_Tsk_init_4 : decode c_Tsk_init 4 = .ok (.aload_n 0, 1) := by decide +kernel
theorem d_Tsk_init_5 : decode c_Tsk_init 5 = .ok (.iload_n 1, 1) := by decide +kernel
theorem d_Tsk_init_6 : decode c_Tsk_init 6 = .ok (.putfield 9, 3) := by decide +kernel
theorem d_Tsk_init_9 : decode c_Tsk_init 9 = .ok (.aload_n 0, 1) := by decide +kernel
theorem d_Tsk_init_10 : decode c_Tsk_init 10 = .ok (.iload_n 2, 1) := by decide +kernel
theorem d_Tsk_init_11 : decode c_Tsk_init 11 = .ok (.putfield 15, 3) := by decide +kernel
theorem d_Tsk_init_14 : decode c_Tsk_init 14 = .ok (.aload_n 0, 1) := by decide +kernel
theorem d_Tsk_init_15 : decode c_Tsk_init 15 = .ok (.iconst (-1), 1) := by decide +kernel
theorem d_Tsk_init_16 : decode c_Tsk_init 16 = .ok (.putfield 18, 3) := by decide +kernel
theorem d_Tsk_init_19 : decode c_Tsk_init 19 = .ok (.aload_n 0, 1) := by decide +kernel
theorem d_Tsk_init_20 : decode c_Tsk_init 20 = .ok (.iconst (-1), 1) := by decide +kernel
theorem d_Tsk_init_21 : decode c_Tsk_init 21 = .ok (.putfield 21, 3) := by decide +kernel
theorem d_Tsk_init_24 : decode c_Tsk_init 24 = .ok (.return_, 1) := by decide +kernel
abbrev c_Veh_init : ByteArray := prog_9_method_1_code
abbrev y_Veh_init : MethodName := ⟨"FleetFloor$Vehicle", "<init>", "(II)V"⟩
theorem d_Veh_init_0 : decode c_Veh_init 0 = .ok (.aload_n 0, 1) := by decide +kernel
theorem d_Veh_init_1 : decode c_Veh_init 1 = .ok (.invokespecial 3, 3) := by decide +kernel
theorem d_Veh_init_4 : decode c_Veh_init 4 = .ok (.aload_n 0, 1) := by decide +kernel
theorem d_Veh_init_5 : decode c_Veh_init 5 = .ok (.iload_n 1, 1) := by decide +kernel
theorem d_Veh_init_6 : decode c_Veh_init 6 = .ok (.putfield 9, 3) := by decide +kernel
theorem d_Veh_init_9 : decode c_Veh_init 9 = .ok (.aload_n 0, 1) := by decide +kernel
theorem d_Veh_init_10 : decode c_Veh_init 10 = .ok (.iload_n 2, 1) := by decide +kernel
theorem d_Veh_init_11 : decode c_Veh_init 11 = .ok (.putfield 15, 3) := by decide +kernel
theorem d_Veh_init_14 : decode c_Veh_init 14 = .ok (.aload_n 0, 1) := by decide +kernel
theorem d_Veh_init_15 : decode c_Veh_init 15 = .ok (.new 18, 3) := by decide +kernel
theorem d_Veh_init_18 : decode c_Veh_init 18 = .ok (.dup, 1) := by decide +kernel
theorem d_Veh_init_19 : decode c_Veh_init 19 = .ok (.invokespecial 20, 3) := by decide +kernel
theorem d_Veh_init_22 : decode c_Veh_init 22 = .ok (.putfield 21, 3) := by decide +kernel
theorem d_Veh_init_25 : decode c_Veh_init 25 = .ok (.aload_n 0, 1) := by decide +kernel
theorem d_Veh_init_26 : decode c_Veh_init 26 = .ok (.iconst 0, 1) := by decide +kernel
theorem d_Veh_init_27 : decode c_Veh_init 27 = .ok (.putfield 25, 3) := by decide +kernel
theorem d_Veh_init_30 : decode c_Veh_init 30 = .ok (.aload_n 0, 1) := by decide +kernel
theorem d_Veh_init_31 : decode c_Veh_init 31 = .ok (.iconst 0, 1) := by decide +kernel
theorem d_Veh_init_32 : decode c_Veh_init 32 = .ok (.putfield 28, 3) := by decide +kernel
theorem d_Veh_init_35 : decode c_Veh_init 35 = .ok (.aload_n 0, 1) := by decide +kernel
theorem d_Veh_init_36 : decode c_Veh_init 36 = .ok (.iconst 0, 1) := by decide +kernel
theorem d_Veh_init_37 : decode c_Veh_init 37 = .ok (.putfield 31, 3) := by decide +kernel
theorem d_Veh_init_40 : decode c_Veh_init 40 = .ok (.aload_n 0, 1) := by decide +kernel
theorem d_Veh_init_41 : decode c_Veh_init 41 = .ok (.iconst 0, 1) := by decide +kernel
theorem d_Veh_init_42 : decode c_Veh_init 42 = .ok (.putfield 34, 3) := by decide +kernel
theorem d_Veh_init_45 : decode c_Veh_init 45 = .ok (.aload_n 0, 1) := by decide +kernel
theorem d_Veh_init_46 : decode c_Veh_init 46 = .ok (.iconst (-1), 1) := by decide +kernel
theorem d_Veh_init_47 : decode c_Veh_init 47 = .ok (.putfield 37, 3) := by decide +kernel
theorem d_Veh_init_50 : decode c_Veh_init 50 = .ok (.aload_n 0, 1) := by decide +kernel
theorem d_Veh_init_51 : decode c_Veh_init 51 = .ok (.iconst (-1), 1) := by decide +kernel
theorem d_Veh_init_52 : decode c_Veh_init 52 = .ok (.putfield 40, 3) := by decide +kernel
theorem d_Veh_init_55 : decode c_Veh_init 55 = .ok (.aload_n 0, 1) := by decide +kernel
theorem d_Veh_init_56 : decode c_Veh_init 56 = .ok (.iconst 0, 1) := by decide +kernel
theorem d_Veh_init_57 : decode c_Veh_init 57 = .ok (.putfield 43, 3) := by decide +kernel
theorem d_Veh_init_60 : decode c_Veh_init 60 = .ok (.return_, 1) := by decide +kernel
abbrev c_Veh_isIdle : ByteArray := prog_9_method_2_code
abbrev y_Veh_isIdle : MethodName := ⟨"FleetFloor$Vehicle", "isIdle", "()Z"⟩
theorem d_Veh_isIdle_0 : decode c_Veh_isIdle 0 = .ok (.aload_n 0, 1) := by decide +kernel
theorem d_Veh_isIdle_1 : decode c_Veh_isIdle 1 = .ok (.getfield 31, 3) := by decide +kernel
theorem d_Veh_isIdle_4 : decode c_Veh_isIdle 4 = .ok (.aload_n 0, 1) := by decide +kernel
theorem d_Veh_isIdle_5 : decode c_Veh_isIdle 5 = .ok (.getfield 21, 3) := by decide +kernel
theorem d_Veh_isIdle_8 : decode c_Veh_isIdle 8 = .ok (.invokevirtual 47, 3) := by decide +kernel
theorem d_Veh_isIdle_11 : decode c_Veh_isIdle 11 = .ok (.if_icmp .ne 7, 3) := by decide +kernel
theorem d_Veh_isIdle_14 : decode c_Veh_isIdle 14 = .ok (.iconst 1, 1) := by decide +kernel
theorem d_Veh_isIdle_15 : decode c_Veh_isIdle 15 = .ok (.goto 4, 3) := by decide +kernel
theorem d_Veh_isIdle_18 : decode c_Veh_isIdle 18 = .ok (.iconst 0, 1) := by decide +kernel
theorem d_Veh_isIdle_19 : decode c_Veh_isIdle 19 = .ok (.ireturn, 1) := by decide +kernel
abbrev c_Veh_canMove : ByteArray := prog_9_method_3_code
abbrev y_Veh_canMove : MethodName := ⟨"FleetFloor$Vehicle", "canMove", "()Z"⟩
theorem d_Veh_canMove_0 : decode c_Veh_canMove 0 = .ok (.aload_n 0, 1) := by decide +kernel
theorem d_Veh_canMove_1 : decode c_Veh_canMove 1 = .ok (.getfield 25, 3) := by decide +kernel
theorem d_Veh_canMove_4 : decode c_Veh_canMove 4 = .ok (.aload_n 0, 1) := by decide +kernel
theorem d_Veh_canMove_5 : decode c_Veh_canMove 5 = .ok (.getfield 28, 3) := by decide +kernel
theorem d_Veh_canMove_8 : decode c_Veh_canMove 8 = .ok (.if_icmp .ge 21, 3) := by decide +kernel
theorem d_Veh_canMove_11 : decode c_Veh_canMove 11 = .ok (.aload_n 0, 1) := by decide +kernel
theorem d_Veh_canMove_12 : decode c_Veh_canMove 12 = .ok (.getfield 25, 3) := by decide +kernel
theorem d_Veh_canMove_15 : decode c_Veh_canMove 15 = .ok (.aload_n 0, 1) := by decide +kernel
theorem d_Veh_canMove_16 : decode c_Veh_canMove 16 = .ok (.getfield 21, 3) := by decide +kernel
theorem d_Veh_canMove_19 : decode c_Veh_canMove 19 = .ok (.invokevirtual 47, 3) := by decide +kernel
theorem d_Veh_canMove_22 : decode c_Veh_canMove 22 = .ok (.if_icmp .ge 7, 3) := by decide +kernel
theorem d_Veh_canMove_25 : decode c_Veh_canMove 25 = .ok (.iconst 1, 1) := by decide +kernel
theorem d_Veh_canMove_26 : decode c_Veh_canMove 26 = .ok (.goto 4, 3) := by decide +kernel
theorem d_Veh_canMove_29 : decode c_Veh_canMove 29 = .ok (.iconst 0, 1) := by decide +kernel
theorem d_Veh_canMove_30 : decode c_Veh_canMove 30 = .ok (.ireturn, 1) := by decide +kernel
abbrev c_Veh_placeAfter : ByteArray := prog_9_method_4_code
abbrev y_Veh_placeAfter : MethodName := ⟨"FleetFloor$Vehicle", "placeAfter", "(I)I"⟩
theorem d_Veh_placeAfter_0 : decode c_Veh_placeAfter 0 = .ok (.iload_n 1, 1) := by decide +kernel
theorem d_Veh_placeAfter_1 : decode c_Veh_placeAfter 1 = .ok (.iconst 1, 1) := by decide +kernel
theorem d_Veh_placeAfter_2 : decode c_Veh_placeAfter 2 = .ok (.if_icmp .lt 33, 3) := by decide +kernel
theorem d_Veh_placeAfter_5 : decode c_Veh_placeAfter 5 = .ok (.iload_n 1, 1) := by decide +kernel
theorem d_Veh_placeAfter_6 : decode c_Veh_placeAfter 6 = .ok (.aload_n 0, 1) := by decide +kernel
theorem d_Veh_placeAfter_7 : decode c_Veh_placeAfter 7 = .ok (.getfield 21, 3) := by decide +kernel
theorem d_Veh_placeAfter_10 : decode c_Veh_placeAfter 10 = .ok (.invokevirtual 47, 3) := by decide +kernel
theorem d_Veh_placeAfter_13 : decode c_Veh_placeAfter 13 = .ok (.if_icmp .gt 22, 3) := by decide +kernel
theorem d_Veh_placeAfter_16 : decode c_Veh_placeAfter 16 = .ok (.aload_n 0, 1) := by decide +kernel
theorem d_Veh_placeAfter_17 : decode c_Veh_placeAfter 17 = .ok (.getfield 21, 3) := by decide +kernel
theorem d_Veh_placeAfter_20 : decode c_Veh_placeAfter 20 = .ok (.iload_n 1, 1) := by decide +kernel
theorem d_Veh_placeAfter_21 : decode c_Veh_placeAfter 21 = .ok (.iconst 1, 1) := by decide +kernel
theorem d_Veh_placeAfter_22 : decode c_Veh_placeAfter 22 = .ok (.isub, 1) := by decide +kernel
theorem d_Veh_placeAfter_23 : decode c_Veh_placeAfter 23 = .ok (.invokevirtual 51, 3) := by decide +kernel
theorem d_Veh_placeAfter_26 : decode c_Veh_placeAfter 26 = .ok (.checkcast 55, 3) := by decide +kernel
theorem d_Veh_placeAfter_29 : decode c_Veh_placeAfter 29 = .ok (.invokevirtual 57, 3) := by decide +kernel
theorem d_Veh_placeAfter_32 : decode c_Veh_placeAfter 32 = .ok (.goto 7, 3) := by decide +kernel
theorem d_Veh_placeAfter_35 : decode c_Veh_placeAfter 35 = .ok (.aload_n 0, 1) := by decide +kernel
theorem d_Veh_placeAfter_36 : decode c_Veh_placeAfter 36 = .ok (.getfield 15, 3) := by decide +kernel
theorem d_Veh_placeAfter_39 : decode c_Veh_placeAfter 39 = .ok (.ireturn, 1) := by decide +kernel
abbrev c_Veh_movesUpTo : ByteArray := prog_9_method_5_code
abbrev y_Veh_movesUpTo : MethodName := ⟨"FleetFloor$Vehicle", "movesUpTo", "(I)I"⟩
theorem d_Veh_movesUpTo_0 : decode c_Veh_movesUpTo 0 = .ok (.aload_n 0, 1) := by decide +kernel
theorem d_Veh_movesUpTo_1 : decode c_Veh_movesUpTo 1 = .ok (.getfield 21, 3) := by decide +kernel
theorem d_Veh_movesUpTo_4 : decode c_Veh_movesUpTo 4 = .ok (.invokevirtual 47, 3) := by decide +kernel
theorem d_Veh_movesUpTo_7 : decode c_Veh_movesUpTo 7 = .ok (.istore_n 2, 1) := by decide +kernel
theorem d_Veh_movesUpTo_8 : decode c_Veh_movesUpTo 8 = .ok (.iload_n 2, 1) := by decide +kernel
theorem d_Veh_movesUpTo_9 : decode c_Veh_movesUpTo 9 = .ok (.ifCond .le 29, 3) := by decide +kernel
theorem d_Veh_movesUpTo_12 : decode c_Veh_movesUpTo 12 = .ok (.aload_n 0, 1) := by decide +kernel
theorem d_Veh_movesUpTo_13 : decode c_Veh_movesUpTo 13 = .ok (.getfield 21, 3) := by decide +kernel
theorem d_Veh_movesUpTo_16 : decode c_Veh_movesUpTo 16 = .ok (.iload_n 2, 1) := by decide +kernel
theorem d_Veh_movesUpTo_17 : decode c_Veh_movesUpTo 17 = .ok (.iconst 1, 1) := by decide +kernel
theorem d_Veh_movesUpTo_18 : decode c_Veh_movesUpTo 18 = .ok (.isub, 1) := by decide +kernel
theorem d_Veh_movesUpTo_19 : decode c_Veh_movesUpTo 19 = .ok (.invokevirtual 51, 3) := by decide +kernel
theorem d_Veh_movesUpTo_22 : decode c_Veh_movesUpTo 22 = .ok (.checkcast 55, 3) := by decide +kernel
theorem d_Veh_movesUpTo_25 : decode c_Veh_movesUpTo 25 = .ok (.invokevirtual 60, 3) := by decide +kernel
theorem d_Veh_movesUpTo_28 : decode c_Veh_movesUpTo 28 = .ok (.iload_n 1, 1) := by decide +kernel
theorem d_Veh_movesUpTo_29 : decode c_Veh_movesUpTo 29 = .ok (.if_icmp .le 9, 3) := by decide +kernel
theorem d_Veh_movesUpTo_32 : decode c_Veh_movesUpTo 32 = .ok (.iinc 2 (-1), 3) := by decide +kernel
theorem d_Veh_movesUpTo_35 : decode c_Veh_movesUpTo 35 = .ok (.goto (-27), 3) := by decide +kernel
theorem d_Veh_movesUpTo_38 : decode c_Veh_movesUpTo 38 = .ok (.iload_n 2, 1) := by decide +kernel
theorem d_Veh_movesUpTo_39 : decode c_Veh_movesUpTo 39 = .ok (.ireturn, 1) := by decide +kernel
abbrev c_Veh_take : ByteArray := prog_9_method_6_code
abbrev y_Veh_take : MethodName := ⟨"FleetFloor$Vehicle", "take", "(LFleetFloor$Letter;)V"⟩
theorem d_Veh_take_0 : decode c_Veh_take 0 = .ok (.aload_n 1, 1) := by decide +kernel
theorem d_Veh_take_1 : decode c_Veh_take 1 = .ok (.invokevirtual 63, 3) := by decide +kernel
theorem d_Veh_take_4 : decode c_Veh_take 4 = .ok (.ifCond .ne 21, 3) := by decide +kernel
theorem d_Veh_take_7 : decode c_Veh_take 7 = .ok (.aload_n 0, 1) := by decide +kernel
theorem d_Veh_take_8 : decode c_Veh_take 8 = .ok (.aload_n 0, 1) := by decide +kernel
theorem d_Veh_take_9 : decode c_Veh_take 9 = .ok (.getfield 28, 3) := by decide +kernel
theorem d_Veh_take_12 : decode c_Veh_take 12 = .ok (.aload_n 1, 1) := by decide +kernel
theorem d_Veh_take_13 : decode c_Veh_take 13 = .ok (.invokevirtual 68, 3) := by decide +kernel
theorem d_Veh_take_16 : decode c_Veh_take 16 = .ok (.invokestatic 70, 3) := by decide +kernel
theorem d_Veh_take_19 : decode c_Veh_take 19 = .ok (.putfield 28, 3) := by decide +kernel
theorem d_Veh_take_22 : decode c_Veh_take 22 = .ok (.goto 18, 3) := by decide +kernel
theorem d_Veh_take_25 : decode c_Veh_take 25 = .ok (.aload_n 0, 1) := by decide +kernel
theorem d_Veh_take_26 : decode c_Veh_take 26 = .ok (.aload_n 0, 1) := by decide +kernel
theorem d_Veh_take_27 : decode c_Veh_take 27 = .ok (.getfield 31, 3) := by decide +kernel
theorem d_Veh_take_30 : decode c_Veh_take 30 = .ok (.aload_n 1, 1) := by decide +kernel
theorem d_Veh_take_31 : decode c_Veh_take 31 = .ok (.invokevirtual 68, 3) := by decide +kernel
theorem d_Veh_take_34 : decode c_Veh_take 34 = .ok (.invokestatic 70, 3) := by decide +kernel
theorem d_Veh_take_37 : decode c_Veh_take 37 = .ok (.putfield 31, 3) := by decide +kernel
theorem d_Veh_take_40 : decode c_Veh_take 40 = .ok (.return_, 1) := by decide +kernel
abbrev c_Veh_comesBefore : ByteArray := prog_9_method_7_code
abbrev y_Veh_comesBefore : MethodName := ⟨"FleetFloor$Vehicle", "comesBefore", "(LFleetFloor$Move;)Z"⟩
theorem d_Veh_comesBefore_0 : decode c_Veh_comesBefore 0 = .ok (.iconst 0, 1) := by decide +kernel
theorem d_Veh_comesBefore_1 : decode c_Veh_comesBefore 1 = .ok (.aload_n 0, 1) := by decide +kernel
theorem d_Veh_comesBefore_2 : decode c_Veh_comesBefore 2 = .ok (.getfield 31, 3) := by decide +kernel
theorem d_Veh_comesBefore_5 : decode c_Veh_comesBefore 5 = .ok (.iconst 1, 1) := by decide +kernel
theorem d_Veh_comesBefore_6 : decode c_Veh_comesBefore 6 = .ok (.isub, 1) := by decide +kernel
theorem d_Veh_comesBefore_7 : decode c_Veh_comesBefore 7 = .ok (.invokestatic 70, 3) := by decide +kernel
theorem d_Veh_comesBefore_10 : decode c_Veh_comesBefore 10 = .ok (.istore_n 2, 1) := by decide +kernel
theorem d_Veh_comesBefore_11 : decode c_Veh_comesBefore 11 = .ok (.iload_n 2, 1) := by decide +kernel
theorem d_Veh_comesBefore_12 : decode c_Veh_comesBefore 12 = .ok (.aload_n 0, 1) := by decide +kernel
theorem d_Veh_comesBefore_13 : decode c_Veh_comesBefore 13 = .ok (.getfield 21, 3) := by decide +kernel
theorem d_Veh_comesBefore_16 : decode c_Veh_comesBefore 16 = .ok (.invokevirtual 47, 3) := by decide +kernel
theorem d_Veh_comesBefore_19 : decode c_Veh_comesBefore 19 = .ok (.if_icmp .ge 45, 3) := by decide +kernel
theorem d_Veh_comesBefore_22 : decode c_Veh_comesBefore 22 = .ok (.aload_n 0, 1) := by decide +kernel
theorem d_Veh_comesBefore_23 : decode c_Veh_comesBefore 23 = .ok (.getfield 21, 3) := by decide +kernel
theorem d_Veh_comesBefore_26 : decode c_Veh_comesBefore 26 = .ok (.iload_n 2, 1) := by decide +kernel
theorem d_Veh_comesBefore_27 : decode c_Veh_comesBefore 27 = .ok (.invokevirtual 51, 3) := by decide +kernel
theorem d_Veh_comesBefore_30 : decode c_Veh_comesBefore 30 = .ok (.checkcast 55, 3) := by decide +kernel
theorem d_Veh_comesBefore_33 : decode c_Veh_comesBefore 33 = .ok (.astore_n 3, 1) := by decide +kernel
theorem d_Veh_comesBefore_34 : decode c_Veh_comesBefore 34 = .ok (.aload_n 3, 1) := by decide +kernel
theorem d_Veh_comesBefore_35 : decode c_Veh_comesBefore 35 = .ok (.invokevirtual 57, 3) := by decide +kernel
theorem d_Veh_comesBefore_38 : decode c_Veh_comesBefore 38 = .ok (.aload_n 1, 1) := by decide +kernel
theorem d_Veh_comesBefore_39 : decode c_Veh_comesBefore 39 = .ok (.invokevirtual 57, 3) := by decide +kernel
theorem d_Veh_comesBefore_42 : decode c_Veh_comesBefore 42 = .ok (.if_icmp .ne 16, 3) := by decide +kernel
theorem d_Veh_comesBefore_45 : decode c_Veh_comesBefore 45 = .ok (.aload_n 3, 1) := by decide +kernel
theorem d_Veh_comesBefore_46 : decode c_Veh_comesBefore 46 = .ok (.invokevirtual 60, 3) := by decide +kernel
theorem d_Veh_comesBefore_49 : decode c_Veh_comesBefore 49 = .ok (.aload_n 1, 1) := by decide +kernel
theorem d_Veh_comesBefore_50 : decode c_Veh_comesBefore 50 = .ok (.invokevirtual 60, 3) := by decide +kernel
theorem d_Veh_comesBefore_53 : decode c_Veh_comesBefore 53 = .ok (.if_icmp .ge 5, 3) := by decide +kernel
theorem d_Veh_comesBefore_56 : decode c_Veh_comesBefore 56 = .ok (.iconst 1, 1) := by decide +kernel
theorem d_Veh_comesBefore_57 : decode c_Veh_comesBefore 57 = .ok (.ireturn, 1) := by decide +kernel
theorem d_Veh_comesBefore_58 : decode c_Veh_comesBefore 58 = .ok (.iinc 2 1, 3) := by decide +kernel
theorem d_Veh_comesBefore_61 : decode c_Veh_comesBefore 61 = .ok (.goto (-50), 3) := by decide +kernel
theorem d_Veh_comesBefore_64 : decode c_Veh_comesBefore 64 = .ok (.iconst 0, 1) := by decide +kernel
theorem d_Veh_comesBefore_65 : decode c_Veh_comesBefore 65 = .ok (.ireturn, 1) := by decide +kernel
abbrev c_Mth_max : ByteArray := prog_18_method_65_code
abbrev y_Mth_max : MethodName := ⟨"java/lang/Math", "max", "(II)I"⟩
theorem d_Mth_max_0 : decode c_Mth_max 0 = .ok (.iload_n 0, 1) := by decide +kernel
theorem d_Mth_max_1 : decode c_Mth_max 1 = .ok (.iload_n 1, 1) := by decide +kernel
theorem d_Mth_max_2 : decode c_Mth_max 2 = .ok (.if_icmp .lt 7, 3) := by decide +kernel
theorem d_Mth_max_5 : decode c_Mth_max 5 = .ok (.iload_n 0, 1) := by decide +kernel
theorem d_Mth_max_6 : decode c_Mth_max 6 = .ok (.goto 4, 3) := by decide +kernel
theorem d_Mth_max_9 : decode c_Mth_max 9 = .ok (.iload_n 1, 1) := by decide +kernel
theorem d_Mth_max_10 : decode c_Mth_max 10 = .ok (.ireturn, 1) := by decide +kernel
abbrev c_Mth_min : ByteArray := prog_18_method_69_code
abbrev y_Mth_min : MethodName := ⟨"java/lang/Math", "min", "(II)I"⟩
theorem d_Mth_min_0 : decode c_Mth_min 0 = .ok (.iload_n 0, 1) := by decide +kernel
theorem d_Mth_min_1 : decode c_Mth_min 1 = .ok (.iload_n 1, 1) := by decide +kernel
theorem d_Mth_min_2 : decode c_Mth_min 2 = .ok (.if_icmp .gt 7, 3) := by decide +kernel
theorem d_Mth_min_5 : decode c_Mth_min 5 = .ok (.iload_n 0, 1) := by decide +kernel
theorem d_Mth_min_6 : decode c_Mth_min 6 = .ok (.goto 4, 3) := by decide +kernel
theorem d_Mth_min_9 : decode c_Mth_min 9 = .ok (.iload_n 1, 1) := by decide +kernel
theorem d_Mth_min_10 : decode c_Mth_min 10 = .ok (.ireturn, 1) := by decide +kernel
abbrev c_Rec_init : ByteArray := prog_19_method_1_code
abbrev y_Rec_init : MethodName := ⟨"java/lang/Record", "<init>", "()V"⟩
theorem d_Rec_init_0 : decode c_Rec_init 0 = .ok (.aload_n 0, 1) := by decide +kernel
theorem d_Rec_init_1 : decode c_Rec_init 1 = .ok (.invokespecial 1, 3) := by decide +kernel
theorem d_Rec_init_4 : decode c_Rec_init 4 = .ok (.return_, 1) := by decide +kernel
abbrev c_ABC_init : ByteArray := prog_24_method_1_code
abbrev y_ABC_init : MethodName := ⟨"java/util/AbstractCollection", "<init>", "()V"⟩
theorem d_ABC_init_0 : decode c_ABC_init 0 = .ok (.aload_n 0, 1) := by decide +kernel
theorem d_ABC_init_1 : decode c_ABC_init 1 = .ok (.invokespecial 1, 3) := by decide +kernel
theorem d_ABC_init_4 : decode c_ABC_init 4 = .ok (.return_, 1) := by decide +kernel
abbrev c_ABL_init : ByteArray := prog_25_method_1_code
abbrev y_ABL_init : MethodName := ⟨"java/util/AbstractList", "<init>", "()V"⟩
theorem d_ABL_init_0 : decode c_ABL_init 0 = .ok (.aload_n 0, 1) := by decide +kernel
theorem d_ABL_init_1 : decode c_ABL_init 1 = .ok (.invokespecial 1, 3) := by decide +kernel
theorem d_ABL_init_4 : decode c_ABL_init 4 = .ok (.aload_n 0, 1) := by decide +kernel
theorem d_ABL_init_5 : decode c_ABL_init 5 = .ok (.iconst 0, 1) := by decide +kernel
theorem d_ABL_init_6 : decode c_ABL_init 6 = .ok (.putfield 7, 3) := by decide +kernel
theorem d_ABL_init_9 : decode c_ABL_init 9 = .ok (.return_, 1) := by decide +kernel
abbrev c_AL_init : ByteArray := prog_26_method_2_code
abbrev y_AL_init : MethodName := ⟨"java/util/ArrayList", "<init>", "()V"⟩
theorem d_AL_init_0 : decode c_AL_init 0 = .ok (.aload_n 0, 1) := by decide +kernel
theorem d_AL_init_1 : decode c_AL_init 1 = .ok (.invokespecial 1, 3) := by decide +kernel
theorem d_AL_init_4 : decode c_AL_init 4 = .ok (.aload_n 0, 1) := by decide +kernel
theorem d_AL_init_5 : decode c_AL_init 5 = .ok (.getstatic 39, 3) := by decide +kernel
theorem d_AL_init_8 : decode c_AL_init 8 = .ok (.putfield 9, 3) := by decide +kernel
theorem d_AL_init_11 : decode c_AL_init 11 = .ok (.return_, 1) := by decide +kernel
abbrev c_AL_add : ByteArray := prog_26_method_25_code
abbrev y_AL_add : MethodName := ⟨"java/util/ArrayList", "add", "(Ljava/lang/Object;)Z"⟩
theorem d_AL_add_0 : decode c_AL_add 0 = .ok (.aload_n 0, 1) := by decide +kernel
theorem d_AL_add_1 : decode c_AL_add 1 = .ok (.dup, 1) := by decide +kernel
theorem d_AL_add_2 : decode c_AL_add 2 = .ok (.getfield 63, 3) := by decide +kernel
theorem d_AL_add_5 : decode c_AL_add 5 = .ok (.iconst 1, 1) := by decide +kernel
theorem d_AL_add_6 : decode c_AL_add 6 = .ok (.iadd, 1) := by decide +kernel
theorem d_AL_add_7 : decode c_AL_add 7 = .ok (.putfield 63, 3) := by decide +kernel
theorem d_AL_add_10 : decode c_AL_add 10 = .ok (.aload_n 0, 1) := by decide +kernel
theorem d_AL_add_11 : decode c_AL_add 11 = .ok (.aload_n 1, 1) := by decide +kernel
theorem d_AL_add_12 : decode c_AL_add 12 = .ok (.aload_n 0, 1) := by decide +kernel
theorem d_AL_add_13 : decode c_AL_add 13 = .ok (.getfield 9, 3) := by decide +kernel
theorem d_AL_add_16 : decode c_AL_add 16 = .ok (.aload_n 0, 1) := by decide +kernel
theorem d_AL_add_17 : decode c_AL_add 17 = .ok (.getfield 48, 3) := by decide +kernel
theorem d_AL_add_20 : decode c_AL_add 20 = .ok (.invokevirtual 131, 3) := by decide +kernel
theorem d_AL_add_23 : decode c_AL_add 23 = .ok (.iconst 1, 1) := by decide +kernel
theorem d_AL_add_24 : decode c_AL_add 24 = .ok (.ireturn, 1) := by decide +kernel
abbrev c_AL_addA : ByteArray := prog_26_method_24_code
abbrev y_AL_addA : MethodName := ⟨"java/util/ArrayList", "add", "(Ljava/lang/Object;[Ljava/lang/Object;I)V"⟩
theorem d_AL_addA_0 : decode c_AL_addA 0 = .ok (.iload_n 3, 1) := by decide +kernel
theorem d_AL_addA_1 : decode c_AL_addA 1 = .ok (.aload_n 2, 1) := by decide +kernel
theorem d_AL_addA_2 : decode c_AL_addA 2 = .ok (.arraylength, 1) := by decide +kernel
theorem d_AL_addA_3 : decode c_AL_addA 3 = .ok (.if_icmp .ne 8, 3) := by decide +kernel
theorem d_AL_addA_6 : decode c_AL_addA 6 = .ok (.aload_n 0, 1) := by decide +kernel
theorem d_AL_addA_7 : decode c_AL_addA 7 = .ok (.invokevirtual 129, 3) := by decide +kernel
theorem d_AL_addA_10 : decode c_AL_addA 10 = .ok (.astore_n 2, 1) := by decide +kernel
theorem d_AL_addA_11 : decode c_AL_addA 11 = .ok (.aload_n 2, 1) := by decide +kernel
theorem d_AL_addA_12 : decode c_AL_addA 12 = .ok (.iload_n 3, 1) := by decide +kernel
theorem d_AL_addA_13 : decode c_AL_addA 13 = .ok (.aload_n 1, 1) := by decide +kernel
theorem d_AL_addA_14 : decode c_AL_addA 14 = .ok (.aastore, 1) := by decide +kernel
theorem d_AL_addA_15 : decode c_AL_addA 15 = .ok (.aload_n 0, 1) := by decide +kernel
theorem d_AL_addA_16 : decode c_AL_addA 16 = .ok (.iload_n 3, 1) := by decide +kernel
theorem d_AL_addA_17 : decode c_AL_addA 17 = .ok (.iconst 1, 1) := by decide +kernel
theorem d_AL_addA_18 : decode c_AL_addA 18 = .ok (.iadd, 1) := by decide +kernel
theorem d_AL_addA_19 : decode c_AL_addA 19 = .ok (.putfield 48, 3) := by decide +kernel
theorem d_AL_addA_22 : decode c_AL_addA 22 = .ok (.return_, 1) := by decide +kernel
abbrev c_AL_elementData : ByteArray := prog_26_method_18_code
abbrev y_AL_elementData : MethodName := ⟨"java/util/ArrayList", "elementData", "(I)Ljava/lang/Object;"⟩
theorem d_AL_elementData_0 : decode c_AL_elementData 0 = .ok (.aload_n 0, 1) := by decide +kernel
theorem d_AL_elementData_1 : decode c_AL_elementData 1 = .ok (.getfield 9, 3) := by decide +kernel
theorem d_AL_elementData_4 : decode c_AL_elementData 4 = .ok (.iload_n 1, 1) := by decide +kernel
theorem d_AL_elementData_5 : decode c_AL_elementData 5 = .ok (.aaload, 1) := by decide +kernel
theorem d_AL_elementData_6 : decode c_AL_elementData 6 = .ok (.areturn, 1) := by decide +kernel
abbrev c_AL_fastRemove : ByteArray := prog_26_method_39_code
abbrev y_AL_fastRemove : MethodName := ⟨"java/util/ArrayList", "fastRemove", "([Ljava/lang/Object;I)V"⟩
theorem d_AL_fastRemove_0 : decode c_AL_fastRemove 0 = .ok (.aload_n 0, 1) := by decide +kernel
theorem d_AL_fastRemove_1 : decode c_AL_fastRemove 1 = .ok (.dup, 1) := by decide +kernel
theorem d_AL_fastRemove_2 : decode c_AL_fastRemove 2 = .ok (.getfield 63, 3) := by decide +kernel
theorem d_AL_fastRemove_5 : decode c_AL_fastRemove 5 = .ok (.iconst 1, 1) := by decide +kernel
theorem d_AL_fastRemove_6 : decode c_AL_fastRemove 6 = .ok (.iadd, 1) := by decide +kernel
theorem d_AL_fastRemove_7 : decode c_AL_fastRemove 7 = .ok (.putfield 63, 3) := by decide +kernel
theorem d_AL_fastRemove_10 : decode c_AL_fastRemove 10 = .ok (.aload_n 0, 1) := by decide +kernel
theorem d_AL_fastRemove_11 : decode c_AL_fastRemove 11 = .ok (.getfield 48, 3) := by decide +kernel
theorem d_AL_fastRemove_14 : decode c_AL_fastRemove 14 = .ok (.iconst 1, 1) := by decide +kernel
theorem d_AL_fastRemove_15 : decode c_AL_fastRemove 15 = .ok (.isub, 1) := by decide +kernel
theorem d_AL_fastRemove_16 : decode c_AL_fastRemove 16 = .ok (.dup, 1) := by decide +kernel
theorem d_AL_fastRemove_17 : decode c_AL_fastRemove 17 = .ok (.istore_n 3, 1) := by decide +kernel
theorem d_AL_fastRemove_18 : decode c_AL_fastRemove 18 = .ok (.iload_n 2, 1) := by decide +kernel
theorem d_AL_fastRemove_19 : decode c_AL_fastRemove 19 = .ok (.if_icmp .le 15, 3) := by decide +kernel
theorem d_AL_fastRemove_22 : decode c_AL_fastRemove 22 = .ok (.aload_n 1, 1) := by decide +kernel
theorem d_AL_fastRemove_23 : decode c_AL_fastRemove 23 = .ok (.iload_n 2, 1) := by decide +kernel
theorem d_AL_fastRemove_24 : decode c_AL_fastRemove 24 = .ok (.iconst 1, 1) := by decide +kernel
theorem d_AL_fastRemove_25 : decode c_AL_fastRemove 25 = .ok (.iadd, 1) := by decide +kernel
theorem d_AL_fastRemove_26 : decode c_AL_fastRemove 26 = .ok (.aload_n 1, 1) := by decide +kernel
theorem d_AL_fastRemove_27 : decode c_AL_fastRemove 27 = .ok (.iload_n 2, 1) := by decide +kernel
theorem d_AL_fastRemove_28 : decode c_AL_fastRemove 28 = .ok (.iload_n 3, 1) := by decide +kernel
theorem d_AL_fastRemove_29 : decode c_AL_fastRemove 29 = .ok (.iload_n 2, 1) := by decide +kernel
theorem d_AL_fastRemove_30 : decode c_AL_fastRemove 30 = .ok (.isub, 1) := by decide +kernel
theorem d_AL_fastRemove_31 : decode c_AL_fastRemove 31 = .ok (.invokestatic 112, 3) := by decide +kernel
theorem d_AL_fastRemove_34 : decode c_AL_fastRemove 34 = .ok (.aload_n 1, 1) := by decide +kernel
theorem d_AL_fastRemove_35 : decode c_AL_fastRemove 35 = .ok (.aload_n 0, 1) := by decide +kernel
theorem d_AL_fastRemove_36 : decode c_AL_fastRemove 36 = .ok (.iload_n 3, 1) := by decide +kernel
theorem d_AL_fastRemove_37 : decode c_AL_fastRemove 37 = .ok (.dup_x1, 1) := by decide +kernel
theorem d_AL_fastRemove_38 : decode c_AL_fastRemove 38 = .ok (.putfield 48, 3) := by decide +kernel
theorem d_AL_fastRemove_41 : decode c_AL_fastRemove 41 = .ok (.aconst_null, 1) := by decide +kernel
theorem d_AL_fastRemove_42 : decode c_AL_fastRemove 42 = .ok (.aastore, 1) := by decide +kernel
theorem d_AL_fastRemove_43 : decode c_AL_fastRemove 43 = .ok (.return_, 1) := by decide +kernel
abbrev c_AL_get : ByteArray := prog_26_method_20_code
abbrev y_AL_get : MethodName := ⟨"java/util/ArrayList", "get", "(I)Ljava/lang/Object;"⟩
theorem d_AL_get_0 : decode c_AL_get 0 = .ok (.iload_n 1, 1) := by decide +kernel
theorem d_AL_get_1 : decode c_AL_get 1 = .ok (.aload_n 0, 1) := by decide +kernel
theorem d_AL_get_2 : decode c_AL_get 2 = .ok (.getfield 48, 3) := by decide +kernel
theorem d_AL_get_5 : decode c_AL_get 5 = .ok (.invokestatic 118, 3) := by decide +kernel
theorem d_AL_get_8 : decode c_AL_get 8 = .ok (.pop, 1) := by decide +kernel
theorem d_AL_get_9 : decode c_AL_get 9 = .ok (.aload_n 0, 1) := by decide +kernel
theorem d_AL_get_10 : decode c_AL_get 10 = .ok (.iload_n 1, 1) := by decide +kernel
theorem d_AL_get_11 : decode c_AL_get 11 = .ok (.invokevirtual 123, 3) := by decide +kernel
theorem d_AL_get_14 : decode c_AL_get 14 = .ok (.areturn, 1) := by decide +kernel
abbrev c_AL_grow0 : ByteArray := prog_26_method_7_code
abbrev y_AL_grow0 : MethodName := ⟨"java/util/ArrayList", "grow", "()[Ljava/lang/Object;"⟩
theorem d_AL_grow0_0 : decode c_AL_grow0 0 = .ok (.aload_n 0, 1) := by decide +kernel
theorem d_AL_grow0_1 : decode c_AL_grow0 1 = .ok (.aload_n 0, 1) := by decide +kernel
theorem d_AL_grow0_2 : decode c_AL_grow0 2 = .ok (.getfield 48, 3) := by decide +kernel
theorem d_AL_grow0_5 : decode c_AL_grow0 5 = .ok (.iconst 1, 1) := by decide +kernel
theorem d_AL_grow0_6 : decode c_AL_grow0 6 = .ok (.iadd, 1) := by decide +kernel
theorem d_AL_grow0_7 : decode c_AL_grow0 7 = .ok (.invokevirtual 69, 3) := by decide +kernel
theorem d_AL_grow0_10 : decode c_AL_grow0 10 = .ok (.areturn, 1) := by decide +kernel
abbrev c_AL_growI : ByteArray := prog_26_method_6_code
abbrev y_AL_growI : MethodName := ⟨"java/util/ArrayList", "grow", "(I)[Ljava/lang/Object;"⟩
theorem d_AL_growI_0 : decode c_AL_growI 0 = .ok (.aload_n 0, 1) := by decide +kernel
theorem d_AL_growI_1 : decode c_AL_growI 1 = .ok (.getfield 9, 3) := by decide +kernel
theorem d_AL_growI_4 : decode c_AL_growI 4 = .ok (.arraylength, 1) := by decide +kernel
theorem d_AL_growI_5 : decode c_AL_growI 5 = .ok (.istore_n 2, 1) := by decide +kernel
theorem d_AL_growI_6 : decode c_AL_growI 6 = .ok (.iload_n 2, 1) := by decide +kernel
theorem d_AL_growI_7 : decode c_AL_growI 7 = .ok (.ifCond .gt 13, 3) := by decide +kernel
theorem d_AL_growI_10 : decode c_AL_growI 10 = .ok (.aload_n 0, 1) := by decide +kernel
theorem d_AL_growI_11 : decode c_AL_growI 11 = .ok (.getfield 9, 3) := by decide +kernel
theorem d_AL_growI_14 : decode c_AL_growI 14 = .ok (.getstatic 39, 3) := by decide +kernel
theorem d_AL_growI_17 : decode c_AL_growI 17 = .ok (.if_acmp .eq 28, 3) := by decide +kernel
theorem d_AL_growI_20 : decode c_AL_growI 20 = .ok (.iload_n 2, 1) := by decide +kernel
theorem d_AL_growI_21 : decode c_AL_growI 21 = .ok (.iload_n 1, 1) := by decide +kernel
theorem d_AL_growI_22 : decode c_AL_growI 22 = .ok (.iload_n 2, 1) := by decide +kernel
theorem d_AL_growI_23 : decode c_AL_growI 23 = .ok (.isub, 1) := by decide +kernel
theorem d_AL_growI_24 : decode c_AL_growI 24 = .ok (.iload_n 2, 1) := by decide +kernel
theorem d_AL_growI_25 : decode c_AL_growI 25 = .ok (.iconst 1, 1) := by decide +kernel
theorem d_AL_growI_26 : decode c_AL_growI 26 = .ok (.ishr, 1) := by decide +kernel
theorem d_AL_growI_27 : decode c_AL_growI 27 = .ok (.invokestatic 73, 3) := by decide +kernel
theorem d_AL_growI_30 : decode c_AL_growI 30 = .ok (.istore_n 3, 1) := by decide +kernel
theorem d_AL_growI_31 : decode c_AL_growI 31 = .ok (.aload_n 0, 1) := by decide +kernel
theorem d_AL_growI_32 : decode c_AL_growI 32 = .ok (.aload_n 0, 1) := by decide +kernel
theorem d_AL_growI_33 : decode c_AL_growI 33 = .ok (.getfield 9, 3) := by decide +kernel
theorem d_AL_growI_36 : decode c_AL_growI 36 = .ok (.iload_n 3, 1) := by decide +kernel
theorem d_AL_growI_37 : decode c_AL_growI 37 = .ok (.invokestatic 66, 3) := by decide +kernel
theorem d_AL_growI_40 : decode c_AL_growI 40 = .ok (.dup_x1, 1) := by decide +kernel
theorem d_AL_growI_41 : decode c_AL_growI 41 = .ok (.putfield 9, 3) := by decide +kernel
theorem d_AL_growI_44 : decode c_AL_growI 44 = .ok (.areturn, 1) := by decide +kernel
theorem d_AL_growI_45 : decode c_AL_growI 45 = .ok (.aload_n 0, 1) := by decide +kernel
theorem d_AL_growI_46 : decode c_AL_growI 46 = .ok (.bipush 10, 2) := by decide +kernel
theorem d_AL_growI_48 : decode c_AL_growI 48 = .ok (.iload_n 1, 1) := by decide +kernel
theorem d_AL_growI_49 : decode c_AL_growI 49 = .ok (.invokestatic 79, 3) := by decide +kernel
theorem d_AL_growI_52 : decode c_AL_growI 52 = .ok (.anewarray 7, 3) := by decide +kernel
theorem d_AL_growI_55 : decode c_AL_growI 55 = .ok (.dup_x1, 1) := by decide +kernel
theorem d_AL_growI_56 : decode c_AL_growI 56 = .ok (.putfield 9, 3) := by decide +kernel
theorem d_AL_growI_59 : decode c_AL_growI 59 = .ok (.areturn, 1) := by decide +kernel
abbrev c_AL_remove : ByteArray := prog_26_method_29_code
abbrev y_AL_remove : MethodName := ⟨"java/util/ArrayList", "remove", "(I)Ljava/lang/Object;"⟩
theorem d_AL_remove_0 : decode c_AL_remove 0 = .ok (.iload_n 1, 1) := by decide +kernel
theorem d_AL_remove_1 : decode c_AL_remove 1 = .ok (.aload_n 0, 1) := by decide +kernel
theorem d_AL_remove_2 : decode c_AL_remove 2 = .ok (.getfield 48, 3) := by decide +kernel
theorem d_AL_remove_5 : decode c_AL_remove 5 = .ok (.invokestatic 118, 3) := by decide +kernel
theorem d_AL_remove_8 : decode c_AL_remove 8 = .ok (.pop, 1) := by decide +kernel
theorem d_AL_remove_9 : decode c_AL_remove 9 = .ok (.aload_n 0, 1) := by decide +kernel
theorem d_AL_remove_10 : decode c_AL_remove 10 = .ok (.getfield 9, 3) := by decide +kernel
theorem d_AL_remove_13 : decode c_AL_remove 13 = .ok (.astore_n 2, 1) := by decide +kernel
theorem d_AL_remove_14 : decode c_AL_remove 14 = .ok (.aload_n 2, 1) := by decide +kernel
theorem d_AL_remove_15 : decode c_AL_remove 15 = .ok (.iload_n 1, 1) := by decide +kernel
theorem d_AL_remove_16 : decode c_AL_remove 16 = .ok (.aaload, 1) := by decide +kernel
theorem d_AL_remove_17 : decode c_AL_remove 17 = .ok (.astore_n 3, 1) := by decide +kernel
theorem d_AL_remove_18 : decode c_AL_remove 18 = .ok (.aload_n 0, 1) := by decide +kernel
theorem d_AL_remove_19 : decode c_AL_remove 19 = .ok (.aload_n 2, 1) := by decide +kernel
theorem d_AL_remove_20 : decode c_AL_remove 20 = .ok (.iload_n 1, 1) := by decide +kernel
theorem d_AL_remove_21 : decode c_AL_remove 21 = .ok (.invokevirtual 144, 3) := by decide +kernel
theorem d_AL_remove_24 : decode c_AL_remove 24 = .ok (.aload_n 3, 1) := by decide +kernel
theorem d_AL_remove_25 : decode c_AL_remove 25 = .ok (.areturn, 1) := by decide +kernel
abbrev c_AL_size : ByteArray := prog_26_method_8_code
abbrev y_AL_size : MethodName := ⟨"java/util/ArrayList", "size", "()I"⟩
theorem d_AL_size_0 : decode c_AL_size 0 = .ok (.aload_n 0, 1) := by decide +kernel
theorem d_AL_size_1 : decode c_AL_size 1 = .ok (.getfield 48, 3) := by decide +kernel
theorem d_AL_size_4 : decode c_AL_size 4 = .ok (.ireturn, 1) := by decide +kernel
abbrev c_Ars_copyOf : ByteArray := prog_27_method_119_code
abbrev y_Ars_copyOf : MethodName := ⟨"java/util/Arrays", "copyOf", "([Ljava/lang/Object;I)[Ljava/lang/Object;"⟩
theorem d_Ars_copyOf_0 : decode c_Ars_copyOf 0 = .ok (.aload_n 0, 1) := by decide +kernel
theorem d_Ars_copyOf_1 : decode c_Ars_copyOf 1 = .ok (.iload_n 1, 1) := by decide +kernel
theorem d_Ars_copyOf_2 : decode c_Ars_copyOf 2 = .ok (.aload_n 0, 1) := by decide +kernel
theorem d_Ars_copyOf_3 : decode c_Ars_copyOf 3 = .ok (.invokevirtual 86, 3) := by decide +kernel
theorem d_Ars_copyOf_6 : decode c_Ars_copyOf 6 = .ok (.invokestatic 300, 3) := by decide +kernel
theorem d_Ars_copyOf_9 : decode c_Ars_copyOf 9 = .ok (.areturn, 1) := by decide +kernel
abbrev c_Ars_copyOfC : ByteArray := prog_27_method_120_code
abbrev y_Ars_copyOfC : MethodName := ⟨"java/util/Arrays", "copyOf", "([Ljava/lang/Object;ILjava/lang/Class;)[Ljava/lang/Object;"⟩
theorem d_Ars_copyOfC_0 : decode c_Ars_copyOfC 0 = .ok (.aload_n 2, 1) := by decide +kernel
theorem d_Ars_copyOfC_1 : decode c_Ars_copyOfC 1 = .ok (.ldc 110, 2) := by decide +kernel
theorem d_Ars_copyOfC_3 : decode c_Ars_copyOfC 3 = .ok (.if_acmp .ne 10, 3) := by decide +kernel
theorem d_Ars_copyOfC_6 : decode c_Ars_copyOfC 6 = .ok (.iload_n 1, 1) := by decide +kernel
theorem d_Ars_copyOfC_7 : decode c_Ars_copyOfC 7 = .ok (.anewarray 2, 3) := by decide +kernel
theorem d_Ars_copyOfC_10 : decode c_Ars_copyOfC 10 = .ok (.goto 14, 3) := by decide +kernel
theorem d_Ars_copyOfC_13 : decode c_Ars_copyOfC 13 = .ok (.aload_n 2, 1) := by decide +kernel
theorem d_Ars_copyOfC_14 : decode c_Ars_copyOfC 14 = .ok (.invokevirtual 90, 3) := by decide +kernel
theorem d_Ars_copyOfC_17 : decode c_Ars_copyOfC 17 = .ok (.iload_n 1, 1) := by decide +kernel
theorem d_Ars_copyOfC_18 : decode c_Ars_copyOfC 18 = .ok (.invokestatic 95, 3) := by decide +kernel
theorem d_Ars_copyOfC_21 : decode c_Ars_copyOfC 21 = .ok (.checkcast 110, 3) := by decide +kernel
theorem d_Ars_copyOfC_24 : decode c_Ars_copyOfC 24 = .ok (.astore_n 3, 1) := by decide +kernel
theorem d_Ars_copyOfC_25 : decode c_Ars_copyOfC 25 = .ok (.aload_n 0, 1) := by decide +kernel
theorem d_Ars_copyOfC_26 : decode c_Ars_copyOfC 26 = .ok (.iconst 0, 1) := by decide +kernel
theorem d_Ars_copyOfC_27 : decode c_Ars_copyOfC 27 = .ok (.aload_n 3, 1) := by decide +kernel
theorem d_Ars_copyOfC_28 : decode c_Ars_copyOfC 28 = .ok (.iconst 0, 1) := by decide +kernel
theorem d_Ars_copyOfC_29 : decode c_Ars_copyOfC 29 = .ok (.aload_n 0, 1) := by decide +kernel
theorem d_Ars_copyOfC_30 : decode c_Ars_copyOfC 30 = .ok (.arraylength, 1) := by decide +kernel
theorem d_Ars_copyOfC_31 : decode c_Ars_copyOfC 31 = .ok (.iload_n 1, 1) := by decide +kernel
theorem d_Ars_copyOfC_32 : decode c_Ars_copyOfC 32 = .ok (.invokestatic 304, 3) := by decide +kernel
theorem d_Ars_copyOfC_35 : decode c_Ars_copyOfC 35 = .ok (.invokestatic 150, 3) := by decide +kernel
theorem d_Ars_copyOfC_38 : decode c_Ars_copyOfC 38 = .ok (.aload_n 3, 1) := by decide +kernel
theorem d_Ars_copyOfC_39 : decode c_Ars_copyOfC 39 = .ok (.areturn, 1) := by decide +kernel
abbrev c_Obs_checkIndex : ByteArray := prog_30_method_17_code
abbrev y_Obs_checkIndex : MethodName := ⟨"java/util/Objects", "checkIndex", "(II)I"⟩
theorem d_Obs_checkIndex_0 : decode c_Obs_checkIndex 0 = .ok (.iload_n 0, 1) := by decide +kernel
theorem d_Obs_checkIndex_1 : decode c_Obs_checkIndex 1 = .ok (.iload_n 1, 1) := by decide +kernel
theorem d_Obs_checkIndex_2 : decode c_Obs_checkIndex 2 = .ok (.aconst_null, 1) := by decide +kernel
theorem d_Obs_checkIndex_3 : decode c_Obs_checkIndex 3 = .ok (.invokestatic 105, 3) := by decide +kernel
theorem d_Obs_checkIndex_6 : decode c_Obs_checkIndex 6 = .ok (.ireturn, 1) := by decide +kernel
abbrev c_ASu_hugeLength : ByteArray := prog_33_method_28_code
abbrev y_ASu_hugeLength : MethodName := ⟨"jdk/internal/util/ArraysSupport", "hugeLength", "(II)I"⟩
theorem d_ASu_hugeLength_0 : decode c_ASu_hugeLength 0 = .ok (.iload_n 0, 1) := by decide +kernel
theorem d_ASu_hugeLength_1 : decode c_ASu_hugeLength 1 = .ok (.iload_n 1, 1) := by decide +kernel
theorem d_ASu_hugeLength_2 : decode c_ASu_hugeLength 2 = .ok (.iadd, 1) := by decide +kernel
theorem d_ASu_hugeLength_3 : decode c_ASu_hugeLength 3 = .ok (.istore_n 2, 1) := by decide +kernel
theorem d_ASu_hugeLength_4 : decode c_ASu_hugeLength 4 = .ok (.iload_n 2, 1) := by decide +kernel
theorem d_ASu_hugeLength_5 : decode c_ASu_hugeLength 5 = .ok (.ifCond .ge 44, 3) := by decide +kernel
theorem d_ASu_hugeLength_8 : decode c_ASu_hugeLength 8 = .ok (.new 204, 3) := by decide +kernel
theorem d_ASu_hugeLength_11 : decode c_ASu_hugeLength 11 = .ok (.dup, 1) := by decide +kernel
theorem d_ASu_hugeLength_12 : decode c_ASu_hugeLength 12 = .ok (.new 89, 3) := by decide +kernel
theorem d_ASu_hugeLength_15 : decode c_ASu_hugeLength 15 = .ok (.dup, 1) := by decide +kernel
theorem d_ASu_hugeLength_16 : decode c_ASu_hugeLength 16 = .ok (.invokespecial 91, 3) := by decide +kernel
theorem d_ASu_hugeLength_19 : decode c_ASu_hugeLength 19 = .ok (.ldc 206, 2) := by decide +kernel
theorem d_ASu_hugeLength_21 : decode c_ASu_hugeLength 21 = .ok (.invokevirtual 94, 3) := by decide +kernel
theorem d_ASu_hugeLength_24 : decode c_ASu_hugeLength 24 = .ok (.iload_n 0, 1) := by decide +kernel
theorem d_ASu_hugeLength_25 : decode c_ASu_hugeLength 25 = .ok (.invokevirtual 98, 3) := by decide +kernel
theorem d_ASu_hugeLength_28 : decode c_ASu_hugeLength 28 = .ok (.ldc 208, 2) := by decide +kernel
theorem d_ASu_hugeLength_30 : decode c_ASu_hugeLength 30 = .ok (.invokevirtual 94, 3) := by decide +kernel
theorem d_ASu_hugeLength_33 : decode c_ASu_hugeLength 33 = .ok (.iload_n 1, 1) := by decide +kernel
theorem d_ASu_hugeLength_34 : decode c_ASu_hugeLength 34 = .ok (.invokevirtual 98, 3) := by decide +kernel
theorem d_ASu_hugeLength_37 : decode c_ASu_hugeLength 37 = .ok (.ldc 210, 2) := by decide +kernel
theorem d_ASu_hugeLength_39 : decode c_ASu_hugeLength 39 = .ok (.invokevirtual 94, 3) := by decide +kernel
theorem d_ASu_hugeLength_42 : decode c_ASu_hugeLength 42 = .ok (.invokevirtual 101, 3) := by decide +kernel
theorem d_ASu_hugeLength_45 : decode c_ASu_hugeLength 45 = .ok (.invokespecial 212, 3) := by decide +kernel
theorem d_ASu_hugeLength_48 : decode c_ASu_hugeLength 48 = .ok (.athrow, 1) := by decide +kernel
theorem d_ASu_hugeLength_49 : decode c_ASu_hugeLength 49 = .ok (.iload_n 2, 1) := by decide +kernel
theorem d_ASu_hugeLength_50 : decode c_ASu_hugeLength 50 = .ok (.ldc 200, 2) := by decide +kernel
theorem d_ASu_hugeLength_52 : decode c_ASu_hugeLength 52 = .ok (.if_icmp .gt 6, 3) := by decide +kernel
theorem d_ASu_hugeLength_55 : decode c_ASu_hugeLength 55 = .ok (.ldc 200, 2) := by decide +kernel
theorem d_ASu_hugeLength_57 : decode c_ASu_hugeLength 57 = .ok (.ireturn, 1) := by decide +kernel
theorem d_ASu_hugeLength_58 : decode c_ASu_hugeLength 58 = .ok (.iload_n 2, 1) := by decide +kernel
theorem d_ASu_hugeLength_59 : decode c_ASu_hugeLength 59 = .ok (.ireturn, 1) := by decide +kernel
abbrev c_ASu_newLength : ByteArray := prog_33_method_27_code
abbrev y_ASu_newLength : MethodName := ⟨"jdk/internal/util/ArraysSupport", "newLength", "(III)I"⟩
theorem d_ASu_newLength_0 : decode c_ASu_newLength 0 = .ok (.iload_n 0, 1) := by decide +kernel
theorem d_ASu_newLength_1 : decode c_ASu_newLength 1 = .ok (.iload_n 1, 1) := by decide +kernel
theorem d_ASu_newLength_2 : decode c_ASu_newLength 2 = .ok (.iload_n 2, 1) := by decide +kernel
theorem d_ASu_newLength_3 : decode c_ASu_newLength 3 = .ok (.invokestatic 194, 3) := by decide +kernel
theorem d_ASu_newLength_6 : decode c_ASu_newLength 6 = .ok (.iadd, 1) := by decide +kernel
theorem d_ASu_newLength_7 : decode c_ASu_newLength 7 = .ok (.istore_n 3, 1) := by decide +kernel
theorem d_ASu_newLength_8 : decode c_ASu_newLength 8 = .ok (.iconst 0, 1) := by decide +kernel
theorem d_ASu_newLength_9 : decode c_ASu_newLength 9 = .ok (.iload_n 3, 1) := by decide +kernel
theorem d_ASu_newLength_10 : decode c_ASu_newLength 10 = .ok (.if_icmp .ge 11, 3) := by decide +kernel
theorem d_ASu_newLength_13 : decode c_ASu_newLength 13 = .ok (.iload_n 3, 1) := by decide +kernel
theorem d_ASu_newLength_14 : decode c_ASu_newLength 14 = .ok (.ldc 200, 2) := by decide +kernel
theorem d_ASu_newLength_16 : decode c_ASu_newLength 16 = .ok (.if_icmp .gt 5, 3) := by decide +kernel
theorem d_ASu_newLength_19 : decode c_ASu_newLength 19 = .ok (.iload_n 3, 1) := by decide +kernel
theorem d_ASu_newLength_20 : decode c_ASu_newLength 20 = .ok (.ireturn, 1) := by decide +kernel
theorem d_ASu_newLength_21 : decode c_ASu_newLength 21 = .ok (.iload_n 0, 1) := by decide +kernel
theorem d_ASu_newLength_22 : decode c_ASu_newLength 22 = .ok (.iload_n 1, 1) := by decide +kernel
theorem d_ASu_newLength_23 : decode c_ASu_newLength 23 = .ok (.invokestatic 201, 3) := by decide +kernel
theorem d_ASu_newLength_26 : decode c_ASu_newLength 26 = .ok (.ireturn, 1) := by decide +kernel
abbrev c_Pre_checkIndex : ByteArray := prog_34_method_11_code
abbrev y_Pre_checkIndex : MethodName := ⟨"jdk/internal/util/Preconditions", "checkIndex", "(IILjava/util/function/BiFunction;)I"⟩
theorem d_Pre_checkIndex_0 : decode c_Pre_checkIndex 0 = .ok (.iload_n 0, 1) := by decide +kernel
theorem d_Pre_checkIndex_1 : decode c_Pre_checkIndex 1 = .ok (.ifCond .lt 8, 3) := by decide +kernel
theorem d_Pre_checkIndex_4 : decode c_Pre_checkIndex 4 = .ok (.iload_n 0, 1) := by decide +kernel
theorem d_Pre_checkIndex_5 : decode c_Pre_checkIndex 5 = .ok (.iload_n 1, 1) := by decide +kernel
theorem d_Pre_checkIndex_6 : decode c_Pre_checkIndex 6 = .ok (.if_icmp .lt 10, 3) := by decide +kernel
theorem d_Pre_checkIndex_9 : decode c_Pre_checkIndex 9 = .ok (.aload_n 2, 1) := by decide +kernel
theorem d_Pre_checkIndex_10 : decode c_Pre_checkIndex 10 = .ok (.iload_n 0, 1) := by decide +kernel
theorem d_Pre_checkIndex_11 : decode c_Pre_checkIndex 11 = .ok (.iload_n 1, 1) := by decide +kernel
theorem d_Pre_checkIndex_12 : decode c_Pre_checkIndex 12 = .ok (.invokestatic 95, 3) := by decide +kernel
theorem d_Pre_checkIndex_15 : decode c_Pre_checkIndex 15 = .ok (.athrow, 1) := by decide +kernel
theorem d_Pre_checkIndex_16 : decode c_Pre_checkIndex 16 = .ok (.iload_n 0, 1) := by decide +kernel
theorem d_Pre_checkIndex_17 : decode c_Pre_checkIndex 17 = .ok (.ireturn, 1) := by decide +kernel
