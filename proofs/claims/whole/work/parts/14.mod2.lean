abbrev c_Mod_narrow : ByteArray := prog_11_method_22_code
abbrev y_Mod_narrow : MethodName := ⟨"FleetFloorModel", "narrow", "(II)V"⟩
theorem d_Mod_narrow_0 : decode c_Mod_narrow 0 = .ok (.bipush 6, 2) := by decide +kernel
theorem d_Mod_narrow_2 : decode c_Mod_narrow 2 = .ok (.iload_n 2, 1) := by decide +kernel
theorem d_Mod_narrow_3 : decode c_Mod_narrow 3 = .ok (.imul, 1) := by decide +kernel
theorem d_Mod_narrow_4 : decode c_Mod_narrow 4 = .ok (.istore_n 3, 1) := by decide +kernel
theorem d_Mod_narrow_5 : decode c_Mod_narrow 5 = .ok (.iload_n 3, 1) := by decide +kernel
theorem d_Mod_narrow_6 : decode c_Mod_narrow 6 = .ok (.bipush 6, 2) := by decide +kernel
theorem d_Mod_narrow_8 : decode c_Mod_narrow 8 = .ok (.iload_n 2, 1) := by decide +kernel
theorem d_Mod_narrow_9 : decode c_Mod_narrow 9 = .ok (.imul, 1) := by decide +kernel
theorem d_Mod_narrow_10 : decode c_Mod_narrow 10 = .ok (.bipush 6, 2) := by decide +kernel
theorem d_Mod_narrow_12 : decode c_Mod_narrow 12 = .ok (.iadd, 1) := by decide +kernel
theorem d_Mod_narrow_13 : decode c_Mod_narrow 13 = .ok (.if_icmp .ge 16, 3) := by decide +kernel
theorem d_Mod_narrow_16 : decode c_Mod_narrow 16 = .ok (.aload_n 0, 1) := by decide +kernel
theorem d_Mod_narrow_17 : decode c_Mod_narrow 17 = .ok (.getfield 93, 3) := by decide +kernel
theorem d_Mod_narrow_20 : decode c_Mod_narrow 20 = .ok (.iload_n 3, 1) := by decide +kernel
theorem d_Mod_narrow_21 : decode c_Mod_narrow 21 = .ok (.lconst 0, 1) := by decide +kernel
theorem d_Mod_narrow_22 : decode c_Mod_narrow 22 = .ok (.lastore, 1) := by decide +kernel
theorem d_Mod_narrow_23 : decode c_Mod_narrow 23 = .ok (.iinc 3 1, 3) := by decide +kernel
theorem d_Mod_narrow_26 : decode c_Mod_narrow 26 = .ok (.goto (-21), 3) := by decide +kernel
theorem d_Mod_narrow_29 : decode c_Mod_narrow 29 = .ok (.aload_n 0, 1) := by decide +kernel
theorem d_Mod_narrow_30 : decode c_Mod_narrow 30 = .ok (.getfield 93, 3) := by decide +kernel
theorem d_Mod_narrow_33 : decode c_Mod_narrow 33 = .ok (.iconst 3, 1) := by decide +kernel
theorem d_Mod_narrow_34 : decode c_Mod_narrow 34 = .ok (.iload_n 2, 1) := by decide +kernel
theorem d_Mod_narrow_35 : decode c_Mod_narrow 35 = .ok (.imul, 1) := by decide +kernel
theorem d_Mod_narrow_36 : decode c_Mod_narrow 36 = .ok (.iconst 2, 1) := by decide +kernel
theorem d_Mod_narrow_37 : decode c_Mod_narrow 37 = .ok (.iadd, 1) := by decide +kernel
theorem d_Mod_narrow_38 : decode c_Mod_narrow 38 = .ok (.aload_n 0, 1) := by decide +kernel
theorem d_Mod_narrow_39 : decode c_Mod_narrow 39 = .ok (.getfield 16, 3) := by decide +kernel
theorem d_Mod_narrow_42 : decode c_Mod_narrow 42 = .ok (.aload_n 0, 1) := by decide +kernel
theorem d_Mod_narrow_43 : decode c_Mod_narrow 43 = .ok (.getfield 146, 3) := by decide +kernel
theorem d_Mod_narrow_46 : decode c_Mod_narrow 46 = .ok (.iaload, 1) := by decide +kernel
theorem d_Mod_narrow_47 : decode c_Mod_narrow 47 = .ok (.invokestatic 142, 3) := by decide +kernel
theorem d_Mod_narrow_50 : decode c_Mod_narrow 50 = .ok (.iload_n 2, 1) := by decide +kernel
theorem d_Mod_narrow_51 : decode c_Mod_narrow 51 = .ok (.iconst 1, 1) := by decide +kernel
theorem d_Mod_narrow_52 : decode c_Mod_narrow 52 = .ok (.isub, 1) := by decide +kernel
theorem d_Mod_narrow_53 : decode c_Mod_narrow 53 = .ok (.istore_n 3, 1) := by decide +kernel
theorem d_Mod_narrow_54 : decode c_Mod_narrow 54 = .ok (.iload_n 3, 1) := by decide +kernel
theorem d_Mod_narrow_55 : decode c_Mod_narrow 55 = .ok (.ifCond .lt 101, 3) := by decide +kernel
theorem d_Mod_narrow_58 : decode c_Mod_narrow 58 = .ok (.iconst 0, 1) := by decide +kernel
theorem d_Mod_narrow_59 : decode c_Mod_narrow 59 = .ok (.istore 4, 2) := by decide +kernel
theorem d_Mod_narrow_61 : decode c_Mod_narrow 61 = .ok (.iload 4, 2) := by decide +kernel
theorem d_Mod_narrow_63 : decode c_Mod_narrow 63 = .ok (.iconst 3, 1) := by decide +kernel
theorem d_Mod_narrow_64 : decode c_Mod_narrow 64 = .ok (.if_icmp .ge 86, 3) := by decide +kernel
theorem d_Mod_narrow_67 : decode c_Mod_narrow 67 = .ok (.iconst 0, 1) := by decide +kernel
theorem d_Mod_narrow_68 : decode c_Mod_narrow 68 = .ok (.istore 5, 2) := by decide +kernel
theorem d_Mod_narrow_70 : decode c_Mod_narrow 70 = .ok (.iload 5, 2) := by decide +kernel
theorem d_Mod_narrow_72 : decode c_Mod_narrow 72 = .ok (.bipush 96, 2) := by decide +kernel
theorem d_Mod_narrow_74 : decode c_Mod_narrow 74 = .ok (.if_icmp .ge 70, 3) := by decide +kernel
theorem d_Mod_narrow_77 : decode c_Mod_narrow 77 = .ok (.aload_n 0, 1) := by decide +kernel
theorem d_Mod_narrow_78 : decode c_Mod_narrow 78 = .ok (.getfield 93, 3) := by decide +kernel
theorem d_Mod_narrow_81 : decode c_Mod_narrow 81 = .ok (.iconst 3, 1) := by decide +kernel
theorem d_Mod_narrow_82 : decode c_Mod_narrow 82 = .ok (.iload_n 3, 1) := by decide +kernel
theorem d_Mod_narrow_83 : decode c_Mod_narrow 83 = .ok (.imul, 1) := by decide +kernel
theorem d_Mod_narrow_84 : decode c_Mod_narrow 84 = .ok (.iload 4, 2) := by decide +kernel
theorem d_Mod_narrow_86 : decode c_Mod_narrow 86 = .ok (.iadd, 1) := by decide +kernel
theorem d_Mod_narrow_87 : decode c_Mod_narrow 87 = .ok (.iload 5, 2) := by decide +kernel
theorem d_Mod_narrow_89 : decode c_Mod_narrow 89 = .ok (.invokestatic 156, 3) := by decide +kernel
theorem d_Mod_narrow_92 : decode c_Mod_narrow 92 = .ok (.ifCond .eq 46, 3) := by decide +kernel
theorem d_Mod_narrow_95 : decode c_Mod_narrow 95 = .ok (.aload_n 0, 1) := by decide +kernel
theorem d_Mod_narrow_96 : decode c_Mod_narrow 96 = .ok (.iload_n 1, 1) := by decide +kernel
theorem d_Mod_narrow_97 : decode c_Mod_narrow 97 = .ok (.iload_n 3, 1) := by decide +kernel
theorem d_Mod_narrow_98 : decode c_Mod_narrow 98 = .ok (.iload 4, 2) := by decide +kernel
theorem d_Mod_narrow_100 : decode c_Mod_narrow 100 = .ok (.iload 5, 2) := by decide +kernel
theorem d_Mod_narrow_102 : decode c_Mod_narrow 102 = .ok (.invokevirtual 171, 3) := by decide +kernel
theorem d_Mod_narrow_105 : decode c_Mod_narrow 105 = .ok (.ifCond .ge 33, 3) := by decide +kernel
theorem d_Mod_narrow_108 : decode c_Mod_narrow 108 = .ok (.aload_n 0, 1) := by decide +kernel
theorem d_Mod_narrow_109 : decode c_Mod_narrow 109 = .ok (.getfield 93, 3) := by decide +kernel
theorem d_Mod_narrow_112 : decode c_Mod_narrow 112 = .ok (.iconst 2, 1) := by decide +kernel
theorem d_Mod_narrow_113 : decode c_Mod_narrow 113 = .ok (.iconst 3, 1) := by decide +kernel
theorem d_Mod_narrow_114 : decode c_Mod_narrow 114 = .ok (.iload_n 3, 1) := by decide +kernel
theorem d_Mod_narrow_115 : decode c_Mod_narrow 115 = .ok (.imul, 1) := by decide +kernel
theorem d_Mod_narrow_116 : decode c_Mod_narrow 116 = .ok (.iload 4, 2) := by decide +kernel
theorem d_Mod_narrow_118 : decode c_Mod_narrow 118 = .ok (.iadd, 1) := by decide +kernel
theorem d_Mod_narrow_119 : decode c_Mod_narrow 119 = .ok (.imul, 1) := by decide +kernel
theorem d_Mod_narrow_120 : decode c_Mod_narrow 120 = .ok (.iload 5, 2) := by decide +kernel
theorem d_Mod_narrow_122 : decode c_Mod_narrow 122 = .ok (.bipush 6, 2) := by decide +kernel
theorem d_Mod_narrow_124 : decode c_Mod_narrow 124 = .ok (.ishr, 1) := by decide +kernel
theorem d_Mod_narrow_125 : decode c_Mod_narrow 125 = .ok (.iadd, 1) := by decide +kernel
theorem d_Mod_narrow_126 : decode c_Mod_narrow 126 = .ok (.dup2, 1) := by decide +kernel
theorem d_Mod_narrow_127 : decode c_Mod_narrow 127 = .ok (.laload, 1) := by decide +kernel
theorem d_Mod_narrow_128 : decode c_Mod_narrow 128 = .ok (.lconst 1, 1) := by decide +kernel
theorem d_Mod_narrow_129 : decode c_Mod_narrow 129 = .ok (.iload 5, 2) := by decide +kernel
theorem d_Mod_narrow_131 : decode c_Mod_narrow 131 = .ok (.lshl, 1) := by decide +kernel
theorem d_Mod_narrow_132 : decode c_Mod_narrow 132 = .ok (.ldc2_w 175, 3) := by decide +kernel
theorem d_Mod_narrow_135 : decode c_Mod_narrow 135 = .ok (.lxor, 1) := by decide +kernel
theorem d_Mod_narrow_136 : decode c_Mod_narrow 136 = .ok (.land, 1) := by decide +kernel
theorem d_Mod_narrow_137 : decode c_Mod_narrow 137 = .ok (.lastore, 1) := by decide +kernel
theorem d_Mod_narrow_138 : decode c_Mod_narrow 138 = .ok (.iinc 5 1, 3) := by decide +kernel
theorem d_Mod_narrow_141 : decode c_Mod_narrow 141 = .ok (.goto (-71), 3) := by decide +kernel
theorem d_Mod_narrow_144 : decode c_Mod_narrow 144 = .ok (.iinc 4 1, 3) := by decide +kernel
theorem d_Mod_narrow_147 : decode c_Mod_narrow 147 = .ok (.goto (-86), 3) := by decide +kernel
theorem d_Mod_narrow_150 : decode c_Mod_narrow 150 = .ok (.iinc 3 (-1), 3) := by decide +kernel
theorem d_Mod_narrow_153 : decode c_Mod_narrow 153 = .ok (.goto (-99), 3) := by decide +kernel
theorem d_Mod_narrow_156 : decode c_Mod_narrow 156 = .ok (.return_, 1) := by decide +kernel
abbrev c_Mod_take : ByteArray := prog_11_method_23_code
abbrev y_Mod_take : MethodName := ⟨"FleetFloorModel", "take", "(II)V"⟩
theorem d_Mod_take_0 : decode c_Mod_take 0 = .ok (.aload_n 0, 1) := by decide +kernel
theorem d_Mod_take_1 : decode c_Mod_take 1 = .ok (.getfield 16, 3) := by decide +kernel
theorem d_Mod_take_4 : decode c_Mod_take 4 = .ok (.aload_n 0, 1) := by decide +kernel
theorem d_Mod_take_5 : decode c_Mod_take 5 = .ok (.getfield 146, 3) := by decide +kernel
theorem d_Mod_take_8 : decode c_Mod_take 8 = .ok (.iaload, 1) := by decide +kernel
theorem d_Mod_take_9 : decode c_Mod_take 9 = .ok (.istore_n 3, 1) := by decide +kernel
theorem d_Mod_take_10 : decode c_Mod_take 10 = .ok (.iconst 0, 1) := by decide +kernel
theorem d_Mod_take_11 : decode c_Mod_take 11 = .ok (.istore 4, 2) := by decide +kernel
theorem d_Mod_take_13 : decode c_Mod_take 13 = .ok (.aload_n 0, 1) := by decide +kernel
theorem d_Mod_take_14 : decode c_Mod_take 14 = .ok (.getfield 32, 3) := by decide +kernel
theorem d_Mod_take_17 : decode c_Mod_take 17 = .ok (.iload_n 1, 1) := by decide +kernel
theorem d_Mod_take_18 : decode c_Mod_take 18 = .ok (.aload_n 0, 1) := by decide +kernel
theorem d_Mod_take_19 : decode c_Mod_take 19 = .ok (.getfield 146, 3) := by decide +kernel
theorem d_Mod_take_22 : decode c_Mod_take 22 = .ok (.iastore, 1) := by decide +kernel
theorem d_Mod_take_23 : decode c_Mod_take 23 = .ok (.aload_n 0, 1) := by decide +kernel
theorem d_Mod_take_24 : decode c_Mod_take 24 = .ok (.getfield 35, 3) := by decide +kernel
theorem d_Mod_take_27 : decode c_Mod_take 27 = .ok (.iload_n 1, 1) := by decide +kernel
theorem d_Mod_take_28 : decode c_Mod_take 28 = .ok (.aload_n 0, 1) := by decide +kernel
theorem d_Mod_take_29 : decode c_Mod_take 29 = .ok (.getfield 177, 3) := by decide +kernel
theorem d_Mod_take_32 : decode c_Mod_take 32 = .ok (.iastore, 1) := by decide +kernel
theorem d_Mod_take_33 : decode c_Mod_take 33 = .ok (.aload_n 0, 1) := by decide +kernel
theorem d_Mod_take_34 : decode c_Mod_take 34 = .ok (.getfield 41, 3) := by decide +kernel
theorem d_Mod_take_37 : decode c_Mod_take 37 = .ok (.iload_n 1, 1) := by decide +kernel
theorem d_Mod_take_38 : decode c_Mod_take 38 = .ok (.aload_n 0, 1) := by decide +kernel
theorem d_Mod_take_39 : decode c_Mod_take 39 = .ok (.getfield 71, 3) := by decide +kernel
theorem d_Mod_take_42 : decode c_Mod_take 42 = .ok (.aload_n 0, 1) := by decide +kernel
theorem d_Mod_take_43 : decode c_Mod_take 43 = .ok (.getfield 146, 3) := by decide +kernel
theorem d_Mod_take_46 : decode c_Mod_take 46 = .ok (.iaload, 1) := by decide +kernel
theorem d_Mod_take_47 : decode c_Mod_take 47 = .ok (.iastore, 1) := by decide +kernel
theorem d_Mod_take_48 : decode c_Mod_take 48 = .ok (.iconst 0, 1) := by decide +kernel
theorem d_Mod_take_49 : decode c_Mod_take 49 = .ok (.istore 5, 2) := by decide +kernel
theorem d_Mod_take_51 : decode c_Mod_take 51 = .ok (.iload 5, 2) := by decide +kernel
theorem d_Mod_take_53 : decode c_Mod_take 53 = .ok (.iload_n 2, 1) := by decide +kernel
theorem d_Mod_take_54 : decode c_Mod_take 54 = .ok (.if_icmp .ge 125, 3) := by decide +kernel
theorem d_Mod_take_57 : decode c_Mod_take 57 = .ok (.aload_n 0, 1) := by decide +kernel
theorem d_Mod_take_58 : decode c_Mod_take 58 = .ok (.iload_n 1, 1) := by decide +kernel
theorem d_Mod_take_59 : decode c_Mod_take 59 = .ok (.iload 5, 2) := by decide +kernel
theorem d_Mod_take_61 : decode c_Mod_take 61 = .ok (.iload 4, 2) := by decide +kernel
theorem d_Mod_take_63 : decode c_Mod_take 63 = .ok (.iload_n 3, 1) := by decide +kernel
theorem d_Mod_take_64 : decode c_Mod_take 64 = .ok (.invokevirtual 171, 3) := by decide +kernel
theorem d_Mod_take_67 : decode c_Mod_take 67 = .ok (.istore 6, 2) := by decide +kernel
theorem d_Mod_take_69 : decode c_Mod_take 69 = .ok (.iload_n 3, 1) := by decide +kernel
theorem d_Mod_take_70 : decode c_Mod_take 70 = .ok (.iload 6, 2) := by decide +kernel
theorem d_Mod_take_72 : decode c_Mod_take 72 = .ok (.invokestatic 108, 3) := by decide +kernel
theorem d_Mod_take_75 : decode c_Mod_take 75 = .ok (.istore_n 3, 1) := by decide +kernel
theorem d_Mod_take_76 : decode c_Mod_take 76 = .ok (.iload 4, 2) := by decide +kernel
theorem d_Mod_take_78 : decode c_Mod_take 78 = .ok (.istore 7, 2) := by decide +kernel
theorem d_Mod_take_80 : decode c_Mod_take 80 = .ok (.aload_n 0, 1) := by decide +kernel
theorem d_Mod_take_81 : decode c_Mod_take 81 = .ok (.iload_n 1, 1) := by decide +kernel
theorem d_Mod_take_82 : decode c_Mod_take 82 = .ok (.iload_n 3, 1) := by decide +kernel
theorem d_Mod_take_83 : decode c_Mod_take 83 = .ok (.iload 4, 2) := by decide +kernel
theorem d_Mod_take_85 : decode c_Mod_take 85 = .ok (.invokevirtual 168, 3) := by decide +kernel
theorem d_Mod_take_88 : decode c_Mod_take 88 = .ok (.istore 4, 2) := by decide +kernel
theorem d_Mod_take_90 : decode c_Mod_take 90 = .ok (.iload 6, 2) := by decide +kernel
theorem d_Mod_take_92 : decode c_Mod_take 92 = .ok (.iconst 4, 1) := by decide +kernel
theorem d_Mod_take_93 : decode c_Mod_take 93 = .ok (.if_icmp .ne 6, 3) := by decide +kernel
theorem d_Mod_take_96 : decode c_Mod_take 96 = .ok (.goto 77, 3) := by decide +kernel
theorem d_Mod_take_99 : decode c_Mod_take 99 = .ok (.iload 7, 2) := by decide +kernel
theorem d_Mod_take_101 : decode c_Mod_take 101 = .ok (.iconst 2, 1) := by decide +kernel
theorem d_Mod_take_102 : decode c_Mod_take 102 = .ok (.if_icmp .ge 33, 3) := by decide +kernel
theorem d_Mod_take_105 : decode c_Mod_take 105 = .ok (.iload 4, 2) := by decide +kernel
theorem d_Mod_take_107 : decode c_Mod_take 107 = .ok (.iconst 2, 1) := by decide +kernel
theorem d_Mod_take_108 : decode c_Mod_take 108 = .ok (.if_icmp .ne 27, 3) := by decide +kernel
theorem d_Mod_take_111 : decode c_Mod_take 111 = .ok (.aload_n 0, 1) := by decide +kernel
theorem d_Mod_take_112 : decode c_Mod_take 112 = .ok (.getfield 44, 3) := by decide +kernel
theorem d_Mod_take_115 : decode c_Mod_take 115 = .ok (.iload_n 1, 1) := by decide +kernel
theorem d_Mod_take_116 : decode c_Mod_take 116 = .ok (.aload_n 0, 1) := by decide +kernel
theorem d_Mod_take_117 : decode c_Mod_take 117 = .ok (.getfield 41, 3) := by decide +kernel
theorem d_Mod_take_120 : decode c_Mod_take 120 = .ok (.iload_n 1, 1) := by decide +kernel
theorem d_Mod_take_121 : decode c_Mod_take 121 = .ok (.iaload, 1) := by decide +kernel
theorem d_Mod_take_122 : decode c_Mod_take 122 = .ok (.aload_n 0, 1) := by decide +kernel
theorem d_Mod_take_123 : decode c_Mod_take 123 = .ok (.getfield 177, 3) := by decide +kernel
theorem d_Mod_take_126 : decode c_Mod_take 126 = .ok (.iadd, 1) := by decide +kernel
theorem d_Mod_take_127 : decode c_Mod_take 127 = .ok (.aload_n 0, 1) := by decide +kernel
theorem d_Mod_take_128 : decode c_Mod_take 128 = .ok (.getfield 35, 3) := by decide +kernel
theorem d_Mod_take_131 : decode c_Mod_take 131 = .ok (.iload_n 1, 1) := by decide +kernel
theorem d_Mod_take_132 : decode c_Mod_take 132 = .ok (.iaload, 1) := by decide +kernel
theorem d_Mod_take_133 : decode c_Mod_take 133 = .ok (.isub, 1) := by decide +kernel
theorem d_Mod_take_134 : decode c_Mod_take 134 = .ok (.iastore, 1) := by decide +kernel
theorem d_Mod_take_135 : decode c_Mod_take 135 = .ok (.aload_n 0, 1) := by decide +kernel
theorem d_Mod_take_136 : decode c_Mod_take 136 = .ok (.getfield 50, 3) := by decide +kernel
theorem d_Mod_take_139 : decode c_Mod_take 139 = .ok (.aload_n 0, 1) := by decide +kernel
theorem d_Mod_take_140 : decode c_Mod_take 140 = .ok (.getfield 177, 3) := by decide +kernel
theorem d_Mod_take_143 : decode c_Mod_take 143 = .ok (.iload_n 3, 1) := by decide +kernel
theorem d_Mod_take_144 : decode c_Mod_take 144 = .ok (.iastore, 1) := by decide +kernel
theorem d_Mod_take_145 : decode c_Mod_take 145 = .ok (.aload_n 0, 1) := by decide +kernel
theorem d_Mod_take_146 : decode c_Mod_take 146 = .ok (.getfield 53, 3) := by decide +kernel
theorem d_Mod_take_149 : decode c_Mod_take 149 = .ok (.aload_n 0, 1) := by decide +kernel
theorem d_Mod_take_150 : decode c_Mod_take 150 = .ok (.getfield 177, 3) := by decide +kernel
theorem d_Mod_take_153 : decode c_Mod_take 153 = .ok (.aload_n 0, 1) := by decide +kernel
theorem d_Mod_take_154 : decode c_Mod_take 154 = .ok (.getfield 136, 3) := by decide +kernel
theorem d_Mod_take_157 : decode c_Mod_take 157 = .ok (.iload 5, 2) := by decide +kernel
theorem d_Mod_take_159 : decode c_Mod_take 159 = .ok (.iadd, 1) := by decide +kernel
theorem d_Mod_take_160 : decode c_Mod_take 160 = .ok (.iconst 1, 1) := by decide +kernel
theorem d_Mod_take_161 : decode c_Mod_take 161 = .ok (.iadd, 1) := by decide +kernel
theorem d_Mod_take_162 : decode c_Mod_take 162 = .ok (.iastore, 1) := by decide +kernel
theorem d_Mod_take_163 : decode c_Mod_take 163 = .ok (.aload_n 0, 1) := by decide +kernel
theorem d_Mod_take_164 : decode c_Mod_take 164 = .ok (.dup, 1) := by decide +kernel
theorem d_Mod_take_165 : decode c_Mod_take 165 = .ok (.getfield 177, 3) := by decide +kernel
theorem d_Mod_take_168 : decode c_Mod_take 168 = .ok (.iconst 1, 1) := by decide +kernel
theorem d_Mod_take_169 : decode c_Mod_take 169 = .ok (.iadd, 1) := by decide +kernel
theorem d_Mod_take_170 : decode c_Mod_take 170 = .ok (.putfield 177, 3) := by decide +kernel
theorem d_Mod_take_173 : decode c_Mod_take 173 = .ok (.iinc 5 1, 3) := by decide +kernel
theorem d_Mod_take_176 : decode c_Mod_take 176 = .ok (.goto (-125), 3) := by decide +kernel
theorem d_Mod_take_179 : decode c_Mod_take 179 = .ok (.aload_n 0, 1) := by decide +kernel
theorem d_Mod_take_180 : decode c_Mod_take 180 = .ok (.getfield 38, 3) := by decide +kernel
theorem d_Mod_take_183 : decode c_Mod_take 183 = .ok (.iload_n 1, 1) := by decide +kernel
theorem d_Mod_take_184 : decode c_Mod_take 184 = .ok (.aload_n 0, 1) := by decide +kernel
theorem d_Mod_take_185 : decode c_Mod_take 185 = .ok (.getfield 177, 3) := by decide +kernel
theorem d_Mod_take_188 : decode c_Mod_take 188 = .ok (.aload_n 0, 1) := by decide +kernel
theorem d_Mod_take_189 : decode c_Mod_take 189 = .ok (.getfield 35, 3) := by decide +kernel
theorem d_Mod_take_192 : decode c_Mod_take 192 = .ok (.iload_n 1, 1) := by decide +kernel
theorem d_Mod_take_193 : decode c_Mod_take 193 = .ok (.iaload, 1) := by decide +kernel
theorem d_Mod_take_194 : decode c_Mod_take 194 = .ok (.isub, 1) := by decide +kernel
theorem d_Mod_take_195 : decode c_Mod_take 195 = .ok (.iastore, 1) := by decide +kernel
theorem d_Mod_take_196 : decode c_Mod_take 196 = .ok (.aload_n 0, 1) := by decide +kernel
theorem d_Mod_take_197 : decode c_Mod_take 197 = .ok (.getfield 71, 3) := by decide +kernel
theorem d_Mod_take_200 : decode c_Mod_take 200 = .ok (.aload_n 0, 1) := by decide +kernel
theorem d_Mod_take_201 : decode c_Mod_take 201 = .ok (.getfield 146, 3) := by decide +kernel
theorem d_Mod_take_204 : decode c_Mod_take 204 = .ok (.dup2, 1) := by decide +kernel
theorem d_Mod_take_205 : decode c_Mod_take 205 = .ok (.iaload, 1) := by decide +kernel
theorem d_Mod_take_206 : decode c_Mod_take 206 = .ok (.aload_n 0, 1) := by decide +kernel
theorem d_Mod_take_207 : decode c_Mod_take 207 = .ok (.getfield 38, 3) := by decide +kernel
theorem d_Mod_take_210 : decode c_Mod_take 210 = .ok (.iload_n 1, 1) := by decide +kernel
theorem d_Mod_take_211 : decode c_Mod_take 211 = .ok (.iaload, 1) := by decide +kernel
theorem d_Mod_take_212 : decode c_Mod_take 212 = .ok (.iadd, 1) := by decide +kernel
theorem d_Mod_take_213 : decode c_Mod_take 213 = .ok (.iastore, 1) := by decide +kernel
theorem d_Mod_take_214 : decode c_Mod_take 214 = .ok (.aload_n 0, 1) := by decide +kernel
theorem d_Mod_take_215 : decode c_Mod_take 215 = .ok (.getfield 74, 3) := by decide +kernel
theorem d_Mod_take_218 : decode c_Mod_take 218 = .ok (.aload_n 0, 1) := by decide +kernel
theorem d_Mod_take_219 : decode c_Mod_take 219 = .ok (.getfield 146, 3) := by decide +kernel
theorem d_Mod_take_222 : decode c_Mod_take 222 = .ok (.iload_n 1, 1) := by decide +kernel
theorem d_Mod_take_223 : decode c_Mod_take 223 = .ok (.iastore, 1) := by decide +kernel
theorem d_Mod_take_224 : decode c_Mod_take 224 = .ok (.aload_n 0, 1) := by decide +kernel
theorem d_Mod_take_225 : decode c_Mod_take 225 = .ok (.dup, 1) := by decide +kernel
theorem d_Mod_take_226 : decode c_Mod_take 226 = .ok (.getfield 133, 3) := by decide +kernel
theorem d_Mod_take_229 : decode c_Mod_take 229 = .ok (.iconst 1, 1) := by decide +kernel
theorem d_Mod_take_230 : decode c_Mod_take 230 = .ok (.iadd, 1) := by decide +kernel
theorem d_Mod_take_231 : decode c_Mod_take 231 = .ok (.putfield 133, 3) := by decide +kernel
theorem d_Mod_take_234 : decode c_Mod_take 234 = .ok (.return_, 1) := by decide +kernel
abbrev c_Mod_plans : ByteArray := prog_11_method_24_code
abbrev y_Mod_plans : MethodName := ⟨"FleetFloorModel", "plans", "(II)Z"⟩
theorem d_Mod_plans_0 : decode c_Mod_plans 0 = .ok (.aload_n 0, 1) := by decide +kernel
theorem d_Mod_plans_1 : decode c_Mod_plans 1 = .ok (.iload_n 1, 1) := by decide +kernel
theorem d_Mod_plans_2 : decode c_Mod_plans 2 = .ok (.putfield 146, 3) := by decide +kernel
theorem d_Mod_plans_5 : decode c_Mod_plans 5 = .ok (.aload_n 0, 1) := by decide +kernel
theorem d_Mod_plans_6 : decode c_Mod_plans 6 = .ok (.invokevirtual 180, 3) := by decide +kernel
theorem d_Mod_plans_9 : decode c_Mod_plans 9 = .ok (.aload_n 0, 1) := by decide +kernel
theorem d_Mod_plans_10 : decode c_Mod_plans 10 = .ok (.iload_n 2, 1) := by decide +kernel
theorem d_Mod_plans_11 : decode c_Mod_plans 11 = .ok (.invokevirtual 183, 3) := by decide +kernel
theorem d_Mod_plans_14 : decode c_Mod_plans 14 = .ok (.istore_n 3, 1) := by decide +kernel
theorem d_Mod_plans_15 : decode c_Mod_plans 15 = .ok (.iload_n 3, 1) := by decide +kernel
theorem d_Mod_plans_16 : decode c_Mod_plans 16 = .ok (.ifCond .ge 5, 3) := by decide +kernel
theorem d_Mod_plans_19 : decode c_Mod_plans 19 = .ok (.iconst 0, 1) := by decide +kernel
theorem d_Mod_plans_20 : decode c_Mod_plans 20 = .ok (.ireturn, 1) := by decide +kernel
theorem d_Mod_plans_21 : decode c_Mod_plans 21 = .ok (.aload_n 0, 1) := by decide +kernel
theorem d_Mod_plans_22 : decode c_Mod_plans 22 = .ok (.iload_n 2, 1) := by decide +kernel
theorem d_Mod_plans_23 : decode c_Mod_plans 23 = .ok (.iload_n 3, 1) := by decide +kernel
theorem d_Mod_plans_24 : decode c_Mod_plans 24 = .ok (.invokevirtual 187, 3) := by decide +kernel
theorem d_Mod_plans_27 : decode c_Mod_plans 27 = .ok (.aload_n 0, 1) := by decide +kernel
theorem d_Mod_plans_28 : decode c_Mod_plans 28 = .ok (.iload_n 2, 1) := by decide +kernel
theorem d_Mod_plans_29 : decode c_Mod_plans 29 = .ok (.iload_n 3, 1) := by decide +kernel
theorem d_Mod_plans_30 : decode c_Mod_plans 30 = .ok (.invokevirtual 191, 3) := by decide +kernel
theorem d_Mod_plans_33 : decode c_Mod_plans 33 = .ok (.iconst 1, 1) := by decide +kernel
theorem d_Mod_plans_34 : decode c_Mod_plans 34 = .ok (.ireturn, 1) := by decide +kernel
abbrev c_Mod_idle : ByteArray := prog_11_method_25_code
abbrev y_Mod_idle : MethodName := ⟨"FleetFloorModel", "idle", "()I"⟩
theorem d_Mod_idle_0 : decode c_Mod_idle 0 = .ok (.iconst 0, 1) := by decide +kernel
theorem d_Mod_idle_1 : decode c_Mod_idle 1 = .ok (.istore_n 1, 1) := by decide +kernel
theorem d_Mod_idle_2 : decode c_Mod_idle 2 = .ok (.iload_n 1, 1) := by decide +kernel
theorem d_Mod_idle_3 : decode c_Mod_idle 3 = .ok (.aload_n 0, 1) := by decide +kernel
theorem d_Mod_idle_4 : decode c_Mod_idle 4 = .ok (.getfield 127, 3) := by decide +kernel
theorem d_Mod_idle_7 : decode c_Mod_idle 7 = .ok (.if_icmp .ge 26, 3) := by decide +kernel
theorem d_Mod_idle_10 : decode c_Mod_idle 10 = .ok (.aload_n 0, 1) := by decide +kernel
theorem d_Mod_idle_11 : decode c_Mod_idle 11 = .ok (.getfield 65, 3) := by decide +kernel
theorem d_Mod_idle_14 : decode c_Mod_idle 14 = .ok (.iload_n 1, 1) := by decide +kernel
theorem d_Mod_idle_15 : decode c_Mod_idle 15 = .ok (.iaload, 1) := by decide +kernel
theorem d_Mod_idle_16 : decode c_Mod_idle 16 = .ok (.aload_n 0, 1) := by decide +kernel
theorem d_Mod_idle_17 : decode c_Mod_idle 17 = .ok (.getfield 71, 3) := by decide +kernel
theorem d_Mod_idle_20 : decode c_Mod_idle 20 = .ok (.iload_n 1, 1) := by decide +kernel
theorem d_Mod_idle_21 : decode c_Mod_idle 21 = .ok (.iaload, 1) := by decide +kernel
theorem d_Mod_idle_22 : decode c_Mod_idle 22 = .ok (.if_icmp .ne 5, 3) := by decide +kernel
theorem d_Mod_idle_25 : decode c_Mod_idle 25 = .ok (.iload_n 1, 1) := by decide +kernel
theorem d_Mod_idle_26 : decode c_Mod_idle 26 = .ok (.ireturn, 1) := by decide +kernel
theorem d_Mod_idle_27 : decode c_Mod_idle 27 = .ok (.iinc 1 1, 3) := by decide +kernel
theorem d_Mod_idle_30 : decode c_Mod_idle 30 = .ok (.goto (-28), 3) := by decide +kernel
theorem d_Mod_idle_33 : decode c_Mod_idle 33 = .ok (.iconst (-1), 1) := by decide +kernel
theorem d_Mod_idle_34 : decode c_Mod_idle 34 = .ok (.ireturn, 1) := by decide +kernel
abbrev c_Mod_planAll : ByteArray := prog_11_method_26_code
abbrev y_Mod_planAll : MethodName := ⟨"FleetFloorModel", "planAll", "()V"⟩
theorem d_Mod_planAll_0 : decode c_Mod_planAll 0 = .ok (.iconst 1, 1) := by decide +kernel
theorem d_Mod_planAll_1 : decode c_Mod_planAll 1 = .ok (.istore_n 1, 1) := by decide +kernel
theorem d_Mod_planAll_2 : decode c_Mod_planAll 2 = .ok (.iload_n 1, 1) := by decide +kernel
theorem d_Mod_planAll_3 : decode c_Mod_planAll 3 = .ok (.ifCond .eq 44, 3) := by decide +kernel
theorem d_Mod_planAll_6 : decode c_Mod_planAll 6 = .ok (.aload_n 0, 1) := by decide +kernel
theorem d_Mod_planAll_7 : decode c_Mod_planAll 7 = .ok (.invokevirtual 194, 3) := by decide +kernel
theorem d_Mod_planAll_10 : decode c_Mod_planAll 10 = .ok (.istore_n 2, 1) := by decide +kernel
theorem d_Mod_planAll_11 : decode c_Mod_planAll 11 = .ok (.aload_n 0, 1) := by decide +kernel
theorem d_Mod_planAll_12 : decode c_Mod_planAll 12 = .ok (.getfield 133, 3) := by decide +kernel
theorem d_Mod_planAll_15 : decode c_Mod_planAll 15 = .ok (.aload_n 0, 1) := by decide +kernel
theorem d_Mod_planAll_16 : decode c_Mod_planAll 16 = .ok (.getfield 130, 3) := by decide +kernel
theorem d_Mod_planAll_19 : decode c_Mod_planAll 19 = .ok (.if_icmp .ge 23, 3) := by decide +kernel
theorem d_Mod_planAll_22 : decode c_Mod_planAll 22 = .ok (.iload_n 2, 1) := by decide +kernel
theorem d_Mod_planAll_23 : decode c_Mod_planAll 23 = .ok (.ifCond .lt 19, 3) := by decide +kernel
theorem d_Mod_planAll_26 : decode c_Mod_planAll 26 = .ok (.aload_n 0, 1) := by decide +kernel
theorem d_Mod_planAll_27 : decode c_Mod_planAll 27 = .ok (.iload_n 2, 1) := by decide +kernel
theorem d_Mod_planAll_28 : decode c_Mod_planAll 28 = .ok (.aload_n 0, 1) := by decide +kernel
theorem d_Mod_planAll_29 : decode c_Mod_planAll 29 = .ok (.getfield 133, 3) := by decide +kernel
theorem d_Mod_planAll_32 : decode c_Mod_planAll 32 = .ok (.invokevirtual 198, 3) := by decide +kernel
theorem d_Mod_planAll_35 : decode c_Mod_planAll 35 = .ok (.ifCond .eq 7, 3) := by decide +kernel
theorem d_Mod_planAll_38 : decode c_Mod_planAll 38 = .ok (.iconst 1, 1) := by decide +kernel
theorem d_Mod_planAll_39 : decode c_Mod_planAll 39 = .ok (.goto 4, 3) := by decide +kernel
theorem d_Mod_planAll_42 : decode c_Mod_planAll 42 = .ok (.iconst 0, 1) := by decide +kernel
theorem d_Mod_planAll_43 : decode c_Mod_planAll 43 = .ok (.istore_n 1, 1) := by decide +kernel
theorem d_Mod_planAll_44 : decode c_Mod_planAll 44 = .ok (.goto (-42), 3) := by decide +kernel
theorem d_Mod_planAll_47 : decode c_Mod_planAll 47 = .ok (.return_, 1) := by decide +kernel
abbrev c_Mod_isFree : ByteArray := prog_11_method_27_code
abbrev y_Mod_isFree : MethodName := ⟨"FleetFloorModel", "isFree", "(III)Z"⟩
theorem d_Mod_isFree_0 : decode c_Mod_isFree 0 = .ok (.iconst 0, 1) := by decide +kernel
theorem d_Mod_isFree_1 : decode c_Mod_isFree 1 = .ok (.istore 4, 2) := by decide +kernel
theorem d_Mod_isFree_3 : decode c_Mod_isFree 3 = .ok (.iload 4, 2) := by decide +kernel
theorem d_Mod_isFree_5 : decode c_Mod_isFree 5 = .ok (.aload_n 0, 1) := by decide +kernel
theorem d_Mod_isFree_6 : decode c_Mod_isFree 6 = .ok (.getfield 133, 3) := by decide +kernel
theorem d_Mod_isFree_9 : decode c_Mod_isFree 9 = .ok (.if_icmp .ge 106, 3) := by decide +kernel
theorem d_Mod_isFree_12 : decode c_Mod_isFree 12 = .ok (.aload_n 0, 1) := by decide +kernel
theorem d_Mod_isFree_13 : decode c_Mod_isFree 13 = .ok (.getfield 32, 3) := by decide +kernel
theorem d_Mod_isFree_16 : decode c_Mod_isFree 16 = .ok (.iload 4, 2) := by decide +kernel
theorem d_Mod_isFree_18 : decode c_Mod_isFree 18 = .ok (.iaload, 1) := by decide +kernel
theorem d_Mod_isFree_19 : decode c_Mod_isFree 19 = .ok (.istore 5, 2) := by decide +kernel
theorem d_Mod_isFree_21 : decode c_Mod_isFree 21 = .ok (.iload 5, 2) := by decide +kernel
theorem d_Mod_isFree_23 : decode c_Mod_isFree 23 = .ok (.iload_n 1, 1) := by decide +kernel
theorem d_Mod_isFree_24 : decode c_Mod_isFree 24 = .ok (.if_icmp .ne 6, 3) := by decide +kernel
theorem d_Mod_isFree_27 : decode c_Mod_isFree 27 = .ok (.goto 82, 3) := by decide +kernel
theorem d_Mod_isFree_30 : decode c_Mod_isFree 30 = .ok (.iconst 0, 1) := by decide +kernel
theorem d_Mod_isFree_31 : decode c_Mod_isFree 31 = .ok (.istore 6, 2) := by decide +kernel
theorem d_Mod_isFree_33 : decode c_Mod_isFree 33 = .ok (.iload 6, 2) := by decide +kernel
theorem d_Mod_isFree_35 : decode c_Mod_isFree 35 = .ok (.aload_n 0, 1) := by decide +kernel
theorem d_Mod_isFree_36 : decode c_Mod_isFree 36 = .ok (.getfield 38, 3) := by decide +kernel
theorem d_Mod_isFree_39 : decode c_Mod_isFree 39 = .ok (.iload 4, 2) := by decide +kernel
theorem d_Mod_isFree_41 : decode c_Mod_isFree 41 = .ok (.iaload, 1) := by decide +kernel
theorem d_Mod_isFree_42 : decode c_Mod_isFree 42 = .ok (.if_icmp .ge 67, 3) := by decide +kernel
theorem d_Mod_isFree_45 : decode c_Mod_isFree 45 = .ok (.aload_n 0, 1) := by decide +kernel
theorem d_Mod_isFree_46 : decode c_Mod_isFree 46 = .ok (.getfield 35, 3) := by decide +kernel
theorem d_Mod_isFree_49 : decode c_Mod_isFree 49 = .ok (.iload 4, 2) := by decide +kernel
theorem d_Mod_isFree_51 : decode c_Mod_isFree 51 = .ok (.iaload, 1) := by decide +kernel
theorem d_Mod_isFree_52 : decode c_Mod_isFree 52 = .ok (.iload 6, 2) := by decide +kernel
theorem d_Mod_isFree_54 : decode c_Mod_isFree 54 = .ok (.iadd, 1) := by decide +kernel
theorem d_Mod_isFree_55 : decode c_Mod_isFree 55 = .ok (.istore 7, 2) := by decide +kernel
theorem d_Mod_isFree_57 : decode c_Mod_isFree 57 = .ok (.aload_n 0, 1) := by decide +kernel
theorem d_Mod_isFree_58 : decode c_Mod_isFree 58 = .ok (.getfield 50, 3) := by decide +kernel
theorem d_Mod_isFree_61 : decode c_Mod_isFree 61 = .ok (.iload 7, 2) := by decide +kernel
theorem d_Mod_isFree_63 : decode c_Mod_isFree 63 = .ok (.iaload, 1) := by decide +kernel
theorem d_Mod_isFree_64 : decode c_Mod_isFree 64 = .ok (.iload_n 2, 1) := by decide +kernel
theorem d_Mod_isFree_65 : decode c_Mod_isFree 65 = .ok (.if_icmp .ne 38, 3) := by decide +kernel
theorem d_Mod_isFree_68 : decode c_Mod_isFree 68 = .ok (.aload_n 0, 1) := by decide +kernel
theorem d_Mod_isFree_69 : decode c_Mod_isFree 69 = .ok (.getfield 53, 3) := by decide +kernel
theorem d_Mod_isFree_72 : decode c_Mod_isFree 72 = .ok (.iload 7, 2) := by decide +kernel
theorem d_Mod_isFree_74 : decode c_Mod_isFree 74 = .ok (.iaload, 1) := by decide +kernel
theorem d_Mod_isFree_75 : decode c_Mod_isFree 75 = .ok (.iload_n 3, 1) := by decide +kernel
theorem d_Mod_isFree_76 : decode c_Mod_isFree 76 = .ok (.if_icmp .ge 27, 3) := by decide +kernel
theorem d_Mod_isFree_79 : decode c_Mod_isFree 79 = .ok (.aload_n 0, 1) := by decide +kernel
theorem d_Mod_isFree_80 : decode c_Mod_isFree 80 = .ok (.getfield 65, 3) := by decide +kernel
theorem d_Mod_isFree_83 : decode c_Mod_isFree 83 = .ok (.iload 5, 2) := by decide +kernel
theorem d_Mod_isFree_85 : decode c_Mod_isFree 85 = .ok (.iaload, 1) := by decide +kernel
theorem d_Mod_isFree_86 : decode c_Mod_isFree 86 = .ok (.aload_n 0, 1) := by decide +kernel
theorem d_Mod_isFree_87 : decode c_Mod_isFree 87 = .ok (.getfield 41, 3) := by decide +kernel
theorem d_Mod_isFree_90 : decode c_Mod_isFree 90 = .ok (.iload 4, 2) := by decide +kernel
theorem d_Mod_isFree_92 : decode c_Mod_isFree 92 = .ok (.iaload, 1) := by decide +kernel
theorem d_Mod_isFree_93 : decode c_Mod_isFree 93 = .ok (.iload 6, 2) := by decide +kernel
theorem d_Mod_isFree_95 : decode c_Mod_isFree 95 = .ok (.iadd, 1) := by decide +kernel
theorem d_Mod_isFree_96 : decode c_Mod_isFree 96 = .ok (.iconst 1, 1) := by decide +kernel
theorem d_Mod_isFree_97 : decode c_Mod_isFree 97 = .ok (.iadd, 1) := by decide +kernel
theorem d_Mod_isFree_98 : decode c_Mod_isFree 98 = .ok (.if_icmp .gt 5, 3) := by decide +kernel
theorem d_Mod_isFree_101 : decode c_Mod_isFree 101 = .ok (.iconst 0, 1) := by decide +kernel
theorem d_Mod_isFree_102 : decode c_Mod_isFree 102 = .ok (.ireturn, 1) := by decide +kernel
theorem d_Mod_isFree_103 : decode c_Mod_isFree 103 = .ok (.iinc 6 1, 3) := by decide +kernel
theorem d_Mod_isFree_106 : decode c_Mod_isFree 106 = .ok (.goto (-73), 3) := by decide +kernel
theorem d_Mod_isFree_109 : decode c_Mod_isFree 109 = .ok (.iinc 4 1, 3) := by decide +kernel
theorem d_Mod_isFree_112 : decode c_Mod_isFree 112 = .ok (.goto (-109), 3) := by decide +kernel
theorem d_Mod_isFree_115 : decode c_Mod_isFree 115 = .ok (.iconst 1, 1) := by decide +kernel
theorem d_Mod_isFree_116 : decode c_Mod_isFree 116 = .ok (.ireturn, 1) := by decide +kernel
abbrev c_Mod_grant : ByteArray := prog_11_method_28_code
abbrev y_Mod_grant : MethodName := ⟨"FleetFloorModel", "grant", "(I)V"⟩
theorem d_Mod_grant_0 : decode c_Mod_grant 0 = .ok (.aload_n 0, 1) := by decide +kernel
theorem d_Mod_grant_1 : decode c_Mod_grant 1 = .ok (.getfield 68, 3) := by decide +kernel
theorem d_Mod_grant_4 : decode c_Mod_grant 4 = .ok (.iload_n 1, 1) := by decide +kernel
theorem d_Mod_grant_5 : decode c_Mod_grant 5 = .ok (.iaload, 1) := by decide +kernel
theorem d_Mod_grant_6 : decode c_Mod_grant 6 = .ok (.istore_n 2, 1) := by decide +kernel
theorem d_Mod_grant_7 : decode c_Mod_grant 7 = .ok (.iconst 1, 1) := by decide +kernel
theorem d_Mod_grant_8 : decode c_Mod_grant 8 = .ok (.istore_n 3, 1) := by decide +kernel
theorem d_Mod_grant_9 : decode c_Mod_grant 9 = .ok (.iload_n 3, 1) := by decide +kernel
theorem d_Mod_grant_10 : decode c_Mod_grant 10 = .ok (.ifCond .eq 103, 3) := by decide +kernel
theorem d_Mod_grant_13 : decode c_Mod_grant 13 = .ok (.aload_n 0, 1) := by decide +kernel
theorem d_Mod_grant_14 : decode c_Mod_grant 14 = .ok (.getfield 68, 3) := by decide +kernel
theorem d_Mod_grant_17 : decode c_Mod_grant 17 = .ok (.iload_n 1, 1) := by decide +kernel
theorem d_Mod_grant_18 : decode c_Mod_grant 18 = .ok (.iaload, 1) := by decide +kernel
theorem d_Mod_grant_19 : decode c_Mod_grant 19 = .ok (.aload_n 0, 1) := by decide +kernel
theorem d_Mod_grant_20 : decode c_Mod_grant 20 = .ok (.getfield 71, 3) := by decide +kernel
theorem d_Mod_grant_23 : decode c_Mod_grant 23 = .ok (.iload_n 1, 1) := by decide +kernel
theorem d_Mod_grant_24 : decode c_Mod_grant 24 = .ok (.iaload, 1) := by decide +kernel
theorem d_Mod_grant_25 : decode c_Mod_grant 25 = .ok (.if_icmp .ge 88, 3) := by decide +kernel
theorem d_Mod_grant_28 : decode c_Mod_grant 28 = .ok (.aload_n 0, 1) := by decide +kernel
theorem d_Mod_grant_29 : decode c_Mod_grant 29 = .ok (.iload_n 1, 1) := by decide +kernel
theorem d_Mod_grant_30 : decode c_Mod_grant 30 = .ok (.aload_n 0, 1) := by decide +kernel
theorem d_Mod_grant_31 : decode c_Mod_grant 31 = .ok (.getfield 68, 3) := by decide +kernel
theorem d_Mod_grant_34 : decode c_Mod_grant 34 = .ok (.iload_n 1, 1) := by decide +kernel
theorem d_Mod_grant_35 : decode c_Mod_grant 35 = .ok (.iaload, 1) := by decide +kernel
theorem d_Mod_grant_36 : decode c_Mod_grant 36 = .ok (.invokevirtual 139, 3) := by decide +kernel
theorem d_Mod_grant_39 : decode c_Mod_grant 39 = .ok (.istore 4, 2) := by decide +kernel
theorem d_Mod_grant_41 : decode c_Mod_grant 41 = .ok (.aload_n 0, 1) := by decide +kernel
theorem d_Mod_grant_42 : decode c_Mod_grant 42 = .ok (.iload_n 1, 1) := by decide +kernel
theorem d_Mod_grant_43 : decode c_Mod_grant 43 = .ok (.aload_n 0, 1) := by decide +kernel
theorem d_Mod_grant_44 : decode c_Mod_grant 44 = .ok (.getfield 50, 3) := by decide +kernel
theorem d_Mod_grant_47 : decode c_Mod_grant 47 = .ok (.iload 4, 2) := by decide +kernel
theorem d_Mod_grant_49 : decode c_Mod_grant 49 = .ok (.iaload, 1) := by decide +kernel
theorem d_Mod_grant_50 : decode c_Mod_grant 50 = .ok (.aload_n 0, 1) := by decide +kernel
theorem d_Mod_grant_51 : decode c_Mod_grant 51 = .ok (.getfield 53, 3) := by decide +kernel
theorem d_Mod_grant_54 : decode c_Mod_grant 54 = .ok (.iload 4, 2) := by decide +kernel
theorem d_Mod_grant_56 : decode c_Mod_grant 56 = .ok (.iaload, 1) := by decide +kernel
theorem d_Mod_grant_57 : decode c_Mod_grant 57 = .ok (.invokevirtual 202, 3) := by decide +kernel
theorem d_Mod_grant_60 : decode c_Mod_grant 60 = .ok (.istore_n 3, 1) := by decide +kernel
theorem d_Mod_grant_61 : decode c_Mod_grant 61 = .ok (.iload_n 3, 1) := by decide +kernel
theorem d_Mod_grant_62 : decode c_Mod_grant 62 = .ok (.ifCond .ne 6, 3) := by decide +kernel
theorem d_Mod_grant_65 : decode c_Mod_grant 65 = .ok (.goto (-56), 3) := by decide +kernel
theorem d_Mod_grant_68 : decode c_Mod_grant 68 = .ok (.aload_n 0, 1) := by decide +kernel
theorem d_Mod_grant_69 : decode c_Mod_grant 69 = .ok (.getfield 68, 3) := by decide +kernel
theorem d_Mod_grant_72 : decode c_Mod_grant 72 = .ok (.iload_n 1, 1) := by decide +kernel
theorem d_Mod_grant_73 : decode c_Mod_grant 73 = .ok (.dup2, 1) := by decide +kernel
theorem d_Mod_grant_74 : decode c_Mod_grant 74 = .ok (.iaload, 1) := by decide +kernel
theorem d_Mod_grant_75 : decode c_Mod_grant 75 = .ok (.iconst 1, 1) := by decide +kernel
theorem d_Mod_grant_76 : decode c_Mod_grant 76 = .ok (.iadd, 1) := by decide +kernel
theorem d_Mod_grant_77 : decode c_Mod_grant 77 = .ok (.iastore, 1) := by decide +kernel
theorem d_Mod_grant_78 : decode c_Mod_grant 78 = .ok (.aload_n 0, 1) := by decide +kernel
theorem d_Mod_grant_79 : decode c_Mod_grant 79 = .ok (.aload_n 0, 1) := by decide +kernel
theorem d_Mod_grant_80 : decode c_Mod_grant 80 = .ok (.getfield 53, 3) := by decide +kernel
theorem d_Mod_grant_83 : decode c_Mod_grant 83 = .ok (.iload 4, 2) := by decide +kernel
theorem d_Mod_grant_85 : decode c_Mod_grant 85 = .ok (.iaload, 1) := by decide +kernel
theorem d_Mod_grant_86 : decode c_Mod_grant 86 = .ok (.aload_n 0, 1) := by decide +kernel
theorem d_Mod_grant_87 : decode c_Mod_grant 87 = .ok (.getfield 136, 3) := by decide +kernel
theorem d_Mod_grant_90 : decode c_Mod_grant 90 = .ok (.if_icmp .le 13, 3) := by decide +kernel
theorem d_Mod_grant_93 : decode c_Mod_grant 93 = .ok (.aload_n 0, 1) := by decide +kernel
theorem d_Mod_grant_94 : decode c_Mod_grant 94 = .ok (.getfield 53, 3) := by decide +kernel
theorem d_Mod_grant_97 : decode c_Mod_grant 97 = .ok (.iload 4, 2) := by decide +kernel
theorem d_Mod_grant_99 : decode c_Mod_grant 99 = .ok (.iaload, 1) := by decide +kernel
theorem d_Mod_grant_100 : decode c_Mod_grant 100 = .ok (.goto 7, 3) := by decide +kernel
theorem d_Mod_grant_103 : decode c_Mod_grant 103 = .ok (.aload_n 0, 1) := by decide +kernel
theorem d_Mod_grant_104 : decode c_Mod_grant 104 = .ok (.getfield 136, 3) := by decide +kernel
theorem d_Mod_grant_107 : decode c_Mod_grant 107 = .ok (.putfield 136, 3) := by decide +kernel
theorem d_Mod_grant_110 : decode c_Mod_grant 110 = .ok (.goto (-101), 3) := by decide +kernel
theorem d_Mod_grant_113 : decode c_Mod_grant 113 = .ok (.aload_n 0, 1) := by decide +kernel
theorem d_Mod_grant_114 : decode c_Mod_grant 114 = .ok (.getfield 68, 3) := by decide +kernel
theorem d_Mod_grant_117 : decode c_Mod_grant 117 = .ok (.iload_n 1, 1) := by decide +kernel
theorem d_Mod_grant_118 : decode c_Mod_grant 118 = .ok (.iaload, 1) := by decide +kernel
theorem d_Mod_grant_119 : decode c_Mod_grant 119 = .ok (.iload_n 2, 1) := by decide +kernel
theorem d_Mod_grant_120 : decode c_Mod_grant 120 = .ok (.if_icmp .gt 11, 3) := by decide +kernel
theorem d_Mod_grant_123 : decode c_Mod_grant 123 = .ok (.aload_n 0, 1) := by decide +kernel
theorem d_Mod_grant_124 : decode c_Mod_grant 124 = .ok (.iload_n 1, 1) := by decide +kernel
theorem d_Mod_grant_125 : decode c_Mod_grant 125 = .ok (.invokevirtual 205, 3) := by decide +kernel
theorem d_Mod_grant_128 : decode c_Mod_grant 128 = .ok (.ifCond .eq 15, 3) := by decide +kernel
theorem d_Mod_grant_131 : decode c_Mod_grant 131 = .ok (.aload_n 0, 1) := by decide +kernel
theorem d_Mod_grant_132 : decode c_Mod_grant 132 = .ok (.iconst 0, 1) := by decide +kernel
theorem d_Mod_grant_133 : decode c_Mod_grant 133 = .ok (.iload_n 1, 1) := by decide +kernel
theorem d_Mod_grant_134 : decode c_Mod_grant 134 = .ok (.aload_n 0, 1) := by decide +kernel
theorem d_Mod_grant_135 : decode c_Mod_grant 135 = .ok (.getfield 68, 3) := by decide +kernel
theorem d_Mod_grant_138 : decode c_Mod_grant 138 = .ok (.iload_n 1, 1) := by decide +kernel
theorem d_Mod_grant_139 : decode c_Mod_grant 139 = .ok (.iaload, 1) := by decide +kernel
theorem d_Mod_grant_140 : decode c_Mod_grant 140 = .ok (.invokevirtual 208, 3) := by decide +kernel
theorem d_Mod_grant_143 : decode c_Mod_grant 143 = .ok (.return_, 1) := by decide +kernel
abbrev c_Mod_isTurn : ByteArray := prog_11_method_29_code
abbrev y_Mod_isTurn : MethodName := ⟨"FleetFloorModel", "isTurn", "(I)Z"⟩
theorem d_Mod_isTurn_0 : decode c_Mod_isTurn 0 = .ok (.aload_n 0, 1) := by decide +kernel
theorem d_Mod_isTurn_1 : decode c_Mod_isTurn 1 = .ok (.getfield 212, 3) := by decide +kernel
theorem d_Mod_isTurn_4 : decode c_Mod_isTurn 4 = .ok (.bipush 8, 2) := by decide +kernel
theorem d_Mod_isTurn_6 : decode c_Mod_isTurn 6 = .ok (.irem, 1) := by decide +kernel
theorem d_Mod_isTurn_7 : decode c_Mod_isTurn 7 = .ok (.iload_n 1, 1) := by decide +kernel
theorem d_Mod_isTurn_8 : decode c_Mod_isTurn 8 = .ok (.bipush 8, 2) := by decide +kernel
theorem d_Mod_isTurn_10 : decode c_Mod_isTurn 10 = .ok (.irem, 1) := by decide +kernel
theorem d_Mod_isTurn_11 : decode c_Mod_isTurn 11 = .ok (.if_icmp .ne 7, 3) := by decide +kernel
theorem d_Mod_isTurn_14 : decode c_Mod_isTurn 14 = .ok (.iconst 1, 1) := by decide +kernel
theorem d_Mod_isTurn_15 : decode c_Mod_isTurn 15 = .ok (.goto 4, 3) := by decide +kernel
theorem d_Mod_isTurn_18 : decode c_Mod_isTurn 18 = .ok (.iconst 0, 1) := by decide +kernel
theorem d_Mod_isTurn_19 : decode c_Mod_isTurn 19 = .ok (.ireturn, 1) := by decide +kernel
abbrev c_Mod_send : ByteArray := prog_11_method_30_code
abbrev y_Mod_send : MethodName := ⟨"FleetFloorModel", "send", "(III)V"⟩
theorem d_Mod_send_0 : decode c_Mod_send 0 = .ok (.aload_n 0, 1) := by decide +kernel
theorem d_Mod_send_1 : decode c_Mod_send 1 = .ok (.getfield 215, 3) := by decide +kernel
theorem d_Mod_send_4 : decode c_Mod_send 4 = .ok (.bipush 60, 2) := by decide +kernel
theorem d_Mod_send_6 : decode c_Mod_send 6 = .ok (.if_icmp .ne 4, 3) := by decide +kernel
theorem d_Mod_send_9 : decode c_Mod_send 9 = .ok (.return_, 1) := by decide +kernel
theorem d_Mod_send_10 : decode c_Mod_send 10 = .ok (.aload_n 0, 1) := by decide +kernel
theorem d_Mod_send_11 : decode c_Mod_send 11 = .ok (.getfield 77, 3) := by decide +kernel
theorem d_Mod_send_14 : decode c_Mod_send 14 = .ok (.aload_n 0, 1) := by decide +kernel
theorem d_Mod_send_15 : decode c_Mod_send 15 = .ok (.getfield 215, 3) := by decide +kernel
theorem d_Mod_send_18 : decode c_Mod_send 18 = .ok (.iload_n 1, 1) := by decide +kernel
theorem d_Mod_send_19 : decode c_Mod_send 19 = .ok (.iastore, 1) := by decide +kernel
theorem d_Mod_send_20 : decode c_Mod_send 20 = .ok (.aload_n 0, 1) := by decide +kernel
theorem d_Mod_send_21 : decode c_Mod_send 21 = .ok (.getfield 80, 3) := by decide +kernel
theorem d_Mod_send_24 : decode c_Mod_send 24 = .ok (.aload_n 0, 1) := by decide +kernel
theorem d_Mod_send_25 : decode c_Mod_send 25 = .ok (.getfield 215, 3) := by decide +kernel
theorem d_Mod_send_28 : decode c_Mod_send 28 = .ok (.iload_n 2, 1) := by decide +kernel
theorem d_Mod_send_29 : decode c_Mod_send 29 = .ok (.iastore, 1) := by decide +kernel
theorem d_Mod_send_30 : decode c_Mod_send 30 = .ok (.aload_n 0, 1) := by decide +kernel
theorem d_Mod_send_31 : decode c_Mod_send 31 = .ok (.getfield 83, 3) := by decide +kernel
theorem d_Mod_send_34 : decode c_Mod_send 34 = .ok (.aload_n 0, 1) := by decide +kernel
theorem d_Mod_send_35 : decode c_Mod_send 35 = .ok (.getfield 215, 3) := by decide +kernel
theorem d_Mod_send_38 : decode c_Mod_send 38 = .ok (.iload_n 3, 1) := by decide +kernel
theorem d_Mod_send_39 : decode c_Mod_send 39 = .ok (.iastore, 1) := by decide +kernel
theorem d_Mod_send_40 : decode c_Mod_send 40 = .ok (.aload_n 0, 1) := by decide +kernel
theorem d_Mod_send_41 : decode c_Mod_send 41 = .ok (.dup, 1) := by decide +kernel
theorem d_Mod_send_42 : decode c_Mod_send 42 = .ok (.getfield 215, 3) := by decide +kernel
theorem d_Mod_send_45 : decode c_Mod_send 45 = .ok (.iconst 1, 1) := by decide +kernel
theorem d_Mod_send_46 : decode c_Mod_send 46 = .ok (.iadd, 1) := by decide +kernel
theorem d_Mod_send_47 : decode c_Mod_send 47 = .ok (.putfield 215, 3) := by decide +kernel
theorem d_Mod_send_50 : decode c_Mod_send 50 = .ok (.return_, 1) := by decide +kernel
abbrev c_Mod_letters : ByteArray := prog_11_method_31_code
abbrev y_Mod_letters : MethodName := ⟨"FleetFloorModel", "letters", "()I"⟩
theorem d_Mod_letters_0 : decode c_Mod_letters 0 = .ok (.aload_n 0, 1) := by decide +kernel
theorem d_Mod_letters_1 : decode c_Mod_letters 1 = .ok (.iconst 0, 1) := by decide +kernel
theorem d_Mod_letters_2 : decode c_Mod_letters 2 = .ok (.putfield 96, 3) := by decide +kernel
theorem d_Mod_letters_5 : decode c_Mod_letters 5 = .ok (.aload_n 0, 1) := by decide +kernel
theorem d_Mod_letters_6 : decode c_Mod_letters 6 = .ok (.getfield 215, 3) := by decide +kernel
theorem d_Mod_letters_9 : decode c_Mod_letters 9 = .ok (.ireturn, 1) := by decide +kernel
abbrev c_Mod_isLetter : ByteArray := prog_11_method_32_code
abbrev y_Mod_isLetter : MethodName := ⟨"FleetFloorModel", "isLetter", "(I)Z"⟩
theorem d_Mod_isLetter_0 : decode c_Mod_isLetter 0 = .ok (.iload_n 1, 1) := by decide +kernel
theorem d_Mod_isLetter_1 : decode c_Mod_isLetter 1 = .ok (.iconst 0, 1) := by decide +kernel
theorem d_Mod_isLetter_2 : decode c_Mod_isLetter 2 = .ok (.aload_n 0, 1) := by decide +kernel
theorem d_Mod_isLetter_3 : decode c_Mod_isLetter 3 = .ok (.getfield 215, 3) := by decide +kernel
theorem d_Mod_isLetter_6 : decode c_Mod_isLetter 6 = .ok (.iconst 1, 1) := by decide +kernel
theorem d_Mod_isLetter_7 : decode c_Mod_isLetter 7 = .ok (.isub, 1) := by decide +kernel
theorem d_Mod_isLetter_8 : decode c_Mod_isLetter 8 = .ok (.invokestatic 104, 3) := by decide +kernel
theorem d_Mod_isLetter_11 : decode c_Mod_isLetter 11 = .ok (.ireturn, 1) := by decide +kernel
abbrev c_Mod_letter : ByteArray := prog_11_method_33_code
abbrev y_Mod_letter : MethodName := ⟨"FleetFloorModel", "letter", "(II)I"⟩
theorem d_Mod_letter_0 : decode c_Mod_letter 0 = .ok (.aload_n 0, 1) := by decide +kernel
theorem d_Mod_letter_1 : decode c_Mod_letter 1 = .ok (.iconst 0, 1) := by decide +kernel
theorem d_Mod_letter_2 : decode c_Mod_letter 2 = .ok (.putfield 96, 3) := by decide +kernel
theorem d_Mod_letter_5 : decode c_Mod_letter 5 = .ok (.aload_n 0, 1) := by decide +kernel
theorem d_Mod_letter_6 : decode c_Mod_letter 6 = .ok (.iload_n 1, 1) := by decide +kernel
theorem d_Mod_letter_7 : decode c_Mod_letter 7 = .ok (.invokevirtual 218, 3) := by decide +kernel
theorem d_Mod_letter_10 : decode c_Mod_letter 10 = .ok (.ifCond .ne 5, 3) := by decide +kernel
theorem d_Mod_letter_13 : decode c_Mod_letter 13 = .ok (.iconst (-1), 1) := by decide +kernel
theorem d_Mod_letter_14 : decode c_Mod_letter 14 = .ok (.ireturn, 1) := by decide +kernel
theorem d_Mod_letter_15 : decode c_Mod_letter 15 = .ok (.iload_n 2, 1) := by decide +kernel
theorem d_Mod_letter_16 : decode c_Mod_letter 16 = .ok (.ifCond .ne 12, 3) := by decide +kernel
theorem d_Mod_letter_19 : decode c_Mod_letter 19 = .ok (.aload_n 0, 1) := by decide +kernel
theorem d_Mod_letter_20 : decode c_Mod_letter 20 = .ok (.getfield 77, 3) := by decide +kernel
theorem d_Mod_letter_23 : decode c_Mod_letter 23 = .ok (.iload_n 1, 1) := by decide +kernel
theorem d_Mod_letter_24 : decode c_Mod_letter 24 = .ok (.iaload, 1) := by decide +kernel
theorem d_Mod_letter_25 : decode c_Mod_letter 25 = .ok (.goto 32, 3) := by decide +kernel
theorem d_Mod_letter_28 : decode c_Mod_letter 28 = .ok (.iload_n 2, 1) := by decide +kernel
theorem d_Mod_letter_29 : decode c_Mod_letter 29 = .ok (.iconst 1, 1) := by decide +kernel
theorem d_Mod_letter_30 : decode c_Mod_letter 30 = .ok (.if_icmp .ne 12, 3) := by decide +kernel
theorem d_Mod_letter_33 : decode c_Mod_letter 33 = .ok (.aload_n 0, 1) := by decide +kernel
theorem d_Mod_letter_34 : decode c_Mod_letter 34 = .ok (.getfield 80, 3) := by decide +kernel
theorem d_Mod_letter_37 : decode c_Mod_letter 37 = .ok (.iload_n 1, 1) := by decide +kernel
theorem d_Mod_letter_38 : decode c_Mod_letter 38 = .ok (.iaload, 1) := by decide +kernel
theorem d_Mod_letter_39 : decode c_Mod_letter 39 = .ok (.goto 18, 3) := by decide +kernel
theorem d_Mod_letter_42 : decode c_Mod_letter 42 = .ok (.iload_n 2, 1) := by decide +kernel
theorem d_Mod_letter_43 : decode c_Mod_letter 43 = .ok (.iconst 2, 1) := by decide +kernel
theorem d_Mod_letter_44 : decode c_Mod_letter 44 = .ok (.if_icmp .ne 12, 3) := by decide +kernel
theorem d_Mod_letter_47 : decode c_Mod_letter 47 = .ok (.aload_n 0, 1) := by decide +kernel
theorem d_Mod_letter_48 : decode c_Mod_letter 48 = .ok (.getfield 83, 3) := by decide +kernel
theorem d_Mod_letter_51 : decode c_Mod_letter 51 = .ok (.iload_n 1, 1) := by decide +kernel
theorem d_Mod_letter_52 : decode c_Mod_letter 52 = .ok (.iaload, 1) := by decide +kernel
theorem d_Mod_letter_53 : decode c_Mod_letter 53 = .ok (.goto 4, 3) := by decide +kernel
theorem d_Mod_letter_56 : decode c_Mod_letter 56 = .ok (.iconst (-1), 1) := by decide +kernel
theorem d_Mod_letter_57 : decode c_Mod_letter 57 = .ok (.ireturn, 1) := by decide +kernel
abbrev c_Mod_remove : ByteArray := prog_11_method_34_code
abbrev y_Mod_remove : MethodName := ⟨"FleetFloorModel", "remove", "(I)V"⟩
theorem d_Mod_remove_0 : decode c_Mod_remove 0 = .ok (.aload_n 0, 1) := by decide +kernel
theorem d_Mod_remove_1 : decode c_Mod_remove 1 = .ok (.dup, 1) := by decide +kernel
theorem d_Mod_remove_2 : decode c_Mod_remove 2 = .ok (.getfield 215, 3) := by decide +kernel
theorem d_Mod_remove_5 : decode c_Mod_remove 5 = .ok (.iconst 1, 1) := by decide +kernel
theorem d_Mod_remove_6 : decode c_Mod_remove 6 = .ok (.isub, 1) := by decide +kernel
theorem d_Mod_remove_7 : decode c_Mod_remove 7 = .ok (.putfield 215, 3) := by decide +kernel
theorem d_Mod_remove_10 : decode c_Mod_remove 10 = .ok (.iload_n 1, 1) := by decide +kernel
theorem d_Mod_remove_11 : decode c_Mod_remove 11 = .ok (.istore_n 2, 1) := by decide +kernel
theorem d_Mod_remove_12 : decode c_Mod_remove 12 = .ok (.iload_n 2, 1) := by decide +kernel
theorem d_Mod_remove_13 : decode c_Mod_remove 13 = .ok (.aload_n 0, 1) := by decide +kernel
theorem d_Mod_remove_14 : decode c_Mod_remove 14 = .ok (.getfield 215, 3) := by decide +kernel
theorem d_Mod_remove_17 : decode c_Mod_remove 17 = .ok (.if_icmp .ge 51, 3) := by decide +kernel
theorem d_Mod_remove_20 : decode c_Mod_remove 20 = .ok (.aload_n 0, 1) := by decide +kernel
theorem d_Mod_remove_21 : decode c_Mod_remove 21 = .ok (.getfield 77, 3) := by decide +kernel
theorem d_Mod_remove_24 : decode c_Mod_remove 24 = .ok (.iload_n 2, 1) := by decide +kernel
theorem d_Mod_remove_25 : decode c_Mod_remove 25 = .ok (.aload_n 0, 1) := by decide +kernel
theorem d_Mod_remove_26 : decode c_Mod_remove 26 = .ok (.getfield 77, 3) := by decide +kernel
theorem d_Mod_remove_29 : decode c_Mod_remove 29 = .ok (.iload_n 2, 1) := by decide +kernel
theorem d_Mod_remove_30 : decode c_Mod_remove 30 = .ok (.iconst 1, 1) := by decide +kernel
theorem d_Mod_remove_31 : decode c_Mod_remove 31 = .ok (.iadd, 1) := by decide +kernel
theorem d_Mod_remove_32 : decode c_Mod_remove 32 = .ok (.iaload, 1) := by decide +kernel
theorem d_Mod_remove_33 : decode c_Mod_remove 33 = .ok (.iastore, 1) := by decide +kernel
theorem d_Mod_remove_34 : decode c_Mod_remove 34 = .ok (.aload_n 0, 1) := by decide +kernel
theorem d_Mod_remove_35 : decode c_Mod_remove 35 = .ok (.getfield 80, 3) := by decide +kernel
theorem d_Mod_remove_38 : decode c_Mod_remove 38 = .ok (.iload_n 2, 1) := by decide +kernel
theorem d_Mod_remove_39 : decode c_Mod_remove 39 = .ok (.aload_n 0, 1) := by decide +kernel
theorem d_Mod_remove_40 : decode c_Mod_remove 40 = .ok (.getfield 80, 3) := by decide +kernel
theorem d_Mod_remove_43 : decode c_Mod_remove 43 = .ok (.iload_n 2, 1) := by decide +kernel
theorem d_Mod_remove_44 : decode c_Mod_remove 44 = .ok (.iconst 1, 1) := by decide +kernel
theorem d_Mod_remove_45 : decode c_Mod_remove 45 = .ok (.iadd, 1) := by decide +kernel
theorem d_Mod_remove_46 : decode c_Mod_remove 46 = .ok (.iaload, 1) := by decide +kernel
theorem d_Mod_remove_47 : decode c_Mod_remove 47 = .ok (.iastore, 1) := by decide +kernel
theorem d_Mod_remove_48 : decode c_Mod_remove 48 = .ok (.aload_n 0, 1) := by decide +kernel
theorem d_Mod_remove_49 : decode c_Mod_remove 49 = .ok (.getfield 83, 3) := by decide +kernel
theorem d_Mod_remove_52 : decode c_Mod_remove 52 = .ok (.iload_n 2, 1) := by decide +kernel
theorem d_Mod_remove_53 : decode c_Mod_remove 53 = .ok (.aload_n 0, 1) := by decide +kernel
theorem d_Mod_remove_54 : decode c_Mod_remove 54 = .ok (.getfield 83, 3) := by decide +kernel
theorem d_Mod_remove_57 : decode c_Mod_remove 57 = .ok (.iload_n 2, 1) := by decide +kernel
theorem d_Mod_remove_58 : decode c_Mod_remove 58 = .ok (.iconst 1, 1) := by decide +kernel
theorem d_Mod_remove_59 : decode c_Mod_remove 59 = .ok (.iadd, 1) := by decide +kernel
theorem d_Mod_remove_60 : decode c_Mod_remove 60 = .ok (.iaload, 1) := by decide +kernel
theorem d_Mod_remove_61 : decode c_Mod_remove 61 = .ok (.iastore, 1) := by decide +kernel
theorem d_Mod_remove_62 : decode c_Mod_remove 62 = .ok (.iinc 2 1, 3) := by decide +kernel
theorem d_Mod_remove_65 : decode c_Mod_remove 65 = .ok (.goto (-53), 3) := by decide +kernel
theorem d_Mod_remove_68 : decode c_Mod_remove 68 = .ok (.return_, 1) := by decide +kernel
abbrev c_Mod_deliver : ByteArray := prog_11_method_35_code
abbrev y_Mod_deliver : MethodName := ⟨"FleetFloorModel", "deliver", "(I)Z"⟩
theorem d_Mod_deliver_0 : decode c_Mod_deliver 0 = .ok (.aload_n 0, 1) := by decide +kernel
theorem d_Mod_deliver_1 : decode c_Mod_deliver 1 = .ok (.iconst 0, 1) := by decide +kernel
theorem d_Mod_deliver_2 : decode c_Mod_deliver 2 = .ok (.putfield 96, 3) := by decide +kernel
theorem d_Mod_deliver_5 : decode c_Mod_deliver 5 = .ok (.aload_n 0, 1) := by decide +kernel
theorem d_Mod_deliver_6 : decode c_Mod_deliver 6 = .ok (.iload_n 1, 1) := by decide +kernel
theorem d_Mod_deliver_7 : decode c_Mod_deliver 7 = .ok (.invokevirtual 218, 3) := by decide +kernel
theorem d_Mod_deliver_10 : decode c_Mod_deliver 10 = .ok (.ifCond .ne 5, 3) := by decide +kernel
theorem d_Mod_deliver_13 : decode c_Mod_deliver 13 = .ok (.iconst 0, 1) := by decide +kernel
theorem d_Mod_deliver_14 : decode c_Mod_deliver 14 = .ok (.ireturn, 1) := by decide +kernel
theorem d_Mod_deliver_15 : decode c_Mod_deliver 15 = .ok (.aload_n 0, 1) := by decide +kernel
theorem d_Mod_deliver_16 : decode c_Mod_deliver 16 = .ok (.getfield 80, 3) := by decide +kernel
theorem d_Mod_deliver_19 : decode c_Mod_deliver 19 = .ok (.iload_n 1, 1) := by decide +kernel
theorem d_Mod_deliver_20 : decode c_Mod_deliver 20 = .ok (.iaload, 1) := by decide +kernel
theorem d_Mod_deliver_21 : decode c_Mod_deliver 21 = .ok (.istore_n 2, 1) := by decide +kernel
theorem d_Mod_deliver_22 : decode c_Mod_deliver 22 = .ok (.aload_n 0, 1) := by decide +kernel
theorem d_Mod_deliver_23 : decode c_Mod_deliver 23 = .ok (.getfield 83, 3) := by decide +kernel
theorem d_Mod_deliver_26 : decode c_Mod_deliver 26 = .ok (.iload_n 1, 1) := by decide +kernel
theorem d_Mod_deliver_27 : decode c_Mod_deliver 27 = .ok (.iaload, 1) := by decide +kernel
theorem d_Mod_deliver_28 : decode c_Mod_deliver 28 = .ok (.istore_n 3, 1) := by decide +kernel
theorem d_Mod_deliver_29 : decode c_Mod_deliver 29 = .ok (.aload_n 0, 1) := by decide +kernel
theorem d_Mod_deliver_30 : decode c_Mod_deliver 30 = .ok (.getfield 77, 3) := by decide +kernel
theorem d_Mod_deliver_33 : decode c_Mod_deliver 33 = .ok (.iload_n 1, 1) := by decide +kernel
theorem d_Mod_deliver_34 : decode c_Mod_deliver 34 = .ok (.iaload, 1) := by decide +kernel
theorem d_Mod_deliver_35 : decode c_Mod_deliver 35 = .ok (.ifCond .ne 32, 3) := by decide +kernel
theorem d_Mod_deliver_38 : decode c_Mod_deliver 38 = .ok (.aload_n 0, 1) := by decide +kernel
theorem d_Mod_deliver_39 : decode c_Mod_deliver 39 = .ok (.getfield 62, 3) := by decide +kernel
theorem d_Mod_deliver_42 : decode c_Mod_deliver 42 = .ok (.iload_n 2, 1) := by decide +kernel
theorem d_Mod_deliver_43 : decode c_Mod_deliver 43 = .ok (.iload_n 3, 1) := by decide +kernel
theorem d_Mod_deliver_44 : decode c_Mod_deliver 44 = .ok (.aload_n 0, 1) := by decide +kernel
theorem d_Mod_deliver_45 : decode c_Mod_deliver 45 = .ok (.getfield 62, 3) := by decide +kernel
theorem d_Mod_deliver_48 : decode c_Mod_deliver 48 = .ok (.iload_n 2, 1) := by decide +kernel
theorem d_Mod_deliver_49 : decode c_Mod_deliver 49 = .ok (.iaload, 1) := by decide +kernel
theorem d_Mod_deliver_50 : decode c_Mod_deliver 50 = .ok (.if_icmp .le 7, 3) := by decide +kernel
theorem d_Mod_deliver_53 : decode c_Mod_deliver 53 = .ok (.iload_n 3, 1) := by decide +kernel
theorem d_Mod_deliver_54 : decode c_Mod_deliver 54 = .ok (.goto 9, 3) := by decide +kernel
theorem d_Mod_deliver_57 : decode c_Mod_deliver 57 = .ok (.aload_n 0, 1) := by decide +kernel
theorem d_Mod_deliver_58 : decode c_Mod_deliver 58 = .ok (.getfield 62, 3) := by decide +kernel
theorem d_Mod_deliver_61 : decode c_Mod_deliver 61 = .ok (.iload_n 2, 1) := by decide +kernel
theorem d_Mod_deliver_62 : decode c_Mod_deliver 62 = .ok (.iaload, 1) := by decide +kernel
theorem d_Mod_deliver_63 : decode c_Mod_deliver 63 = .ok (.iastore, 1) := by decide +kernel
theorem d_Mod_deliver_64 : decode c_Mod_deliver 64 = .ok (.goto 29, 3) := by decide +kernel
theorem d_Mod_deliver_67 : decode c_Mod_deliver 67 = .ok (.aload_n 0, 1) := by decide +kernel
theorem d_Mod_deliver_68 : decode c_Mod_deliver 68 = .ok (.getfield 65, 3) := by decide +kernel
theorem d_Mod_deliver_71 : decode c_Mod_deliver 71 = .ok (.iload_n 2, 1) := by decide +kernel
theorem d_Mod_deliver_72 : decode c_Mod_deliver 72 = .ok (.iload_n 3, 1) := by decide +kernel
theorem d_Mod_deliver_73 : decode c_Mod_deliver 73 = .ok (.aload_n 0, 1) := by decide +kernel
theorem d_Mod_deliver_74 : decode c_Mod_deliver 74 = .ok (.getfield 65, 3) := by decide +kernel
theorem d_Mod_deliver_77 : decode c_Mod_deliver 77 = .ok (.iload_n 2, 1) := by decide +kernel
theorem d_Mod_deliver_78 : decode c_Mod_deliver 78 = .ok (.iaload, 1) := by decide +kernel
theorem d_Mod_deliver_79 : decode c_Mod_deliver 79 = .ok (.if_icmp .le 7, 3) := by decide +kernel
theorem d_Mod_deliver_82 : decode c_Mod_deliver 82 = .ok (.iload_n 3, 1) := by decide +kernel
theorem d_Mod_deliver_83 : decode c_Mod_deliver 83 = .ok (.goto 9, 3) := by decide +kernel
theorem d_Mod_deliver_86 : decode c_Mod_deliver 86 = .ok (.aload_n 0, 1) := by decide +kernel
theorem d_Mod_deliver_87 : decode c_Mod_deliver 87 = .ok (.getfield 65, 3) := by decide +kernel
theorem d_Mod_deliver_90 : decode c_Mod_deliver 90 = .ok (.iload_n 2, 1) := by decide +kernel
theorem d_Mod_deliver_91 : decode c_Mod_deliver 91 = .ok (.iaload, 1) := by decide +kernel
theorem d_Mod_deliver_92 : decode c_Mod_deliver 92 = .ok (.iastore, 1) := by decide +kernel
theorem d_Mod_deliver_93 : decode c_Mod_deliver 93 = .ok (.aload_n 0, 1) := by decide +kernel
theorem d_Mod_deliver_94 : decode c_Mod_deliver 94 = .ok (.iload_n 1, 1) := by decide +kernel
theorem d_Mod_deliver_95 : decode c_Mod_deliver 95 = .ok (.invokevirtual 221, 3) := by decide +kernel
theorem d_Mod_deliver_98 : decode c_Mod_deliver 98 = .ok (.iconst 1, 1) := by decide +kernel
theorem d_Mod_deliver_99 : decode c_Mod_deliver 99 = .ok (.ireturn, 1) := by decide +kernel
abbrev c_Mod_lose : ByteArray := prog_11_method_36_code
abbrev y_Mod_lose : MethodName := ⟨"FleetFloorModel", "lose", "(I)Z"⟩
theorem d_Mod_lose_0 : decode c_Mod_lose 0 = .ok (.aload_n 0, 1) := by decide +kernel
theorem d_Mod_lose_1 : decode c_Mod_lose 1 = .ok (.iconst 0, 1) := by decide +kernel
theorem d_Mod_lose_2 : decode c_Mod_lose 2 = .ok (.putfield 96, 3) := by decide +kernel
theorem d_Mod_lose_5 : decode c_Mod_lose 5 = .ok (.aload_n 0, 1) := by decide +kernel
theorem d_Mod_lose_6 : decode c_Mod_lose 6 = .ok (.iload_n 1, 1) := by decide +kernel
theorem d_Mod_lose_7 : decode c_Mod_lose 7 = .ok (.invokevirtual 218, 3) := by decide +kernel
theorem d_Mod_lose_10 : decode c_Mod_lose 10 = .ok (.ifCond .ne 5, 3) := by decide +kernel
theorem d_Mod_lose_13 : decode c_Mod_lose 13 = .ok (.iconst 0, 1) := by decide +kernel
theorem d_Mod_lose_14 : decode c_Mod_lose 14 = .ok (.ireturn, 1) := by decide +kernel
theorem d_Mod_lose_15 : decode c_Mod_lose 15 = .ok (.aload_n 0, 1) := by decide +kernel
theorem d_Mod_lose_16 : decode c_Mod_lose 16 = .ok (.iload_n 1, 1) := by decide +kernel
theorem d_Mod_lose_17 : decode c_Mod_lose 17 = .ok (.invokevirtual 221, 3) := by decide +kernel
theorem d_Mod_lose_20 : decode c_Mod_lose 20 = .ok (.iconst 1, 1) := by decide +kernel
theorem d_Mod_lose_21 : decode c_Mod_lose 21 = .ok (.ireturn, 1) := by decide +kernel
abbrev c_Mod_twin : ByteArray := prog_11_method_37_code
abbrev y_Mod_twin : MethodName := ⟨"FleetFloorModel", "twin", "(I)Z"⟩
theorem d_Mod_twin_0 : decode c_Mod_twin 0 = .ok (.aload_n 0, 1) := by decide +kernel
theorem d_Mod_twin_1 : decode c_Mod_twin 1 = .ok (.iconst 0, 1) := by decide +kernel
theorem d_Mod_twin_2 : decode c_Mod_twin 2 = .ok (.putfield 96, 3) := by decide +kernel
theorem d_Mod_twin_5 : decode c_Mod_twin 5 = .ok (.aload_n 0, 1) := by decide +kernel
theorem d_Mod_twin_6 : decode c_Mod_twin 6 = .ok (.iload_n 1, 1) := by decide +kernel
theorem d_Mod_twin_7 : decode c_Mod_twin 7 = .ok (.invokevirtual 218, 3) := by decide +kernel
theorem d_Mod_twin_10 : decode c_Mod_twin 10 = .ok (.ifCond .eq 12, 3) := by decide +kernel
theorem d_Mod_twin_13 : decode c_Mod_twin 13 = .ok (.aload_n 0, 1) := by decide +kernel
theorem d_Mod_twin_14 : decode c_Mod_twin 14 = .ok (.getfield 215, 3) := by decide +kernel
theorem d_Mod_twin_17 : decode c_Mod_twin 17 = .ok (.bipush 60, 2) := by decide +kernel
theorem d_Mod_twin_19 : decode c_Mod_twin 19 = .ok (.if_icmp .ne 5, 3) := by decide +kernel
theorem d_Mod_twin_22 : decode c_Mod_twin 22 = .ok (.iconst 0, 1) := by decide +kernel
theorem d_Mod_twin_23 : decode c_Mod_twin 23 = .ok (.ireturn, 1) := by decide +kernel
theorem d_Mod_twin_24 : decode c_Mod_twin 24 = .ok (.aload_n 0, 1) := by decide +kernel
theorem d_Mod_twin_25 : decode c_Mod_twin 25 = .ok (.aload_n 0, 1) := by decide +kernel
theorem d_Mod_twin_26 : decode c_Mod_twin 26 = .ok (.getfield 77, 3) := by decide +kernel
theorem d_Mod_twin_29 : decode c_Mod_twin 29 = .ok (.iload_n 1, 1) := by decide +kernel
theorem d_Mod_twin_30 : decode c_Mod_twin 30 = .ok (.iaload, 1) := by decide +kernel
theorem d_Mod_twin_31 : decode c_Mod_twin 31 = .ok (.aload_n 0, 1) := by decide +kernel
theorem d_Mod_twin_32 : decode c_Mod_twin 32 = .ok (.getfield 80, 3) := by decide +kernel
theorem d_Mod_twin_35 : decode c_Mod_twin 35 = .ok (.iload_n 1, 1) := by decide +kernel
theorem d_Mod_twin_36 : decode c_Mod_twin 36 = .ok (.iaload, 1) := by decide +kernel
theorem d_Mod_twin_37 : decode c_Mod_twin 37 = .ok (.aload_n 0, 1) := by decide +kernel
theorem d_Mod_twin_38 : decode c_Mod_twin 38 = .ok (.getfield 83, 3) := by decide +kernel
theorem d_Mod_twin_41 : decode c_Mod_twin 41 = .ok (.iload_n 1, 1) := by decide +kernel
theorem d_Mod_twin_42 : decode c_Mod_twin 42 = .ok (.iaload, 1) := by decide +kernel
theorem d_Mod_twin_43 : decode c_Mod_twin 43 = .ok (.invokevirtual 208, 3) := by decide +kernel
theorem d_Mod_twin_46 : decode c_Mod_twin 46 = .ok (.iconst 1, 1) := by decide +kernel
theorem d_Mod_twin_47 : decode c_Mod_twin 47 = .ok (.ireturn, 1) := by decide +kernel
abbrev c_Mod_go : ByteArray := prog_11_method_38_code
abbrev y_Mod_go : MethodName := ⟨"FleetFloorModel", "go", "(I)V"⟩
theorem d_Mod_go_0 : decode c_Mod_go 0 = .ok (.aload_n 0, 1) := by decide +kernel
theorem d_Mod_go_1 : decode c_Mod_go 1 = .ok (.getfield 56, 3) := by decide +kernel
theorem d_Mod_go_4 : decode c_Mod_go 4 = .ok (.iload_n 1, 1) := by decide +kernel
theorem d_Mod_go_5 : decode c_Mod_go 5 = .ok (.aload_n 0, 1) := by decide +kernel
theorem d_Mod_go_6 : decode c_Mod_go 6 = .ok (.getfield 50, 3) := by decide +kernel
theorem d_Mod_go_9 : decode c_Mod_go 9 = .ok (.aload_n 0, 1) := by decide +kernel
theorem d_Mod_go_10 : decode c_Mod_go 10 = .ok (.iload_n 1, 1) := by decide +kernel
theorem d_Mod_go_11 : decode c_Mod_go 11 = .ok (.aload_n 0, 1) := by decide +kernel
theorem d_Mod_go_12 : decode c_Mod_go 12 = .ok (.getfield 59, 3) := by decide +kernel
theorem d_Mod_go_15 : decode c_Mod_go 15 = .ok (.iload_n 1, 1) := by decide +kernel
theorem d_Mod_go_16 : decode c_Mod_go 16 = .ok (.iaload, 1) := by decide +kernel
theorem d_Mod_go_17 : decode c_Mod_go 17 = .ok (.invokevirtual 139, 3) := by decide +kernel
theorem d_Mod_go_20 : decode c_Mod_go 20 = .ok (.iaload, 1) := by decide +kernel
theorem d_Mod_go_21 : decode c_Mod_go 21 = .ok (.iastore, 1) := by decide +kernel
theorem d_Mod_go_22 : decode c_Mod_go 22 = .ok (.iconst 0, 1) := by decide +kernel
theorem d_Mod_go_23 : decode c_Mod_go 23 = .ok (.istore_n 2, 1) := by decide +kernel
theorem d_Mod_go_24 : decode c_Mod_go 24 = .ok (.iload_n 2, 1) := by decide +kernel
theorem d_Mod_go_25 : decode c_Mod_go 25 = .ok (.aload_n 0, 1) := by decide +kernel
theorem d_Mod_go_26 : decode c_Mod_go 26 = .ok (.getfield 133, 3) := by decide +kernel
theorem d_Mod_go_29 : decode c_Mod_go 29 = .ok (.if_icmp .ge 44, 3) := by decide +kernel
theorem d_Mod_go_32 : decode c_Mod_go 32 = .ok (.aload_n 0, 1) := by decide +kernel
theorem d_Mod_go_33 : decode c_Mod_go 33 = .ok (.getfield 32, 3) := by decide +kernel
theorem d_Mod_go_36 : decode c_Mod_go 36 = .ok (.iload_n 2, 1) := by decide +kernel
theorem d_Mod_go_37 : decode c_Mod_go 37 = .ok (.iaload, 1) := by decide +kernel
theorem d_Mod_go_38 : decode c_Mod_go 38 = .ok (.iload_n 1, 1) := by decide +kernel
theorem d_Mod_go_39 : decode c_Mod_go 39 = .ok (.if_icmp .ne 28, 3) := by decide +kernel
theorem d_Mod_go_42 : decode c_Mod_go 42 = .ok (.aload_n 0, 1) := by decide +kernel
theorem d_Mod_go_43 : decode c_Mod_go 43 = .ok (.getfield 44, 3) := by decide +kernel
theorem d_Mod_go_46 : decode c_Mod_go 46 = .ok (.iload_n 2, 1) := by decide +kernel
theorem d_Mod_go_47 : decode c_Mod_go 47 = .ok (.iaload, 1) := by decide +kernel
theorem d_Mod_go_48 : decode c_Mod_go 48 = .ok (.aload_n 0, 1) := by decide +kernel
theorem d_Mod_go_49 : decode c_Mod_go 49 = .ok (.getfield 59, 3) := by decide +kernel
theorem d_Mod_go_52 : decode c_Mod_go 52 = .ok (.iload_n 1, 1) := by decide +kernel
theorem d_Mod_go_53 : decode c_Mod_go 53 = .ok (.iaload, 1) := by decide +kernel
theorem d_Mod_go_54 : decode c_Mod_go 54 = .ok (.if_icmp .ne 13, 3) := by decide +kernel
theorem d_Mod_go_57 : decode c_Mod_go 57 = .ok (.aload_n 0, 1) := by decide +kernel
theorem d_Mod_go_58 : decode c_Mod_go 58 = .ok (.getfield 47, 3) := by decide +kernel
theorem d_Mod_go_61 : decode c_Mod_go 61 = .ok (.iload_n 2, 1) := by decide +kernel
theorem d_Mod_go_62 : decode c_Mod_go 62 = .ok (.aload_n 0, 1) := by decide +kernel
theorem d_Mod_go_63 : decode c_Mod_go 63 = .ok (.getfield 212, 3) := by decide +kernel
theorem d_Mod_go_66 : decode c_Mod_go 66 = .ok (.iastore, 1) := by decide +kernel
theorem d_Mod_go_67 : decode c_Mod_go 67 = .ok (.iinc 2 1, 3) := by decide +kernel
theorem d_Mod_go_70 : decode c_Mod_go 70 = .ok (.goto (-46), 3) := by decide +kernel
theorem d_Mod_go_73 : decode c_Mod_go 73 = .ok (.aload_n 0, 1) := by decide +kernel
theorem d_Mod_go_74 : decode c_Mod_go 74 = .ok (.getfield 59, 3) := by decide +kernel
theorem d_Mod_go_77 : decode c_Mod_go 77 = .ok (.iload_n 1, 1) := by decide +kernel
theorem d_Mod_go_78 : decode c_Mod_go 78 = .ok (.dup2, 1) := by decide +kernel
theorem d_Mod_go_79 : decode c_Mod_go 79 = .ok (.iaload, 1) := by decide +kernel
theorem d_Mod_go_80 : decode c_Mod_go 80 = .ok (.iconst 1, 1) := by decide +kernel
theorem d_Mod_go_81 : decode c_Mod_go 81 = .ok (.iadd, 1) := by decide +kernel
theorem d_Mod_go_82 : decode c_Mod_go 82 = .ok (.iastore, 1) := by decide +kernel
theorem d_Mod_go_83 : decode c_Mod_go 83 = .ok (.return_, 1) := by decide +kernel
abbrev c_Mod_tick : ByteArray := prog_11_method_39_code
abbrev y_Mod_tick : MethodName := ⟨"FleetFloorModel", "tick", "()I"⟩
theorem d_Mod_tick_0 : decode c_Mod_tick 0 = .ok (.aload_n 0, 1) := by decide +kernel
theorem d_Mod_tick_1 : decode c_Mod_tick 1 = .ok (.aload_n 0, 1) := by decide +kernel
theorem d_Mod_tick_2 : decode c_Mod_tick 2 = .ok (.getfield 100, 3) := by decide +kernel
theorem d_Mod_tick_5 : decode c_Mod_tick 5 = .ok (.ifCond .ne 7, 3) := by decide +kernel
theorem d_Mod_tick_8 : decode c_Mod_tick 8 = .ok (.iconst 1, 1) := by decide +kernel
theorem d_Mod_tick_9 : decode c_Mod_tick 9 = .ok (.goto 4, 3) := by decide +kernel
theorem d_Mod_tick_12 : decode c_Mod_tick 12 = .ok (.iconst 0, 1) := by decide +kernel
theorem d_Mod_tick_13 : decode c_Mod_tick 13 = .ok (.iconst 0, 1) := by decide +kernel
theorem d_Mod_tick_14 : decode c_Mod_tick 14 = .ok (.invokevirtual 120, 3) := by decide +kernel
theorem d_Mod_tick_17 : decode c_Mod_tick 17 = .ok (.ifCond .eq 5, 3) := by decide +kernel
theorem d_Mod_tick_20 : decode c_Mod_tick 20 = .ok (.iconst 0, 1) := by decide +kernel
theorem d_Mod_tick_21 : decode c_Mod_tick 21 = .ok (.ireturn, 1) := by decide +kernel
theorem d_Mod_tick_22 : decode c_Mod_tick 22 = .ok (.iconst 0, 1) := by decide +kernel
theorem d_Mod_tick_23 : decode c_Mod_tick 23 = .ok (.istore_n 1, 1) := by decide +kernel
theorem d_Mod_tick_24 : decode c_Mod_tick 24 = .ok (.iconst 0, 1) := by decide +kernel
theorem d_Mod_tick_25 : decode c_Mod_tick 25 = .ok (.istore_n 2, 1) := by decide +kernel
theorem d_Mod_tick_26 : decode c_Mod_tick 26 = .ok (.iload_n 2, 1) := by decide +kernel
theorem d_Mod_tick_27 : decode c_Mod_tick 27 = .ok (.aload_n 0, 1) := by decide +kernel
theorem d_Mod_tick_28 : decode c_Mod_tick 28 = .ok (.getfield 127, 3) := by decide +kernel
theorem d_Mod_tick_31 : decode c_Mod_tick 31 = .ok (.if_icmp .ge 75, 3) := by decide +kernel
theorem d_Mod_tick_34 : decode c_Mod_tick 34 = .ok (.aload_n 0, 1) := by decide +kernel
theorem d_Mod_tick_35 : decode c_Mod_tick 35 = .ok (.getfield 59, 3) := by decide +kernel
theorem d_Mod_tick_38 : decode c_Mod_tick 38 = .ok (.iload_n 2, 1) := by decide +kernel
theorem d_Mod_tick_39 : decode c_Mod_tick 39 = .ok (.iaload, 1) := by decide +kernel
theorem d_Mod_tick_40 : decode c_Mod_tick 40 = .ok (.aload_n 0, 1) := by decide +kernel
theorem d_Mod_tick_41 : decode c_Mod_tick 41 = .ok (.getfield 62, 3) := by decide +kernel
theorem d_Mod_tick_44 : decode c_Mod_tick 44 = .ok (.iload_n 2, 1) := by decide +kernel
theorem d_Mod_tick_45 : decode c_Mod_tick 45 = .ok (.iaload, 1) := by decide +kernel
theorem d_Mod_tick_46 : decode c_Mod_tick 46 = .ok (.if_icmp .ge 7, 3) := by decide +kernel
theorem d_Mod_tick_49 : decode c_Mod_tick 49 = .ok (.iconst 1, 1) := by decide +kernel
theorem d_Mod_tick_50 : decode c_Mod_tick 50 = .ok (.goto 4, 3) := by decide +kernel
theorem d_Mod_tick_53 : decode c_Mod_tick 53 = .ok (.iconst 0, 1) := by decide +kernel
theorem d_Mod_tick_54 : decode c_Mod_tick 54 = .ok (.istore_n 3, 1) := by decide +kernel
theorem d_Mod_tick_55 : decode c_Mod_tick 55 = .ok (.iload_n 3, 1) := by decide +kernel
theorem d_Mod_tick_56 : decode c_Mod_tick 56 = .ok (.ifCond .eq 8, 3) := by decide +kernel
theorem d_Mod_tick_59 : decode c_Mod_tick 59 = .ok (.aload_n 0, 1) := by decide +kernel
theorem d_Mod_tick_60 : decode c_Mod_tick 60 = .ok (.iload_n 2, 1) := by decide +kernel
theorem d_Mod_tick_61 : decode c_Mod_tick 61 = .ok (.invokevirtual 224, 3) := by decide +kernel
theorem d_Mod_tick_64 : decode c_Mod_tick 64 = .ok (.iload_n 3, 1) := by decide +kernel
theorem d_Mod_tick_65 : decode c_Mod_tick 65 = .ok (.ifCond .ne 11, 3) := by decide +kernel
theorem d_Mod_tick_68 : decode c_Mod_tick 68 = .ok (.aload_n 0, 1) := by decide +kernel
theorem d_Mod_tick_69 : decode c_Mod_tick 69 = .ok (.iload_n 2, 1) := by decide +kernel
theorem d_Mod_tick_70 : decode c_Mod_tick 70 = .ok (.invokevirtual 205, 3) := by decide +kernel
theorem d_Mod_tick_73 : decode c_Mod_tick 73 = .ok (.ifCond .eq 15, 3) := by decide +kernel
theorem d_Mod_tick_76 : decode c_Mod_tick 76 = .ok (.aload_n 0, 1) := by decide +kernel
theorem d_Mod_tick_77 : decode c_Mod_tick 77 = .ok (.iconst 1, 1) := by decide +kernel
theorem d_Mod_tick_78 : decode c_Mod_tick 78 = .ok (.iload_n 2, 1) := by decide +kernel
theorem d_Mod_tick_79 : decode c_Mod_tick 79 = .ok (.aload_n 0, 1) := by decide +kernel
theorem d_Mod_tick_80 : decode c_Mod_tick 80 = .ok (.getfield 59, 3) := by decide +kernel
theorem d_Mod_tick_83 : decode c_Mod_tick 83 = .ok (.iload_n 2, 1) := by decide +kernel
theorem d_Mod_tick_84 : decode c_Mod_tick 84 = .ok (.iaload, 1) := by decide +kernel
theorem d_Mod_tick_85 : decode c_Mod_tick 85 = .ok (.invokevirtual 208, 3) := by decide +kernel
theorem d_Mod_tick_88 : decode c_Mod_tick 88 = .ok (.iload_n 1, 1) := by decide +kernel
theorem d_Mod_tick_89 : decode c_Mod_tick 89 = .ok (.iload_n 3, 1) := by decide +kernel
theorem d_Mod_tick_90 : decode c_Mod_tick 90 = .ok (.ifCond .eq 7, 3) := by decide +kernel
theorem d_Mod_tick_93 : decode c_Mod_tick 93 = .ok (.iconst 1, 1) := by decide +kernel
theorem d_Mod_tick_94 : decode c_Mod_tick 94 = .ok (.goto 4, 3) := by decide +kernel
theorem d_Mod_tick_97 : decode c_Mod_tick 97 = .ok (.iconst 0, 1) := by decide +kernel
theorem d_Mod_tick_98 : decode c_Mod_tick 98 = .ok (.iadd, 1) := by decide +kernel
theorem d_Mod_tick_99 : decode c_Mod_tick 99 = .ok (.istore_n 1, 1) := by decide +kernel
theorem d_Mod_tick_100 : decode c_Mod_tick 100 = .ok (.iinc 2 1, 3) := by decide +kernel
theorem d_Mod_tick_103 : decode c_Mod_tick 103 = .ok (.goto (-77), 3) := by decide +kernel
theorem d_Mod_tick_106 : decode c_Mod_tick 106 = .ok (.aload_n 0, 1) := by decide +kernel
theorem d_Mod_tick_107 : decode c_Mod_tick 107 = .ok (.getfield 212, 3) := by decide +kernel
theorem d_Mod_tick_110 : decode c_Mod_tick 110 = .ok (.iconst 4, 1) := by decide +kernel
theorem d_Mod_tick_111 : decode c_Mod_tick 111 = .ok (.irem, 1) := by decide +kernel
theorem d_Mod_tick_112 : decode c_Mod_tick 112 = .ok (.ifCond .ne 7, 3) := by decide +kernel
theorem d_Mod_tick_115 : decode c_Mod_tick 115 = .ok (.aload_n 0, 1) := by decide +kernel
theorem d_Mod_tick_116 : decode c_Mod_tick 116 = .ok (.invokevirtual 227, 3) := by decide +kernel
theorem d_Mod_tick_119 : decode c_Mod_tick 119 = .ok (.iconst 0, 1) := by decide +kernel
theorem d_Mod_tick_120 : decode c_Mod_tick 120 = .ok (.istore_n 2, 1) := by decide +kernel
theorem d_Mod_tick_121 : decode c_Mod_tick 121 = .ok (.iload_n 2, 1) := by decide +kernel
theorem d_Mod_tick_122 : decode c_Mod_tick 122 = .ok (.aload_n 0, 1) := by decide +kernel
theorem d_Mod_tick_123 : decode c_Mod_tick 123 = .ok (.getfield 127, 3) := by decide +kernel
theorem d_Mod_tick_126 : decode c_Mod_tick 126 = .ok (.if_icmp .ge 14, 3) := by decide +kernel
theorem d_Mod_tick_129 : decode c_Mod_tick 129 = .ok (.aload_n 0, 1) := by decide +kernel
theorem d_Mod_tick_130 : decode c_Mod_tick 130 = .ok (.iload_n 2, 1) := by decide +kernel
theorem d_Mod_tick_131 : decode c_Mod_tick 131 = .ok (.invokevirtual 230, 3) := by decide +kernel
theorem d_Mod_tick_134 : decode c_Mod_tick 134 = .ok (.iinc 2 1, 3) := by decide +kernel
theorem d_Mod_tick_137 : decode c_Mod_tick 137 = .ok (.goto (-16), 3) := by decide +kernel
theorem d_Mod_tick_140 : decode c_Mod_tick 140 = .ok (.aload_n 0, 1) := by decide +kernel
theorem d_Mod_tick_141 : decode c_Mod_tick 141 = .ok (.dup, 1) := by decide +kernel
theorem d_Mod_tick_142 : decode c_Mod_tick 142 = .ok (.getfield 212, 3) := by decide +kernel
theorem d_Mod_tick_145 : decode c_Mod_tick 145 = .ok (.iconst 1, 1) := by decide +kernel
theorem d_Mod_tick_146 : decode c_Mod_tick 146 = .ok (.iadd, 1) := by decide +kernel
theorem d_Mod_tick_147 : decode c_Mod_tick 147 = .ok (.putfield 212, 3) := by decide +kernel
theorem d_Mod_tick_150 : decode c_Mod_tick 150 = .ok (.iload_n 1, 1) := by decide +kernel
theorem d_Mod_tick_151 : decode c_Mod_tick 151 = .ok (.ireturn, 1) := by decide +kernel
abbrev c_Mod_vehicle : ByteArray := prog_11_method_40_code
abbrev y_Mod_vehicle : MethodName := ⟨"FleetFloorModel", "vehicle", "(II)I"⟩
theorem d_Mod_vehicle_0 : decode c_Mod_vehicle 0 = .ok (.aload_n 0, 1) := by decide +kernel
theorem d_Mod_vehicle_1 : decode c_Mod_vehicle 1 = .ok (.iconst 0, 1) := by decide +kernel
theorem d_Mod_vehicle_2 : decode c_Mod_vehicle 2 = .ok (.putfield 96, 3) := by decide +kernel
theorem d_Mod_vehicle_5 : decode c_Mod_vehicle 5 = .ok (.iload_n 1, 1) := by decide +kernel
theorem d_Mod_vehicle_6 : decode c_Mod_vehicle 6 = .ok (.iconst 0, 1) := by decide +kernel
theorem d_Mod_vehicle_7 : decode c_Mod_vehicle 7 = .ok (.aload_n 0, 1) := by decide +kernel
theorem d_Mod_vehicle_8 : decode c_Mod_vehicle 8 = .ok (.getfield 127, 3) := by decide +kernel
theorem d_Mod_vehicle_11 : decode c_Mod_vehicle 11 = .ok (.iconst 1, 1) := by decide +kernel
theorem d_Mod_vehicle_12 : decode c_Mod_vehicle 12 = .ok (.isub, 1) := by decide +kernel
theorem d_Mod_vehicle_13 : decode c_Mod_vehicle 13 = .ok (.invokestatic 104, 3) := by decide +kernel
theorem d_Mod_vehicle_16 : decode c_Mod_vehicle 16 = .ok (.ifCond .ne 5, 3) := by decide +kernel
theorem d_Mod_vehicle_19 : decode c_Mod_vehicle 19 = .ok (.iconst (-1), 1) := by decide +kernel
theorem d_Mod_vehicle_20 : decode c_Mod_vehicle 20 = .ok (.ireturn, 1) := by decide +kernel
theorem d_Mod_vehicle_21 : decode c_Mod_vehicle 21 = .ok (.iload_n 2, 1) := by decide +kernel
theorem d_Mod_vehicle_22 : decode c_Mod_vehicle 22 = .ok (.tableswitch 91 0 6 #[42, 49, 56, 63, 70, 77, 84], 42) := by decide +kernel
theorem d_Mod_vehicle_64 : decode c_Mod_vehicle 64 = .ok (.aload_n 0, 1) := by decide +kernel
theorem d_Mod_vehicle_65 : decode c_Mod_vehicle 65 = .ok (.getfield 56, 3) := by decide +kernel
theorem d_Mod_vehicle_68 : decode c_Mod_vehicle 68 = .ok (.iload_n 1, 1) := by decide +kernel
theorem d_Mod_vehicle_69 : decode c_Mod_vehicle 69 = .ok (.iaload, 1) := by decide +kernel
theorem d_Mod_vehicle_70 : decode c_Mod_vehicle 70 = .ok (.ireturn, 1) := by decide +kernel
theorem d_Mod_vehicle_71 : decode c_Mod_vehicle 71 = .ok (.aload_n 0, 1) := by decide +kernel
theorem d_Mod_vehicle_72 : decode c_Mod_vehicle 72 = .ok (.getfield 59, 3) := by decide +kernel
theorem d_Mod_vehicle_75 : decode c_Mod_vehicle 75 = .ok (.iload_n 1, 1) := by decide +kernel
theorem d_Mod_vehicle_76 : decode c_Mod_vehicle 76 = .ok (.iaload, 1) := by decide +kernel
theorem d_Mod_vehicle_77 : decode c_Mod_vehicle 77 = .ok (.ireturn, 1) := by decide +kernel
theorem d_Mod_vehicle_78 : decode c_Mod_vehicle 78 = .ok (.aload_n 0, 1) := by decide +kernel
theorem d_Mod_vehicle_79 : decode c_Mod_vehicle 79 = .ok (.getfield 62, 3) := by decide +kernel
theorem d_Mod_vehicle_82 : decode c_Mod_vehicle 82 = .ok (.iload_n 1, 1) := by decide +kernel
theorem d_Mod_vehicle_83 : decode c_Mod_vehicle 83 = .ok (.iaload, 1) := by decide +kernel
theorem d_Mod_vehicle_84 : decode c_Mod_vehicle 84 = .ok (.ireturn, 1) := by decide +kernel
theorem d_Mod_vehicle_85 : decode c_Mod_vehicle 85 = .ok (.aload_n 0, 1) := by decide +kernel
theorem d_Mod_vehicle_86 : decode c_Mod_vehicle 86 = .ok (.getfield 65, 3) := by decide +kernel
theorem d_Mod_vehicle_89 : decode c_Mod_vehicle 89 = .ok (.iload_n 1, 1) := by decide +kernel
theorem d_Mod_vehicle_90 : decode c_Mod_vehicle 90 = .ok (.iaload, 1) := by decide +kernel
theorem d_Mod_vehicle_91 : decode c_Mod_vehicle 91 = .ok (.ireturn, 1) := by decide +kernel
theorem d_Mod_vehicle_92 : decode c_Mod_vehicle 92 = .ok (.aload_n 0, 1) := by decide +kernel
theorem d_Mod_vehicle_93 : decode c_Mod_vehicle 93 = .ok (.getfield 68, 3) := by decide +kernel
theorem d_Mod_vehicle_96 : decode c_Mod_vehicle 96 = .ok (.iload_n 1, 1) := by decide +kernel
theorem d_Mod_vehicle_97 : decode c_Mod_vehicle 97 = .ok (.iaload, 1) := by decide +kernel
theorem d_Mod_vehicle_98 : decode c_Mod_vehicle 98 = .ok (.ireturn, 1) := by decide +kernel
theorem d_Mod_vehicle_99 : decode c_Mod_vehicle 99 = .ok (.aload_n 0, 1) := by decide +kernel
theorem d_Mod_vehicle_100 : decode c_Mod_vehicle 100 = .ok (.getfield 71, 3) := by decide +kernel
theorem d_Mod_vehicle_103 : decode c_Mod_vehicle 103 = .ok (.iload_n 1, 1) := by decide +kernel
theorem d_Mod_vehicle_104 : decode c_Mod_vehicle 104 = .ok (.iaload, 1) := by decide +kernel
theorem d_Mod_vehicle_105 : decode c_Mod_vehicle 105 = .ok (.ireturn, 1) := by decide +kernel
theorem d_Mod_vehicle_106 : decode c_Mod_vehicle 106 = .ok (.aload_n 0, 1) := by decide +kernel
theorem d_Mod_vehicle_107 : decode c_Mod_vehicle 107 = .ok (.getfield 74, 3) := by decide +kernel
theorem d_Mod_vehicle_110 : decode c_Mod_vehicle 110 = .ok (.iload_n 1, 1) := by decide +kernel
theorem d_Mod_vehicle_111 : decode c_Mod_vehicle 111 = .ok (.iaload, 1) := by decide +kernel
theorem d_Mod_vehicle_112 : decode c_Mod_vehicle 112 = .ok (.ireturn, 1) := by decide +kernel
theorem d_Mod_vehicle_113 : decode c_Mod_vehicle 113 = .ok (.iconst (-1), 1) := by decide +kernel
theorem d_Mod_vehicle_114 : decode c_Mod_vehicle 114 = .ok (.ireturn, 1) := by decide +kernel
abbrev c_Mod_move : ByteArray := prog_11_method_41_code
abbrev y_Mod_move : MethodName := ⟨"FleetFloorModel", "move", "(III)I"⟩
theorem d_Mod_move_0 : decode c_Mod_move 0 = .ok (.aload_n 0, 1) := by decide +kernel
theorem d_Mod_move_1 : decode c_Mod_move 1 = .ok (.iconst 0, 1) := by decide +kernel
theorem d_Mod_move_2 : decode c_Mod_move 2 = .ok (.putfield 96, 3) := by decide +kernel
theorem d_Mod_move_5 : decode c_Mod_move 5 = .ok (.iload_n 1, 1) := by decide +kernel
theorem d_Mod_move_6 : decode c_Mod_move 6 = .ok (.iconst 0, 1) := by decide +kernel
theorem d_Mod_move_7 : decode c_Mod_move 7 = .ok (.aload_n 0, 1) := by decide +kernel
theorem d_Mod_move_8 : decode c_Mod_move 8 = .ok (.getfield 127, 3) := by decide +kernel
theorem d_Mod_move_11 : decode c_Mod_move 11 = .ok (.iconst 1, 1) := by decide +kernel
theorem d_Mod_move_12 : decode c_Mod_move 12 = .ok (.isub, 1) := by decide +kernel
theorem d_Mod_move_13 : decode c_Mod_move 13 = .ok (.invokestatic 104, 3) := by decide +kernel
theorem d_Mod_move_16 : decode c_Mod_move 16 = .ok (.ifCond .eq 28, 3) := by decide +kernel
theorem d_Mod_move_19 : decode c_Mod_move 19 = .ok (.iload_n 2, 1) := by decide +kernel
theorem d_Mod_move_20 : decode c_Mod_move 20 = .ok (.iconst 0, 1) := by decide +kernel
theorem d_Mod_move_21 : decode c_Mod_move 21 = .ok (.aload_n 0, 1) := by decide +kernel
theorem d_Mod_move_22 : decode c_Mod_move 22 = .ok (.getfield 71, 3) := by decide +kernel
theorem d_Mod_move_25 : decode c_Mod_move 25 = .ok (.iload_n 1, 1) := by decide +kernel
theorem d_Mod_move_26 : decode c_Mod_move 26 = .ok (.iaload, 1) := by decide +kernel
theorem d_Mod_move_27 : decode c_Mod_move 27 = .ok (.iconst 1, 1) := by decide +kernel
theorem d_Mod_move_28 : decode c_Mod_move 28 = .ok (.isub, 1) := by decide +kernel
theorem d_Mod_move_29 : decode c_Mod_move 29 = .ok (.invokestatic 104, 3) := by decide +kernel
theorem d_Mod_move_32 : decode c_Mod_move 32 = .ok (.ifCond .eq 12, 3) := by decide +kernel
theorem d_Mod_move_35 : decode c_Mod_move 35 = .ok (.iload_n 3, 1) := by decide +kernel
theorem d_Mod_move_36 : decode c_Mod_move 36 = .ok (.iconst 0, 1) := by decide +kernel
theorem d_Mod_move_37 : decode c_Mod_move 37 = .ok (.iconst 1, 1) := by decide +kernel
theorem d_Mod_move_38 : decode c_Mod_move 38 = .ok (.invokestatic 104, 3) := by decide +kernel
theorem d_Mod_move_41 : decode c_Mod_move 41 = .ok (.ifCond .ne 5, 3) := by decide +kernel
theorem d_Mod_move_44 : decode c_Mod_move 44 = .ok (.iconst (-1), 1) := by decide +kernel
theorem d_Mod_move_45 : decode c_Mod_move 45 = .ok (.ireturn, 1) := by decide +kernel
theorem d_Mod_move_46 : decode c_Mod_move 46 = .ok (.aload_n 0, 1) := by decide +kernel
theorem d_Mod_move_47 : decode c_Mod_move 47 = .ok (.iload_n 1, 1) := by decide +kernel
theorem d_Mod_move_48 : decode c_Mod_move 48 = .ok (.iload_n 2, 1) := by decide +kernel
theorem d_Mod_move_49 : decode c_Mod_move 49 = .ok (.invokevirtual 139, 3) := by decide +kernel
theorem d_Mod_move_52 : decode c_Mod_move 52 = .ok (.istore 4, 2) := by decide +kernel
theorem d_Mod_move_54 : decode c_Mod_move 54 = .ok (.iload_n 3, 1) := by decide +kernel
theorem d_Mod_move_55 : decode c_Mod_move 55 = .ok (.ifCond .ne 13, 3) := by decide +kernel
theorem d_Mod_move_58 : decode c_Mod_move 58 = .ok (.aload_n 0, 1) := by decide +kernel
theorem d_Mod_move_59 : decode c_Mod_move 59 = .ok (.getfield 50, 3) := by decide +kernel
theorem d_Mod_move_62 : decode c_Mod_move 62 = .ok (.iload 4, 2) := by decide +kernel
theorem d_Mod_move_64 : decode c_Mod_move 64 = .ok (.iaload, 1) := by decide +kernel
theorem d_Mod_move_65 : decode c_Mod_move 65 = .ok (.goto 10, 3) := by decide +kernel
theorem d_Mod_move_68 : decode c_Mod_move 68 = .ok (.aload_n 0, 1) := by decide +kernel
theorem d_Mod_move_69 : decode c_Mod_move 69 = .ok (.getfield 53, 3) := by decide +kernel
theorem d_Mod_move_72 : decode c_Mod_move 72 = .ok (.iload 4, 2) := by decide +kernel
theorem d_Mod_move_74 : decode c_Mod_move 74 = .ok (.iaload, 1) := by decide +kernel
theorem d_Mod_move_75 : decode c_Mod_move 75 = .ok (.ireturn, 1) := by decide +kernel
abbrev c_Mod_taskOf : ByteArray := prog_11_method_42_code
abbrev y_Mod_taskOf : MethodName := ⟨"FleetFloorModel", "taskOf", "(II)I"⟩
theorem d_Mod_taskOf_0 : decode c_Mod_taskOf 0 = .ok (.aload_n 0, 1) := by decide +kernel
theorem d_Mod_taskOf_1 : decode c_Mod_taskOf 1 = .ok (.iconst 0, 1) := by decide +kernel
theorem d_Mod_taskOf_2 : decode c_Mod_taskOf 2 = .ok (.putfield 96, 3) := by decide +kernel
theorem d_Mod_taskOf_5 : decode c_Mod_taskOf 5 = .ok (.iload_n 1, 1) := by decide +kernel
theorem d_Mod_taskOf_6 : decode c_Mod_taskOf 6 = .ok (.iconst 0, 1) := by decide +kernel
theorem d_Mod_taskOf_7 : decode c_Mod_taskOf 7 = .ok (.aload_n 0, 1) := by decide +kernel
theorem d_Mod_taskOf_8 : decode c_Mod_taskOf 8 = .ok (.getfield 130, 3) := by decide +kernel
theorem d_Mod_taskOf_11 : decode c_Mod_taskOf 11 = .ok (.iconst 1, 1) := by decide +kernel
theorem d_Mod_taskOf_12 : decode c_Mod_taskOf 12 = .ok (.isub, 1) := by decide +kernel
theorem d_Mod_taskOf_13 : decode c_Mod_taskOf 13 = .ok (.invokestatic 104, 3) := by decide +kernel
theorem d_Mod_taskOf_16 : decode c_Mod_taskOf 16 = .ok (.ifCond .ne 5, 3) := by decide +kernel
theorem d_Mod_taskOf_19 : decode c_Mod_taskOf 19 = .ok (.iconst (-1), 1) := by decide +kernel
theorem d_Mod_taskOf_20 : decode c_Mod_taskOf 20 = .ok (.ireturn, 1) := by decide +kernel
theorem d_Mod_taskOf_21 : decode c_Mod_taskOf 21 = .ok (.iload_n 2, 1) := by decide +kernel
theorem d_Mod_taskOf_22 : decode c_Mod_taskOf 22 = .ok (.ifCond .ne 12, 3) := by decide +kernel
theorem d_Mod_taskOf_25 : decode c_Mod_taskOf 25 = .ok (.aload_n 0, 1) := by decide +kernel
theorem d_Mod_taskOf_26 : decode c_Mod_taskOf 26 = .ok (.getfield 32, 3) := by decide +kernel
theorem d_Mod_taskOf_29 : decode c_Mod_taskOf 29 = .ok (.iload_n 1, 1) := by decide +kernel
theorem d_Mod_taskOf_30 : decode c_Mod_taskOf 30 = .ok (.iaload, 1) := by decide +kernel
theorem d_Mod_taskOf_31 : decode c_Mod_taskOf 31 = .ok (.goto 18, 3) := by decide +kernel
theorem d_Mod_taskOf_34 : decode c_Mod_taskOf 34 = .ok (.iload_n 2, 1) := by decide +kernel
theorem d_Mod_taskOf_35 : decode c_Mod_taskOf 35 = .ok (.iconst 1, 1) := by decide +kernel
theorem d_Mod_taskOf_36 : decode c_Mod_taskOf 36 = .ok (.if_icmp .ne 12, 3) := by decide +kernel
theorem d_Mod_taskOf_39 : decode c_Mod_taskOf 39 = .ok (.aload_n 0, 1) := by decide +kernel
theorem d_Mod_taskOf_40 : decode c_Mod_taskOf 40 = .ok (.getfield 47, 3) := by decide +kernel
theorem d_Mod_taskOf_43 : decode c_Mod_taskOf 43 = .ok (.iload_n 1, 1) := by decide +kernel
theorem d_Mod_taskOf_44 : decode c_Mod_taskOf 44 = .ok (.iaload, 1) := by decide +kernel
theorem d_Mod_taskOf_45 : decode c_Mod_taskOf 45 = .ok (.goto 4, 3) := by decide +kernel
theorem d_Mod_taskOf_48 : decode c_Mod_taskOf 48 = .ok (.iconst (-1), 1) := by decide +kernel
theorem d_Mod_taskOf_49 : decode c_Mod_taskOf 49 = .ok (.ireturn, 1) := by decide +kernel
abbrev c_Mod_count : ByteArray := prog_11_method_43_code
abbrev y_Mod_count : MethodName := ⟨"FleetFloorModel", "count", "(I)I"⟩
theorem d_Mod_count_0 : decode c_Mod_count 0 = .ok (.aload_n 0, 1) := by decide +kernel
theorem d_Mod_count_1 : decode c_Mod_count 1 = .ok (.iconst 0, 1) := by decide +kernel
theorem d_Mod_count_2 : decode c_Mod_count 2 = .ok (.putfield 96, 3) := by decide +kernel
theorem d_Mod_count_5 : decode c_Mod_count 5 = .ok (.aload_n 0, 1) := by decide +kernel
theorem d_Mod_count_6 : decode c_Mod_count 6 = .ok (.getfield 100, 3) := by decide +kernel
theorem d_Mod_count_9 : decode c_Mod_count 9 = .ok (.ifCond .ne 5, 3) := by decide +kernel
theorem d_Mod_count_12 : decode c_Mod_count 12 = .ok (.iconst (-1), 1) := by decide +kernel
theorem d_Mod_count_13 : decode c_Mod_count 13 = .ok (.ireturn, 1) := by decide +kernel
theorem d_Mod_count_14 : decode c_Mod_count 14 = .ok (.iload_n 1, 1) := by decide +kernel
theorem d_Mod_count_15 : decode c_Mod_count 15 = .ok (.tableswitch 63 0 4 #[33, 43, 48, 53, 58], 33) := by decide +kernel
theorem d_Mod_count_48 : decode c_Mod_count 48 = .ok (.aload_n 0, 1) := by decide +kernel
theorem d_Mod_count_49 : decode c_Mod_count 49 = .ok (.getfield 130, 3) := by decide +kernel
theorem d_Mod_count_52 : decode c_Mod_count 52 = .ok (.aload_n 0, 1) := by decide +kernel
theorem d_Mod_count_53 : decode c_Mod_count 53 = .ok (.getfield 133, 3) := by decide +kernel
theorem d_Mod_count_56 : decode c_Mod_count 56 = .ok (.isub, 1) := by decide +kernel
theorem d_Mod_count_57 : decode c_Mod_count 57 = .ok (.ireturn, 1) := by decide +kernel
theorem d_Mod_count_58 : decode c_Mod_count 58 = .ok (.aload_n 0, 1) := by decide +kernel
theorem d_Mod_count_59 : decode c_Mod_count 59 = .ok (.getfield 130, 3) := by decide +kernel
theorem d_Mod_count_62 : decode c_Mod_count 62 = .ok (.ireturn, 1) := by decide +kernel
theorem d_Mod_count_63 : decode c_Mod_count 63 = .ok (.aload_n 0, 1) := by decide +kernel
theorem d_Mod_count_64 : decode c_Mod_count 64 = .ok (.getfield 212, 3) := by decide +kernel
theorem d_Mod_count_67 : decode c_Mod_count 67 = .ok (.ireturn, 1) := by decide +kernel
theorem d_Mod_count_68 : decode c_Mod_count 68 = .ok (.aload_n 0, 1) := by decide +kernel
theorem d_Mod_count_69 : decode c_Mod_count 69 = .ok (.getfield 136, 3) := by decide +kernel
theorem d_Mod_count_72 : decode c_Mod_count 72 = .ok (.ireturn, 1) := by decide +kernel
theorem d_Mod_count_73 : decode c_Mod_count 73 = .ok (.aload_n 0, 1) := by decide +kernel
theorem d_Mod_count_74 : decode c_Mod_count 74 = .ok (.getfield 124, 3) := by decide +kernel
theorem d_Mod_count_77 : decode c_Mod_count 77 = .ok (.ireturn, 1) := by decide +kernel
theorem d_Mod_count_78 : decode c_Mod_count 78 = .ok (.iconst (-1), 1) := by decide +kernel
theorem d_Mod_count_79 : decode c_Mod_count 79 = .ok (.ireturn, 1) := by decide +kernel
