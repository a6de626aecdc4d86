abbrev c_Mod_init : ByteArray := prog_11_method_1_code
abbrev y_Mod_init : MethodName := ⟨"FleetFloorModel", "<init>", "()V"⟩
theorem d_Mod_init_0 : decode c_Mod_init 0 = .ok (.aload_n 0, 1) := by decide +kernel
theorem d_Mod_init_1 : decode c_Mod_init 1 = .ok (.invokespecial 1, 3) := by decide +kernel
theorem d_Mod_init_4 : decode c_Mod_init 4 = .ok (.aload_n 0, 1) := by decide +kernel
theorem d_Mod_init_5 : decode c_Mod_init 5 = .ok (.bipush 96, 2) := by decide +kernel
theorem d_Mod_init_7 : decode c_Mod_init 7 = .ok (.newarray .int, 2) := by decide +kernel
theorem d_Mod_init_9 : decode c_Mod_init 9 = .ok (.putfield 7, 3) := by decide +kernel
theorem d_Mod_init_12 : decode c_Mod_init 12 = .ok (.aload_n 0, 1) := by decide +kernel
theorem d_Mod_init_13 : decode c_Mod_init 13 = .ok (.bipush 96, 2) := by decide +kernel
theorem d_Mod_init_15 : decode c_Mod_init 15 = .ok (.newarray .int, 2) := by decide +kernel
theorem d_Mod_init_17 : decode c_Mod_init 17 = .ok (.putfield 13, 3) := by decide +kernel
theorem d_Mod_init_20 : decode c_Mod_init 20 = .ok (.aload_n 0, 1) := by decide +kernel
theorem d_Mod_init_21 : decode c_Mod_init 21 = .ok (.bipush 96, 2) := by decide +kernel
theorem d_Mod_init_23 : decode c_Mod_init 23 = .ok (.newarray .int, 2) := by decide +kernel
theorem d_Mod_init_25 : decode c_Mod_init 25 = .ok (.putfield 16, 3) := by decide +kernel
theorem d_Mod_init_28 : decode c_Mod_init 28 = .ok (.aload_n 0, 1) := by decide +kernel
theorem d_Mod_init_29 : decode c_Mod_init 29 = .ok (.bipush 96, 2) := by decide +kernel
theorem d_Mod_init_31 : decode c_Mod_init 31 = .ok (.newarray .boolean, 2) := by decide +kernel
theorem d_Mod_init_33 : decode c_Mod_init 33 = .ok (.putfield 19, 3) := by decide +kernel
theorem d_Mod_init_36 : decode c_Mod_init 36 = .ok (.aload_n 0, 1) := by decide +kernel
theorem d_Mod_init_37 : decode c_Mod_init 37 = .ok (.bipush 96, 2) := by decide +kernel
theorem d_Mod_init_39 : decode c_Mod_init 39 = .ok (.newarray .int, 2) := by decide +kernel
theorem d_Mod_init_41 : decode c_Mod_init 41 = .ok (.putfield 23, 3) := by decide +kernel
theorem d_Mod_init_44 : decode c_Mod_init 44 = .ok (.aload_n 0, 1) := by decide +kernel
theorem d_Mod_init_45 : decode c_Mod_init 45 = .ok (.bipush 24, 2) := by decide +kernel
theorem d_Mod_init_47 : decode c_Mod_init 47 = .ok (.newarray .int, 2) := by decide +kernel
theorem d_Mod_init_49 : decode c_Mod_init 49 = .ok (.putfield 26, 3) := by decide +kernel
theorem d_Mod_init_52 : decode c_Mod_init 52 = .ok (.aload_n 0, 1) := by decide +kernel
theorem d_Mod_init_53 : decode c_Mod_init 53 = .ok (.bipush 24, 2) := by decide +kernel
theorem d_Mod_init_55 : decode c_Mod_init 55 = .ok (.newarray .int, 2) := by decide +kernel
theorem d_Mod_init_57 : decode c_Mod_init 57 = .ok (.putfield 29, 3) := by decide +kernel
theorem d_Mod_init_60 : decode c_Mod_init 60 = .ok (.aload_n 0, 1) := by decide +kernel
theorem d_Mod_init_61 : decode c_Mod_init 61 = .ok (.bipush 24, 2) := by decide +kernel
theorem d_Mod_init_63 : decode c_Mod_init 63 = .ok (.newarray .int, 2) := by decide +kernel
theorem d_Mod_init_65 : decode c_Mod_init 65 = .ok (.putfield 32, 3) := by decide +kernel
theorem d_Mod_init_68 : decode c_Mod_init 68 = .ok (.aload_n 0, 1) := by decide +kernel
theorem d_Mod_init_69 : decode c_Mod_init 69 = .ok (.bipush 24, 2) := by decide +kernel
theorem d_Mod_init_71 : decode c_Mod_init 71 = .ok (.newarray .int, 2) := by decide +kernel
theorem d_Mod_init_73 : decode c_Mod_init 73 = .ok (.putfield 35, 3) := by decide +kernel
theorem d_Mod_init_76 : decode c_Mod_init 76 = .ok (.aload_n 0, 1) := by decide +kernel
theorem d_Mod_init_77 : decode c_Mod_init 77 = .ok (.bipush 24, 2) := by decide +kernel
theorem d_Mod_init_79 : decode c_Mod_init 79 = .ok (.newarray .int, 2) := by decide +kernel
theorem d_Mod_init_81 : decode c_Mod_init 81 = .ok (.putfield 38, 3) := by decide +kernel
theorem d_Mod_init_84 : decode c_Mod_init 84 = .ok (.aload_n 0, 1) := by decide +kernel
theorem d_Mod_init_85 : decode c_Mod_init 85 = .ok (.bipush 24, 2) := by decide +kernel
theorem d_Mod_init_87 : decode c_Mod_init 87 = .ok (.newarray .int, 2) := by decide +kernel
theorem d_Mod_init_89 : decode c_Mod_init 89 = .ok (.putfield 41, 3) := by decide +kernel
theorem d_Mod_init_92 : decode c_Mod_init 92 = .ok (.aload_n 0, 1) := by decide +kernel
theorem d_Mod_init_93 : decode c_Mod_init 93 = .ok (.bipush 24, 2) := by decide +kernel
theorem d_Mod_init_95 : decode c_Mod_init 95 = .ok (.newarray .int, 2) := by decide +kernel
theorem d_Mod_init_97 : decode c_Mod_init 97 = .ok (.putfield 44, 3) := by decide +kernel
theorem d_Mod_init_100 : decode c_Mod_init 100 = .ok (.aload_n 0, 1) := by decide +kernel
theorem d_Mod_init_101 : decode c_Mod_init 101 = .ok (.bipush 24, 2) := by decide +kernel
theorem d_Mod_init_103 : decode c_Mod_init 103 = .ok (.newarray .int, 2) := by decide +kernel
theorem d_Mod_init_105 : decode c_Mod_init 105 = .ok (.putfield 47, 3) := by decide +kernel
theorem d_Mod_init_108 : decode c_Mod_init 108 = .ok (.aload_n 0, 1) := by decide +kernel
theorem d_Mod_init_109 : decode c_Mod_init 109 = .ok (.sipush 3600, 3) := by decide +kernel
theorem d_Mod_init_112 : decode c_Mod_init 112 = .ok (.newarray .int, 2) := by decide +kernel
theorem d_Mod_init_114 : decode c_Mod_init 114 = .ok (.putfield 50, 3) := by decide +kernel
theorem d_Mod_init_117 : decode c_Mod_init 117 = .ok (.aload_n 0, 1) := by decide +kernel
theorem d_Mod_init_118 : decode c_Mod_init 118 = .ok (.sipush 3600, 3) := by decide +kernel
theorem d_Mod_init_121 : decode c_Mod_init 121 = .ok (.newarray .int, 2) := by decide +kernel
theorem d_Mod_init_123 : decode c_Mod_init 123 = .ok (.putfield 53, 3) := by decide +kernel
theorem d_Mod_init_126 : decode c_Mod_init 126 = .ok (.aload_n 0, 1) := by decide +kernel
theorem d_Mod_init_127 : decode c_Mod_init 127 = .ok (.bipush 6, 2) := by decide +kernel
theorem d_Mod_init_129 : decode c_Mod_init 129 = .ok (.newarray .int, 2) := by decide +kernel
theorem d_Mod_init_131 : decode c_Mod_init 131 = .ok (.putfield 56, 3) := by decide +kernel
theorem d_Mod_init_134 : decode c_Mod_init 134 = .ok (.aload_n 0, 1) := by decide +kernel
theorem d_Mod_init_135 : decode c_Mod_init 135 = .ok (.bipush 6, 2) := by decide +kernel
theorem d_Mod_init_137 : decode c_Mod_init 137 = .ok (.newarray .int, 2) := by decide +kernel
theorem d_Mod_init_139 : decode c_Mod_init 139 = .ok (.putfield 59, 3) := by decide +kernel
theorem d_Mod_init_142 : decode c_Mod_init 142 = .ok (.aload_n 0, 1) := by decide +kernel
theorem d_Mod_init_143 : decode c_Mod_init 143 = .ok (.bipush 6, 2) := by decide +kernel
theorem d_Mod_init_145 : decode c_Mod_init 145 = .ok (.newarray .int, 2) := by decide +kernel
theorem d_Mod_init_147 : decode c_Mod_init 147 = .ok (.putfield 62, 3) := by decide +kernel
theorem d_Mod_init_150 : decode c_Mod_init 150 = .ok (.aload_n 0, 1) := by decide +kernel
theorem d_Mod_init_151 : decode c_Mod_init 151 = .ok (.bipush 6, 2) := by decide +kernel
theorem d_Mod_init_153 : decode c_Mod_init 153 = .ok (.newarray .int, 2) := by decide +kernel
theorem d_Mod_init_155 : decode c_Mod_init 155 = .ok (.putfield 65, 3) := by decide +kernel
theorem d_Mod_init_158 : decode c_Mod_init 158 = .ok (.aload_n 0, 1) := by decide +kernel
theorem d_Mod_init_159 : decode c_Mod_init 159 = .ok (.bipush 6, 2) := by decide +kernel
theorem d_Mod_init_161 : decode c_Mod_init 161 = .ok (.newarray .int, 2) := by decide +kernel
theorem d_Mod_init_163 : decode c_Mod_init 163 = .ok (.putfield 68, 3) := by decide +kernel
theorem d_Mod_init_166 : decode c_Mod_init 166 = .ok (.aload_n 0, 1) := by decide +kernel
theorem d_Mod_init_167 : decode c_Mod_init 167 = .ok (.bipush 6, 2) := by decide +kernel
theorem d_Mod_init_169 : decode c_Mod_init 169 = .ok (.newarray .int, 2) := by decide +kernel
theorem d_Mod_init_171 : decode c_Mod_init 171 = .ok (.putfield 71, 3) := by decide +kernel
theorem d_Mod_init_174 : decode c_Mod_init 174 = .ok (.aload_n 0, 1) := by decide +kernel
theorem d_Mod_init_175 : decode c_Mod_init 175 = .ok (.bipush 6, 2) := by decide +kernel
theorem d_Mod_init_177 : decode c_Mod_init 177 = .ok (.newarray .int, 2) := by decide +kernel
theorem d_Mod_init_179 : decode c_Mod_init 179 = .ok (.putfield 74, 3) := by decide +kernel
theorem d_Mod_init_182 : decode c_Mod_init 182 = .ok (.aload_n 0, 1) := by decide +kernel
theorem d_Mod_init_183 : decode c_Mod_init 183 = .ok (.bipush 60, 2) := by decide +kernel
theorem d_Mod_init_185 : decode c_Mod_init 185 = .ok (.newarray .int, 2) := by decide +kernel
theorem d_Mod_init_187 : decode c_Mod_init 187 = .ok (.putfield 77, 3) := by decide +kernel
theorem d_Mod_init_190 : decode c_Mod_init 190 = .ok (.aload_n 0, 1) := by decide +kernel
theorem d_Mod_init_191 : decode c_Mod_init 191 = .ok (.bipush 60, 2) := by decide +kernel
theorem d_Mod_init_193 : decode c_Mod_init 193 = .ok (.newarray .int, 2) := by decide +kernel
theorem d_Mod_init_195 : decode c_Mod_init 195 = .ok (.putfield 80, 3) := by decide +kernel
theorem d_Mod_init_198 : decode c_Mod_init 198 = .ok (.aload_n 0, 1) := by decide +kernel
theorem d_Mod_init_199 : decode c_Mod_init 199 = .ok (.bipush 60, 2) := by decide +kernel
theorem d_Mod_init_201 : decode c_Mod_init 201 = .ok (.newarray .int, 2) := by decide +kernel
theorem d_Mod_init_203 : decode c_Mod_init 203 = .ok (.putfield 83, 3) := by decide +kernel
theorem d_Mod_init_206 : decode c_Mod_init 206 = .ok (.aload_n 0, 1) := by decide +kernel
theorem d_Mod_init_207 : decode c_Mod_init 207 = .ok (.sipush 304, 3) := by decide +kernel
theorem d_Mod_init_210 : decode c_Mod_init 210 = .ok (.newarray .long, 2) := by decide +kernel
theorem d_Mod_init_212 : decode c_Mod_init 212 = .ok (.putfield 86, 3) := by decide +kernel
theorem d_Mod_init_215 : decode c_Mod_init 215 = .ok (.aload_n 0, 1) := by decide +kernel
theorem d_Mod_init_216 : decode c_Mod_init 216 = .ok (.sipush 304, 3) := by decide +kernel
theorem d_Mod_init_219 : decode c_Mod_init 219 = .ok (.newarray .long, 2) := by decide +kernel
theorem d_Mod_init_221 : decode c_Mod_init 221 = .ok (.putfield 90, 3) := by decide +kernel
theorem d_Mod_init_224 : decode c_Mod_init 224 = .ok (.aload_n 0, 1) := by decide +kernel
theorem d_Mod_init_225 : decode c_Mod_init 225 = .ok (.sipush 908, 3) := by decide +kernel
theorem d_Mod_init_228 : decode c_Mod_init 228 = .ok (.newarray .long, 2) := by decide +kernel
theorem d_Mod_init_230 : decode c_Mod_init 230 = .ok (.putfield 93, 3) := by decide +kernel
theorem d_Mod_init_233 : decode c_Mod_init 233 = .ok (.return_, 1) := by decide +kernel
abbrev c_Mod_thrown : ByteArray := prog_11_method_2_code
abbrev y_Mod_thrown : MethodName := ⟨"FleetFloorModel", "thrown", "()I"⟩
theorem d_Mod_thrown_0 : decode c_Mod_thrown 0 = .ok (.aload_n 0, 1) := by decide +kernel
theorem d_Mod_thrown_1 : decode c_Mod_thrown 1 = .ok (.getfield 96, 3) := by decide +kernel
theorem d_Mod_thrown_4 : decode c_Mod_thrown 4 = .ok (.ireturn, 1) := by decide +kernel
abbrev c_Mod_throwing : ByteArray := prog_11_method_3_code
abbrev y_Mod_throwing : MethodName := ⟨"FleetFloorModel", "throwing", "(ZZ)Z"⟩
theorem d_Mod_throwing_0 : decode c_Mod_throwing 0 = .ok (.aload_n 0, 1) := by decide +kernel
theorem d_Mod_throwing_1 : decode c_Mod_throwing 1 = .ok (.iload_n 1, 1) := by decide +kernel
theorem d_Mod_throwing_2 : decode c_Mod_throwing 2 = .ok (.ifCond .eq 7, 3) := by decide +kernel
theorem d_Mod_throwing_5 : decode c_Mod_throwing 5 = .ok (.iconst 1, 1) := by decide +kernel
theorem d_Mod_throwing_6 : decode c_Mod_throwing 6 = .ok (.goto 12, 3) := by decide +kernel
theorem d_Mod_throwing_9 : decode c_Mod_throwing 9 = .ok (.iload_n 2, 1) := by decide +kernel
theorem d_Mod_throwing_10 : decode c_Mod_throwing 10 = .ok (.ifCond .eq 7, 3) := by decide +kernel
theorem d_Mod_throwing_13 : decode c_Mod_throwing 13 = .ok (.iconst 2, 1) := by decide +kernel
theorem d_Mod_throwing_14 : decode c_Mod_throwing 14 = .ok (.goto 4, 3) := by decide +kernel
theorem d_Mod_throwing_17 : decode c_Mod_throwing 17 = .ok (.iconst 0, 1) := by decide +kernel
theorem d_Mod_throwing_18 : decode c_Mod_throwing 18 = .ok (.putfield 96, 3) := by decide +kernel
theorem d_Mod_throwing_21 : decode c_Mod_throwing 21 = .ok (.aload_n 0, 1) := by decide +kernel
theorem d_Mod_throwing_22 : decode c_Mod_throwing 22 = .ok (.getfield 96, 3) := by decide +kernel
theorem d_Mod_throwing_25 : decode c_Mod_throwing 25 = .ok (.ifCond .le 7, 3) := by decide +kernel
theorem d_Mod_throwing_28 : decode c_Mod_throwing 28 = .ok (.iconst 1, 1) := by decide +kernel
theorem d_Mod_throwing_29 : decode c_Mod_throwing 29 = .ok (.goto 4, 3) := by decide +kernel
theorem d_Mod_throwing_32 : decode c_Mod_throwing 32 = .ok (.iconst 0, 1) := by decide +kernel
theorem d_Mod_throwing_33 : decode c_Mod_throwing 33 = .ok (.ireturn, 1) := by decide +kernel
abbrev c_Mod_in : ByteArray := prog_11_method_4_code
abbrev y_Mod_in : MethodName := ⟨"FleetFloorModel", "in", "(III)Z"⟩
theorem d_Mod_in_0 : decode c_Mod_in 0 = .ok (.iload_n 0, 1) := by decide +kernel
theorem d_Mod_in_1 : decode c_Mod_in 1 = .ok (.iload_n 1, 1) := by decide +kernel
theorem d_Mod_in_2 : decode c_Mod_in 2 = .ok (.if_icmp .lt 12, 3) := by decide +kernel
theorem d_Mod_in_5 : decode c_Mod_in 5 = .ok (.iload_n 0, 1) := by decide +kernel
theorem d_Mod_in_6 : decode c_Mod_in 6 = .ok (.iload_n 2, 1) := by decide +kernel
theorem d_Mod_in_7 : decode c_Mod_in 7 = .ok (.if_icmp .gt 7, 3) := by decide +kernel
theorem d_Mod_in_10 : decode c_Mod_in 10 = .ok (.iconst 1, 1) := by decide +kernel
theorem d_Mod_in_11 : decode c_Mod_in 11 = .ok (.goto 4, 3) := by decide +kernel
theorem d_Mod_in_14 : decode c_Mod_in 14 = .ok (.iconst 0, 1) := by decide +kernel
theorem d_Mod_in_15 : decode c_Mod_in 15 = .ok (.ireturn, 1) := by decide +kernel
abbrev c_Mod_cell : ByteArray := prog_11_method_5_code
abbrev y_Mod_cell : MethodName := ⟨"FleetFloorModel", "cell", "(II)Z"⟩
theorem d_Mod_cell_0 : decode c_Mod_cell 0 = .ok (.aload_n 0, 1) := by decide +kernel
theorem d_Mod_cell_1 : decode c_Mod_cell 1 = .ok (.iconst 0, 1) := by decide +kernel
theorem d_Mod_cell_2 : decode c_Mod_cell 2 = .ok (.putfield 96, 3) := by decide +kernel
theorem d_Mod_cell_5 : decode c_Mod_cell 5 = .ok (.aload_n 0, 1) := by decide +kernel
theorem d_Mod_cell_6 : decode c_Mod_cell 6 = .ok (.getfield 100, 3) := by decide +kernel
theorem d_Mod_cell_9 : decode c_Mod_cell 9 = .ok (.ifCond .ne 22, 3) := by decide +kernel
theorem d_Mod_cell_12 : decode c_Mod_cell 12 = .ok (.iload_n 1, 1) := by decide +kernel
theorem d_Mod_cell_13 : decode c_Mod_cell 13 = .ok (.iconst 0, 1) := by decide +kernel
theorem d_Mod_cell_14 : decode c_Mod_cell 14 = .ok (.bipush 95, 2) := by decide +kernel
theorem d_Mod_cell_16 : decode c_Mod_cell 16 = .ok (.invokestatic 104, 3) := by decide +kernel
theorem d_Mod_cell_19 : decode c_Mod_cell 19 = .ok (.ifCond .eq 12, 3) := by decide +kernel
theorem d_Mod_cell_22 : decode c_Mod_cell 22 = .ok (.iload_n 2, 1) := by decide +kernel
theorem d_Mod_cell_23 : decode c_Mod_cell 23 = .ok (.iconst 0, 1) := by decide +kernel
theorem d_Mod_cell_24 : decode c_Mod_cell 24 = .ok (.iconst 3, 1) := by decide +kernel
theorem d_Mod_cell_25 : decode c_Mod_cell 25 = .ok (.invokestatic 104, 3) := by decide +kernel
theorem d_Mod_cell_28 : decode c_Mod_cell 28 = .ok (.ifCond .ne 5, 3) := by decide +kernel
theorem d_Mod_cell_31 : decode c_Mod_cell 31 = .ok (.iconst 0, 1) := by decide +kernel
theorem d_Mod_cell_32 : decode c_Mod_cell 32 = .ok (.ireturn, 1) := by decide +kernel
theorem d_Mod_cell_33 : decode c_Mod_cell 33 = .ok (.aload_n 0, 1) := by decide +kernel
theorem d_Mod_cell_34 : decode c_Mod_cell 34 = .ok (.getfield 7, 3) := by decide +kernel
theorem d_Mod_cell_37 : decode c_Mod_cell 37 = .ok (.iload_n 1, 1) := by decide +kernel
theorem d_Mod_cell_38 : decode c_Mod_cell 38 = .ok (.iload_n 2, 1) := by decide +kernel
theorem d_Mod_cell_39 : decode c_Mod_cell 39 = .ok (.iastore, 1) := by decide +kernel
theorem d_Mod_cell_40 : decode c_Mod_cell 40 = .ok (.iconst 1, 1) := by decide +kernel
theorem d_Mod_cell_41 : decode c_Mod_cell 41 = .ok (.ireturn, 1) := by decide +kernel
abbrev c_Mod_neighbour : ByteArray := prog_11_method_6_code
abbrev y_Mod_neighbour : MethodName := ⟨"FleetFloorModel", "neighbour", "(II)I"⟩
theorem d_Mod_neighbour_0 : decode c_Mod_neighbour 0 = .ok (.iload_n 0, 1) := by decide +kernel
theorem d_Mod_neighbour_1 : decode c_Mod_neighbour 1 = .ok (.bipush 12, 2) := by decide +kernel
theorem d_Mod_neighbour_3 : decode c_Mod_neighbour 3 = .ok (.irem, 1) := by decide +kernel
theorem d_Mod_neighbour_4 : decode c_Mod_neighbour 4 = .ok (.istore_n 2, 1) := by decide +kernel
theorem d_Mod_neighbour_5 : decode c_Mod_neighbour 5 = .ok (.iload_n 1, 1) := by decide +kernel
theorem d_Mod_neighbour_6 : decode c_Mod_neighbour 6 = .ok (.tableswitch 86 0 3 #[30, 45, 59, 74], 30) := by decide +kernel
theorem d_Mod_neighbour_36 : decode c_Mod_neighbour 36 = .ok (.iload_n 0, 1) := by decide +kernel
theorem d_Mod_neighbour_37 : decode c_Mod_neighbour 37 = .ok (.bipush 12, 2) := by decide +kernel
theorem d_Mod_neighbour_39 : decode c_Mod_neighbour 39 = .ok (.if_icmp .lt 10, 3) := by decide +kernel
theorem d_Mod_neighbour_42 : decode c_Mod_neighbour 42 = .ok (.iload_n 0, 1) := by decide +kernel
theorem d_Mod_neighbour_43 : decode c_Mod_neighbour 43 = .ok (.bipush 12, 2) := by decide +kernel
theorem d_Mod_neighbour_45 : decode c_Mod_neighbour 45 = .ok (.isub, 1) := by decide +kernel
theorem d_Mod_neighbour_46 : decode c_Mod_neighbour 46 = .ok (.goto 4, 3) := by decide +kernel
theorem d_Mod_neighbour_49 : decode c_Mod_neighbour 49 = .ok (.iconst (-1), 1) := by decide +kernel
theorem d_Mod_neighbour_50 : decode c_Mod_neighbour 50 = .ok (.ireturn, 1) := by decide +kernel
theorem d_Mod_neighbour_51 : decode c_Mod_neighbour 51 = .ok (.iload_n 2, 1) := by decide +kernel
theorem d_Mod_neighbour_52 : decode c_Mod_neighbour 52 = .ok (.bipush 11, 2) := by decide +kernel
theorem d_Mod_neighbour_54 : decode c_Mod_neighbour 54 = .ok (.if_icmp .ge 9, 3) := by decide +kernel
theorem d_Mod_neighbour_57 : decode c_Mod_neighbour 57 = .ok (.iload_n 0, 1) := by decide +kernel
theorem d_Mod_neighbour_58 : decode c_Mod_neighbour 58 = .ok (.iconst 1, 1) := by decide +kernel
theorem d_Mod_neighbour_59 : decode c_Mod_neighbour 59 = .ok (.iadd, 1) := by decide +kernel
theorem d_Mod_neighbour_60 : decode c_Mod_neighbour 60 = .ok (.goto 4, 3) := by decide +kernel
theorem d_Mod_neighbour_63 : decode c_Mod_neighbour 63 = .ok (.iconst (-1), 1) := by decide +kernel
theorem d_Mod_neighbour_64 : decode c_Mod_neighbour 64 = .ok (.ireturn, 1) := by decide +kernel
theorem d_Mod_neighbour_65 : decode c_Mod_neighbour 65 = .ok (.iload_n 0, 1) := by decide +kernel
theorem d_Mod_neighbour_66 : decode c_Mod_neighbour 66 = .ok (.bipush 84, 2) := by decide +kernel
theorem d_Mod_neighbour_68 : decode c_Mod_neighbour 68 = .ok (.if_icmp .ge 10, 3) := by decide +kernel
theorem d_Mod_neighbour_71 : decode c_Mod_neighbour 71 = .ok (.iload_n 0, 1) := by decide +kernel
theorem d_Mod_neighbour_72 : decode c_Mod_neighbour 72 = .ok (.bipush 12, 2) := by decide +kernel
theorem d_Mod_neighbour_74 : decode c_Mod_neighbour 74 = .ok (.iadd, 1) := by decide +kernel
theorem d_Mod_neighbour_75 : decode c_Mod_neighbour 75 = .ok (.goto 4, 3) := by decide +kernel
theorem d_Mod_neighbour_78 : decode c_Mod_neighbour 78 = .ok (.iconst (-1), 1) := by decide +kernel
theorem d_Mod_neighbour_79 : decode c_Mod_neighbour 79 = .ok (.ireturn, 1) := by decide +kernel
theorem d_Mod_neighbour_80 : decode c_Mod_neighbour 80 = .ok (.iload_n 2, 1) := by decide +kernel
theorem d_Mod_neighbour_81 : decode c_Mod_neighbour 81 = .ok (.ifCond .le 9, 3) := by decide +kernel
theorem d_Mod_neighbour_84 : decode c_Mod_neighbour 84 = .ok (.iload_n 0, 1) := by decide +kernel
theorem d_Mod_neighbour_85 : decode c_Mod_neighbour 85 = .ok (.iconst 1, 1) := by decide +kernel
theorem d_Mod_neighbour_86 : decode c_Mod_neighbour 86 = .ok (.isub, 1) := by decide +kernel
theorem d_Mod_neighbour_87 : decode c_Mod_neighbour 87 = .ok (.goto 4, 3) := by decide +kernel
theorem d_Mod_neighbour_90 : decode c_Mod_neighbour 90 = .ok (.iconst (-1), 1) := by decide +kernel
theorem d_Mod_neighbour_91 : decode c_Mod_neighbour 91 = .ok (.ireturn, 1) := by decide +kernel
theorem d_Mod_neighbour_92 : decode c_Mod_neighbour 92 = .ok (.iload_n 0, 1) := by decide +kernel
theorem d_Mod_neighbour_93 : decode c_Mod_neighbour 93 = .ok (.ireturn, 1) := by decide +kernel
abbrev c_Mod_leadsToAll : ByteArray := prog_11_method_7_code
abbrev y_Mod_leadsToAll : MethodName := ⟨"FleetFloorModel", "leadsToAll", "(I)Z"⟩
theorem d_Mod_leadsToAll_0 : decode c_Mod_leadsToAll 0 = .ok (.iconst 0, 1) := by decide +kernel
theorem d_Mod_leadsToAll_1 : decode c_Mod_leadsToAll 1 = .ok (.istore_n 2, 1) := by decide +kernel
theorem d_Mod_leadsToAll_2 : decode c_Mod_leadsToAll 2 = .ok (.iload_n 2, 1) := by decide +kernel
theorem d_Mod_leadsToAll_3 : decode c_Mod_leadsToAll 3 = .ok (.bipush 96, 2) := by decide +kernel
theorem d_Mod_leadsToAll_5 : decode c_Mod_leadsToAll 5 = .ok (.if_icmp .ge 16, 3) := by decide +kernel
theorem d_Mod_leadsToAll_8 : decode c_Mod_leadsToAll 8 = .ok (.aload_n 0, 1) := by decide +kernel
theorem d_Mod_leadsToAll_9 : decode c_Mod_leadsToAll 9 = .ok (.getfield 19, 3) := by decide +kernel
theorem d_Mod_leadsToAll_12 : decode c_Mod_leadsToAll 12 = .ok (.iload_n 2, 1) := by decide +kernel
theorem d_Mod_leadsToAll_13 : decode c_Mod_leadsToAll 13 = .ok (.iconst 0, 1) := by decide +kernel
theorem d_Mod_leadsToAll_14 : decode c_Mod_leadsToAll 14 = .ok (.bastore, 1) := by decide +kernel
theorem d_Mod_leadsToAll_15 : decode c_Mod_leadsToAll 15 = .ok (.iinc 2 1, 3) := by decide +kernel
theorem d_Mod_leadsToAll_18 : decode c_Mod_leadsToAll 18 = .ok (.goto (-16), 3) := by decide +kernel
theorem d_Mod_leadsToAll_21 : decode c_Mod_leadsToAll 21 = .ok (.iconst 1, 1) := by decide +kernel
theorem d_Mod_leadsToAll_22 : decode c_Mod_leadsToAll 22 = .ok (.istore_n 2, 1) := by decide +kernel
theorem d_Mod_leadsToAll_23 : decode c_Mod_leadsToAll 23 = .ok (.aload_n 0, 1) := by decide +kernel
theorem d_Mod_leadsToAll_24 : decode c_Mod_leadsToAll 24 = .ok (.getfield 23, 3) := by decide +kernel
theorem d_Mod_leadsToAll_27 : decode c_Mod_leadsToAll 27 = .ok (.iconst 0, 1) := by decide +kernel
theorem d_Mod_leadsToAll_28 : decode c_Mod_leadsToAll 28 = .ok (.iload_n 1, 1) := by decide +kernel
theorem d_Mod_leadsToAll_29 : decode c_Mod_leadsToAll 29 = .ok (.iastore, 1) := by decide +kernel
theorem d_Mod_leadsToAll_30 : decode c_Mod_leadsToAll 30 = .ok (.aload_n 0, 1) := by decide +kernel
theorem d_Mod_leadsToAll_31 : decode c_Mod_leadsToAll 31 = .ok (.getfield 19, 3) := by decide +kernel
theorem d_Mod_leadsToAll_34 : decode c_Mod_leadsToAll 34 = .ok (.iload_n 1, 1) := by decide +kernel
theorem d_Mod_leadsToAll_35 : decode c_Mod_leadsToAll 35 = .ok (.iconst 1, 1) := by decide +kernel
theorem d_Mod_leadsToAll_36 : decode c_Mod_leadsToAll 36 = .ok (.bastore, 1) := by decide +kernel
theorem d_Mod_leadsToAll_37 : decode c_Mod_leadsToAll 37 = .ok (.iload_n 2, 1) := by decide +kernel
theorem d_Mod_leadsToAll_38 : decode c_Mod_leadsToAll 38 = .ok (.ifCond .le 100, 3) := by decide +kernel
theorem d_Mod_leadsToAll_41 : decode c_Mod_leadsToAll 41 = .ok (.iinc 2 (-1), 3) := by decide +kernel
theorem d_Mod_leadsToAll_44 : decode c_Mod_leadsToAll 44 = .ok (.aload_n 0, 1) := by decide +kernel
theorem d_Mod_leadsToAll_45 : decode c_Mod_leadsToAll 45 = .ok (.getfield 23, 3) := by decide +kernel
theorem d_Mod_leadsToAll_48 : decode c_Mod_leadsToAll 48 = .ok (.iload_n 2, 1) := by decide +kernel
theorem d_Mod_leadsToAll_49 : decode c_Mod_leadsToAll 49 = .ok (.iaload, 1) := by decide +kernel
theorem d_Mod_leadsToAll_50 : decode c_Mod_leadsToAll 50 = .ok (.istore_n 3, 1) := by decide +kernel
theorem d_Mod_leadsToAll_51 : decode c_Mod_leadsToAll 51 = .ok (.iconst 0, 1) := by decide +kernel
theorem d_Mod_leadsToAll_52 : decode c_Mod_leadsToAll 52 = .ok (.istore 4, 2) := by decide +kernel
theorem d_Mod_leadsToAll_54 : decode c_Mod_leadsToAll 54 = .ok (.iload 4, 2) := by decide +kernel
theorem d_Mod_leadsToAll_56 : decode c_Mod_leadsToAll 56 = .ok (.iconst 4, 1) := by decide +kernel
theorem d_Mod_leadsToAll_57 : decode c_Mod_leadsToAll 57 = .ok (.if_icmp .ge 78, 3) := by decide +kernel
theorem d_Mod_leadsToAll_60 : decode c_Mod_leadsToAll 60 = .ok (.iload_n 3, 1) := by decide +kernel
theorem d_Mod_leadsToAll_61 : decode c_Mod_leadsToAll 61 = .ok (.iload 4, 2) := by decide +kernel
theorem d_Mod_leadsToAll_63 : decode c_Mod_leadsToAll 63 = .ok (.invokestatic 108, 3) := by decide +kernel
theorem d_Mod_leadsToAll_66 : decode c_Mod_leadsToAll 66 = .ok (.istore 5, 2) := by decide +kernel
theorem d_Mod_leadsToAll_68 : decode c_Mod_leadsToAll 68 = .ok (.iload 5, 2) := by decide +kernel
theorem d_Mod_leadsToAll_70 : decode c_Mod_leadsToAll 70 = .ok (.ifCond .lt 59, 3) := by decide +kernel
theorem d_Mod_leadsToAll_73 : decode c_Mod_leadsToAll 73 = .ok (.aload_n 0, 1) := by decide +kernel
theorem d_Mod_leadsToAll_74 : decode c_Mod_leadsToAll 74 = .ok (.getfield 7, 3) := by decide +kernel
theorem d_Mod_leadsToAll_77 : decode c_Mod_leadsToAll 77 = .ok (.iload 5, 2) := by decide +kernel
theorem d_Mod_leadsToAll_79 : decode c_Mod_leadsToAll 79 = .ok (.iaload, 1) := by decide +kernel
theorem d_Mod_leadsToAll_80 : decode c_Mod_leadsToAll 80 = .ok (.ifCond .eq 49, 3) := by decide +kernel
theorem d_Mod_leadsToAll_83 : decode c_Mod_leadsToAll 83 = .ok (.aload_n 0, 1) := by decide +kernel
theorem d_Mod_leadsToAll_84 : decode c_Mod_leadsToAll 84 = .ok (.getfield 19, 3) := by decide +kernel
theorem d_Mod_leadsToAll_87 : decode c_Mod_leadsToAll 87 = .ok (.iload 5, 2) := by decide +kernel
theorem d_Mod_leadsToAll_89 : decode c_Mod_leadsToAll 89 = .ok (.baload, 1) := by decide +kernel
theorem d_Mod_leadsToAll_90 : decode c_Mod_leadsToAll 90 = .ok (.ifCond .eq 6, 3) := by decide +kernel
theorem d_Mod_leadsToAll_93 : decode c_Mod_leadsToAll 93 = .ok (.goto 36, 3) := by decide +kernel
theorem d_Mod_leadsToAll_96 : decode c_Mod_leadsToAll 96 = .ok (.aload_n 0, 1) := by decide +kernel
theorem d_Mod_leadsToAll_97 : decode c_Mod_leadsToAll 97 = .ok (.getfield 19, 3) := by decide +kernel
theorem d_Mod_leadsToAll_100 : decode c_Mod_leadsToAll 100 = .ok (.iload 5, 2) := by decide +kernel
theorem d_Mod_leadsToAll_102 : decode c_Mod_leadsToAll 102 = .ok (.iconst 1, 1) := by decide +kernel
theorem d_Mod_leadsToAll_103 : decode c_Mod_leadsToAll 103 = .ok (.bastore, 1) := by decide +kernel
theorem d_Mod_leadsToAll_104 : decode c_Mod_leadsToAll 104 = .ok (.aload_n 0, 1) := by decide +kernel
theorem d_Mod_leadsToAll_105 : decode c_Mod_leadsToAll 105 = .ok (.getfield 7, 3) := by decide +kernel
theorem d_Mod_leadsToAll_108 : decode c_Mod_leadsToAll 108 = .ok (.iload 5, 2) := by decide +kernel
theorem d_Mod_leadsToAll_110 : decode c_Mod_leadsToAll 110 = .ok (.iaload, 1) := by decide +kernel
theorem d_Mod_leadsToAll_111 : decode c_Mod_leadsToAll 111 = .ok (.iconst 1, 1) := by decide +kernel
theorem d_Mod_leadsToAll_112 : decode c_Mod_leadsToAll 112 = .ok (.if_icmp .eq 6, 3) := by decide +kernel
theorem d_Mod_leadsToAll_115 : decode c_Mod_leadsToAll 115 = .ok (.goto 14, 3) := by decide +kernel
theorem d_Mod_leadsToAll_118 : decode c_Mod_leadsToAll 118 = .ok (.aload_n 0, 1) := by decide +kernel
theorem d_Mod_leadsToAll_119 : decode c_Mod_leadsToAll 119 = .ok (.getfield 23, 3) := by decide +kernel
theorem d_Mod_leadsToAll_122 : decode c_Mod_leadsToAll 122 = .ok (.iload_n 2, 1) := by decide +kernel
theorem d_Mod_leadsToAll_123 : decode c_Mod_leadsToAll 123 = .ok (.iload 5, 2) := by decide +kernel
theorem d_Mod_leadsToAll_125 : decode c_Mod_leadsToAll 125 = .ok (.iastore, 1) := by decide +kernel
theorem d_Mod_leadsToAll_126 : decode c_Mod_leadsToAll 126 = .ok (.iinc 2 1, 3) := by decide +kernel
theorem d_Mod_leadsToAll_129 : decode c_Mod_leadsToAll 129 = .ok (.iinc 4 1, 3) := by decide +kernel
theorem d_Mod_leadsToAll_132 : decode c_Mod_leadsToAll 132 = .ok (.goto (-78), 3) := by decide +kernel
theorem d_Mod_leadsToAll_135 : decode c_Mod_leadsToAll 135 = .ok (.goto (-98), 3) := by decide +kernel
theorem d_Mod_leadsToAll_138 : decode c_Mod_leadsToAll 138 = .ok (.iconst 1, 1) := by decide +kernel
theorem d_Mod_leadsToAll_139 : decode c_Mod_leadsToAll 139 = .ok (.istore_n 3, 1) := by decide +kernel
theorem d_Mod_leadsToAll_140 : decode c_Mod_leadsToAll 140 = .ok (.iconst 0, 1) := by decide +kernel
theorem d_Mod_leadsToAll_141 : decode c_Mod_leadsToAll 141 = .ok (.istore 4, 2) := by decide +kernel
theorem d_Mod_leadsToAll_143 : decode c_Mod_leadsToAll 143 = .ok (.iload 4, 2) := by decide +kernel
theorem d_Mod_leadsToAll_145 : decode c_Mod_leadsToAll 145 = .ok (.bipush 96, 2) := by decide +kernel
theorem d_Mod_leadsToAll_147 : decode c_Mod_leadsToAll 147 = .ok (.if_icmp .ge 40, 3) := by decide +kernel
theorem d_Mod_leadsToAll_150 : decode c_Mod_leadsToAll 150 = .ok (.iload_n 3, 1) := by decide +kernel
theorem d_Mod_leadsToAll_151 : decode c_Mod_leadsToAll 151 = .ok (.ifCond .eq 28, 3) := by decide +kernel
theorem d_Mod_leadsToAll_154 : decode c_Mod_leadsToAll 154 = .ok (.aload_n 0, 1) := by decide +kernel
theorem d_Mod_leadsToAll_155 : decode c_Mod_leadsToAll 155 = .ok (.getfield 7, 3) := by decide +kernel
theorem d_Mod_leadsToAll_158 : decode c_Mod_leadsToAll 158 = .ok (.iload 4, 2) := by decide +kernel
theorem d_Mod_leadsToAll_160 : decode c_Mod_leadsToAll 160 = .ok (.iaload, 1) := by decide +kernel
theorem d_Mod_leadsToAll_161 : decode c_Mod_leadsToAll 161 = .ok (.iconst 2, 1) := by decide +kernel
theorem d_Mod_leadsToAll_162 : decode c_Mod_leadsToAll 162 = .ok (.if_icmp .lt 13, 3) := by decide +kernel
theorem d_Mod_leadsToAll_165 : decode c_Mod_leadsToAll 165 = .ok (.aload_n 0, 1) := by decide +kernel
theorem d_Mod_leadsToAll_166 : decode c_Mod_leadsToAll 166 = .ok (.getfield 19, 3) := by decide +kernel
theorem d_Mod_leadsToAll_169 : decode c_Mod_leadsToAll 169 = .ok (.iload 4, 2) := by decide +kernel
theorem d_Mod_leadsToAll_171 : decode c_Mod_leadsToAll 171 = .ok (.baload, 1) := by decide +kernel
theorem d_Mod_leadsToAll_172 : decode c_Mod_leadsToAll 172 = .ok (.ifCond .eq 7, 3) := by decide +kernel
theorem d_Mod_leadsToAll_175 : decode c_Mod_leadsToAll 175 = .ok (.iconst 1, 1) := by decide +kernel
theorem d_Mod_leadsToAll_176 : decode c_Mod_leadsToAll 176 = .ok (.goto 4, 3) := by decide +kernel
theorem d_Mod_leadsToAll_179 : decode c_Mod_leadsToAll 179 = .ok (.iconst 0, 1) := by decide +kernel
theorem d_Mod_leadsToAll_180 : decode c_Mod_leadsToAll 180 = .ok (.istore_n 3, 1) := by decide +kernel
theorem d_Mod_leadsToAll_181 : decode c_Mod_leadsToAll 181 = .ok (.iinc 4 1, 3) := by decide +kernel
theorem d_Mod_leadsToAll_184 : decode c_Mod_leadsToAll 184 = .ok (.goto (-41), 3) := by decide +kernel
theorem d_Mod_leadsToAll_187 : decode c_Mod_leadsToAll 187 = .ok (.iload_n 3, 1) := by decide +kernel
theorem d_Mod_leadsToAll_188 : decode c_Mod_leadsToAll 188 = .ok (.ireturn, 1) := by decide +kernel
abbrev c_Mod_isGood : ByteArray := prog_11_method_8_code
abbrev y_Mod_isGood : MethodName := ⟨"FleetFloorModel", "isGood", "()Z"⟩
theorem d_Mod_isGood_0 : decode c_Mod_isGood 0 = .ok (.iconst 0, 1) := by decide +kernel
theorem d_Mod_isGood_1 : decode c_Mod_isGood 1 = .ok (.istore_n 1, 1) := by decide +kernel
theorem d_Mod_isGood_2 : decode c_Mod_isGood 2 = .ok (.iconst 0, 1) := by decide +kernel
theorem d_Mod_isGood_3 : decode c_Mod_isGood 3 = .ok (.istore_n 2, 1) := by decide +kernel
theorem d_Mod_isGood_4 : decode c_Mod_isGood 4 = .ok (.iconst 0, 1) := by decide +kernel
theorem d_Mod_isGood_5 : decode c_Mod_isGood 5 = .ok (.istore_n 3, 1) := by decide +kernel
theorem d_Mod_isGood_6 : decode c_Mod_isGood 6 = .ok (.iload_n 3, 1) := by decide +kernel
theorem d_Mod_isGood_7 : decode c_Mod_isGood 7 = .ok (.bipush 96, 2) := by decide +kernel
theorem d_Mod_isGood_9 : decode c_Mod_isGood 9 = .ok (.if_icmp .ge 45, 3) := by decide +kernel
theorem d_Mod_isGood_12 : decode c_Mod_isGood 12 = .ok (.iload_n 1, 1) := by decide +kernel
theorem d_Mod_isGood_13 : decode c_Mod_isGood 13 = .ok (.aload_n 0, 1) := by decide +kernel
theorem d_Mod_isGood_14 : decode c_Mod_isGood 14 = .ok (.getfield 7, 3) := by decide +kernel
theorem d_Mod_isGood_17 : decode c_Mod_isGood 17 = .ok (.iload_n 3, 1) := by decide +kernel
theorem d_Mod_isGood_18 : decode c_Mod_isGood 18 = .ok (.iaload, 1) := by decide +kernel
theorem d_Mod_isGood_19 : decode c_Mod_isGood 19 = .ok (.iconst 2, 1) := by decide +kernel
theorem d_Mod_isGood_20 : decode c_Mod_isGood 20 = .ok (.if_icmp .ne 7, 3) := by decide +kernel
theorem d_Mod_isGood_23 : decode c_Mod_isGood 23 = .ok (.iconst 1, 1) := by decide +kernel
theorem d_Mod_isGood_24 : decode c_Mod_isGood 24 = .ok (.goto 4, 3) := by decide +kernel
theorem d_Mod_isGood_27 : decode c_Mod_isGood 27 = .ok (.iconst 0, 1) := by decide +kernel
theorem d_Mod_isGood_28 : decode c_Mod_isGood 28 = .ok (.iadd, 1) := by decide +kernel
theorem d_Mod_isGood_29 : decode c_Mod_isGood 29 = .ok (.istore_n 1, 1) := by decide +kernel
theorem d_Mod_isGood_30 : decode c_Mod_isGood 30 = .ok (.iload_n 2, 1) := by decide +kernel
theorem d_Mod_isGood_31 : decode c_Mod_isGood 31 = .ok (.aload_n 0, 1) := by decide +kernel
theorem d_Mod_isGood_32 : decode c_Mod_isGood 32 = .ok (.getfield 7, 3) := by decide +kernel
theorem d_Mod_isGood_35 : decode c_Mod_isGood 35 = .ok (.iload_n 3, 1) := by decide +kernel
theorem d_Mod_isGood_36 : decode c_Mod_isGood 36 = .ok (.iaload, 1) := by decide +kernel
theorem d_Mod_isGood_37 : decode c_Mod_isGood 37 = .ok (.iconst 3, 1) := by decide +kernel
theorem d_Mod_isGood_38 : decode c_Mod_isGood 38 = .ok (.if_icmp .ne 7, 3) := by decide +kernel
theorem d_Mod_isGood_41 : decode c_Mod_isGood 41 = .ok (.iconst 1, 1) := by decide +kernel
theorem d_Mod_isGood_42 : decode c_Mod_isGood 42 = .ok (.goto 4, 3) := by decide +kernel
theorem d_Mod_isGood_45 : decode c_Mod_isGood 45 = .ok (.iconst 0, 1) := by decide +kernel
theorem d_Mod_isGood_46 : decode c_Mod_isGood 46 = .ok (.iadd, 1) := by decide +kernel
theorem d_Mod_isGood_47 : decode c_Mod_isGood 47 = .ok (.istore_n 2, 1) := by decide +kernel
theorem d_Mod_isGood_48 : decode c_Mod_isGood 48 = .ok (.iinc 3 1, 3) := by decide +kernel
theorem d_Mod_isGood_51 : decode c_Mod_isGood 51 = .ok (.goto (-45), 3) := by decide +kernel
theorem d_Mod_isGood_54 : decode c_Mod_isGood 54 = .ok (.iload_n 2, 1) := by decide +kernel
theorem d_Mod_isGood_55 : decode c_Mod_isGood 55 = .ok (.iconst 1, 1) := by decide +kernel
theorem d_Mod_isGood_56 : decode c_Mod_isGood 56 = .ok (.bipush 6, 2) := by decide +kernel
theorem d_Mod_isGood_58 : decode c_Mod_isGood 58 = .ok (.invokestatic 104, 3) := by decide +kernel
theorem d_Mod_isGood_61 : decode c_Mod_isGood 61 = .ok (.ifCond .eq 17, 3) := by decide +kernel
theorem d_Mod_isGood_64 : decode c_Mod_isGood 64 = .ok (.iload_n 1, 1) := by decide +kernel
theorem d_Mod_isGood_65 : decode c_Mod_isGood 65 = .ok (.iconst 2, 1) := by decide +kernel
theorem d_Mod_isGood_66 : decode c_Mod_isGood 66 = .ok (.bipush 16, 2) := by decide +kernel
theorem d_Mod_isGood_68 : decode c_Mod_isGood 68 = .ok (.invokestatic 104, 3) := by decide +kernel
theorem d_Mod_isGood_71 : decode c_Mod_isGood 71 = .ok (.ifCond .eq 7, 3) := by decide +kernel
theorem d_Mod_isGood_74 : decode c_Mod_isGood 74 = .ok (.iconst 1, 1) := by decide +kernel
theorem d_Mod_isGood_75 : decode c_Mod_isGood 75 = .ok (.goto 4, 3) := by decide +kernel
theorem d_Mod_isGood_78 : decode c_Mod_isGood 78 = .ok (.iconst 0, 1) := by decide +kernel
theorem d_Mod_isGood_79 : decode c_Mod_isGood 79 = .ok (.istore_n 3, 1) := by decide +kernel
theorem d_Mod_isGood_80 : decode c_Mod_isGood 80 = .ok (.iconst 0, 1) := by decide +kernel
theorem d_Mod_isGood_81 : decode c_Mod_isGood 81 = .ok (.istore 4, 2) := by decide +kernel
theorem d_Mod_isGood_83 : decode c_Mod_isGood 83 = .ok (.iload 4, 2) := by decide +kernel
theorem d_Mod_isGood_85 : decode c_Mod_isGood 85 = .ok (.bipush 96, 2) := by decide +kernel
theorem d_Mod_isGood_87 : decode c_Mod_isGood 87 = .ok (.if_icmp .ge 39, 3) := by decide +kernel
theorem d_Mod_isGood_90 : decode c_Mod_isGood 90 = .ok (.iload_n 3, 1) := by decide +kernel
theorem d_Mod_isGood_91 : decode c_Mod_isGood 91 = .ok (.ifCond .eq 35, 3) := by decide +kernel
theorem d_Mod_isGood_94 : decode c_Mod_isGood 94 = .ok (.aload_n 0, 1) := by decide +kernel
theorem d_Mod_isGood_95 : decode c_Mod_isGood 95 = .ok (.getfield 7, 3) := by decide +kernel
theorem d_Mod_isGood_98 : decode c_Mod_isGood 98 = .ok (.iload 4, 2) := by decide +kernel
theorem d_Mod_isGood_100 : decode c_Mod_isGood 100 = .ok (.iaload, 1) := by decide +kernel
theorem d_Mod_isGood_101 : decode c_Mod_isGood 101 = .ok (.iconst 2, 1) := by decide +kernel
theorem d_Mod_isGood_102 : decode c_Mod_isGood 102 = .ok (.if_icmp .lt 12, 3) := by decide +kernel
theorem d_Mod_isGood_105 : decode c_Mod_isGood 105 = .ok (.aload_n 0, 1) := by decide +kernel
theorem d_Mod_isGood_106 : decode c_Mod_isGood 106 = .ok (.iload 4, 2) := by decide +kernel
theorem d_Mod_isGood_108 : decode c_Mod_isGood 108 = .ok (.invokevirtual 112, 3) := by decide +kernel
theorem d_Mod_isGood_111 : decode c_Mod_isGood 111 = .ok (.ifCond .eq 7, 3) := by decide +kernel
theorem d_Mod_isGood_114 : decode c_Mod_isGood 114 = .ok (.iconst 1, 1) := by decide +kernel
theorem d_Mod_isGood_115 : decode c_Mod_isGood 115 = .ok (.goto 4, 3) := by decide +kernel
theorem d_Mod_isGood_118 : decode c_Mod_isGood 118 = .ok (.iconst 0, 1) := by decide +kernel
theorem d_Mod_isGood_119 : decode c_Mod_isGood 119 = .ok (.istore_n 3, 1) := by decide +kernel
theorem d_Mod_isGood_120 : decode c_Mod_isGood 120 = .ok (.iinc 4 1, 3) := by decide +kernel
theorem d_Mod_isGood_123 : decode c_Mod_isGood 123 = .ok (.goto (-40), 3) := by decide +kernel
theorem d_Mod_isGood_126 : decode c_Mod_isGood 126 = .ok (.iload_n 3, 1) := by decide +kernel
theorem d_Mod_isGood_127 : decode c_Mod_isGood 127 = .ok (.ireturn, 1) := by decide +kernel
abbrev c_Mod_open : ByteArray := prog_11_method_9_code
abbrev y_Mod_open : MethodName := ⟨"FleetFloorModel", "open", "()I"⟩
theorem d_Mod_open_0 : decode c_Mod_open 0 = .ok (.aload_n 0, 1) := by decide +kernel
theorem d_Mod_open_1 : decode c_Mod_open 1 = .ok (.aload_n 0, 1) := by decide +kernel
theorem d_Mod_open_2 : decode c_Mod_open 2 = .ok (.invokevirtual 116, 3) := by decide +kernel
theorem d_Mod_open_5 : decode c_Mod_open 5 = .ok (.ifCond .ne 7, 3) := by decide +kernel
theorem d_Mod_open_8 : decode c_Mod_open 8 = .ok (.iconst 1, 1) := by decide +kernel
theorem d_Mod_open_9 : decode c_Mod_open 9 = .ok (.goto 4, 3) := by decide +kernel
theorem d_Mod_open_12 : decode c_Mod_open 12 = .ok (.iconst 0, 1) := by decide +kernel
theorem d_Mod_open_13 : decode c_Mod_open 13 = .ok (.aload_n 0, 1) := by decide +kernel
theorem d_Mod_open_14 : decode c_Mod_open 14 = .ok (.getfield 100, 3) := by decide +kernel
theorem d_Mod_open_17 : decode c_Mod_open 17 = .ok (.invokevirtual 120, 3) := by decide +kernel
theorem d_Mod_open_20 : decode c_Mod_open 20 = .ok (.ifCond .eq 5, 3) := by decide +kernel
theorem d_Mod_open_23 : decode c_Mod_open 23 = .ok (.iconst 0, 1) := by decide +kernel
theorem d_Mod_open_24 : decode c_Mod_open 24 = .ok (.ireturn, 1) := by decide +kernel
theorem d_Mod_open_25 : decode c_Mod_open 25 = .ok (.aload_n 0, 1) := by decide +kernel
theorem d_Mod_open_26 : decode c_Mod_open 26 = .ok (.iconst 1, 1) := by decide +kernel
theorem d_Mod_open_27 : decode c_Mod_open 27 = .ok (.putfield 100, 3) := by decide +kernel
theorem d_Mod_open_30 : decode c_Mod_open 30 = .ok (.iconst 0, 1) := by decide +kernel
theorem d_Mod_open_31 : decode c_Mod_open 31 = .ok (.istore_n 1, 1) := by decide +kernel
theorem d_Mod_open_32 : decode c_Mod_open 32 = .ok (.iload_n 1, 1) := by decide +kernel
theorem d_Mod_open_33 : decode c_Mod_open 33 = .ok (.bipush 96, 2) := by decide +kernel
theorem d_Mod_open_35 : decode c_Mod_open 35 = .ok (.if_icmp .ge 89, 3) := by decide +kernel
theorem d_Mod_open_38 : decode c_Mod_open 38 = .ok (.aload_n 0, 1) := by decide +kernel
theorem d_Mod_open_39 : decode c_Mod_open 39 = .ok (.getfield 7, 3) := by decide +kernel
theorem d_Mod_open_42 : decode c_Mod_open 42 = .ok (.iload_n 1, 1) := by decide +kernel
theorem d_Mod_open_43 : decode c_Mod_open 43 = .ok (.iaload, 1) := by decide +kernel
theorem d_Mod_open_44 : decode c_Mod_open 44 = .ok (.iconst 2, 1) := by decide +kernel
theorem d_Mod_open_45 : decode c_Mod_open 45 = .ok (.if_icmp .ne 23, 3) := by decide +kernel
theorem d_Mod_open_48 : decode c_Mod_open 48 = .ok (.aload_n 0, 1) := by decide +kernel
theorem d_Mod_open_49 : decode c_Mod_open 49 = .ok (.getfield 13, 3) := by decide +kernel
theorem d_Mod_open_52 : decode c_Mod_open 52 = .ok (.aload_n 0, 1) := by decide +kernel
theorem d_Mod_open_53 : decode c_Mod_open 53 = .ok (.getfield 124, 3) := by decide +kernel
theorem d_Mod_open_56 : decode c_Mod_open 56 = .ok (.iload_n 1, 1) := by decide +kernel
theorem d_Mod_open_57 : decode c_Mod_open 57 = .ok (.iastore, 1) := by decide +kernel
theorem d_Mod_open_58 : decode c_Mod_open 58 = .ok (.aload_n 0, 1) := by decide +kernel
theorem d_Mod_open_59 : decode c_Mod_open 59 = .ok (.dup, 1) := by decide +kernel
theorem d_Mod_open_60 : decode c_Mod_open 60 = .ok (.getfield 124, 3) := by decide +kernel
theorem d_Mod_open_63 : decode c_Mod_open 63 = .ok (.iconst 1, 1) := by decide +kernel
theorem d_Mod_open_64 : decode c_Mod_open 64 = .ok (.iadd, 1) := by decide +kernel
theorem d_Mod_open_65 : decode c_Mod_open 65 = .ok (.putfield 124, 3) := by decide +kernel
theorem d_Mod_open_68 : decode c_Mod_open 68 = .ok (.aload_n 0, 1) := by decide +kernel
theorem d_Mod_open_69 : decode c_Mod_open 69 = .ok (.getfield 7, 3) := by decide +kernel
theorem d_Mod_open_72 : decode c_Mod_open 72 = .ok (.iload_n 1, 1) := by decide +kernel
theorem d_Mod_open_73 : decode c_Mod_open 73 = .ok (.iaload, 1) := by decide +kernel
theorem d_Mod_open_74 : decode c_Mod_open 74 = .ok (.iconst 3, 1) := by decide +kernel
theorem d_Mod_open_75 : decode c_Mod_open 75 = .ok (.if_icmp .ne 43, 3) := by decide +kernel
theorem d_Mod_open_78 : decode c_Mod_open 78 = .ok (.aload_n 0, 1) := by decide +kernel
theorem d_Mod_open_79 : decode c_Mod_open 79 = .ok (.getfield 16, 3) := by decide +kernel
theorem d_Mod_open_82 : decode c_Mod_open 82 = .ok (.aload_n 0, 1) := by decide +kernel
theorem d_Mod_open_83 : decode c_Mod_open 83 = .ok (.getfield 127, 3) := by decide +kernel
theorem d_Mod_open_86 : decode c_Mod_open 86 = .ok (.iload_n 1, 1) := by decide +kernel
theorem d_Mod_open_87 : decode c_Mod_open 87 = .ok (.iastore, 1) := by decide +kernel
theorem d_Mod_open_88 : decode c_Mod_open 88 = .ok (.aload_n 0, 1) := by decide +kernel
theorem d_Mod_open_89 : decode c_Mod_open 89 = .ok (.getfield 56, 3) := by decide +kernel
theorem d_Mod_open_92 : decode c_Mod_open 92 = .ok (.aload_n 0, 1) := by decide +kernel
theorem d_Mod_open_93 : decode c_Mod_open 93 = .ok (.getfield 127, 3) := by decide +kernel
theorem d_Mod_open_96 : decode c_Mod_open 96 = .ok (.iload_n 1, 1) := by decide +kernel
theorem d_Mod_open_97 : decode c_Mod_open 97 = .ok (.iastore, 1) := by decide +kernel
theorem d_Mod_open_98 : decode c_Mod_open 98 = .ok (.aload_n 0, 1) := by decide +kernel
theorem d_Mod_open_99 : decode c_Mod_open 99 = .ok (.getfield 74, 3) := by decide +kernel
theorem d_Mod_open_102 : decode c_Mod_open 102 = .ok (.aload_n 0, 1) := by decide +kernel
theorem d_Mod_open_103 : decode c_Mod_open 103 = .ok (.getfield 127, 3) := by decide +kernel
theorem d_Mod_open_106 : decode c_Mod_open 106 = .ok (.iconst (-1), 1) := by decide +kernel
theorem d_Mod_open_107 : decode c_Mod_open 107 = .ok (.iastore, 1) := by decide +kernel
theorem d_Mod_open_108 : decode c_Mod_open 108 = .ok (.aload_n 0, 1) := by decide +kernel
theorem d_Mod_open_109 : decode c_Mod_open 109 = .ok (.dup, 1) := by decide +kernel
theorem d_Mod_open_110 : decode c_Mod_open 110 = .ok (.getfield 127, 3) := by decide +kernel
theorem d_Mod_open_113 : decode c_Mod_open 113 = .ok (.iconst 1, 1) := by decide +kernel
theorem d_Mod_open_114 : decode c_Mod_open 114 = .ok (.iadd, 1) := by decide +kernel
theorem d_Mod_open_115 : decode c_Mod_open 115 = .ok (.putfield 127, 3) := by decide +kernel
theorem d_Mod_open_118 : decode c_Mod_open 118 = .ok (.iinc 1 1, 3) := by decide +kernel
theorem d_Mod_open_121 : decode c_Mod_open 121 = .ok (.goto (-89), 3) := by decide +kernel
theorem d_Mod_open_124 : decode c_Mod_open 124 = .ok (.aload_n 0, 1) := by decide +kernel
theorem d_Mod_open_125 : decode c_Mod_open 125 = .ok (.getfield 127, 3) := by decide +kernel
theorem d_Mod_open_128 : decode c_Mod_open 128 = .ok (.ireturn, 1) := by decide +kernel
abbrev c_Mod_task : ByteArray := prog_11_method_10_code
abbrev y_Mod_task : MethodName := ⟨"FleetFloorModel", "task", "(II)I"⟩
theorem d_Mod_task_0 : decode c_Mod_task 0 = .ok (.aload_n 0, 1) := by decide +kernel
theorem d_Mod_task_1 : decode c_Mod_task 1 = .ok (.aload_n 0, 1) := by decide +kernel
theorem d_Mod_task_2 : decode c_Mod_task 2 = .ok (.getfield 100, 3) := by decide +kernel
theorem d_Mod_task_5 : decode c_Mod_task 5 = .ok (.ifCond .eq 12, 3) := by decide +kernel
theorem d_Mod_task_8 : decode c_Mod_task 8 = .ok (.aload_n 0, 1) := by decide +kernel
theorem d_Mod_task_9 : decode c_Mod_task 9 = .ok (.getfield 130, 3) := by decide +kernel
theorem d_Mod_task_12 : decode c_Mod_task 12 = .ok (.bipush 24, 2) := by decide +kernel
theorem d_Mod_task_14 : decode c_Mod_task 14 = .ok (.if_icmp .ne 7, 3) := by decide +kernel
theorem d_Mod_task_17 : decode c_Mod_task 17 = .ok (.iconst 1, 1) := by decide +kernel
theorem d_Mod_task_18 : decode c_Mod_task 18 = .ok (.goto 4, 3) := by decide +kernel
theorem d_Mod_task_21 : decode c_Mod_task 21 = .ok (.iconst 0, 1) := by decide +kernel
theorem d_Mod_task_22 : decode c_Mod_task 22 = .ok (.iload_n 1, 1) := by decide +kernel
theorem d_Mod_task_23 : decode c_Mod_task 23 = .ok (.iconst 0, 1) := by decide +kernel
theorem d_Mod_task_24 : decode c_Mod_task 24 = .ok (.aload_n 0, 1) := by decide +kernel
theorem d_Mod_task_25 : decode c_Mod_task 25 = .ok (.getfield 124, 3) := by decide +kernel
theorem d_Mod_task_28 : decode c_Mod_task 28 = .ok (.iconst 1, 1) := by decide +kernel
theorem d_Mod_task_29 : decode c_Mod_task 29 = .ok (.isub, 1) := by decide +kernel
theorem d_Mod_task_30 : decode c_Mod_task 30 = .ok (.invokestatic 104, 3) := by decide +kernel
theorem d_Mod_task_33 : decode c_Mod_task 33 = .ok (.ifCond .eq 17, 3) := by decide +kernel
theorem d_Mod_task_36 : decode c_Mod_task 36 = .ok (.iload_n 2, 1) := by decide +kernel
theorem d_Mod_task_37 : decode c_Mod_task 37 = .ok (.iconst 0, 1) := by decide +kernel
theorem d_Mod_task_38 : decode c_Mod_task 38 = .ok (.aload_n 0, 1) := by decide +kernel
theorem d_Mod_task_39 : decode c_Mod_task 39 = .ok (.getfield 124, 3) := by decide +kernel
theorem d_Mod_task_42 : decode c_Mod_task 42 = .ok (.iconst 1, 1) := by decide +kernel
theorem d_Mod_task_43 : decode c_Mod_task 43 = .ok (.isub, 1) := by decide +kernel
theorem d_Mod_task_44 : decode c_Mod_task 44 = .ok (.invokestatic 104, 3) := by decide +kernel
theorem d_Mod_task_47 : decode c_Mod_task 47 = .ok (.ifCond .ne 7, 3) := by decide +kernel
theorem d_Mod_task_50 : decode c_Mod_task 50 = .ok (.iconst 1, 1) := by decide +kernel
theorem d_Mod_task_51 : decode c_Mod_task 51 = .ok (.goto 4, 3) := by decide +kernel
theorem d_Mod_task_54 : decode c_Mod_task 54 = .ok (.iconst 0, 1) := by decide +kernel
theorem d_Mod_task_55 : decode c_Mod_task 55 = .ok (.invokevirtual 120, 3) := by decide +kernel
theorem d_Mod_task_58 : decode c_Mod_task 58 = .ok (.ifCond .eq 5, 3) := by decide +kernel
theorem d_Mod_task_61 : decode c_Mod_task 61 = .ok (.iconst 0, 1) := by decide +kernel
theorem d_Mod_task_62 : decode c_Mod_task 62 = .ok (.ireturn, 1) := by decide +kernel
theorem d_Mod_task_63 : decode c_Mod_task 63 = .ok (.aload_n 0, 1) := by decide +kernel
theorem d_Mod_task_64 : decode c_Mod_task 64 = .ok (.getfield 26, 3) := by decide +kernel
theorem d_Mod_task_67 : decode c_Mod_task 67 = .ok (.aload_n 0, 1) := by decide +kernel
theorem d_Mod_task_68 : decode c_Mod_task 68 = .ok (.getfield 130, 3) := by decide +kernel
theorem d_Mod_task_71 : decode c_Mod_task 71 = .ok (.aload_n 0, 1) := by decide +kernel
theorem d_Mod_task_72 : decode c_Mod_task 72 = .ok (.getfield 13, 3) := by decide +kernel
theorem d_Mod_task_75 : decode c_Mod_task 75 = .ok (.iload_n 1, 1) := by decide +kernel
theorem d_Mod_task_76 : decode c_Mod_task 76 = .ok (.iaload, 1) := by decide +kernel
theorem d_Mod_task_77 : decode c_Mod_task 77 = .ok (.iastore, 1) := by decide +kernel
theorem d_Mod_task_78 : decode c_Mod_task 78 = .ok (.aload_n 0, 1) := by decide +kernel
theorem d_Mod_task_79 : decode c_Mod_task 79 = .ok (.getfield 29, 3) := by decide +kernel
theorem d_Mod_task_82 : decode c_Mod_task 82 = .ok (.aload_n 0, 1) := by decide +kernel
theorem d_Mod_task_83 : decode c_Mod_task 83 = .ok (.getfield 130, 3) := by decide +kernel
theorem d_Mod_task_86 : decode c_Mod_task 86 = .ok (.aload_n 0, 1) := by decide +kernel
theorem d_Mod_task_87 : decode c_Mod_task 87 = .ok (.getfield 13, 3) := by decide +kernel
theorem d_Mod_task_90 : decode c_Mod_task 90 = .ok (.iload_n 2, 1) := by decide +kernel
theorem d_Mod_task_91 : decode c_Mod_task 91 = .ok (.iaload, 1) := by decide +kernel
theorem d_Mod_task_92 : decode c_Mod_task 92 = .ok (.iastore, 1) := by decide +kernel
theorem d_Mod_task_93 : decode c_Mod_task 93 = .ok (.aload_n 0, 1) := by decide +kernel
theorem d_Mod_task_94 : decode c_Mod_task 94 = .ok (.getfield 32, 3) := by decide +kernel
theorem d_Mod_task_97 : decode c_Mod_task 97 = .ok (.aload_n 0, 1) := by decide +kernel
theorem d_Mod_task_98 : decode c_Mod_task 98 = .ok (.getfield 130, 3) := by decide +kernel
theorem d_Mod_task_101 : decode c_Mod_task 101 = .ok (.iconst (-1), 1) := by decide +kernel
theorem d_Mod_task_102 : decode c_Mod_task 102 = .ok (.iastore, 1) := by decide +kernel
theorem d_Mod_task_103 : decode c_Mod_task 103 = .ok (.aload_n 0, 1) := by decide +kernel
theorem d_Mod_task_104 : decode c_Mod_task 104 = .ok (.getfield 47, 3) := by decide +kernel
theorem d_Mod_task_107 : decode c_Mod_task 107 = .ok (.aload_n 0, 1) := by decide +kernel
theorem d_Mod_task_108 : decode c_Mod_task 108 = .ok (.getfield 130, 3) := by decide +kernel
theorem d_Mod_task_111 : decode c_Mod_task 111 = .ok (.iconst (-1), 1) := by decide +kernel
theorem d_Mod_task_112 : decode c_Mod_task 112 = .ok (.iastore, 1) := by decide +kernel
theorem d_Mod_task_113 : decode c_Mod_task 113 = .ok (.aload_n 0, 1) := by decide +kernel
theorem d_Mod_task_114 : decode c_Mod_task 114 = .ok (.dup, 1) := by decide +kernel
theorem d_Mod_task_115 : decode c_Mod_task 115 = .ok (.getfield 130, 3) := by decide +kernel
theorem d_Mod_task_118 : decode c_Mod_task 118 = .ok (.iconst 1, 1) := by decide +kernel
theorem d_Mod_task_119 : decode c_Mod_task 119 = .ok (.iadd, 1) := by decide +kernel
theorem d_Mod_task_120 : decode c_Mod_task 120 = .ok (.putfield 130, 3) := by decide +kernel
theorem d_Mod_task_123 : decode c_Mod_task 123 = .ok (.aload_n 0, 1) := by decide +kernel
theorem d_Mod_task_124 : decode c_Mod_task 124 = .ok (.getfield 130, 3) := by decide +kernel
theorem d_Mod_task_127 : decode c_Mod_task 127 = .ok (.iconst 1, 1) := by decide +kernel
theorem d_Mod_task_128 : decode c_Mod_task 128 = .ok (.isub, 1) := by decide +kernel
theorem d_Mod_task_129 : decode c_Mod_task 129 = .ok (.ireturn, 1) := by decide +kernel
abbrev c_Mod_placeOf : ByteArray := prog_11_method_11_code
abbrev y_Mod_placeOf : MethodName := ⟨"FleetFloorModel", "placeOf", "(II)I"⟩
theorem d_Mod_placeOf_0 : decode c_Mod_placeOf 0 = .ok (.iconst 0, 1) := by decide +kernel
theorem d_Mod_placeOf_1 : decode c_Mod_placeOf 1 = .ok (.istore_n 3, 1) := by decide +kernel
theorem d_Mod_placeOf_2 : decode c_Mod_placeOf 2 = .ok (.iload_n 3, 1) := by decide +kernel
theorem d_Mod_placeOf_3 : decode c_Mod_placeOf 3 = .ok (.aload_n 0, 1) := by decide +kernel
theorem d_Mod_placeOf_4 : decode c_Mod_placeOf 4 = .ok (.getfield 133, 3) := by decide +kernel
theorem d_Mod_placeOf_7 : decode c_Mod_placeOf 7 = .ok (.if_icmp .ge 62, 3) := by decide +kernel
theorem d_Mod_placeOf_10 : decode c_Mod_placeOf 10 = .ok (.aload_n 0, 1) := by decide +kernel
theorem d_Mod_placeOf_11 : decode c_Mod_placeOf 11 = .ok (.getfield 32, 3) := by decide +kernel
theorem d_Mod_placeOf_14 : decode c_Mod_placeOf 14 = .ok (.iload_n 3, 1) := by decide +kernel
theorem d_Mod_placeOf_15 : decode c_Mod_placeOf 15 = .ok (.iaload, 1) := by decide +kernel
theorem d_Mod_placeOf_16 : decode c_Mod_placeOf 16 = .ok (.iload_n 1, 1) := by decide +kernel
theorem d_Mod_placeOf_17 : decode c_Mod_placeOf 17 = .ok (.if_icmp .ne 46, 3) := by decide +kernel
theorem d_Mod_placeOf_20 : decode c_Mod_placeOf 20 = .ok (.iload_n 2, 1) := by decide +kernel
theorem d_Mod_placeOf_21 : decode c_Mod_placeOf 21 = .ok (.aload_n 0, 1) := by decide +kernel
theorem d_Mod_placeOf_22 : decode c_Mod_placeOf 22 = .ok (.getfield 41, 3) := by decide +kernel
theorem d_Mod_placeOf_25 : decode c_Mod_placeOf 25 = .ok (.iload_n 3, 1) := by decide +kernel
theorem d_Mod_placeOf_26 : decode c_Mod_placeOf 26 = .ok (.iaload, 1) := by decide +kernel
theorem d_Mod_placeOf_27 : decode c_Mod_placeOf 27 = .ok (.if_icmp .lt 36, 3) := by decide +kernel
theorem d_Mod_placeOf_30 : decode c_Mod_placeOf 30 = .ok (.iload_n 2, 1) := by decide +kernel
theorem d_Mod_placeOf_31 : decode c_Mod_placeOf 31 = .ok (.aload_n 0, 1) := by decide +kernel
theorem d_Mod_placeOf_32 : decode c_Mod_placeOf 32 = .ok (.getfield 41, 3) := by decide +kernel
theorem d_Mod_placeOf_35 : decode c_Mod_placeOf 35 = .ok (.iload_n 3, 1) := by decide +kernel
theorem d_Mod_placeOf_36 : decode c_Mod_placeOf 36 = .ok (.iaload, 1) := by decide +kernel
theorem d_Mod_placeOf_37 : decode c_Mod_placeOf 37 = .ok (.aload_n 0, 1) := by decide +kernel
theorem d_Mod_placeOf_38 : decode c_Mod_placeOf 38 = .ok (.getfield 38, 3) := by decide +kernel
theorem d_Mod_placeOf_41 : decode c_Mod_placeOf 41 = .ok (.iload_n 3, 1) := by decide +kernel
theorem d_Mod_placeOf_42 : decode c_Mod_placeOf 42 = .ok (.iaload, 1) := by decide +kernel
theorem d_Mod_placeOf_43 : decode c_Mod_placeOf 43 = .ok (.iadd, 1) := by decide +kernel
theorem d_Mod_placeOf_44 : decode c_Mod_placeOf 44 = .ok (.if_icmp .ge 19, 3) := by decide +kernel
theorem d_Mod_placeOf_47 : decode c_Mod_placeOf 47 = .ok (.aload_n 0, 1) := by decide +kernel
theorem d_Mod_placeOf_48 : decode c_Mod_placeOf 48 = .ok (.getfield 35, 3) := by decide +kernel
theorem d_Mod_placeOf_51 : decode c_Mod_placeOf 51 = .ok (.iload_n 3, 1) := by decide +kernel
theorem d_Mod_placeOf_52 : decode c_Mod_placeOf 52 = .ok (.iaload, 1) := by decide +kernel
theorem d_Mod_placeOf_53 : decode c_Mod_placeOf 53 = .ok (.iload_n 2, 1) := by decide +kernel
theorem d_Mod_placeOf_54 : decode c_Mod_placeOf 54 = .ok (.iadd, 1) := by decide +kernel
theorem d_Mod_placeOf_55 : decode c_Mod_placeOf 55 = .ok (.aload_n 0, 1) := by decide +kernel
theorem d_Mod_placeOf_56 : decode c_Mod_placeOf 56 = .ok (.getfield 41, 3) := by decide +kernel
theorem d_Mod_placeOf_59 : decode c_Mod_placeOf 59 = .ok (.iload_n 3, 1) := by decide +kernel
theorem d_Mod_placeOf_60 : decode c_Mod_placeOf 60 = .ok (.iaload, 1) := by decide +kernel
theorem d_Mod_placeOf_61 : decode c_Mod_placeOf 61 = .ok (.isub, 1) := by decide +kernel
theorem d_Mod_placeOf_62 : decode c_Mod_placeOf 62 = .ok (.ireturn, 1) := by decide +kernel
theorem d_Mod_placeOf_63 : decode c_Mod_placeOf 63 = .ok (.iinc 3 1, 3) := by decide +kernel
theorem d_Mod_placeOf_66 : decode c_Mod_placeOf 66 = .ok (.goto (-64), 3) := by decide +kernel
theorem d_Mod_placeOf_69 : decode c_Mod_placeOf 69 = .ok (.iconst (-1), 1) := by decide +kernel
theorem d_Mod_placeOf_70 : decode c_Mod_placeOf 70 = .ok (.ireturn, 1) := by decide +kernel
abbrev c_Mod_isIn : ByteArray := prog_11_method_12_code
abbrev y_Mod_isIn : MethodName := ⟨"FleetFloorModel", "isIn", "([JII)Z"⟩
theorem d_Mod_isIn_0 : decode c_Mod_isIn 0 = .ok (.aload_n 0, 1) := by decide +kernel
theorem d_Mod_isIn_1 : decode c_Mod_isIn 1 = .ok (.iconst 2, 1) := by decide +kernel
theorem d_Mod_isIn_2 : decode c_Mod_isIn 2 = .ok (.iload_n 1, 1) := by decide +kernel
theorem d_Mod_isIn_3 : decode c_Mod_isIn 3 = .ok (.imul, 1) := by decide +kernel
theorem d_Mod_isIn_4 : decode c_Mod_isIn 4 = .ok (.iload_n 2, 1) := by decide +kernel
theorem d_Mod_isIn_5 : decode c_Mod_isIn 5 = .ok (.bipush 6, 2) := by decide +kernel
theorem d_Mod_isIn_7 : decode c_Mod_isIn 7 = .ok (.ishr, 1) := by decide +kernel
theorem d_Mod_isIn_8 : decode c_Mod_isIn 8 = .ok (.iadd, 1) := by decide +kernel
theorem d_Mod_isIn_9 : decode c_Mod_isIn 9 = .ok (.laload, 1) := by decide +kernel
theorem d_Mod_isIn_10 : decode c_Mod_isIn 10 = .ok (.iload_n 2, 1) := by decide +kernel
theorem d_Mod_isIn_11 : decode c_Mod_isIn 11 = .ok (.lshr, 1) := by decide +kernel
theorem d_Mod_isIn_12 : decode c_Mod_isIn 12 = .ok (.lconst 1, 1) := by decide +kernel
theorem d_Mod_isIn_13 : decode c_Mod_isIn 13 = .ok (.land, 1) := by decide +kernel
theorem d_Mod_isIn_14 : decode c_Mod_isIn 14 = .ok (.lconst 1, 1) := by decide +kernel
theorem d_Mod_isIn_15 : decode c_Mod_isIn 15 = .ok (.lcmp, 1) := by decide +kernel
theorem d_Mod_isIn_16 : decode c_Mod_isIn 16 = .ok (.ifCond .ne 7, 3) := by decide +kernel
theorem d_Mod_isIn_19 : decode c_Mod_isIn 19 = .ok (.iconst 1, 1) := by decide +kernel
theorem d_Mod_isIn_20 : decode c_Mod_isIn 20 = .ok (.goto 4, 3) := by decide +kernel
theorem d_Mod_isIn_23 : decode c_Mod_isIn 23 = .ok (.iconst 0, 1) := by decide +kernel
theorem d_Mod_isIn_24 : decode c_Mod_isIn 24 = .ok (.ireturn, 1) := by decide +kernel
abbrev c_Mod_add : ByteArray := prog_11_method_13_code
abbrev y_Mod_add : MethodName := ⟨"FleetFloorModel", "add", "([JII)V"⟩
theorem d_Mod_add_0 : decode c_Mod_add 0 = .ok (.aload_n 0, 1) := by decide +kernel
theorem d_Mod_add_1 : decode c_Mod_add 1 = .ok (.iconst 2, 1) := by decide +kernel
theorem d_Mod_add_2 : decode c_Mod_add 2 = .ok (.iload_n 1, 1) := by decide +kernel
theorem d_Mod_add_3 : decode c_Mod_add 3 = .ok (.imul, 1) := by decide +kernel
theorem d_Mod_add_4 : decode c_Mod_add 4 = .ok (.iload_n 2, 1) := by decide +kernel
theorem d_Mod_add_5 : decode c_Mod_add 5 = .ok (.bipush 6, 2) := by decide +kernel
theorem d_Mod_add_7 : decode c_Mod_add 7 = .ok (.ishr, 1) := by decide +kernel
theorem d_Mod_add_8 : decode c_Mod_add 8 = .ok (.iadd, 1) := by decide +kernel
theorem d_Mod_add_9 : decode c_Mod_add 9 = .ok (.dup2, 1) := by decide +kernel
theorem d_Mod_add_10 : decode c_Mod_add 10 = .ok (.laload, 1) := by decide +kernel
theorem d_Mod_add_11 : decode c_Mod_add 11 = .ok (.lconst 1, 1) := by decide +kernel
theorem d_Mod_add_12 : decode c_Mod_add 12 = .ok (.iload_n 2, 1) := by decide +kernel
theorem d_Mod_add_13 : decode c_Mod_add 13 = .ok (.lshl, 1) := by decide +kernel
theorem d_Mod_add_14 : decode c_Mod_add 14 = .ok (.lor, 1) := by decide +kernel
theorem d_Mod_add_15 : decode c_Mod_add 15 = .ok (.lastore, 1) := by decide +kernel
theorem d_Mod_add_16 : decode c_Mod_add 16 = .ok (.return_, 1) := by decide +kernel
abbrev c_Mod_forbid : ByteArray := prog_11_method_14_code
abbrev y_Mod_forbid : MethodName := ⟨"FleetFloorModel", "forbid", "(I)V"⟩
theorem d_Mod_forbid_0 : decode c_Mod_forbid 0 = .ok (.iconst 0, 1) := by decide +kernel
theorem d_Mod_forbid_1 : decode c_Mod_forbid 1 = .ok (.istore_n 2, 1) := by decide +kernel
theorem d_Mod_forbid_2 : decode c_Mod_forbid 2 = .ok (.aload_n 0, 1) := by decide +kernel
theorem d_Mod_forbid_3 : decode c_Mod_forbid 3 = .ok (.getfield 16, 3) := by decide +kernel
theorem d_Mod_forbid_6 : decode c_Mod_forbid 6 = .ok (.iload_n 1, 1) := by decide +kernel
theorem d_Mod_forbid_7 : decode c_Mod_forbid 7 = .ok (.iaload, 1) := by decide +kernel
theorem d_Mod_forbid_8 : decode c_Mod_forbid 8 = .ok (.istore_n 3, 1) := by decide +kernel
theorem d_Mod_forbid_9 : decode c_Mod_forbid 9 = .ok (.aload_n 0, 1) := by decide +kernel
theorem d_Mod_forbid_10 : decode c_Mod_forbid 10 = .ok (.getfield 136, 3) := by decide +kernel
theorem d_Mod_forbid_13 : decode c_Mod_forbid 13 = .ok (.iconst 1, 1) := by decide +kernel
theorem d_Mod_forbid_14 : decode c_Mod_forbid 14 = .ok (.isub, 1) := by decide +kernel
theorem d_Mod_forbid_15 : decode c_Mod_forbid 15 = .ok (.istore 4, 2) := by decide +kernel
theorem d_Mod_forbid_17 : decode c_Mod_forbid 17 = .ok (.iload 4, 2) := by decide +kernel
theorem d_Mod_forbid_19 : decode c_Mod_forbid 19 = .ok (.aload_n 0, 1) := by decide +kernel
theorem d_Mod_forbid_20 : decode c_Mod_forbid 20 = .ok (.getfield 136, 3) := by decide +kernel
theorem d_Mod_forbid_23 : decode c_Mod_forbid 23 = .ok (.sipush 150, 3) := by decide +kernel
theorem d_Mod_forbid_26 : decode c_Mod_forbid 26 = .ok (.iadd, 1) := by decide +kernel
theorem d_Mod_forbid_27 : decode c_Mod_forbid 27 = .ok (.iconst 1, 1) := by decide +kernel
theorem d_Mod_forbid_28 : decode c_Mod_forbid 28 = .ok (.iadd, 1) := by decide +kernel
theorem d_Mod_forbid_29 : decode c_Mod_forbid 29 = .ok (.if_icmp .gt 162, 3) := by decide +kernel
theorem d_Mod_forbid_32 : decode c_Mod_forbid 32 = .ok (.iload_n 3, 1) := by decide +kernel
theorem d_Mod_forbid_33 : decode c_Mod_forbid 33 = .ok (.istore 5, 2) := by decide +kernel
theorem d_Mod_forbid_35 : decode c_Mod_forbid 35 = .ok (.iload_n 2, 1) := by decide +kernel
theorem d_Mod_forbid_36 : decode c_Mod_forbid 36 = .ok (.aload_n 0, 1) := by decide +kernel
theorem d_Mod_forbid_37 : decode c_Mod_forbid 37 = .ok (.getfield 71, 3) := by decide +kernel
theorem d_Mod_forbid_40 : decode c_Mod_forbid 40 = .ok (.iload_n 1, 1) := by decide +kernel
theorem d_Mod_forbid_41 : decode c_Mod_forbid 41 = .ok (.iaload, 1) := by decide +kernel
theorem d_Mod_forbid_42 : decode c_Mod_forbid 42 = .ok (.if_icmp .ge 37, 3) := by decide +kernel
theorem d_Mod_forbid_45 : decode c_Mod_forbid 45 = .ok (.aload_n 0, 1) := by decide +kernel
theorem d_Mod_forbid_46 : decode c_Mod_forbid 46 = .ok (.getfield 53, 3) := by decide +kernel
theorem d_Mod_forbid_49 : decode c_Mod_forbid 49 = .ok (.aload_n 0, 1) := by decide +kernel
theorem d_Mod_forbid_50 : decode c_Mod_forbid 50 = .ok (.iload_n 1, 1) := by decide +kernel
theorem d_Mod_forbid_51 : decode c_Mod_forbid 51 = .ok (.iload_n 2, 1) := by decide +kernel
theorem d_Mod_forbid_52 : decode c_Mod_forbid 52 = .ok (.invokevirtual 139, 3) := by decide +kernel
theorem d_Mod_forbid_55 : decode c_Mod_forbid 55 = .ok (.iaload, 1) := by decide +kernel
theorem d_Mod_forbid_56 : decode c_Mod_forbid 56 = .ok (.iload 4, 2) := by decide +kernel
theorem d_Mod_forbid_58 : decode c_Mod_forbid 58 = .ok (.if_icmp .gt 21, 3) := by decide +kernel
theorem d_Mod_forbid_61 : decode c_Mod_forbid 61 = .ok (.aload_n 0, 1) := by decide +kernel
theorem d_Mod_forbid_62 : decode c_Mod_forbid 62 = .ok (.getfield 50, 3) := by decide +kernel
theorem d_Mod_forbid_65 : decode c_Mod_forbid 65 = .ok (.aload_n 0, 1) := by decide +kernel
theorem d_Mod_forbid_66 : decode c_Mod_forbid 66 = .ok (.iload_n 1, 1) := by decide +kernel
theorem d_Mod_forbid_67 : decode c_Mod_forbid 67 = .ok (.iload_n 2, 1) := by decide +kernel
theorem d_Mod_forbid_68 : decode c_Mod_forbid 68 = .ok (.invokevirtual 139, 3) := by decide +kernel
theorem d_Mod_forbid_71 : decode c_Mod_forbid 71 = .ok (.iaload, 1) := by decide +kernel
theorem d_Mod_forbid_72 : decode c_Mod_forbid 72 = .ok (.istore_n 3, 1) := by decide +kernel
theorem d_Mod_forbid_73 : decode c_Mod_forbid 73 = .ok (.iinc 2 1, 3) := by decide +kernel
theorem d_Mod_forbid_76 : decode c_Mod_forbid 76 = .ok (.goto (-41), 3) := by decide +kernel
theorem d_Mod_forbid_79 : decode c_Mod_forbid 79 = .ok (.iload 4, 2) := by decide +kernel
theorem d_Mod_forbid_81 : decode c_Mod_forbid 81 = .ok (.aload_n 0, 1) := by decide +kernel
theorem d_Mod_forbid_82 : decode c_Mod_forbid 82 = .ok (.getfield 136, 3) := by decide +kernel
theorem d_Mod_forbid_85 : decode c_Mod_forbid 85 = .ok (.isub, 1) := by decide +kernel
theorem d_Mod_forbid_86 : decode c_Mod_forbid 86 = .ok (.istore 6, 2) := by decide +kernel
theorem d_Mod_forbid_88 : decode c_Mod_forbid 88 = .ok (.iload 6, 2) := by decide +kernel
theorem d_Mod_forbid_90 : decode c_Mod_forbid 90 = .ok (.iconst 0, 1) := by decide +kernel
theorem d_Mod_forbid_91 : decode c_Mod_forbid 91 = .ok (.sipush 150, 3) := by decide +kernel
theorem d_Mod_forbid_94 : decode c_Mod_forbid 94 = .ok (.invokestatic 104, 3) := by decide +kernel
theorem d_Mod_forbid_97 : decode c_Mod_forbid 97 = .ok (.ifCond .eq 13, 3) := by decide +kernel
theorem d_Mod_forbid_100 : decode c_Mod_forbid 100 = .ok (.aload_n 0, 1) := by decide +kernel
theorem d_Mod_forbid_101 : decode c_Mod_forbid 101 = .ok (.getfield 90, 3) := by decide +kernel
theorem d_Mod_forbid_104 : decode c_Mod_forbid 104 = .ok (.iload 6, 2) := by decide +kernel
theorem d_Mod_forbid_106 : decode c_Mod_forbid 106 = .ok (.iload_n 3, 1) := by decide +kernel
theorem d_Mod_forbid_107 : decode c_Mod_forbid 107 = .ok (.invokestatic 142, 3) := by decide +kernel
theorem d_Mod_forbid_110 : decode c_Mod_forbid 110 = .ok (.iload 6, 2) := by decide +kernel
theorem d_Mod_forbid_112 : decode c_Mod_forbid 112 = .ok (.iconst 1, 1) := by decide +kernel
theorem d_Mod_forbid_113 : decode c_Mod_forbid 113 = .ok (.iadd, 1) := by decide +kernel
theorem d_Mod_forbid_114 : decode c_Mod_forbid 114 = .ok (.iconst 0, 1) := by decide +kernel
theorem d_Mod_forbid_115 : decode c_Mod_forbid 115 = .ok (.sipush 150, 3) := by decide +kernel
theorem d_Mod_forbid_118 : decode c_Mod_forbid 118 = .ok (.invokestatic 104, 3) := by decide +kernel
theorem d_Mod_forbid_121 : decode c_Mod_forbid 121 = .ok (.ifCond .eq 15, 3) := by decide +kernel
theorem d_Mod_forbid_124 : decode c_Mod_forbid 124 = .ok (.aload_n 0, 1) := by decide +kernel
theorem d_Mod_forbid_125 : decode c_Mod_forbid 125 = .ok (.getfield 90, 3) := by decide +kernel
theorem d_Mod_forbid_128 : decode c_Mod_forbid 128 = .ok (.iload 6, 2) := by decide +kernel
theorem d_Mod_forbid_130 : decode c_Mod_forbid 130 = .ok (.iconst 1, 1) := by decide +kernel
theorem d_Mod_forbid_131 : decode c_Mod_forbid 131 = .ok (.iadd, 1) := by decide +kernel
theorem d_Mod_forbid_132 : decode c_Mod_forbid 132 = .ok (.iload_n 3, 1) := by decide +kernel
theorem d_Mod_forbid_133 : decode c_Mod_forbid 133 = .ok (.invokestatic 142, 3) := by decide +kernel
theorem d_Mod_forbid_136 : decode c_Mod_forbid 136 = .ok (.iload_n 3, 1) := by decide +kernel
theorem d_Mod_forbid_137 : decode c_Mod_forbid 137 = .ok (.iload 5, 2) := by decide +kernel
theorem d_Mod_forbid_139 : decode c_Mod_forbid 139 = .ok (.if_icmp .eq 46, 3) := by decide +kernel
theorem d_Mod_forbid_142 : decode c_Mod_forbid 142 = .ok (.iload 6, 2) := by decide +kernel
theorem d_Mod_forbid_144 : decode c_Mod_forbid 144 = .ok (.ifCond .ge 6, 3) := by decide +kernel
theorem d_Mod_forbid_147 : decode c_Mod_forbid 147 = .ok (.goto 38, 3) := by decide +kernel
theorem d_Mod_forbid_150 : decode c_Mod_forbid 150 = .ok (.iload 6, 2) := by decide +kernel
theorem d_Mod_forbid_152 : decode c_Mod_forbid 152 = .ok (.sipush 150, 3) := by decide +kernel
theorem d_Mod_forbid_155 : decode c_Mod_forbid 155 = .ok (.if_icmp .gt 13, 3) := by decide +kernel
theorem d_Mod_forbid_158 : decode c_Mod_forbid 158 = .ok (.aload_n 0, 1) := by decide +kernel
theorem d_Mod_forbid_159 : decode c_Mod_forbid 159 = .ok (.getfield 86, 3) := by decide +kernel
theorem d_Mod_forbid_162 : decode c_Mod_forbid 162 = .ok (.iload 6, 2) := by decide +kernel
theorem d_Mod_forbid_164 : decode c_Mod_forbid 164 = .ok (.iload_n 3, 1) := by decide +kernel
theorem d_Mod_forbid_165 : decode c_Mod_forbid 165 = .ok (.invokestatic 142, 3) := by decide +kernel
theorem d_Mod_forbid_168 : decode c_Mod_forbid 168 = .ok (.iload 6, 2) := by decide +kernel
theorem d_Mod_forbid_170 : decode c_Mod_forbid 170 = .ok (.ifCond .le 15, 3) := by decide +kernel
theorem d_Mod_forbid_173 : decode c_Mod_forbid 173 = .ok (.aload_n 0, 1) := by decide +kernel
theorem d_Mod_forbid_174 : decode c_Mod_forbid 174 = .ok (.getfield 86, 3) := by decide +kernel
theorem d_Mod_forbid_177 : decode c_Mod_forbid 177 = .ok (.iload 6, 2) := by decide +kernel
theorem d_Mod_forbid_179 : decode c_Mod_forbid 179 = .ok (.iconst 1, 1) := by decide +kernel
theorem d_Mod_forbid_180 : decode c_Mod_forbid 180 = .ok (.isub, 1) := by decide +kernel
theorem d_Mod_forbid_181 : decode c_Mod_forbid 181 = .ok (.iload_n 3, 1) := by decide +kernel
theorem d_Mod_forbid_182 : decode c_Mod_forbid 182 = .ok (.invokestatic 142, 3) := by decide +kernel
theorem d_Mod_forbid_185 : decode c_Mod_forbid 185 = .ok (.iinc 4 1, 3) := by decide +kernel
theorem d_Mod_forbid_188 : decode c_Mod_forbid 188 = .ok (.goto (-171), 3) := by decide +kernel
theorem d_Mod_forbid_191 : decode c_Mod_forbid 191 = .ok (.return_, 1) := by decide +kernel
abbrev c_Mod_forbidAll : ByteArray := prog_11_method_15_code
abbrev y_Mod_forbidAll : MethodName := ⟨"FleetFloorModel", "forbidAll", "()V"⟩
theorem d_Mod_forbidAll_0 : decode c_Mod_forbidAll 0 = .ok (.iconst 0, 1) := by decide +kernel
theorem d_Mod_forbidAll_1 : decode c_Mod_forbidAll 1 = .ok (.istore_n 1, 1) := by decide +kernel
theorem d_Mod_forbidAll_2 : decode c_Mod_forbidAll 2 = .ok (.iload_n 1, 1) := by decide +kernel
theorem d_Mod_forbidAll_3 : decode c_Mod_forbidAll 3 = .ok (.sipush 304, 3) := by decide +kernel
theorem d_Mod_forbidAll_6 : decode c_Mod_forbidAll 6 = .ok (.if_icmp .ge 23, 3) := by decide +kernel
theorem d_Mod_forbidAll_9 : decode c_Mod_forbidAll 9 = .ok (.aload_n 0, 1) := by decide +kernel
theorem d_Mod_forbidAll_10 : decode c_Mod_forbidAll 10 = .ok (.getfield 86, 3) := by decide +kernel
theorem d_Mod_forbidAll_13 : decode c_Mod_forbidAll 13 = .ok (.iload_n 1, 1) := by decide +kernel
theorem d_Mod_forbidAll_14 : decode c_Mod_forbidAll 14 = .ok (.lconst 0, 1) := by decide +kernel
theorem d_Mod_forbidAll_15 : decode c_Mod_forbidAll 15 = .ok (.lastore, 1) := by decide +kernel
theorem d_Mod_forbidAll_16 : decode c_Mod_forbidAll 16 = .ok (.aload_n 0, 1) := by decide +kernel
theorem d_Mod_forbidAll_17 : decode c_Mod_forbidAll 17 = .ok (.getfield 90, 3) := by decide +kernel
theorem d_Mod_forbidAll_20 : decode c_Mod_forbidAll 20 = .ok (.iload_n 1, 1) := by decide +kernel
theorem d_Mod_forbidAll_21 : decode c_Mod_forbidAll 21 = .ok (.lconst 0, 1) := by decide +kernel
theorem d_Mod_forbidAll_22 : decode c_Mod_forbidAll 22 = .ok (.lastore, 1) := by decide +kernel
theorem d_Mod_forbidAll_23 : decode c_Mod_forbidAll 23 = .ok (.iinc 1 1, 3) := by decide +kernel
theorem d_Mod_forbidAll_26 : decode c_Mod_forbidAll 26 = .ok (.goto (-24), 3) := by decide +kernel
theorem d_Mod_forbidAll_29 : decode c_Mod_forbidAll 29 = .ok (.iconst 0, 1) := by decide +kernel
theorem d_Mod_forbidAll_30 : decode c_Mod_forbidAll 30 = .ok (.istore_n 1, 1) := by decide +kernel
theorem d_Mod_forbidAll_31 : decode c_Mod_forbidAll 31 = .ok (.iload_n 1, 1) := by decide +kernel
theorem d_Mod_forbidAll_32 : decode c_Mod_forbidAll 32 = .ok (.aload_n 0, 1) := by decide +kernel
theorem d_Mod_forbidAll_33 : decode c_Mod_forbidAll 33 = .ok (.getfield 127, 3) := by decide +kernel
theorem d_Mod_forbidAll_36 : decode c_Mod_forbidAll 36 = .ok (.if_icmp .ge 22, 3) := by decide +kernel
theorem d_Mod_forbidAll_39 : decode c_Mod_forbidAll 39 = .ok (.iload_n 1, 1) := by decide +kernel
theorem d_Mod_forbidAll_40 : decode c_Mod_forbidAll 40 = .ok (.aload_n 0, 1) := by decide +kernel
theorem d_Mod_forbidAll_41 : decode c_Mod_forbidAll 41 = .ok (.getfield 146, 3) := by decide +kernel
theorem d_Mod_forbidAll_44 : decode c_Mod_forbidAll 44 = .ok (.if_icmp .eq 8, 3) := by decide +kernel
theorem d_Mod_forbidAll_47 : decode c_Mod_forbidAll 47 = .ok (.aload_n 0, 1) := by decide +kernel
theorem d_Mod_forbidAll_48 : decode c_Mod_forbidAll 48 = .ok (.iload_n 1, 1) := by decide +kernel
theorem d_Mod_forbidAll_49 : decode c_Mod_forbidAll 49 = .ok (.invokevirtual 149, 3) := by decide +kernel
theorem d_Mod_forbidAll_52 : decode c_Mod_forbidAll 52 = .ok (.iinc 1 1, 3) := by decide +kernel
theorem d_Mod_forbidAll_55 : decode c_Mod_forbidAll 55 = .ok (.goto (-24), 3) := by decide +kernel
theorem d_Mod_forbidAll_58 : decode c_Mod_forbidAll 58 = .ok (.return_, 1) := by decide +kernel
abbrev c_Mod_isOthers : ByteArray := prog_11_method_16_code
abbrev y_Mod_isOthers : MethodName := ⟨"FleetFloorModel", "isOthers", "(I)Z"⟩
theorem d_Mod_isOthers_0 : decode c_Mod_isOthers 0 = .ok (.aload_n 0, 1) := by decide +kernel
theorem d_Mod_isOthers_1 : decode c_Mod_isOthers 1 = .ok (.getfield 7, 3) := by decide +kernel
theorem d_Mod_isOthers_4 : decode c_Mod_isOthers 4 = .ok (.iload_n 1, 1) := by decide +kernel
theorem d_Mod_isOthers_5 : decode c_Mod_isOthers 5 = .ok (.iaload, 1) := by decide +kernel
theorem d_Mod_isOthers_6 : decode c_Mod_isOthers 6 = .ok (.iconst 3, 1) := by decide +kernel
theorem d_Mod_isOthers_7 : decode c_Mod_isOthers 7 = .ok (.if_icmp .ne 20, 3) := by decide +kernel
theorem d_Mod_isOthers_10 : decode c_Mod_isOthers 10 = .ok (.iload_n 1, 1) := by decide +kernel
theorem d_Mod_isOthers_11 : decode c_Mod_isOthers 11 = .ok (.aload_n 0, 1) := by decide +kernel
theorem d_Mod_isOthers_12 : decode c_Mod_isOthers 12 = .ok (.getfield 16, 3) := by decide +kernel
theorem d_Mod_isOthers_15 : decode c_Mod_isOthers 15 = .ok (.aload_n 0, 1) := by decide +kernel
theorem d_Mod_isOthers_16 : decode c_Mod_isOthers 16 = .ok (.getfield 146, 3) := by decide +kernel
theorem d_Mod_isOthers_19 : decode c_Mod_isOthers 19 = .ok (.iaload, 1) := by decide +kernel
theorem d_Mod_isOthers_20 : decode c_Mod_isOthers 20 = .ok (.if_icmp .eq 7, 3) := by decide +kernel
theorem d_Mod_isOthers_23 : decode c_Mod_isOthers 23 = .ok (.iconst 1, 1) := by decide +kernel
theorem d_Mod_isOthers_24 : decode c_Mod_isOthers 24 = .ok (.goto 4, 3) := by decide +kernel
theorem d_Mod_isOthers_27 : decode c_Mod_isOthers 27 = .ok (.iconst 0, 1) := by decide +kernel
theorem d_Mod_isOthers_28 : decode c_Mod_isOthers 28 = .ok (.ireturn, 1) := by decide +kernel
abbrev c_Mod_goes : ByteArray := prog_11_method_17_code
abbrev y_Mod_goes : MethodName := ⟨"FleetFloorModel", "goes", "(III)I"⟩
theorem d_Mod_goes_0 : decode c_Mod_goes 0 = .ok (.iload_n 1, 1) := by decide +kernel
theorem d_Mod_goes_1 : decode c_Mod_goes 1 = .ok (.iload_n 2, 1) := by decide +kernel
theorem d_Mod_goes_2 : decode c_Mod_goes 2 = .ok (.invokestatic 108, 3) := by decide +kernel
theorem d_Mod_goes_5 : decode c_Mod_goes 5 = .ok (.istore 4, 2) := by decide +kernel
theorem d_Mod_goes_7 : decode c_Mod_goes 7 = .ok (.iload 4, 2) := by decide +kernel
theorem d_Mod_goes_9 : decode c_Mod_goes 9 = .ok (.ifCond .lt 35, 3) := by decide +kernel
theorem d_Mod_goes_12 : decode c_Mod_goes 12 = .ok (.aload_n 0, 1) := by decide +kernel
theorem d_Mod_goes_13 : decode c_Mod_goes 13 = .ok (.getfield 7, 3) := by decide +kernel
theorem d_Mod_goes_16 : decode c_Mod_goes 16 = .ok (.iload 4, 2) := by decide +kernel
theorem d_Mod_goes_18 : decode c_Mod_goes 18 = .ok (.iaload, 1) := by decide +kernel
theorem d_Mod_goes_19 : decode c_Mod_goes 19 = .ok (.ifCond .eq 25, 3) := by decide +kernel
theorem d_Mod_goes_22 : decode c_Mod_goes 22 = .ok (.aload_n 0, 1) := by decide +kernel
theorem d_Mod_goes_23 : decode c_Mod_goes 23 = .ok (.iload 4, 2) := by decide +kernel
theorem d_Mod_goes_25 : decode c_Mod_goes 25 = .ok (.invokevirtual 153, 3) := by decide +kernel
theorem d_Mod_goes_28 : decode c_Mod_goes 28 = .ok (.ifCond .ne 16, 3) := by decide +kernel
theorem d_Mod_goes_31 : decode c_Mod_goes 31 = .ok (.aload_n 0, 1) := by decide +kernel
theorem d_Mod_goes_32 : decode c_Mod_goes 32 = .ok (.getfield 86, 3) := by decide +kernel
theorem d_Mod_goes_35 : decode c_Mod_goes 35 = .ok (.iload_n 3, 1) := by decide +kernel
theorem d_Mod_goes_36 : decode c_Mod_goes 36 = .ok (.iload 4, 2) := by decide +kernel
theorem d_Mod_goes_38 : decode c_Mod_goes 38 = .ok (.invokestatic 156, 3) := by decide +kernel
theorem d_Mod_goes_41 : decode c_Mod_goes 41 = .ok (.ifCond .eq 5, 3) := by decide +kernel
theorem d_Mod_goes_44 : decode c_Mod_goes 44 = .ok (.iconst (-1), 1) := by decide +kernel
theorem d_Mod_goes_45 : decode c_Mod_goes 45 = .ok (.ireturn, 1) := by decide +kernel
theorem d_Mod_goes_46 : decode c_Mod_goes 46 = .ok (.iload_n 2, 1) := by decide +kernel
theorem d_Mod_goes_47 : decode c_Mod_goes 47 = .ok (.iconst 4, 1) := by decide +kernel
theorem d_Mod_goes_48 : decode c_Mod_goes 48 = .ok (.if_icmp .ge 20, 3) := by decide +kernel
theorem d_Mod_goes_51 : decode c_Mod_goes 51 = .ok (.aload_n 0, 1) := by decide +kernel
theorem d_Mod_goes_52 : decode c_Mod_goes 52 = .ok (.getfield 90, 3) := by decide +kernel
theorem d_Mod_goes_55 : decode c_Mod_goes 55 = .ok (.iload_n 3, 1) := by decide +kernel
theorem d_Mod_goes_56 : decode c_Mod_goes 56 = .ok (.iload 4, 2) := by decide +kernel
theorem d_Mod_goes_58 : decode c_Mod_goes 58 = .ok (.invokestatic 156, 3) := by decide +kernel
theorem d_Mod_goes_61 : decode c_Mod_goes 61 = .ok (.ifCond .eq 7, 3) := by decide +kernel
theorem d_Mod_goes_64 : decode c_Mod_goes 64 = .ok (.iconst (-1), 1) := by decide +kernel
theorem d_Mod_goes_65 : decode c_Mod_goes 65 = .ok (.goto 5, 3) := by decide +kernel
theorem d_Mod_goes_68 : decode c_Mod_goes 68 = .ok (.iload 4, 2) := by decide +kernel
theorem d_Mod_goes_70 : decode c_Mod_goes 70 = .ok (.ireturn, 1) := by decide +kernel
abbrev c_Mod_doneAt : ByteArray := prog_11_method_18_code
abbrev y_Mod_doneAt : MethodName := ⟨"FleetFloorModel", "doneAt", "(III)I"⟩
theorem d_Mod_doneAt_0 : decode c_Mod_doneAt 0 = .ok (.iload_n 3, 1) := by decide +kernel
theorem d_Mod_doneAt_1 : decode c_Mod_doneAt 1 = .ok (.ifCond .ne 17, 3) := by decide +kernel
theorem d_Mod_doneAt_4 : decode c_Mod_doneAt 4 = .ok (.iload_n 2, 1) := by decide +kernel
theorem d_Mod_doneAt_5 : decode c_Mod_doneAt 5 = .ok (.aload_n 0, 1) := by decide +kernel
theorem d_Mod_doneAt_6 : decode c_Mod_doneAt 6 = .ok (.getfield 26, 3) := by decide +kernel
theorem d_Mod_doneAt_9 : decode c_Mod_doneAt 9 = .ok (.iload_n 1, 1) := by decide +kernel
theorem d_Mod_doneAt_10 : decode c_Mod_doneAt 10 = .ok (.iaload, 1) := by decide +kernel
theorem d_Mod_doneAt_11 : decode c_Mod_doneAt 11 = .ok (.if_icmp .ne 7, 3) := by decide +kernel
theorem d_Mod_doneAt_14 : decode c_Mod_doneAt 14 = .ok (.iconst 1, 1) := by decide +kernel
theorem d_Mod_doneAt_15 : decode c_Mod_doneAt 15 = .ok (.goto 4, 3) := by decide +kernel
theorem d_Mod_doneAt_18 : decode c_Mod_doneAt 18 = .ok (.iload_n 3, 1) := by decide +kernel
theorem d_Mod_doneAt_19 : decode c_Mod_doneAt 19 = .ok (.istore 4, 2) := by decide +kernel
theorem d_Mod_doneAt_21 : decode c_Mod_doneAt 21 = .ok (.iload 4, 2) := by decide +kernel
theorem d_Mod_doneAt_23 : decode c_Mod_doneAt 23 = .ok (.iconst 1, 1) := by decide +kernel
theorem d_Mod_doneAt_24 : decode c_Mod_doneAt 24 = .ok (.if_icmp .ne 17, 3) := by decide +kernel
theorem d_Mod_doneAt_27 : decode c_Mod_doneAt 27 = .ok (.iload_n 2, 1) := by decide +kernel
theorem d_Mod_doneAt_28 : decode c_Mod_doneAt 28 = .ok (.aload_n 0, 1) := by decide +kernel
theorem d_Mod_doneAt_29 : decode c_Mod_doneAt 29 = .ok (.getfield 29, 3) := by decide +kernel
theorem d_Mod_doneAt_32 : decode c_Mod_doneAt 32 = .ok (.iload_n 1, 1) := by decide +kernel
theorem d_Mod_doneAt_33 : decode c_Mod_doneAt 33 = .ok (.iaload, 1) := by decide +kernel
theorem d_Mod_doneAt_34 : decode c_Mod_doneAt 34 = .ok (.if_icmp .ne 7, 3) := by decide +kernel
theorem d_Mod_doneAt_37 : decode c_Mod_doneAt 37 = .ok (.iconst 2, 1) := by decide +kernel
theorem d_Mod_doneAt_38 : decode c_Mod_doneAt 38 = .ok (.goto 5, 3) := by decide +kernel
theorem d_Mod_doneAt_41 : decode c_Mod_doneAt 41 = .ok (.iload 4, 2) := by decide +kernel
theorem d_Mod_doneAt_43 : decode c_Mod_doneAt 43 = .ok (.ireturn, 1) := by decide +kernel
abbrev c_Mod_spread : ByteArray := prog_11_method_19_code
abbrev y_Mod_spread : MethodName := ⟨"FleetFloorModel", "spread", "(I)I"⟩
theorem d_Mod_spread_0 : decode c_Mod_spread 0 = .ok (.iconst 0, 1) := by decide +kernel
theorem d_Mod_spread_1 : decode c_Mod_spread 1 = .ok (.istore_n 2, 1) := by decide +kernel
theorem d_Mod_spread_2 : decode c_Mod_spread 2 = .ok (.iload_n 2, 1) := by decide +kernel
theorem d_Mod_spread_3 : decode c_Mod_spread 3 = .ok (.sipush 908, 3) := by decide +kernel
theorem d_Mod_spread_6 : decode c_Mod_spread 6 = .ok (.if_icmp .ge 16, 3) := by decide +kernel
theorem d_Mod_spread_9 : decode c_Mod_spread 9 = .ok (.aload_n 0, 1) := by decide +kernel
theorem d_Mod_spread_10 : decode c_Mod_spread 10 = .ok (.getfield 93, 3) := by decide +kernel
theorem d_Mod_spread_13 : decode c_Mod_spread 13 = .ok (.iload_n 2, 1) := by decide +kernel
theorem d_Mod_spread_14 : decode c_Mod_spread 14 = .ok (.lconst 0, 1) := by decide +kernel
theorem d_Mod_spread_15 : decode c_Mod_spread 15 = .ok (.lastore, 1) := by decide +kernel
theorem d_Mod_spread_16 : decode c_Mod_spread 16 = .ok (.iinc 2 1, 3) := by decide +kernel
theorem d_Mod_spread_19 : decode c_Mod_spread 19 = .ok (.goto (-17), 3) := by decide +kernel
theorem d_Mod_spread_22 : decode c_Mod_spread 22 = .ok (.aload_n 0, 1) := by decide +kernel
theorem d_Mod_spread_23 : decode c_Mod_spread 23 = .ok (.getfield 16, 3) := by decide +kernel
theorem d_Mod_spread_26 : decode c_Mod_spread 26 = .ok (.aload_n 0, 1) := by decide +kernel
theorem d_Mod_spread_27 : decode c_Mod_spread 27 = .ok (.getfield 146, 3) := by decide +kernel
theorem d_Mod_spread_30 : decode c_Mod_spread 30 = .ok (.iaload, 1) := by decide +kernel
theorem d_Mod_spread_31 : decode c_Mod_spread 31 = .ok (.istore_n 2, 1) := by decide +kernel
theorem d_Mod_spread_32 : decode c_Mod_spread 32 = .ok (.aload_n 0, 1) := by decide +kernel
theorem d_Mod_spread_33 : decode c_Mod_spread 33 = .ok (.getfield 93, 3) := by decide +kernel
theorem d_Mod_spread_36 : decode c_Mod_spread 36 = .ok (.iconst 0, 1) := by decide +kernel
theorem d_Mod_spread_37 : decode c_Mod_spread 37 = .ok (.iload_n 2, 1) := by decide +kernel
theorem d_Mod_spread_38 : decode c_Mod_spread 38 = .ok (.invokestatic 142, 3) := by decide +kernel
theorem d_Mod_spread_41 : decode c_Mod_spread 41 = .ok (.iconst 0, 1) := by decide +kernel
theorem d_Mod_spread_42 : decode c_Mod_spread 42 = .ok (.istore_n 3, 1) := by decide +kernel
theorem d_Mod_spread_43 : decode c_Mod_spread 43 = .ok (.iload_n 3, 1) := by decide +kernel
theorem d_Mod_spread_44 : decode c_Mod_spread 44 = .ok (.sipush 150, 3) := by decide +kernel
theorem d_Mod_spread_47 : decode c_Mod_spread 47 = .ok (.if_icmp .ge 88, 3) := by decide +kernel
theorem d_Mod_spread_50 : decode c_Mod_spread 50 = .ok (.iconst 0, 1) := by decide +kernel
theorem d_Mod_spread_51 : decode c_Mod_spread 51 = .ok (.istore 4, 2) := by decide +kernel
theorem d_Mod_spread_53 : decode c_Mod_spread 53 = .ok (.iload 4, 2) := by decide +kernel
theorem d_Mod_spread_55 : decode c_Mod_spread 55 = .ok (.iconst 3, 1) := by decide +kernel
theorem d_Mod_spread_56 : decode c_Mod_spread 56 = .ok (.if_icmp .ge 53, 3) := by decide +kernel
theorem d_Mod_spread_59 : decode c_Mod_spread 59 = .ok (.iconst 0, 1) := by decide +kernel
theorem d_Mod_spread_60 : decode c_Mod_spread 60 = .ok (.istore 5, 2) := by decide +kernel
theorem d_Mod_spread_62 : decode c_Mod_spread 62 = .ok (.iload 5, 2) := by decide +kernel
theorem d_Mod_spread_64 : decode c_Mod_spread 64 = .ok (.bipush 96, 2) := by decide +kernel
theorem d_Mod_spread_66 : decode c_Mod_spread 66 = .ok (.if_icmp .ge 37, 3) := by decide +kernel
theorem d_Mod_spread_69 : decode c_Mod_spread 69 = .ok (.aload_n 0, 1) := by decide +kernel
theorem d_Mod_spread_70 : decode c_Mod_spread 70 = .ok (.getfield 93, 3) := by decide +kernel
theorem d_Mod_spread_73 : decode c_Mod_spread 73 = .ok (.iconst 3, 1) := by decide +kernel
theorem d_Mod_spread_74 : decode c_Mod_spread 74 = .ok (.iload_n 3, 1) := by decide +kernel
theorem d_Mod_spread_75 : decode c_Mod_spread 75 = .ok (.imul, 1) := by decide +kernel
theorem d_Mod_spread_76 : decode c_Mod_spread 76 = .ok (.iload 4, 2) := by decide +kernel
theorem d_Mod_spread_78 : decode c_Mod_spread 78 = .ok (.iadd, 1) := by decide +kernel
theorem d_Mod_spread_79 : decode c_Mod_spread 79 = .ok (.iload 5, 2) := by decide +kernel
theorem d_Mod_spread_81 : decode c_Mod_spread 81 = .ok (.invokestatic 156, 3) := by decide +kernel
theorem d_Mod_spread_84 : decode c_Mod_spread 84 = .ok (.ifCond .eq 13, 3) := by decide +kernel
theorem d_Mod_spread_87 : decode c_Mod_spread 87 = .ok (.aload_n 0, 1) := by decide +kernel
theorem d_Mod_spread_88 : decode c_Mod_spread 88 = .ok (.iload_n 1, 1) := by decide +kernel
theorem d_Mod_spread_89 : decode c_Mod_spread 89 = .ok (.iload_n 3, 1) := by decide +kernel
theorem d_Mod_spread_90 : decode c_Mod_spread 90 = .ok (.iload 4, 2) := by decide +kernel
theorem d_Mod_spread_92 : decode c_Mod_spread 92 = .ok (.iload 5, 2) := by decide +kernel
theorem d_Mod_spread_94 : decode c_Mod_spread 94 = .ok (.invokevirtual 160, 3) := by decide +kernel
theorem d_Mod_spread_97 : decode c_Mod_spread 97 = .ok (.iinc 5 1, 3) := by decide +kernel
theorem d_Mod_spread_100 : decode c_Mod_spread 100 = .ok (.goto (-38), 3) := by decide +kernel
theorem d_Mod_spread_103 : decode c_Mod_spread 103 = .ok (.iinc 4 1, 3) := by decide +kernel
theorem d_Mod_spread_106 : decode c_Mod_spread 106 = .ok (.goto (-53), 3) := by decide +kernel
theorem d_Mod_spread_109 : decode c_Mod_spread 109 = .ok (.aload_n 0, 1) := by decide +kernel
theorem d_Mod_spread_110 : decode c_Mod_spread 110 = .ok (.getfield 93, 3) := by decide +kernel
theorem d_Mod_spread_113 : decode c_Mod_spread 113 = .ok (.iconst 3, 1) := by decide +kernel
theorem d_Mod_spread_114 : decode c_Mod_spread 114 = .ok (.iload_n 3, 1) := by decide +kernel
theorem d_Mod_spread_115 : decode c_Mod_spread 115 = .ok (.imul, 1) := by decide +kernel
theorem d_Mod_spread_116 : decode c_Mod_spread 116 = .ok (.iconst 5, 1) := by decide +kernel
theorem d_Mod_spread_117 : decode c_Mod_spread 117 = .ok (.iadd, 1) := by decide +kernel
theorem d_Mod_spread_118 : decode c_Mod_spread 118 = .ok (.iload_n 2, 1) := by decide +kernel
theorem d_Mod_spread_119 : decode c_Mod_spread 119 = .ok (.invokestatic 156, 3) := by decide +kernel
theorem d_Mod_spread_122 : decode c_Mod_spread 122 = .ok (.ifCond .eq 7, 3) := by decide +kernel
theorem d_Mod_spread_125 : decode c_Mod_spread 125 = .ok (.iload_n 3, 1) := by decide +kernel
theorem d_Mod_spread_126 : decode c_Mod_spread 126 = .ok (.iconst 1, 1) := by decide +kernel
theorem d_Mod_spread_127 : decode c_Mod_spread 127 = .ok (.iadd, 1) := by decide +kernel
theorem d_Mod_spread_128 : decode c_Mod_spread 128 = .ok (.ireturn, 1) := by decide +kernel
theorem d_Mod_spread_129 : decode c_Mod_spread 129 = .ok (.iinc 3 1, 3) := by decide +kernel
theorem d_Mod_spread_132 : decode c_Mod_spread 132 = .ok (.goto (-89), 3) := by decide +kernel
theorem d_Mod_spread_135 : decode c_Mod_spread 135 = .ok (.iconst (-1), 1) := by decide +kernel
theorem d_Mod_spread_136 : decode c_Mod_spread 136 = .ok (.ireturn, 1) := by decide +kernel
abbrev c_Mod_spreadFrom : ByteArray := prog_11_method_20_code
abbrev y_Mod_spreadFrom : MethodName := ⟨"FleetFloorModel", "spreadFrom", "(IIII)V"⟩
theorem d_Mod_spreadFrom_0 : decode c_Mod_spreadFrom 0 = .ok (.iconst 0, 1) := by decide +kernel
theorem d_Mod_spreadFrom_1 : decode c_Mod_spreadFrom 1 = .ok (.istore 5, 2) := by decide +kernel
theorem d_Mod_spreadFrom_3 : decode c_Mod_spreadFrom 3 = .ok (.iload 5, 2) := by decide +kernel
theorem d_Mod_spreadFrom_5 : decode c_Mod_spreadFrom 5 = .ok (.iconst 4, 1) := by decide +kernel
theorem d_Mod_spreadFrom_6 : decode c_Mod_spreadFrom 6 = .ok (.if_icmp .gt 50, 3) := by decide +kernel
theorem d_Mod_spreadFrom_9 : decode c_Mod_spreadFrom 9 = .ok (.aload_n 0, 1) := by decide +kernel
theorem d_Mod_spreadFrom_10 : decode c_Mod_spreadFrom 10 = .ok (.iload 4, 2) := by decide +kernel
theorem d_Mod_spreadFrom_12 : decode c_Mod_spreadFrom 12 = .ok (.iload 5, 2) := by decide +kernel
theorem d_Mod_spreadFrom_14 : decode c_Mod_spreadFrom 14 = .ok (.iload_n 2, 1) := by decide +kernel
theorem d_Mod_spreadFrom_15 : decode c_Mod_spreadFrom 15 = .ok (.iconst 1, 1) := by decide +kernel
theorem d_Mod_spreadFrom_16 : decode c_Mod_spreadFrom 16 = .ok (.iadd, 1) := by decide +kernel
theorem d_Mod_spreadFrom_17 : decode c_Mod_spreadFrom 17 = .ok (.invokevirtual 164, 3) := by decide +kernel
theorem d_Mod_spreadFrom_20 : decode c_Mod_spreadFrom 20 = .ok (.istore 6, 2) := by decide +kernel
theorem d_Mod_spreadFrom_22 : decode c_Mod_spreadFrom 22 = .ok (.iload 6, 2) := by decide +kernel
theorem d_Mod_spreadFrom_24 : decode c_Mod_spreadFrom 24 = .ok (.ifCond .lt 26, 3) := by decide +kernel
theorem d_Mod_spreadFrom_27 : decode c_Mod_spreadFrom 27 = .ok (.aload_n 0, 1) := by decide +kernel
theorem d_Mod_spreadFrom_28 : decode c_Mod_spreadFrom 28 = .ok (.getfield 93, 3) := by decide +kernel
theorem d_Mod_spreadFrom_31 : decode c_Mod_spreadFrom 31 = .ok (.iconst 3, 1) := by decide +kernel
theorem d_Mod_spreadFrom_32 : decode c_Mod_spreadFrom 32 = .ok (.iload_n 2, 1) := by decide +kernel
theorem d_Mod_spreadFrom_33 : decode c_Mod_spreadFrom 33 = .ok (.imul, 1) := by decide +kernel
theorem d_Mod_spreadFrom_34 : decode c_Mod_spreadFrom 34 = .ok (.iconst 3, 1) := by decide +kernel
theorem d_Mod_spreadFrom_35 : decode c_Mod_spreadFrom 35 = .ok (.iadd, 1) := by decide +kernel
theorem d_Mod_spreadFrom_36 : decode c_Mod_spreadFrom 36 = .ok (.aload_n 0, 1) := by decide +kernel
theorem d_Mod_spreadFrom_37 : decode c_Mod_spreadFrom 37 = .ok (.iload_n 1, 1) := by decide +kernel
theorem d_Mod_spreadFrom_38 : decode c_Mod_spreadFrom 38 = .ok (.iload 6, 2) := by decide +kernel
theorem d_Mod_spreadFrom_40 : decode c_Mod_spreadFrom 40 = .ok (.iload_n 3, 1) := by decide +kernel
theorem d_Mod_spreadFrom_41 : decode c_Mod_spreadFrom 41 = .ok (.invokevirtual 168, 3) := by decide +kernel
theorem d_Mod_spreadFrom_44 : decode c_Mod_spreadFrom 44 = .ok (.iadd, 1) := by decide +kernel
theorem d_Mod_spreadFrom_45 : decode c_Mod_spreadFrom 45 = .ok (.iload 6, 2) := by decide +kernel
theorem d_Mod_spreadFrom_47 : decode c_Mod_spreadFrom 47 = .ok (.invokestatic 142, 3) := by decide +kernel
theorem d_Mod_spreadFrom_50 : decode c_Mod_spreadFrom 50 = .ok (.iinc 5 1, 3) := by decide +kernel
theorem d_Mod_spreadFrom_53 : decode c_Mod_spreadFrom 53 = .ok (.goto (-50), 3) := by decide +kernel
theorem d_Mod_spreadFrom_56 : decode c_Mod_spreadFrom 56 = .ok (.return_, 1) := by decide +kernel
abbrev c_Mod_lowest : ByteArray := prog_11_method_21_code
abbrev y_Mod_lowest : MethodName := ⟨"FleetFloorModel", "lowest", "(IIII)I"⟩
theorem d_Mod_lowest_0 : decode c_Mod_lowest 0 = .ok (.iconst 0, 1) := by decide +kernel
theorem d_Mod_lowest_1 : decode c_Mod_lowest 1 = .ok (.istore 5, 2) := by decide +kernel
theorem d_Mod_lowest_3 : decode c_Mod_lowest 3 = .ok (.iload 5, 2) := by decide +kernel
theorem d_Mod_lowest_5 : decode c_Mod_lowest 5 = .ok (.iconst 4, 1) := by decide +kernel
theorem d_Mod_lowest_6 : decode c_Mod_lowest 6 = .ok (.if_icmp .gt 56, 3) := by decide +kernel
theorem d_Mod_lowest_9 : decode c_Mod_lowest 9 = .ok (.aload_n 0, 1) := by decide +kernel
theorem d_Mod_lowest_10 : decode c_Mod_lowest 10 = .ok (.iload 4, 2) := by decide +kernel
theorem d_Mod_lowest_12 : decode c_Mod_lowest 12 = .ok (.iload 5, 2) := by decide +kernel
theorem d_Mod_lowest_14 : decode c_Mod_lowest 14 = .ok (.iload_n 2, 1) := by decide +kernel
theorem d_Mod_lowest_15 : decode c_Mod_lowest 15 = .ok (.iconst 1, 1) := by decide +kernel
theorem d_Mod_lowest_16 : decode c_Mod_lowest 16 = .ok (.iadd, 1) := by decide +kernel
theorem d_Mod_lowest_17 : decode c_Mod_lowest 17 = .ok (.invokevirtual 164, 3) := by decide +kernel
theorem d_Mod_lowest_20 : decode c_Mod_lowest 20 = .ok (.istore 6, 2) := by decide +kernel
theorem d_Mod_lowest_22 : decode c_Mod_lowest 22 = .ok (.iload 6, 2) := by decide +kernel
theorem d_Mod_lowest_24 : decode c_Mod_lowest 24 = .ok (.ifCond .lt 32, 3) := by decide +kernel
theorem d_Mod_lowest_27 : decode c_Mod_lowest 27 = .ok (.aload_n 0, 1) := by decide +kernel
theorem d_Mod_lowest_28 : decode c_Mod_lowest 28 = .ok (.getfield 93, 3) := by decide +kernel
theorem d_Mod_lowest_31 : decode c_Mod_lowest 31 = .ok (.iconst 3, 1) := by decide +kernel
theorem d_Mod_lowest_32 : decode c_Mod_lowest 32 = .ok (.iload_n 2, 1) := by decide +kernel
theorem d_Mod_lowest_33 : decode c_Mod_lowest 33 = .ok (.imul, 1) := by decide +kernel
theorem d_Mod_lowest_34 : decode c_Mod_lowest 34 = .ok (.iconst 3, 1) := by decide +kernel
theorem d_Mod_lowest_35 : decode c_Mod_lowest 35 = .ok (.iadd, 1) := by decide +kernel
theorem d_Mod_lowest_36 : decode c_Mod_lowest 36 = .ok (.aload_n 0, 1) := by decide +kernel
theorem d_Mod_lowest_37 : decode c_Mod_lowest 37 = .ok (.iload_n 1, 1) := by decide +kernel
theorem d_Mod_lowest_38 : decode c_Mod_lowest 38 = .ok (.iload 6, 2) := by decide +kernel
theorem d_Mod_lowest_40 : decode c_Mod_lowest 40 = .ok (.iload_n 3, 1) := by decide +kernel
theorem d_Mod_lowest_41 : decode c_Mod_lowest 41 = .ok (.invokevirtual 168, 3) := by decide +kernel
theorem d_Mod_lowest_44 : decode c_Mod_lowest 44 = .ok (.iadd, 1) := by decide +kernel
theorem d_Mod_lowest_45 : decode c_Mod_lowest 45 = .ok (.iload 6, 2) := by decide +kernel
theorem d_Mod_lowest_47 : decode c_Mod_lowest 47 = .ok (.invokestatic 156, 3) := by decide +kernel
theorem d_Mod_lowest_50 : decode c_Mod_lowest 50 = .ok (.ifCond .eq 6, 3) := by decide +kernel
theorem d_Mod_lowest_53 : decode c_Mod_lowest 53 = .ok (.iload 5, 2) := by decide +kernel
theorem d_Mod_lowest_55 : decode c_Mod_lowest 55 = .ok (.ireturn, 1) := by decide +kernel
theorem d_Mod_lowest_56 : decode c_Mod_lowest 56 = .ok (.iinc 5 1, 3) := by decide +kernel
theorem d_Mod_lowest_59 : decode c_Mod_lowest 59 = .ok (.goto (-56), 3) := by decide +kernel
theorem d_Mod_lowest_62 : decode c_Mod_lowest 62 = .ok (.iconst (-1), 1) := by decide +kernel
theorem d_Mod_lowest_63 : decode c_Mod_lowest 63 = .ok (.ireturn, 1) := by decide +kernel
