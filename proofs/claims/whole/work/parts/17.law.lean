abbrev c_Law_open : ByteArray := method_3_code
abbrev y_Law_open : MethodName := ⟨"FleetFloorLaw", "open", "(LFleetFloor;[J)I"⟩
theorem d_Law_open_0 : decode c_Law_open 0 = .ok (.aload_n 1, 1) := by decide +kernel
theorem d_Law_open_1 : decode c_Law_open 1 = .ok (.iconst 0, 1) := by decide +kernel
theorem d_Law_open_2 : decode c_Law_open 2 = .ok (.aload_n 0, 1) := by decide +kernel
theorem d_Law_open_3 : decode c_Law_open 3 = .ok (.invokevirtual 7, 3) := by decide +kernel
theorem d_Law_open_6 : decode c_Law_open 6 = .ok (.i2l, 1) := by decide +kernel
theorem d_Law_open_7 : decode c_Law_open 7 = .ok (.lastore, 1) := by decide +kernel
theorem d_Law_open_8 : decode c_Law_open 8 = .ok (.goto 9, 3) := by decide +kernel
theorem d_Law_open_11 : decode c_Law_open 11 = .ok (.astore_n 2, 1) := by decide +kernel
theorem d_Law_open_12 : decode c_Law_open 12 = .ok (.iconst 1, 1) := by decide +kernel
theorem d_Law_open_13 : decode c_Law_open 13 = .ok (.ireturn, 1) := by decide +kernel
theorem d_Law_open_14 : decode c_Law_open 14 = .ok (.astore_n 2, 1) := by decide +kernel
theorem d_Law_open_15 : decode c_Law_open 15 = .ok (.iconst 2, 1) := by decide +kernel
theorem d_Law_open_16 : decode c_Law_open 16 = .ok (.ireturn, 1) := by decide +kernel
theorem d_Law_open_17 : decode c_Law_open 17 = .ok (.iconst 0, 1) := by decide +kernel
theorem d_Law_open_18 : decode c_Law_open 18 = .ok (.ireturn, 1) := by decide +kernel
abbrev c_Law_task : ByteArray := method_4_code
abbrev y_Law_task : MethodName := ⟨"FleetFloorLaw", "task", "(LFleetFloor;II[J)I"⟩
theorem d_Law_task_0 : decode c_Law_task 0 = .ok (.aload_n 3, 1) := by decide +kernel
theorem d_Law_task_1 : decode c_Law_task 1 = .ok (.iconst 0, 1) := by decide +kernel
theorem d_Law_task_2 : decode c_Law_task 2 = .ok (.aload_n 0, 1) := by decide +kernel
theorem d_Law_task_3 : decode c_Law_task 3 = .ok (.iload_n 1, 1) := by decide +kernel
theorem d_Law_task_4 : decode c_Law_task 4 = .ok (.iload_n 2, 1) := by decide +kernel
theorem d_Law_task_5 : decode c_Law_task 5 = .ok (.invokevirtual 17, 3) := by decide +kernel
theorem d_Law_task_8 : decode c_Law_task 8 = .ok (.i2l, 1) := by decide +kernel
theorem d_Law_task_9 : decode c_Law_task 9 = .ok (.lastore, 1) := by decide +kernel
theorem d_Law_task_10 : decode c_Law_task 10 = .ok (.goto 11, 3) := by decide +kernel
theorem d_Law_task_13 : decode c_Law_task 13 = .ok (.astore 4, 2) := by decide +kernel
theorem d_Law_task_15 : decode c_Law_task 15 = .ok (.iconst 1, 1) := by decide +kernel
theorem d_Law_task_16 : decode c_Law_task 16 = .ok (.ireturn, 1) := by decide +kernel
theorem d_Law_task_17 : decode c_Law_task 17 = .ok (.astore 4, 2) := by decide +kernel
theorem d_Law_task_19 : decode c_Law_task 19 = .ok (.iconst 2, 1) := by decide +kernel
theorem d_Law_task_20 : decode c_Law_task 20 = .ok (.ireturn, 1) := by decide +kernel
theorem d_Law_task_21 : decode c_Law_task 21 = .ok (.iconst 0, 1) := by decide +kernel
theorem d_Law_task_22 : decode c_Law_task 22 = .ok (.ireturn, 1) := by decide +kernel
abbrev c_Law_tick : ByteArray := method_5_code
abbrev y_Law_tick : MethodName := ⟨"FleetFloorLaw", "tick", "(LFleetFloor;[J)I"⟩
theorem d_Law_tick_0 : decode c_Law_tick 0 = .ok (.aload_n 1, 1) := by decide +kernel
theorem d_Law_tick_1 : decode c_Law_tick 1 = .ok (.iconst 0, 1) := by decide +kernel
theorem d_Law_tick_2 : decode c_Law_tick 2 = .ok (.aload_n 0, 1) := by decide +kernel
theorem d_Law_tick_3 : decode c_Law_tick 3 = .ok (.invokevirtual 21, 3) := by decide +kernel
theorem d_Law_tick_6 : decode c_Law_tick 6 = .ok (.i2l, 1) := by decide +kernel
theorem d_Law_tick_7 : decode c_Law_tick 7 = .ok (.lastore, 1) := by decide +kernel
theorem d_Law_tick_8 : decode c_Law_tick 8 = .ok (.goto 6, 3) := by decide +kernel
theorem d_Law_tick_11 : decode c_Law_tick 11 = .ok (.astore_n 2, 1) := by decide +kernel
theorem d_Law_tick_12 : decode c_Law_tick 12 = .ok (.iconst 1, 1) := by decide +kernel
theorem d_Law_tick_13 : decode c_Law_tick 13 = .ok (.ireturn, 1) := by decide +kernel
theorem d_Law_tick_14 : decode c_Law_tick 14 = .ok (.iconst 0, 1) := by decide +kernel
theorem d_Law_tick_15 : decode c_Law_tick 15 = .ok (.ireturn, 1) := by decide +kernel
abbrev c_Law_law : ByteArray := code
abbrev y_Law_law : MethodName := ⟨"FleetFloorLaw", "law", "([I)Z"⟩
theorem d_Law_law_0 : decode c_Law_law 0 = .ok (.new 8, 3) := by decide +kernel
theorem d_Law_law_3 : decode c_Law_law 3 = .ok (.dup, 1) := by decide +kernel
theorem d_Law_law_4 : decode c_Law_law 4 = .ok (.invokespecial 24, 3) := by decide +kernel
theorem d_Law_law_7 : decode c_Law_law 7 = .ok (.astore_n 1, 1) := by decide +kernel
theorem d_Law_law_8 : decode c_Law_law 8 = .ok (.new 25, 3) := by decide +kernel
theorem d_Law_law_11 : decode c_Law_law 11 = .ok (.dup, 1) := by decide +kernel
theorem d_Law_law_12 : decode c_Law_law 12 = .ok (.invokespecial 27, 3) := by decide +kernel
theorem d_Law_law_15 : decode c_Law_law 15 = .ok (.astore_n 2, 1) := by decide +kernel
theorem d_Law_law_16 : decode c_Law_law 16 = .ok (.iconst 1, 1) := by decide +kernel
theorem d_Law_law_17 : decode c_Law_law 17 = .ok (.newarray .long, 2) := by decide +kernel
theorem d_Law_law_19 : decode c_Law_law 19 = .ok (.astore_n 3, 1) := by decide +kernel
theorem d_Law_law_20 : decode c_Law_law 20 = .ok (.iconst 0, 1) := by decide +kernel
theorem d_Law_law_21 : decode c_Law_law 21 = .ok (.istore 4, 2) := by decide +kernel
theorem d_Law_law_23 : decode c_Law_law 23 = .ok (.iload 4, 2) := by decide +kernel
theorem d_Law_law_25 : decode c_Law_law 25 = .ok (.aload_n 0, 1) := by decide +kernel
theorem d_Law_law_26 : decode c_Law_law 26 = .ok (.arraylength, 1) := by decide +kernel
theorem d_Law_law_27 : decode c_Law_law 27 = .ok (.iconst 4, 1) := by decide +kernel
theorem d_Law_law_28 : decode c_Law_law 28 = .ok (.isub, 1) := by decide +kernel
theorem d_Law_law_29 : decode c_Law_law 29 = .ok (.if_icmp .gt 547, 3) := by decide +kernel
theorem d_Law_law_32 : decode c_Law_law 32 = .ok (.aload_n 0, 1) := by decide +kernel
theorem d_Law_law_33 : decode c_Law_law 33 = .ok (.iload 4, 2) := by decide +kernel
theorem d_Law_law_35 : decode c_Law_law 35 = .ok (.iaload, 1) := by decide +kernel
theorem d_Law_law_36 : decode c_Law_law 36 = .ok (.bipush 15, 2) := by decide +kernel
theorem d_Law_law_38 : decode c_Law_law 38 = .ok (.iand, 1) := by decide +kernel
theorem d_Law_law_39 : decode c_Law_law 39 = .ok (.tableswitch 531 0 12 #[65, 102, 146, 214, 258, 271, 308, 333, 358, 383, 420, 469, 506], 65) := by decide +kernel
theorem d_Law_law_104 : decode c_Law_law 104 = .ok (.aload_n 1, 1) := by decide +kernel
theorem d_Law_law_105 : decode c_Law_law 105 = .ok (.aload_n 0, 1) := by decide +kernel
theorem d_Law_law_106 : decode c_Law_law 106 = .ok (.iload 4, 2) := by decide +kernel
theorem d_Law_law_108 : decode c_Law_law 108 = .ok (.iconst 1, 1) := by decide +kernel
theorem d_Law_law_109 : decode c_Law_law 109 = .ok (.iadd, 1) := by decide +kernel
theorem d_Law_law_110 : decode c_Law_law 110 = .ok (.iaload, 1) := by decide +kernel
theorem d_Law_law_111 : decode c_Law_law 111 = .ok (.aload_n 0, 1) := by decide +kernel
theorem d_Law_law_112 : decode c_Law_law 112 = .ok (.iload 4, 2) := by decide +kernel
theorem d_Law_law_114 : decode c_Law_law 114 = .ok (.iconst 2, 1) := by decide +kernel
theorem d_Law_law_115 : decode c_Law_law 115 = .ok (.iadd, 1) := by decide +kernel
theorem d_Law_law_116 : decode c_Law_law 116 = .ok (.iaload, 1) := by decide +kernel
theorem d_Law_law_117 : decode c_Law_law 117 = .ok (.invokevirtual 28, 3) := by decide +kernel
theorem d_Law_law_120 : decode c_Law_law 120 = .ok (.aload_n 2, 1) := by decide +kernel
theorem d_Law_law_121 : decode c_Law_law 121 = .ok (.aload_n 0, 1) := by decide +kernel
theorem d_Law_law_122 : decode c_Law_law 122 = .ok (.iload 4, 2) := by decide +kernel
theorem d_Law_law_124 : decode c_Law_law 124 = .ok (.iconst 1, 1) := by decide +kernel
theorem d_Law_law_125 : decode c_Law_law 125 = .ok (.iadd, 1) := by decide +kernel
theorem d_Law_law_126 : decode c_Law_law 126 = .ok (.iaload, 1) := by decide +kernel
theorem d_Law_law_127 : decode c_Law_law 127 = .ok (.aload_n 0, 1) := by decide +kernel
theorem d_Law_law_128 : decode c_Law_law 128 = .ok (.iload 4, 2) := by decide +kernel
theorem d_Law_law_130 : decode c_Law_law 130 = .ok (.iconst 2, 1) := by decide +kernel
theorem d_Law_law_131 : decode c_Law_law 131 = .ok (.iadd, 1) := by decide +kernel
theorem d_Law_law_132 : decode c_Law_law 132 = .ok (.iaload, 1) := by decide +kernel
theorem d_Law_law_133 : decode c_Law_law 133 = .ok (.invokevirtual 32, 3) := by decide +kernel
theorem d_Law_law_136 : decode c_Law_law 136 = .ok (.if_icmp .eq 434, 3) := by decide +kernel
theorem d_Law_law_139 : decode c_Law_law 139 = .ok (.iconst 0, 1) := by decide +kernel
theorem d_Law_law_140 : decode c_Law_law 140 = .ok (.ireturn, 1) := by decide +kernel
theorem d_Law_law_141 : decode c_Law_law 141 = .ok (.aload_n 1, 1) := by decide +kernel
theorem d_Law_law_142 : decode c_Law_law 142 = .ok (.aload_n 3, 1) := by decide +kernel
theorem d_Law_law_143 : decode c_Law_law 143 = .ok (.invokestatic 33, 3) := by decide +kernel
theorem d_Law_law_146 : decode c_Law_law 146 = .ok (.istore 5, 2) := by decide +kernel
theorem d_Law_law_148 : decode c_Law_law 148 = .ok (.aload_n 2, 1) := by decide +kernel
theorem d_Law_law_149 : decode c_Law_law 149 = .ok (.invokevirtual 38, 3) := by decide +kernel
theorem d_Law_law_152 : decode c_Law_law 152 = .ok (.istore 6, 2) := by decide +kernel
theorem d_Law_law_154 : decode c_Law_law 154 = .ok (.aload_n 2, 1) := by decide +kernel
theorem d_Law_law_155 : decode c_Law_law 155 = .ok (.invokevirtual 39, 3) := by decide +kernel
theorem d_Law_law_158 : decode c_Law_law 158 = .ok (.iload 5, 2) := by decide +kernel
theorem d_Law_law_160 : decode c_Law_law 160 = .ok (.if_icmp .eq 5, 3) := by decide +kernel
theorem d_Law_law_163 : decode c_Law_law 163 = .ok (.iconst 0, 1) := by decide +kernel
theorem d_Law_law_164 : decode c_Law_law 164 = .ok (.ireturn, 1) := by decide +kernel
theorem d_Law_law_165 : decode c_Law_law 165 = .ok (.iload 5, 2) := by decide +kernel
theorem d_Law_law_167 : decode c_Law_law 167 = .ok (.ifCond .ne 15, 3) := by decide +kernel
theorem d_Law_law_170 : decode c_Law_law 170 = .ok (.aload_n 3, 1) := by decide +kernel
theorem d_Law_law_171 : decode c_Law_law 171 = .ok (.iconst 0, 1) := by decide +kernel
theorem d_Law_law_172 : decode c_Law_law 172 = .ok (.laload, 1) := by decide +kernel
theorem d_Law_law_173 : decode c_Law_law 173 = .ok (.iload 6, 2) := by decide +kernel
theorem d_Law_law_175 : decode c_Law_law 175 = .ok (.i2l, 1) := by decide +kernel
theorem d_Law_law_176 : decode c_Law_law 176 = .ok (.lcmp, 1) := by decide +kernel
theorem d_Law_law_177 : decode c_Law_law 177 = .ok (.ifCond .eq 5, 3) := by decide +kernel
theorem d_Law_law_180 : decode c_Law_law 180 = .ok (.iconst 0, 1) := by decide +kernel
theorem d_Law_law_181 : decode c_Law_law 181 = .ok (.ireturn, 1) := by decide +kernel
theorem d_Law_law_182 : decode c_Law_law 182 = .ok (.goto 388, 3) := by decide +kernel
theorem d_Law_law_185 : decode c_Law_law 185 = .ok (.aload_n 1, 1) := by decide +kernel
theorem d_Law_law_186 : decode c_Law_law 186 = .ok (.aload_n 0, 1) := by decide +kernel
theorem d_Law_law_187 : decode c_Law_law 187 = .ok (.iload 4, 2) := by decide +kernel
theorem d_Law_law_189 : decode c_Law_law 189 = .ok (.iconst 1, 1) := by decide +kernel
theorem d_Law_law_190 : decode c_Law_law 190 = .ok (.iadd, 1) := by decide +kernel
theorem d_Law_law_191 : decode c_Law_law 191 = .ok (.iaload, 1) := by decide +kernel
theorem d_Law_law_192 : decode c_Law_law 192 = .ok (.aload_n 0, 1) := by decide +kernel
theorem d_Law_law_193 : decode c_Law_law 193 = .ok (.iload 4, 2) := by decide +kernel
theorem d_Law_law_195 : decode c_Law_law 195 = .ok (.iconst 2, 1) := by decide +kernel
theorem d_Law_law_196 : decode c_Law_law 196 = .ok (.iadd, 1) := by decide +kernel
theorem d_Law_law_197 : decode c_Law_law 197 = .ok (.iaload, 1) := by decide +kernel
theorem d_Law_law_198 : decode c_Law_law 198 = .ok (.aload_n 3, 1) := by decide +kernel
theorem d_Law_law_199 : decode c_Law_law 199 = .ok (.invokestatic 42, 3) := by decide +kernel
theorem d_Law_law_202 : decode c_Law_law 202 = .ok (.istore 5, 2) := by decide +kernel
theorem d_Law_law_204 : decode c_Law_law 204 = .ok (.aload_n 2, 1) := by decide +kernel
theorem d_Law_law_205 : decode c_Law_law 205 = .ok (.aload_n 0, 1) := by decide +kernel
theorem d_Law_law_206 : decode c_Law_law 206 = .ok (.iload 4, 2) := by decide +kernel
theorem d_Law_law_208 : decode c_Law_law 208 = .ok (.iconst 1, 1) := by decide +kernel
theorem d_Law_law_209 : decode c_Law_law 209 = .ok (.iadd, 1) := by decide +kernel
theorem d_Law_law_210 : decode c_Law_law 210 = .ok (.iaload, 1) := by decide +kernel
theorem d_Law_law_211 : decode c_Law_law 211 = .ok (.aload_n 0, 1) := by decide +kernel
theorem d_Law_law_212 : decode c_Law_law 212 = .ok (.iload 4, 2) := by decide +kernel
theorem d_Law_law_214 : decode c_Law_law 214 = .ok (.iconst 2, 1) := by decide +kernel
theorem d_Law_law_215 : decode c_Law_law 215 = .ok (.iadd, 1) := by decide +kernel
theorem d_Law_law_216 : decode c_Law_law 216 = .ok (.iaload, 1) := by decide +kernel
theorem d_Law_law_217 : decode c_Law_law 217 = .ok (.invokevirtual 45, 3) := by decide +kernel
theorem d_Law_law_220 : decode c_Law_law 220 = .ok (.istore 6, 2) := by decide +kernel
theorem d_Law_law_222 : decode c_Law_law 222 = .ok (.aload_n 2, 1) := by decide +kernel
theorem d_Law_law_223 : decode c_Law_law 223 = .ok (.invokevirtual 39, 3) := by decide +kernel
theorem d_Law_law_226 : decode c_Law_law 226 = .ok (.iload 5, 2) := by decide +kernel
theorem d_Law_law_228 : decode c_Law_law 228 = .ok (.if_icmp .eq 5, 3) := by decide +kernel
theorem d_Law_law_231 : decode c_Law_law 231 = .ok (.iconst 0, 1) := by decide +kernel
theorem d_Law_law_232 : decode c_Law_law 232 = .ok (.ireturn, 1) := by decide +kernel
theorem d_Law_law_233 : decode c_Law_law 233 = .ok (.iload 5, 2) := by decide +kernel
theorem d_Law_law_235 : decode c_Law_law 235 = .ok (.ifCond .ne 15, 3) := by decide +kernel
theorem d_Law_law_238 : decode c_Law_law 238 = .ok (.aload_n 3, 1) := by decide +kernel
theorem d_Law_law_239 : decode c_Law_law 239 = .ok (.iconst 0, 1) := by decide +kernel
theorem d_Law_law_240 : decode c_Law_law 240 = .ok (.laload, 1) := by decide +kernel
theorem d_Law_law_241 : decode c_Law_law 241 = .ok (.iload 6, 2) := by decide +kernel
theorem d_Law_law_243 : decode c_Law_law 243 = .ok (.i2l, 1) := by decide +kernel
theorem d_Law_law_244 : decode c_Law_law 244 = .ok (.lcmp, 1) := by decide +kernel
theorem d_Law_law_245 : decode c_Law_law 245 = .ok (.ifCond .eq 5, 3) := by decide +kernel
theorem d_Law_law_248 : decode c_Law_law 248 = .ok (.iconst 0, 1) := by decide +kernel
theorem d_Law_law_249 : decode c_Law_law 249 = .ok (.ireturn, 1) := by decide +kernel
theorem d_Law_law_250 : decode c_Law_law 250 = .ok (.goto 320, 3) := by decide +kernel
theorem d_Law_law_253 : decode c_Law_law 253 = .ok (.aload_n 1, 1) := by decide +kernel
theorem d_Law_law_254 : decode c_Law_law 254 = .ok (.aload_n 3, 1) := by decide +kernel
theorem d_Law_law_255 : decode c_Law_law 255 = .ok (.invokestatic 46, 3) := by decide +kernel
theorem d_Law_law_258 : decode c_Law_law 258 = .ok (.istore 5, 2) := by decide +kernel
theorem d_Law_law_260 : decode c_Law_law 260 = .ok (.aload_n 2, 1) := by decide +kernel
theorem d_Law_law_261 : decode c_Law_law 261 = .ok (.invokevirtual 48, 3) := by decide +kernel
theorem d_Law_law_264 : decode c_Law_law 264 = .ok (.istore 6, 2) := by decide +kernel
theorem d_Law_law_266 : decode c_Law_law 266 = .ok (.aload_n 2, 1) := by decide +kernel
theorem d_Law_law_267 : decode c_Law_law 267 = .ok (.invokevirtual 39, 3) := by decide +kernel
theorem d_Law_law_270 : decode c_Law_law 270 = .ok (.iload 5, 2) := by decide +kernel
theorem d_Law_law_272 : decode c_Law_law 272 = .ok (.if_icmp .eq 5, 3) := by decide +kernel
theorem d_Law_law_275 : decode c_Law_law 275 = .ok (.iconst 0, 1) := by decide +kernel
theorem d_Law_law_276 : decode c_Law_law 276 = .ok (.ireturn, 1) := by decide +kernel
theorem d_Law_law_277 : decode c_Law_law 277 = .ok (.iload 5, 2) := by decide +kernel
theorem d_Law_law_279 : decode c_Law_law 279 = .ok (.ifCond .ne 15, 3) := by decide +kernel
theorem d_Law_law_282 : decode c_Law_law 282 = .ok (.aload_n 3, 1) := by decide +kernel
theorem d_Law_law_283 : decode c_Law_law 283 = .ok (.iconst 0, 1) := by decide +kernel
theorem d_Law_law_284 : decode c_Law_law 284 = .ok (.laload, 1) := by decide +kernel
theorem d_Law_law_285 : decode c_Law_law 285 = .ok (.iload 6, 2) := by decide +kernel
theorem d_Law_law_287 : decode c_Law_law 287 = .ok (.i2l, 1) := by decide +kernel
theorem d_Law_law_288 : decode c_Law_law 288 = .ok (.lcmp, 1) := by decide +kernel
theorem d_Law_law_289 : decode c_Law_law 289 = .ok (.ifCond .eq 5, 3) := by decide +kernel
theorem d_Law_law_292 : decode c_Law_law 292 = .ok (.iconst 0, 1) := by decide +kernel
theorem d_Law_law_293 : decode c_Law_law 293 = .ok (.ireturn, 1) := by decide +kernel
theorem d_Law_law_294 : decode c_Law_law 294 = .ok (.goto 276, 3) := by decide +kernel
theorem d_Law_law_297 : decode c_Law_law 297 = .ok (.aload_n 1, 1) := by decide +kernel
theorem d_Law_law_298 : decode c_Law_law 298 = .ok (.invokevirtual 49, 3) := by decide +kernel
theorem d_Law_law_301 : decode c_Law_law 301 = .ok (.aload_n 2, 1) := by decide +kernel
theorem d_Law_law_302 : decode c_Law_law 302 = .ok (.invokevirtual 52, 3) := by decide +kernel
theorem d_Law_law_305 : decode c_Law_law 305 = .ok (.if_icmp .eq 265, 3) := by decide +kernel
theorem d_Law_law_308 : decode c_Law_law 308 = .ok (.iconst 0, 1) := by decide +kernel
theorem d_Law_law_309 : decode c_Law_law 309 = .ok (.ireturn, 1) := by decide +kernel
theorem d_Law_law_310 : decode c_Law_law 310 = .ok (.aload_n 1, 1) := by decide +kernel
theorem d_Law_law_311 : decode c_Law_law 311 = .ok (.aload_n 0, 1) := by decide +kernel
theorem d_Law_law_312 : decode c_Law_law 312 = .ok (.iload 4, 2) := by decide +kernel
theorem d_Law_law_314 : decode c_Law_law 314 = .ok (.iconst 1, 1) := by decide +kernel
theorem d_Law_law_315 : decode c_Law_law 315 = .ok (.iadd, 1) := by decide +kernel
theorem d_Law_law_316 : decode c_Law_law 316 = .ok (.iaload, 1) := by decide +kernel
theorem d_Law_law_317 : decode c_Law_law 317 = .ok (.aload_n 0, 1) := by decide +kernel
theorem d_Law_law_318 : decode c_Law_law 318 = .ok (.iload 4, 2) := by decide +kernel
theorem d_Law_law_320 : decode c_Law_law 320 = .ok (.iconst 2, 1) := by decide +kernel
theorem d_Law_law_321 : decode c_Law_law 321 = .ok (.iadd, 1) := by decide +kernel
theorem d_Law_law_322 : decode c_Law_law 322 = .ok (.iaload, 1) := by decide +kernel
theorem d_Law_law_323 : decode c_Law_law 323 = .ok (.invokevirtual 53, 3) := by decide +kernel
theorem d_Law_law_326 : decode c_Law_law 326 = .ok (.aload_n 2, 1) := by decide +kernel
theorem d_Law_law_327 : decode c_Law_law 327 = .ok (.aload_n 0, 1) := by decide +kernel
theorem d_Law_law_328 : decode c_Law_law 328 = .ok (.iload 4, 2) := by decide +kernel
theorem d_Law_law_330 : decode c_Law_law 330 = .ok (.iconst 1, 1) := by decide +kernel
theorem d_Law_law_331 : decode c_Law_law 331 = .ok (.iadd, 1) := by decide +kernel
theorem d_Law_law_332 : decode c_Law_law 332 = .ok (.iaload, 1) := by decide +kernel
theorem d_Law_law_333 : decode c_Law_law 333 = .ok (.aload_n 0, 1) := by decide +kernel
theorem d_Law_law_334 : decode c_Law_law 334 = .ok (.iload 4, 2) := by decide +kernel
theorem d_Law_law_336 : decode c_Law_law 336 = .ok (.iconst 2, 1) := by decide +kernel
theorem d_Law_law_337 : decode c_Law_law 337 = .ok (.iadd, 1) := by decide +kernel
theorem d_Law_law_338 : decode c_Law_law 338 = .ok (.iaload, 1) := by decide +kernel
theorem d_Law_law_339 : decode c_Law_law 339 = .ok (.invokevirtual 56, 3) := by decide +kernel
theorem d_Law_law_342 : decode c_Law_law 342 = .ok (.if_icmp .eq 228, 3) := by decide +kernel
theorem d_Law_law_345 : decode c_Law_law 345 = .ok (.iconst 0, 1) := by decide +kernel
theorem d_Law_law_346 : decode c_Law_law 346 = .ok (.ireturn, 1) := by decide +kernel
theorem d_Law_law_347 : decode c_Law_law 347 = .ok (.aload_n 1, 1) := by decide +kernel
theorem d_Law_law_348 : decode c_Law_law 348 = .ok (.aload_n 0, 1) := by decide +kernel
theorem d_Law_law_349 : decode c_Law_law 349 = .ok (.iload 4, 2) := by decide +kernel
theorem d_Law_law_351 : decode c_Law_law 351 = .ok (.iconst 1, 1) := by decide +kernel
theorem d_Law_law_352 : decode c_Law_law 352 = .ok (.iadd, 1) := by decide +kernel
theorem d_Law_law_353 : decode c_Law_law 353 = .ok (.iaload, 1) := by decide +kernel
theorem d_Law_law_354 : decode c_Law_law 354 = .ok (.invokevirtual 57, 3) := by decide +kernel
theorem d_Law_law_357 : decode c_Law_law 357 = .ok (.aload_n 2, 1) := by decide +kernel
theorem d_Law_law_358 : decode c_Law_law 358 = .ok (.aload_n 0, 1) := by decide +kernel
theorem d_Law_law_359 : decode c_Law_law 359 = .ok (.iload 4, 2) := by decide +kernel
theorem d_Law_law_361 : decode c_Law_law 361 = .ok (.iconst 1, 1) := by decide +kernel
theorem d_Law_law_362 : decode c_Law_law 362 = .ok (.iadd, 1) := by decide +kernel
theorem d_Law_law_363 : decode c_Law_law 363 = .ok (.iaload, 1) := by decide +kernel
theorem d_Law_law_364 : decode c_Law_law 364 = .ok (.invokevirtual 61, 3) := by decide +kernel
theorem d_Law_law_367 : decode c_Law_law 367 = .ok (.if_icmp .eq 203, 3) := by decide +kernel
theorem d_Law_law_370 : decode c_Law_law 370 = .ok (.iconst 0, 1) := by decide +kernel
theorem d_Law_law_371 : decode c_Law_law 371 = .ok (.ireturn, 1) := by decide +kernel
theorem d_Law_law_372 : decode c_Law_law 372 = .ok (.aload_n 1, 1) := by decide +kernel
theorem d_Law_law_373 : decode c_Law_law 373 = .ok (.aload_n 0, 1) := by decide +kernel
theorem d_Law_law_374 : decode c_Law_law 374 = .ok (.iload 4, 2) := by decide +kernel
theorem d_Law_law_376 : decode c_Law_law 376 = .ok (.iconst 1, 1) := by decide +kernel
theorem d_Law_law_377 : decode c_Law_law 377 = .ok (.iadd, 1) := by decide +kernel
theorem d_Law_law_378 : decode c_Law_law 378 = .ok (.iaload, 1) := by decide +kernel
theorem d_Law_law_379 : decode c_Law_law 379 = .ok (.invokevirtual 62, 3) := by decide +kernel
theorem d_Law_law_382 : decode c_Law_law 382 = .ok (.aload_n 2, 1) := by decide +kernel
theorem d_Law_law_383 : decode c_Law_law 383 = .ok (.aload_n 0, 1) := by decide +kernel
theorem d_Law_law_384 : decode c_Law_law 384 = .ok (.iload 4, 2) := by decide +kernel
theorem d_Law_law_386 : decode c_Law_law 386 = .ok (.iconst 1, 1) := by decide +kernel
theorem d_Law_law_387 : decode c_Law_law 387 = .ok (.iadd, 1) := by decide +kernel
theorem d_Law_law_388 : decode c_Law_law 388 = .ok (.iaload, 1) := by decide +kernel
theorem d_Law_law_389 : decode c_Law_law 389 = .ok (.invokevirtual 65, 3) := by decide +kernel
theorem d_Law_law_392 : decode c_Law_law 392 = .ok (.if_icmp .eq 178, 3) := by decide +kernel
theorem d_Law_law_395 : decode c_Law_law 395 = .ok (.iconst 0, 1) := by decide +kernel
theorem d_Law_law_396 : decode c_Law_law 396 = .ok (.ireturn, 1) := by decide +kernel
theorem d_Law_law_397 : decode c_Law_law 397 = .ok (.aload_n 1, 1) := by decide +kernel
theorem d_Law_law_398 : decode c_Law_law 398 = .ok (.aload_n 0, 1) := by decide +kernel
theorem d_Law_law_399 : decode c_Law_law 399 = .ok (.iload 4, 2) := by decide +kernel
theorem d_Law_law_401 : decode c_Law_law 401 = .ok (.iconst 1, 1) := by decide +kernel
theorem d_Law_law_402 : decode c_Law_law 402 = .ok (.iadd, 1) := by decide +kernel
theorem d_Law_law_403 : decode c_Law_law 403 = .ok (.iaload, 1) := by decide +kernel
theorem d_Law_law_404 : decode c_Law_law 404 = .ok (.invokevirtual 66, 3) := by decide +kernel
theorem d_Law_law_407 : decode c_Law_law 407 = .ok (.aload_n 2, 1) := by decide +kernel
theorem d_Law_law_408 : decode c_Law_law 408 = .ok (.aload_n 0, 1) := by decide +kernel
theorem d_Law_law_409 : decode c_Law_law 409 = .ok (.iload 4, 2) := by decide +kernel
theorem d_Law_law_411 : decode c_Law_law 411 = .ok (.iconst 1, 1) := by decide +kernel
theorem d_Law_law_412 : decode c_Law_law 412 = .ok (.iadd, 1) := by decide +kernel
theorem d_Law_law_413 : decode c_Law_law 413 = .ok (.iaload, 1) := by decide +kernel
theorem d_Law_law_414 : decode c_Law_law 414 = .ok (.invokevirtual 69, 3) := by decide +kernel
theorem d_Law_law_417 : decode c_Law_law 417 = .ok (.if_icmp .eq 153, 3) := by decide +kernel
theorem d_Law_law_420 : decode c_Law_law 420 = .ok (.iconst 0, 1) := by decide +kernel
theorem d_Law_law_421 : decode c_Law_law 421 = .ok (.ireturn, 1) := by decide +kernel
theorem d_Law_law_422 : decode c_Law_law 422 = .ok (.aload_n 1, 1) := by decide +kernel
theorem d_Law_law_423 : decode c_Law_law 423 = .ok (.aload_n 0, 1) := by decide +kernel
theorem d_Law_law_424 : decode c_Law_law 424 = .ok (.iload 4, 2) := by decide +kernel
theorem d_Law_law_426 : decode c_Law_law 426 = .ok (.iconst 1, 1) := by decide +kernel
theorem d_Law_law_427 : decode c_Law_law 427 = .ok (.iadd, 1) := by decide +kernel
theorem d_Law_law_428 : decode c_Law_law 428 = .ok (.iaload, 1) := by decide +kernel
theorem d_Law_law_429 : decode c_Law_law 429 = .ok (.aload_n 0, 1) := by decide +kernel
theorem d_Law_law_430 : decode c_Law_law 430 = .ok (.iload 4, 2) := by decide +kernel
theorem d_Law_law_432 : decode c_Law_law 432 = .ok (.iconst 2, 1) := by decide +kernel
theorem d_Law_law_433 : decode c_Law_law 433 = .ok (.iadd, 1) := by decide +kernel
theorem d_Law_law_434 : decode c_Law_law 434 = .ok (.iaload, 1) := by decide +kernel
theorem d_Law_law_435 : decode c_Law_law 435 = .ok (.invokevirtual 70, 3) := by decide +kernel
theorem d_Law_law_438 : decode c_Law_law 438 = .ok (.aload_n 2, 1) := by decide +kernel
theorem d_Law_law_439 : decode c_Law_law 439 = .ok (.aload_n 0, 1) := by decide +kernel
theorem d_Law_law_440 : decode c_Law_law 440 = .ok (.iload 4, 2) := by decide +kernel
theorem d_Law_law_442 : decode c_Law_law 442 = .ok (.iconst 1, 1) := by decide +kernel
theorem d_Law_law_443 : decode c_Law_law 443 = .ok (.iadd, 1) := by decide +kernel
theorem d_Law_law_444 : decode c_Law_law 444 = .ok (.iaload, 1) := by decide +kernel
theorem d_Law_law_445 : decode c_Law_law 445 = .ok (.aload_n 0, 1) := by decide +kernel
theorem d_Law_law_446 : decode c_Law_law 446 = .ok (.iload 4, 2) := by decide +kernel
theorem d_Law_law_448 : decode c_Law_law 448 = .ok (.iconst 2, 1) := by decide +kernel
theorem d_Law_law_449 : decode c_Law_law 449 = .ok (.iadd, 1) := by decide +kernel
theorem d_Law_law_450 : decode c_Law_law 450 = .ok (.iaload, 1) := by decide +kernel
theorem d_Law_law_451 : decode c_Law_law 451 = .ok (.invokevirtual 73, 3) := by decide +kernel
theorem d_Law_law_454 : decode c_Law_law 454 = .ok (.if_icmp .eq 116, 3) := by decide +kernel
theorem d_Law_law_457 : decode c_Law_law 457 = .ok (.iconst 0, 1) := by decide +kernel
theorem d_Law_law_458 : decode c_Law_law 458 = .ok (.ireturn, 1) := by decide +kernel
theorem d_Law_law_459 : decode c_Law_law 459 = .ok (.aload_n 1, 1) := by decide +kernel
theorem d_Law_law_460 : decode c_Law_law 460 = .ok (.aload_n 0, 1) := by decide +kernel
theorem d_Law_law_461 : decode c_Law_law 461 = .ok (.iload 4, 2) := by decide +kernel
theorem d_Law_law_463 : decode c_Law_law 463 = .ok (.iconst 1, 1) := by decide +kernel
theorem d_Law_law_464 : decode c_Law_law 464 = .ok (.iadd, 1) := by decide +kernel
theorem d_Law_law_465 : decode c_Law_law 465 = .ok (.iaload, 1) := by decide +kernel
theorem d_Law_law_466 : decode c_Law_law 466 = .ok (.aload_n 0, 1) := by decide +kernel
theorem d_Law_law_467 : decode c_Law_law 467 = .ok (.iload 4, 2) := by decide +kernel
theorem d_Law_law_469 : decode c_Law_law 469 = .ok (.iconst 2, 1) := by decide +kernel
theorem d_Law_law_470 : decode c_Law_law 470 = .ok (.iadd, 1) := by decide +kernel
theorem d_Law_law_471 : decode c_Law_law 471 = .ok (.iaload, 1) := by decide +kernel
theorem d_Law_law_472 : decode c_Law_law 472 = .ok (.aload_n 0, 1) := by decide +kernel
theorem d_Law_law_473 : decode c_Law_law 473 = .ok (.iload 4, 2) := by decide +kernel
theorem d_Law_law_475 : decode c_Law_law 475 = .ok (.iconst 3, 1) := by decide +kernel
theorem d_Law_law_476 : decode c_Law_law 476 = .ok (.iadd, 1) := by decide +kernel
theorem d_Law_law_477 : decode c_Law_law 477 = .ok (.iaload, 1) := by decide +kernel
theorem d_Law_law_478 : decode c_Law_law 478 = .ok (.invokevirtual 74, 3) := by decide +kernel
theorem d_Law_law_481 : decode c_Law_law 481 = .ok (.aload_n 2, 1) := by decide +kernel
theorem d_Law_law_482 : decode c_Law_law 482 = .ok (.aload_n 0, 1) := by decide +kernel
theorem d_Law_law_483 : decode c_Law_law 483 = .ok (.iload 4, 2) := by decide +kernel
theorem d_Law_law_485 : decode c_Law_law 485 = .ok (.iconst 1, 1) := by decide +kernel
theorem d_Law_law_486 : decode c_Law_law 486 = .ok (.iadd, 1) := by decide +kernel
theorem d_Law_law_487 : decode c_Law_law 487 = .ok (.iaload, 1) := by decide +kernel
theorem d_Law_law_488 : decode c_Law_law 488 = .ok (.aload_n 0, 1) := by decide +kernel
theorem d_Law_law_489 : decode c_Law_law 489 = .ok (.iload 4, 2) := by decide +kernel
theorem d_Law_law_491 : decode c_Law_law 491 = .ok (.iconst 2, 1) := by decide +kernel
theorem d_Law_law_492 : decode c_Law_law 492 = .ok (.iadd, 1) := by decide +kernel
theorem d_Law_law_493 : decode c_Law_law 493 = .ok (.iaload, 1) := by decide +kernel
theorem d_Law_law_494 : decode c_Law_law 494 = .ok (.aload_n 0, 1) := by decide +kernel
theorem d_Law_law_495 : decode c_Law_law 495 = .ok (.iload 4, 2) := by decide +kernel
theorem d_Law_law_497 : decode c_Law_law 497 = .ok (.iconst 3, 1) := by decide +kernel
theorem d_Law_law_498 : decode c_Law_law 498 = .ok (.iadd, 1) := by decide +kernel
theorem d_Law_law_499 : decode c_Law_law 499 = .ok (.iaload, 1) := by decide +kernel
theorem d_Law_law_500 : decode c_Law_law 500 = .ok (.invokevirtual 78, 3) := by decide +kernel
theorem d_Law_law_503 : decode c_Law_law 503 = .ok (.if_icmp .eq 67, 3) := by decide +kernel
theorem d_Law_law_506 : decode c_Law_law 506 = .ok (.iconst 0, 1) := by decide +kernel
theorem d_Law_law_507 : decode c_Law_law 507 = .ok (.ireturn, 1) := by decide +kernel
theorem d_Law_law_508 : decode c_Law_law 508 = .ok (.aload_n 1, 1) := by decide +kernel
theorem d_Law_law_509 : decode c_Law_law 509 = .ok (.aload_n 0, 1) := by decide +kernel
theorem d_Law_law_510 : decode c_Law_law 510 = .ok (.iload 4, 2) := by decide +kernel
theorem d_Law_law_512 : decode c_Law_law 512 = .ok (.iconst 1, 1) := by decide +kernel
theorem d_Law_law_513 : decode c_Law_law 513 = .ok (.iadd, 1) := by decide +kernel
theorem d_Law_law_514 : decode c_Law_law 514 = .ok (.iaload, 1) := by decide +kernel
theorem d_Law_law_515 : decode c_Law_law 515 = .ok (.aload_n 0, 1) := by decide +kernel
theorem d_Law_law_516 : decode c_Law_law 516 = .ok (.iload 4, 2) := by decide +kernel
theorem d_Law_law_518 : decode c_Law_law 518 = .ok (.iconst 2, 1) := by decide +kernel
theorem d_Law_law_519 : decode c_Law_law 519 = .ok (.iadd, 1) := by decide +kernel
theorem d_Law_law_520 : decode c_Law_law 520 = .ok (.iaload, 1) := by decide +kernel
theorem d_Law_law_521 : decode c_Law_law 521 = .ok (.invokevirtual 79, 3) := by decide +kernel
theorem d_Law_law_524 : decode c_Law_law 524 = .ok (.aload_n 2, 1) := by decide +kernel
theorem d_Law_law_525 : decode c_Law_law 525 = .ok (.aload_n 0, 1) := by decide +kernel
theorem d_Law_law_526 : decode c_Law_law 526 = .ok (.iload 4, 2) := by decide +kernel
theorem d_Law_law_528 : decode c_Law_law 528 = .ok (.iconst 1, 1) := by decide +kernel
theorem d_Law_law_529 : decode c_Law_law 529 = .ok (.iadd, 1) := by decide +kernel
theorem d_Law_law_530 : decode c_Law_law 530 = .ok (.iaload, 1) := by decide +kernel
theorem d_Law_law_531 : decode c_Law_law 531 = .ok (.aload_n 0, 1) := by decide +kernel
theorem d_Law_law_532 : decode c_Law_law 532 = .ok (.iload 4, 2) := by decide +kernel
theorem d_Law_law_534 : decode c_Law_law 534 = .ok (.iconst 2, 1) := by decide +kernel
theorem d_Law_law_535 : decode c_Law_law 535 = .ok (.iadd, 1) := by decide +kernel
theorem d_Law_law_536 : decode c_Law_law 536 = .ok (.iaload, 1) := by decide +kernel
theorem d_Law_law_537 : decode c_Law_law 537 = .ok (.invokevirtual 82, 3) := by decide +kernel
theorem d_Law_law_540 : decode c_Law_law 540 = .ok (.if_icmp .eq 30, 3) := by decide +kernel
theorem d_Law_law_543 : decode c_Law_law 543 = .ok (.iconst 0, 1) := by decide +kernel
theorem d_Law_law_544 : decode c_Law_law 544 = .ok (.ireturn, 1) := by decide +kernel
theorem d_Law_law_545 : decode c_Law_law 545 = .ok (.aload_n 1, 1) := by decide +kernel
theorem d_Law_law_546 : decode c_Law_law 546 = .ok (.aload_n 0, 1) := by decide +kernel
theorem d_Law_law_547 : decode c_Law_law 547 = .ok (.iload 4, 2) := by decide +kernel
theorem d_Law_law_549 : decode c_Law_law 549 = .ok (.iconst 1, 1) := by decide +kernel
theorem d_Law_law_550 : decode c_Law_law 550 = .ok (.iadd, 1) := by decide +kernel
theorem d_Law_law_551 : decode c_Law_law 551 = .ok (.iaload, 1) := by decide +kernel
theorem d_Law_law_552 : decode c_Law_law 552 = .ok (.invokevirtual 83, 3) := by decide +kernel
theorem d_Law_law_555 : decode c_Law_law 555 = .ok (.aload_n 2, 1) := by decide +kernel
theorem d_Law_law_556 : decode c_Law_law 556 = .ok (.aload_n 0, 1) := by decide +kernel
theorem d_Law_law_557 : decode c_Law_law 557 = .ok (.iload 4, 2) := by decide +kernel
theorem d_Law_law_559 : decode c_Law_law 559 = .ok (.iconst 1, 1) := by decide +kernel
theorem d_Law_law_560 : decode c_Law_law 560 = .ok (.iadd, 1) := by decide +kernel
theorem d_Law_law_561 : decode c_Law_law 561 = .ok (.iaload, 1) := by decide +kernel
theorem d_Law_law_562 : decode c_Law_law 562 = .ok (.invokevirtual 87, 3) := by decide +kernel
theorem d_Law_law_565 : decode c_Law_law 565 = .ok (.if_icmp .eq 5, 3) := by decide +kernel
theorem d_Law_law_568 : decode c_Law_law 568 = .ok (.iconst 0, 1) := by decide +kernel
theorem d_Law_law_569 : decode c_Law_law 569 = .ok (.ireturn, 1) := by decide +kernel
theorem d_Law_law_570 : decode c_Law_law 570 = .ok (.iinc 4 4, 3) := by decide +kernel
theorem d_Law_law_573 : decode c_Law_law 573 = .ok (.goto (-550), 3) := by decide +kernel
theorem d_Law_law_576 : decode c_Law_law 576 = .ok (.iconst 1, 1) := by decide +kernel
theorem d_Law_law_577 : decode c_Law_law 577 = .ok (.ireturn, 1) := by decide +kernel
