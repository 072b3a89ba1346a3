/-! each instruction, decoded: printed by program -/
theorem dM_init_0 : decode prog_12_method_1_code 0 = .ok (.aload_n 0, 1) := by decide +kernel
theorem dM_init_1 : decode prog_12_method_1_code 1 = .ok (.invokespecial 1, 3) := by decide +kernel
theorem dM_init_4 : decode prog_12_method_1_code 4 = .ok (.aload_n 0, 1) := by decide +kernel
theorem dM_init_5 : decode prog_12_method_1_code 5 = .ok (.sipush 174, 3) := by decide +kernel
theorem dM_init_8 : decode prog_12_method_1_code 8 = .ok (.newarray .int, 2) := by decide +kernel
theorem dM_init_10 : decode prog_12_method_1_code 10 = .ok (.putfield 7, 3) := by decide +kernel
theorem dM_init_13 : decode prog_12_method_1_code 13 = .ok (.aload_n 0, 1) := by decide +kernel
theorem dM_init_14 : decode prog_12_method_1_code 14 = .ok (.sipush 4176, 3) := by decide +kernel
theorem dM_init_17 : decode prog_12_method_1_code 17 = .ok (.newarray .int, 2) := by decide +kernel
theorem dM_init_19 : decode prog_12_method_1_code 19 = .ok (.putfield 13, 3) := by decide +kernel
theorem dM_init_22 : decode prog_12_method_1_code 22 = .ok (.aload_n 0, 1) := by decide +kernel
theorem dM_init_23 : decode prog_12_method_1_code 23 = .ok (.sipush 174, 3) := by decide +kernel
theorem dM_init_26 : decode prog_12_method_1_code 26 = .ok (.newarray .int, 2) := by decide +kernel
theorem dM_init_28 : decode prog_12_method_1_code 28 = .ok (.putfield 16, 3) := by decide +kernel
theorem dM_init_31 : decode prog_12_method_1_code 31 = .ok (.aload_n 0, 1) := by decide +kernel
theorem dM_init_32 : decode prog_12_method_1_code 32 = .ok (.sipush 1392, 3) := by decide +kernel
theorem dM_init_35 : decode prog_12_method_1_code 35 = .ok (.newarray .int, 2) := by decide +kernel
theorem dM_init_37 : decode prog_12_method_1_code 37 = .ok (.putfield 19, 3) := by decide +kernel
theorem dM_init_40 : decode prog_12_method_1_code 40 = .ok (.aload_n 0, 1) := by decide +kernel
theorem dM_init_41 : decode prog_12_method_1_code 41 = .ok (.bipush 41, 2) := by decide +kernel
theorem dM_init_43 : decode prog_12_method_1_code 43 = .ok (.newarray .boolean, 2) := by decide +kernel
theorem dM_init_45 : decode prog_12_method_1_code 45 = .ok (.putfield 22, 3) := by decide +kernel
theorem dM_init_48 : decode prog_12_method_1_code 48 = .ok (.aload_n 0, 1) := by decide +kernel
theorem dM_init_49 : decode prog_12_method_1_code 49 = .ok (.bipush 41, 2) := by decide +kernel
theorem dM_init_51 : decode prog_12_method_1_code 51 = .ok (.newarray .int, 2) := by decide +kernel
theorem dM_init_53 : decode prog_12_method_1_code 53 = .ok (.putfield 26, 3) := by decide +kernel
theorem dM_init_56 : decode prog_12_method_1_code 56 = .ok (.aload_n 0, 1) := by decide +kernel
theorem dM_init_57 : decode prog_12_method_1_code 57 = .ok (.bipush 41, 2) := by decide +kernel
theorem dM_init_59 : decode prog_12_method_1_code 59 = .ok (.newarray .int, 2) := by decide +kernel
theorem dM_init_61 : decode prog_12_method_1_code 61 = .ok (.putfield 29, 3) := by decide +kernel
theorem dM_init_64 : decode prog_12_method_1_code 64 = .ok (.aload_n 0, 1) := by decide +kernel
theorem dM_init_65 : decode prog_12_method_1_code 65 = .ok (.bipush 41, 2) := by decide +kernel
theorem dM_init_67 : decode prog_12_method_1_code 67 = .ok (.newarray .int, 2) := by decide +kernel
theorem dM_init_69 : decode prog_12_method_1_code 69 = .ok (.putfield 32, 3) := by decide +kernel
theorem dM_init_72 : decode prog_12_method_1_code 72 = .ok (.aload_n 0, 1) := by decide +kernel
theorem dM_init_73 : decode prog_12_method_1_code 73 = .ok (.bipush 41, 2) := by decide +kernel
theorem dM_init_75 : decode prog_12_method_1_code 75 = .ok (.newarray .int, 2) := by decide +kernel
theorem dM_init_77 : decode prog_12_method_1_code 77 = .ok (.putfield 35, 3) := by decide +kernel
theorem dM_init_80 : decode prog_12_method_1_code 80 = .ok (.aload_n 0, 1) := by decide +kernel
theorem dM_init_81 : decode prog_12_method_1_code 81 = .ok (.bipush 41, 2) := by decide +kernel
theorem dM_init_83 : decode prog_12_method_1_code 83 = .ok (.newarray .long, 2) := by decide +kernel
theorem dM_init_85 : decode prog_12_method_1_code 85 = .ok (.putfield 38, 3) := by decide +kernel
theorem dM_init_88 : decode prog_12_method_1_code 88 = .ok (.aload_n 0, 1) := by decide +kernel
theorem dM_init_89 : decode prog_12_method_1_code 89 = .ok (.bipush 41, 2) := by decide +kernel
theorem dM_init_91 : decode prog_12_method_1_code 91 = .ok (.newarray .long, 2) := by decide +kernel
theorem dM_init_93 : decode prog_12_method_1_code 93 = .ok (.putfield 42, 3) := by decide +kernel
theorem dM_init_96 : decode prog_12_method_1_code 96 = .ok (.aload_n 0, 1) := by decide +kernel
theorem dM_init_97 : decode prog_12_method_1_code 97 = .ok (.iconst 1, 1) := by decide +kernel
theorem dM_init_98 : decode prog_12_method_1_code 98 = .ok (.putfield 45, 3) := by decide +kernel
theorem dM_init_101 : decode prog_12_method_1_code 101 = .ok (.aload_n 0, 1) := by decide +kernel
theorem dM_init_102 : decode prog_12_method_1_code 102 = .ok (.bipush 12, 2) := by decide +kernel
theorem dM_init_104 : decode prog_12_method_1_code 104 = .ok (.newarray .int, 2) := by decide +kernel
theorem dM_init_106 : decode prog_12_method_1_code 106 = .ok (.putfield 49, 3) := by decide +kernel
theorem dM_init_109 : decode prog_12_method_1_code 109 = .ok (.aload_n 0, 1) := by decide +kernel
theorem dM_init_110 : decode prog_12_method_1_code 110 = .ok (.bipush 12, 2) := by decide +kernel
theorem dM_init_112 : decode prog_12_method_1_code 112 = .ok (.newarray .int, 2) := by decide +kernel
theorem dM_init_114 : decode prog_12_method_1_code 114 = .ok (.putfield 52, 3) := by decide +kernel
theorem dM_init_117 : decode prog_12_method_1_code 117 = .ok (.aload_n 0, 1) := by decide +kernel
theorem dM_init_118 : decode prog_12_method_1_code 118 = .ok (.bipush 96, 2) := by decide +kernel
theorem dM_init_120 : decode prog_12_method_1_code 120 = .ok (.newarray .int, 2) := by decide +kernel
theorem dM_init_122 : decode prog_12_method_1_code 122 = .ok (.putfield 55, 3) := by decide +kernel
theorem dM_init_125 : decode prog_12_method_1_code 125 = .ok (.aload_n 0, 1) := by decide +kernel
theorem dM_init_126 : decode prog_12_method_1_code 126 = .ok (.bipush 24, 2) := by decide +kernel
theorem dM_init_128 : decode prog_12_method_1_code 128 = .ok (.newarray .int, 2) := by decide +kernel
theorem dM_init_130 : decode prog_12_method_1_code 130 = .ok (.putfield 58, 3) := by decide +kernel
theorem dM_init_133 : decode prog_12_method_1_code 133 = .ok (.aload_n 0, 1) := by decide +kernel
theorem dM_init_134 : decode prog_12_method_1_code 134 = .ok (.bipush 12, 2) := by decide +kernel
theorem dM_init_136 : decode prog_12_method_1_code 136 = .ok (.newarray .boolean, 2) := by decide +kernel
theorem dM_init_138 : decode prog_12_method_1_code 138 = .ok (.putfield 61, 3) := by decide +kernel
theorem dM_init_141 : decode prog_12_method_1_code 141 = .ok (.aload_n 0, 1) := by decide +kernel
theorem dM_init_142 : decode prog_12_method_1_code 142 = .ok (.bipush 12, 2) := by decide +kernel
theorem dM_init_144 : decode prog_12_method_1_code 144 = .ok (.newarray .int, 2) := by decide +kernel
theorem dM_init_146 : decode prog_12_method_1_code 146 = .ok (.putfield 64, 3) := by decide +kernel
theorem dM_init_149 : decode prog_12_method_1_code 149 = .ok (.aload_n 0, 1) := by decide +kernel
theorem dM_init_150 : decode prog_12_method_1_code 150 = .ok (.bipush 12, 2) := by decide +kernel
theorem dM_init_152 : decode prog_12_method_1_code 152 = .ok (.newarray .long, 2) := by decide +kernel
theorem dM_init_154 : decode prog_12_method_1_code 154 = .ok (.putfield 67, 3) := by decide +kernel
theorem dM_init_157 : decode prog_12_method_1_code 157 = .ok (.aload_n 0, 1) := by decide +kernel
theorem dM_init_158 : decode prog_12_method_1_code 158 = .ok (.bipush 12, 2) := by decide +kernel
theorem dM_init_160 : decode prog_12_method_1_code 160 = .ok (.newarray .long, 2) := by decide +kernel
theorem dM_init_162 : decode prog_12_method_1_code 162 = .ok (.putfield 70, 3) := by decide +kernel
theorem dM_init_165 : decode prog_12_method_1_code 165 = .ok (.aload_n 0, 1) := by decide +kernel
theorem dM_init_166 : decode prog_12_method_1_code 166 = .ok (.bipush 36, 2) := by decide +kernel
theorem dM_init_168 : decode prog_12_method_1_code 168 = .ok (.newarray .int, 2) := by decide +kernel
theorem dM_init_170 : decode prog_12_method_1_code 170 = .ok (.putfield 73, 3) := by decide +kernel
theorem dM_init_173 : decode prog_12_method_1_code 173 = .ok (.aload_n 0, 1) := by decide +kernel
theorem dM_init_174 : decode prog_12_method_1_code 174 = .ok (.bipush 96, 2) := by decide +kernel
theorem dM_init_176 : decode prog_12_method_1_code 176 = .ok (.newarray .int, 2) := by decide +kernel
theorem dM_init_178 : decode prog_12_method_1_code 178 = .ok (.putfield 76, 3) := by decide +kernel
theorem dM_init_181 : decode prog_12_method_1_code 181 = .ok (.aload_n 0, 1) := by decide +kernel
theorem dM_init_182 : decode prog_12_method_1_code 182 = .ok (.bipush 12, 2) := by decide +kernel
theorem dM_init_184 : decode prog_12_method_1_code 184 = .ok (.newarray .int, 2) := by decide +kernel
theorem dM_init_186 : decode prog_12_method_1_code 186 = .ok (.putfield 79, 3) := by decide +kernel
theorem dM_init_189 : decode prog_12_method_1_code 189 = .ok (.aload_n 0, 1) := by decide +kernel
theorem dM_init_190 : decode prog_12_method_1_code 190 = .ok (.bipush 8, 2) := by decide +kernel
theorem dM_init_192 : decode prog_12_method_1_code 192 = .ok (.putfield 82, 3) := by decide +kernel
theorem dM_init_195 : decode prog_12_method_1_code 195 = .ok (.aload_n 0, 1) := by decide +kernel
theorem dM_init_196 : decode prog_12_method_1_code 196 = .ok (.bipush 120, 2) := by decide +kernel
theorem dM_init_198 : decode prog_12_method_1_code 198 = .ok (.newarray .int, 2) := by decide +kernel
theorem dM_init_200 : decode prog_12_method_1_code 200 = .ok (.putfield 85, 3) := by decide +kernel
theorem dM_init_203 : decode prog_12_method_1_code 203 = .ok (.aload_n 0, 1) := by decide +kernel
theorem dM_init_204 : decode prog_12_method_1_code 204 = .ok (.bipush 120, 2) := by decide +kernel
theorem dM_init_206 : decode prog_12_method_1_code 206 = .ok (.newarray .int, 2) := by decide +kernel
theorem dM_init_208 : decode prog_12_method_1_code 208 = .ok (.putfield 88, 3) := by decide +kernel
theorem dM_init_211 : decode prog_12_method_1_code 211 = .ok (.aload_n 0, 1) := by decide +kernel
theorem dM_init_212 : decode prog_12_method_1_code 212 = .ok (.bipush 120, 2) := by decide +kernel
theorem dM_init_214 : decode prog_12_method_1_code 214 = .ok (.newarray .int, 2) := by decide +kernel
theorem dM_init_216 : decode prog_12_method_1_code 216 = .ok (.putfield 91, 3) := by decide +kernel
theorem dM_init_219 : decode prog_12_method_1_code 219 = .ok (.aload_n 0, 1) := by decide +kernel
theorem dM_init_220 : decode prog_12_method_1_code 220 = .ok (.bipush 120, 2) := by decide +kernel
theorem dM_init_222 : decode prog_12_method_1_code 222 = .ok (.newarray .int, 2) := by decide +kernel
theorem dM_init_224 : decode prog_12_method_1_code 224 = .ok (.putfield 94, 3) := by decide +kernel
theorem dM_init_227 : decode prog_12_method_1_code 227 = .ok (.aload_n 0, 1) := by decide +kernel
theorem dM_init_228 : decode prog_12_method_1_code 228 = .ok (.bipush 8, 2) := by decide +kernel
theorem dM_init_230 : decode prog_12_method_1_code 230 = .ok (.newarray .int, 2) := by decide +kernel
theorem dM_init_232 : decode prog_12_method_1_code 232 = .ok (.putfield 97, 3) := by decide +kernel
theorem dM_init_235 : decode prog_12_method_1_code 235 = .ok (.aload_n 0, 1) := by decide +kernel
theorem dM_init_236 : decode prog_12_method_1_code 236 = .ok (.bipush 8, 2) := by decide +kernel
theorem dM_init_238 : decode prog_12_method_1_code 238 = .ok (.newarray .int, 2) := by decide +kernel
theorem dM_init_240 : decode prog_12_method_1_code 240 = .ok (.putfield 100, 3) := by decide +kernel
theorem dM_init_243 : decode prog_12_method_1_code 243 = .ok (.aload_n 0, 1) := by decide +kernel
theorem dM_init_244 : decode prog_12_method_1_code 244 = .ok (.getfield 22, 3) := by decide +kernel
theorem dM_init_247 : decode prog_12_method_1_code 247 = .ok (.iconst 0, 1) := by decide +kernel
theorem dM_init_248 : decode prog_12_method_1_code 248 = .ok (.iconst 1, 1) := by decide +kernel
theorem dM_init_249 : decode prog_12_method_1_code 249 = .ok (.bastore, 1) := by decide +kernel
theorem dM_init_250 : decode prog_12_method_1_code 250 = .ok (.aload_n 0, 1) := by decide +kernel
theorem dM_init_251 : decode prog_12_method_1_code 251 = .ok (.getfield 29, 3) := by decide +kernel
theorem dM_init_254 : decode prog_12_method_1_code 254 = .ok (.iconst 0, 1) := by decide +kernel
theorem dM_init_255 : decode prog_12_method_1_code 255 = .ok (.iconst (-1), 1) := by decide +kernel
theorem dM_init_256 : decode prog_12_method_1_code 256 = .ok (.iastore, 1) := by decide +kernel
theorem dM_init_257 : decode prog_12_method_1_code 257 = .ok (.aload_n 0, 1) := by decide +kernel
theorem dM_init_258 : decode prog_12_method_1_code 258 = .ok (.getfield 49, 3) := by decide +kernel
theorem dM_init_261 : decode prog_12_method_1_code 261 = .ok (.iconst 0, 1) := by decide +kernel
theorem dM_init_262 : decode prog_12_method_1_code 262 = .ok (.iconst 1, 1) := by decide +kernel
theorem dM_init_263 : decode prog_12_method_1_code 263 = .ok (.iastore, 1) := by decide +kernel
theorem dM_init_264 : decode prog_12_method_1_code 264 = .ok (.iconst 0, 1) := by decide +kernel
theorem dM_init_265 : decode prog_12_method_1_code 265 = .ok (.istore_n 1, 1) := by decide +kernel
theorem dM_init_266 : decode prog_12_method_1_code 266 = .ok (.iload_n 1, 1) := by decide +kernel
theorem dM_init_267 : decode prog_12_method_1_code 267 = .ok (.bipush 8, 2) := by decide +kernel
theorem dM_init_269 : decode prog_12_method_1_code 269 = .ok (.if_icmp .ge 23, 3) := by decide +kernel
theorem dM_init_272 : decode prog_12_method_1_code 272 = .ok (.aload_n 0, 1) := by decide +kernel
theorem dM_init_273 : decode prog_12_method_1_code 273 = .ok (.getfield 85, 3) := by decide +kernel
theorem dM_init_276 : decode prog_12_method_1_code 276 = .ok (.iload_n 1, 1) := by decide +kernel
theorem dM_init_277 : decode prog_12_method_1_code 277 = .ok (.iload_n 1, 1) := by decide +kernel
theorem dM_init_278 : decode prog_12_method_1_code 278 = .ok (.iastore, 1) := by decide +kernel
theorem dM_init_279 : decode prog_12_method_1_code 279 = .ok (.aload_n 0, 1) := by decide +kernel
theorem dM_init_280 : decode prog_12_method_1_code 280 = .ok (.getfield 94, 3) := by decide +kernel
theorem dM_init_283 : decode prog_12_method_1_code 283 = .ok (.iload_n 1, 1) := by decide +kernel
theorem dM_init_284 : decode prog_12_method_1_code 284 = .ok (.iconst (-1), 1) := by decide +kernel
theorem dM_init_285 : decode prog_12_method_1_code 285 = .ok (.iastore, 1) := by decide +kernel
theorem dM_init_286 : decode prog_12_method_1_code 286 = .ok (.iinc 1 1, 3) := by decide +kernel
theorem dM_init_289 : decode prog_12_method_1_code 289 = .ok (.goto (-23), 3) := by decide +kernel
theorem dM_init_292 : decode prog_12_method_1_code 292 = .ok (.return_, 1) := by decide +kernel
theorem dM_thrown_0 : decode prog_12_method_2_code 0 = .ok (.aload_n 0, 1) := by decide +kernel
theorem dM_thrown_1 : decode prog_12_method_2_code 1 = .ok (.getfield 103, 3) := by decide +kernel
theorem dM_thrown_4 : decode prog_12_method_2_code 4 = .ok (.ireturn, 1) := by decide +kernel
theorem dM_fails_0 : decode prog_12_method_3_code 0 = .ok (.aload_n 0, 1) := by decide +kernel
theorem dM_fails_1 : decode prog_12_method_3_code 1 = .ok (.iload_n 1, 1) := by decide +kernel
theorem dM_fails_2 : decode prog_12_method_3_code 2 = .ok (.ifCond .eq 7, 3) := by decide +kernel
theorem dM_fails_5 : decode prog_12_method_3_code 5 = .ok (.iload_n 2, 1) := by decide +kernel
theorem dM_fails_6 : decode prog_12_method_3_code 6 = .ok (.goto 4, 3) := by decide +kernel
theorem dM_fails_9 : decode prog_12_method_3_code 9 = .ok (.iconst 0, 1) := by decide +kernel
theorem dM_fails_10 : decode prog_12_method_3_code 10 = .ok (.putfield 103, 3) := by decide +kernel
theorem dM_fails_13 : decode prog_12_method_3_code 13 = .ok (.iload_n 1, 1) := by decide +kernel
theorem dM_fails_14 : decode prog_12_method_3_code 14 = .ok (.ireturn, 1) := by decide +kernel
theorem dM_in_0 : decode prog_12_method_4_code 0 = .ok (.iload_n 0, 1) := by decide +kernel
theorem dM_in_1 : decode prog_12_method_4_code 1 = .ok (.iload_n 1, 1) := by decide +kernel
theorem dM_in_2 : decode prog_12_method_4_code 2 = .ok (.if_icmp .lt 12, 3) := by decide +kernel
theorem dM_in_5 : decode prog_12_method_4_code 5 = .ok (.iload_n 0, 1) := by decide +kernel
theorem dM_in_6 : decode prog_12_method_4_code 6 = .ok (.iload_n 2, 1) := by decide +kernel
theorem dM_in_7 : decode prog_12_method_4_code 7 = .ok (.if_icmp .gt 7, 3) := by decide +kernel
theorem dM_in_10 : decode prog_12_method_4_code 10 = .ok (.iconst 1, 1) := by decide +kernel
theorem dM_in_11 : decode prog_12_method_4_code 11 = .ok (.goto 4, 3) := by decide +kernel
theorem dM_in_14 : decode prog_12_method_4_code 14 = .ok (.iconst 0, 1) := by decide +kernel
theorem dM_in_15 : decode prog_12_method_4_code 15 = .ok (.ireturn, 1) := by decide +kernel
theorem dM_file_0 : decode prog_12_method_5_code 0 = .ok (.aload_n 0, 1) := by decide +kernel
theorem dM_file_1 : decode prog_12_method_5_code 1 = .ok (.iload_n 1, 1) := by decide +kernel
theorem dM_file_2 : decode prog_12_method_5_code 2 = .ok (.iconst 0, 1) := by decide +kernel
theorem dM_file_3 : decode prog_12_method_5_code 3 = .ok (.bipush 9, 2) := by decide +kernel
theorem dM_file_5 : decode prog_12_method_5_code 5 = .ok (.invokestatic 106, 3) := by decide +kernel
theorem dM_file_8 : decode prog_12_method_5_code 8 = .ok (.ifCond .eq 35, 3) := by decide +kernel
theorem dM_file_11 : decode prog_12_method_5_code 11 = .ok (.iload_n 2, 1) := by decide +kernel
theorem dM_file_12 : decode prog_12_method_5_code 12 = .ok (.bipush 8, 2) := by decide +kernel
theorem dM_file_14 : decode prog_12_method_5_code 14 = .ok (.bipush 63, 2) := by decide +kernel
theorem dM_file_16 : decode prog_12_method_5_code 16 = .ok (.invokestatic 106, 3) := by decide +kernel
theorem dM_file_19 : decode prog_12_method_5_code 19 = .ok (.ifCond .eq 24, 3) := by decide +kernel
theorem dM_file_22 : decode prog_12_method_5_code 22 = .ok (.iload_n 3, 1) := by decide +kernel
theorem dM_file_23 : decode prog_12_method_5_code 23 = .ok (.iconst 0, 1) := by decide +kernel
theorem dM_file_24 : decode prog_12_method_5_code 24 = .ok (.bipush 63, 2) := by decide +kernel
theorem dM_file_26 : decode prog_12_method_5_code 26 = .ok (.invokestatic 106, 3) := by decide +kernel
theorem dM_file_29 : decode prog_12_method_5_code 29 = .ok (.ifCond .eq 14, 3) := by decide +kernel
theorem dM_file_32 : decode prog_12_method_5_code 32 = .ok (.iload 4, 2) := by decide +kernel
theorem dM_file_34 : decode prog_12_method_5_code 34 = .ok (.iconst 0, 1) := by decide +kernel
theorem dM_file_35 : decode prog_12_method_5_code 35 = .ok (.bipush 9, 2) := by decide +kernel
theorem dM_file_37 : decode prog_12_method_5_code 37 = .ok (.invokestatic 106, 3) := by decide +kernel
theorem dM_file_40 : decode prog_12_method_5_code 40 = .ok (.ifCond .ne 7, 3) := by decide +kernel
theorem dM_file_43 : decode prog_12_method_5_code 43 = .ok (.iconst 1, 1) := by decide +kernel
theorem dM_file_44 : decode prog_12_method_5_code 44 = .ok (.goto 4, 3) := by decide +kernel
theorem dM_file_47 : decode prog_12_method_5_code 47 = .ok (.iconst 0, 1) := by decide +kernel
theorem dM_file_48 : decode prog_12_method_5_code 48 = .ok (.iconst 1, 1) := by decide +kernel
theorem dM_file_49 : decode prog_12_method_5_code 49 = .ok (.invokevirtual 110, 3) := by decide +kernel
theorem dM_file_52 : decode prog_12_method_5_code 52 = .ok (.ifCond .eq 5, 3) := by decide +kernel
theorem dM_file_55 : decode prog_12_method_5_code 55 = .ok (.iconst 0, 1) := by decide +kernel
theorem dM_file_56 : decode prog_12_method_5_code 56 = .ok (.ireturn, 1) := by decide +kernel
theorem dM_file_57 : decode prog_12_method_5_code 57 = .ok (.iconst 0, 1) := by decide +kernel
theorem dM_file_58 : decode prog_12_method_5_code 58 = .ok (.istore 5, 2) := by decide +kernel
theorem dM_file_60 : decode prog_12_method_5_code 60 = .ok (.iload 5, 2) := by decide +kernel
theorem dM_file_62 : decode prog_12_method_5_code 62 = .ok (.aload_n 0, 1) := by decide +kernel
theorem dM_file_63 : decode prog_12_method_5_code 63 = .ok (.getfield 7, 3) := by decide +kernel
theorem dM_file_66 : decode prog_12_method_5_code 66 = .ok (.iload_n 1, 1) := by decide +kernel
theorem dM_file_67 : decode prog_12_method_5_code 67 = .ok (.iaload, 1) := by decide +kernel
theorem dM_file_68 : decode prog_12_method_5_code 68 = .ok (.if_icmp .ge 27, 3) := by decide +kernel
theorem dM_file_71 : decode prog_12_method_5_code 71 = .ok (.aload_n 0, 1) := by decide +kernel
theorem dM_file_72 : decode prog_12_method_5_code 72 = .ok (.getfield 13, 3) := by decide +kernel
theorem dM_file_75 : decode prog_12_method_5_code 75 = .ok (.bipush 24, 2) := by decide +kernel
theorem dM_file_77 : decode prog_12_method_5_code 77 = .ok (.iload_n 1, 1) := by decide +kernel
theorem dM_file_78 : decode prog_12_method_5_code 78 = .ok (.imul, 1) := by decide +kernel
theorem dM_file_79 : decode prog_12_method_5_code 79 = .ok (.iconst 3, 1) := by decide +kernel
theorem dM_file_80 : decode prog_12_method_5_code 80 = .ok (.iload 5, 2) := by decide +kernel
theorem dM_file_82 : decode prog_12_method_5_code 82 = .ok (.imul, 1) := by decide +kernel
theorem dM_file_83 : decode prog_12_method_5_code 83 = .ok (.iadd, 1) := by decide +kernel
theorem dM_file_84 : decode prog_12_method_5_code 84 = .ok (.iaload, 1) := by decide +kernel
theorem dM_file_85 : decode prog_12_method_5_code 85 = .ok (.iload_n 2, 1) := by decide +kernel
theorem dM_file_86 : decode prog_12_method_5_code 86 = .ok (.if_icmp .eq 9, 3) := by decide +kernel
theorem dM_file_89 : decode prog_12_method_5_code 89 = .ok (.iinc 5 1, 3) := by decide +kernel
theorem dM_file_92 : decode prog_12_method_5_code 92 = .ok (.goto (-32), 3) := by decide +kernel
theorem dM_file_95 : decode prog_12_method_5_code 95 = .ok (.aload_n 0, 1) := by decide +kernel
theorem dM_file_96 : decode prog_12_method_5_code 96 = .ok (.iload 5, 2) := by decide +kernel
theorem dM_file_98 : decode prog_12_method_5_code 98 = .ok (.bipush 8, 2) := by decide +kernel
theorem dM_file_100 : decode prog_12_method_5_code 100 = .ok (.if_icmp .ne 7, 3) := by decide +kernel
theorem dM_file_103 : decode prog_12_method_5_code 103 = .ok (.iconst 1, 1) := by decide +kernel
theorem dM_file_104 : decode prog_12_method_5_code 104 = .ok (.goto 4, 3) := by decide +kernel
theorem dM_file_107 : decode prog_12_method_5_code 107 = .ok (.iconst 0, 1) := by decide +kernel
theorem dM_file_108 : decode prog_12_method_5_code 108 = .ok (.iconst 2, 1) := by decide +kernel
theorem dM_file_109 : decode prog_12_method_5_code 109 = .ok (.invokevirtual 110, 3) := by decide +kernel
theorem dM_file_112 : decode prog_12_method_5_code 112 = .ok (.ifCond .eq 5, 3) := by decide +kernel
theorem dM_file_115 : decode prog_12_method_5_code 115 = .ok (.iconst 0, 1) := by decide +kernel
theorem dM_file_116 : decode prog_12_method_5_code 116 = .ok (.ireturn, 1) := by decide +kernel
theorem dM_file_117 : decode prog_12_method_5_code 117 = .ok (.bipush 24, 2) := by decide +kernel
theorem dM_file_119 : decode prog_12_method_5_code 119 = .ok (.iload_n 1, 1) := by decide +kernel
theorem dM_file_120 : decode prog_12_method_5_code 120 = .ok (.imul, 1) := by decide +kernel
theorem dM_file_121 : decode prog_12_method_5_code 121 = .ok (.iconst 3, 1) := by decide +kernel
theorem dM_file_122 : decode prog_12_method_5_code 122 = .ok (.iload 5, 2) := by decide +kernel
theorem dM_file_124 : decode prog_12_method_5_code 124 = .ok (.imul, 1) := by decide +kernel
theorem dM_file_125 : decode prog_12_method_5_code 125 = .ok (.iadd, 1) := by decide +kernel
theorem dM_file_126 : decode prog_12_method_5_code 126 = .ok (.istore 6, 2) := by decide +kernel
theorem dM_file_128 : decode prog_12_method_5_code 128 = .ok (.aload_n 0, 1) := by decide +kernel
theorem dM_file_129 : decode prog_12_method_5_code 129 = .ok (.getfield 13, 3) := by decide +kernel
theorem dM_file_132 : decode prog_12_method_5_code 132 = .ok (.iload 6, 2) := by decide +kernel
theorem dM_file_134 : decode prog_12_method_5_code 134 = .ok (.iload_n 2, 1) := by decide +kernel
theorem dM_file_135 : decode prog_12_method_5_code 135 = .ok (.iastore, 1) := by decide +kernel
theorem dM_file_136 : decode prog_12_method_5_code 136 = .ok (.aload_n 0, 1) := by decide +kernel
theorem dM_file_137 : decode prog_12_method_5_code 137 = .ok (.getfield 13, 3) := by decide +kernel
theorem dM_file_140 : decode prog_12_method_5_code 140 = .ok (.iload 6, 2) := by decide +kernel
theorem dM_file_142 : decode prog_12_method_5_code 142 = .ok (.iconst 1, 1) := by decide +kernel
theorem dM_file_143 : decode prog_12_method_5_code 143 = .ok (.iadd, 1) := by decide +kernel
theorem dM_file_144 : decode prog_12_method_5_code 144 = .ok (.iload_n 3, 1) := by decide +kernel
theorem dM_file_145 : decode prog_12_method_5_code 145 = .ok (.iastore, 1) := by decide +kernel
theorem dM_file_146 : decode prog_12_method_5_code 146 = .ok (.aload_n 0, 1) := by decide +kernel
theorem dM_file_147 : decode prog_12_method_5_code 147 = .ok (.getfield 13, 3) := by decide +kernel
theorem dM_file_150 : decode prog_12_method_5_code 150 = .ok (.iload 6, 2) := by decide +kernel
theorem dM_file_152 : decode prog_12_method_5_code 152 = .ok (.iconst 2, 1) := by decide +kernel
theorem dM_file_153 : decode prog_12_method_5_code 153 = .ok (.iadd, 1) := by decide +kernel
theorem dM_file_154 : decode prog_12_method_5_code 154 = .ok (.iload 4, 2) := by decide +kernel
theorem dM_file_156 : decode prog_12_method_5_code 156 = .ok (.iastore, 1) := by decide +kernel
theorem dM_file_157 : decode prog_12_method_5_code 157 = .ok (.aload_n 0, 1) := by decide +kernel
theorem dM_file_158 : decode prog_12_method_5_code 158 = .ok (.getfield 7, 3) := by decide +kernel
theorem dM_file_161 : decode prog_12_method_5_code 161 = .ok (.iload_n 1, 1) := by decide +kernel
theorem dM_file_162 : decode prog_12_method_5_code 162 = .ok (.iload 5, 2) := by decide +kernel
theorem dM_file_164 : decode prog_12_method_5_code 164 = .ok (.aload_n 0, 1) := by decide +kernel
theorem dM_file_165 : decode prog_12_method_5_code 165 = .ok (.getfield 7, 3) := by decide +kernel
theorem dM_file_168 : decode prog_12_method_5_code 168 = .ok (.iload_n 1, 1) := by decide +kernel
theorem dM_file_169 : decode prog_12_method_5_code 169 = .ok (.iaload, 1) := by decide +kernel
theorem dM_file_170 : decode prog_12_method_5_code 170 = .ok (.if_icmp .ne 10, 3) := by decide +kernel
theorem dM_file_173 : decode prog_12_method_5_code 173 = .ok (.iload 5, 2) := by decide +kernel
theorem dM_file_175 : decode prog_12_method_5_code 175 = .ok (.iconst 1, 1) := by decide +kernel
theorem dM_file_176 : decode prog_12_method_5_code 176 = .ok (.iadd, 1) := by decide +kernel
theorem dM_file_177 : decode prog_12_method_5_code 177 = .ok (.goto 9, 3) := by decide +kernel
theorem dM_file_180 : decode prog_12_method_5_code 180 = .ok (.aload_n 0, 1) := by decide +kernel
theorem dM_file_181 : decode prog_12_method_5_code 181 = .ok (.getfield 7, 3) := by decide +kernel
theorem dM_file_184 : decode prog_12_method_5_code 184 = .ok (.iload_n 1, 1) := by decide +kernel
theorem dM_file_185 : decode prog_12_method_5_code 185 = .ok (.iaload, 1) := by decide +kernel
theorem dM_file_186 : decode prog_12_method_5_code 186 = .ok (.iastore, 1) := by decide +kernel
theorem dM_file_187 : decode prog_12_method_5_code 187 = .ok (.aload_n 0, 1) := by decide +kernel
theorem dM_file_188 : decode prog_12_method_5_code 188 = .ok (.getfield 7, 3) := by decide +kernel
theorem dM_file_191 : decode prog_12_method_5_code 191 = .ok (.iload_n 1, 1) := by decide +kernel
theorem dM_file_192 : decode prog_12_method_5_code 192 = .ok (.iaload, 1) := by decide +kernel
theorem dM_file_193 : decode prog_12_method_5_code 193 = .ok (.ireturn, 1) := by decide +kernel
theorem dM_descriptor_0 : decode prog_12_method_6_code 0 = .ok (.aload_n 0, 1) := by decide +kernel
theorem dM_descriptor_1 : decode prog_12_method_6_code 1 = .ok (.iload_n 1, 1) := by decide +kernel
theorem dM_descriptor_2 : decode prog_12_method_6_code 2 = .ok (.iconst 0, 1) := by decide +kernel
theorem dM_descriptor_3 : decode prog_12_method_6_code 3 = .ok (.bipush 9, 2) := by decide +kernel
theorem dM_descriptor_5 : decode prog_12_method_6_code 5 = .ok (.invokestatic 106, 3) := by decide +kernel
theorem dM_descriptor_8 : decode prog_12_method_6_code 8 = .ok (.ifCond .eq 23, 3) := by decide +kernel
theorem dM_descriptor_11 : decode prog_12_method_6_code 11 = .ok (.iload_n 2, 1) := by decide +kernel
theorem dM_descriptor_12 : decode prog_12_method_6_code 12 = .ok (.iconst 0, 1) := by decide +kernel
theorem dM_descriptor_13 : decode prog_12_method_6_code 13 = .ok (.bipush 9, 2) := by decide +kernel
theorem dM_descriptor_15 : decode prog_12_method_6_code 15 = .ok (.invokestatic 106, 3) := by decide +kernel
theorem dM_descriptor_18 : decode prog_12_method_6_code 18 = .ok (.ifCond .eq 13, 3) := by decide +kernel
theorem dM_descriptor_21 : decode prog_12_method_6_code 21 = .ok (.iload_n 3, 1) := by decide +kernel
theorem dM_descriptor_22 : decode prog_12_method_6_code 22 = .ok (.iconst 0, 1) := by decide +kernel
theorem dM_descriptor_23 : decode prog_12_method_6_code 23 = .ok (.bipush 63, 2) := by decide +kernel
theorem dM_descriptor_25 : decode prog_12_method_6_code 25 = .ok (.invokestatic 106, 3) := by decide +kernel
theorem dM_descriptor_28 : decode prog_12_method_6_code 28 = .ok (.ifCond .ne 7, 3) := by decide +kernel
theorem dM_descriptor_31 : decode prog_12_method_6_code 31 = .ok (.iconst 1, 1) := by decide +kernel
theorem dM_descriptor_32 : decode prog_12_method_6_code 32 = .ok (.goto 4, 3) := by decide +kernel
theorem dM_descriptor_35 : decode prog_12_method_6_code 35 = .ok (.iconst 0, 1) := by decide +kernel
theorem dM_descriptor_36 : decode prog_12_method_6_code 36 = .ok (.iconst 1, 1) := by decide +kernel
theorem dM_descriptor_37 : decode prog_12_method_6_code 37 = .ok (.invokevirtual 110, 3) := by decide +kernel
theorem dM_descriptor_40 : decode prog_12_method_6_code 40 = .ok (.ifCond .eq 5, 3) := by decide +kernel
theorem dM_descriptor_43 : decode prog_12_method_6_code 43 = .ok (.iconst 0, 1) := by decide +kernel
theorem dM_descriptor_44 : decode prog_12_method_6_code 44 = .ok (.ireturn, 1) := by decide +kernel
theorem dM_descriptor_45 : decode prog_12_method_6_code 45 = .ok (.iconst 0, 1) := by decide +kernel
theorem dM_descriptor_46 : decode prog_12_method_6_code 46 = .ok (.istore 4, 2) := by decide +kernel
theorem dM_descriptor_48 : decode prog_12_method_6_code 48 = .ok (.iload 4, 2) := by decide +kernel
theorem dM_descriptor_50 : decode prog_12_method_6_code 50 = .ok (.aload_n 0, 1) := by decide +kernel
theorem dM_descriptor_51 : decode prog_12_method_6_code 51 = .ok (.getfield 16, 3) := by decide +kernel
theorem dM_descriptor_54 : decode prog_12_method_6_code 54 = .ok (.iload_n 1, 1) := by decide +kernel
theorem dM_descriptor_55 : decode prog_12_method_6_code 55 = .ok (.iaload, 1) := by decide +kernel
theorem dM_descriptor_56 : decode prog_12_method_6_code 56 = .ok (.if_icmp .ge 27, 3) := by decide +kernel
theorem dM_descriptor_59 : decode prog_12_method_6_code 59 = .ok (.aload_n 0, 1) := by decide +kernel
theorem dM_descriptor_60 : decode prog_12_method_6_code 60 = .ok (.getfield 19, 3) := by decide +kernel
theorem dM_descriptor_63 : decode prog_12_method_6_code 63 = .ok (.bipush 8, 2) := by decide +kernel
theorem dM_descriptor_65 : decode prog_12_method_6_code 65 = .ok (.iload_n 1, 1) := by decide +kernel
theorem dM_descriptor_66 : decode prog_12_method_6_code 66 = .ok (.imul, 1) := by decide +kernel
theorem dM_descriptor_67 : decode prog_12_method_6_code 67 = .ok (.iconst 2, 1) := by decide +kernel
theorem dM_descriptor_68 : decode prog_12_method_6_code 68 = .ok (.iload 4, 2) := by decide +kernel
theorem dM_descriptor_70 : decode prog_12_method_6_code 70 = .ok (.imul, 1) := by decide +kernel
theorem dM_descriptor_71 : decode prog_12_method_6_code 71 = .ok (.iadd, 1) := by decide +kernel
theorem dM_descriptor_72 : decode prog_12_method_6_code 72 = .ok (.iaload, 1) := by decide +kernel
theorem dM_descriptor_73 : decode prog_12_method_6_code 73 = .ok (.iload_n 2, 1) := by decide +kernel
theorem dM_descriptor_74 : decode prog_12_method_6_code 74 = .ok (.if_icmp .eq 9, 3) := by decide +kernel
theorem dM_descriptor_77 : decode prog_12_method_6_code 77 = .ok (.iinc 4 1, 3) := by decide +kernel
theorem dM_descriptor_80 : decode prog_12_method_6_code 80 = .ok (.goto (-32), 3) := by decide +kernel
theorem dM_descriptor_83 : decode prog_12_method_6_code 83 = .ok (.aload_n 0, 1) := by decide +kernel
theorem dM_descriptor_84 : decode prog_12_method_6_code 84 = .ok (.iload 4, 2) := by decide +kernel
theorem dM_descriptor_86 : decode prog_12_method_6_code 86 = .ok (.iconst 4, 1) := by decide +kernel
theorem dM_descriptor_87 : decode prog_12_method_6_code 87 = .ok (.if_icmp .ne 7, 3) := by decide +kernel
theorem dM_descriptor_90 : decode prog_12_method_6_code 90 = .ok (.iconst 1, 1) := by decide +kernel
theorem dM_descriptor_91 : decode prog_12_method_6_code 91 = .ok (.goto 4, 3) := by decide +kernel
theorem dM_descriptor_94 : decode prog_12_method_6_code 94 = .ok (.iconst 0, 1) := by decide +kernel
theorem dM_descriptor_95 : decode prog_12_method_6_code 95 = .ok (.iconst 2, 1) := by decide +kernel
theorem dM_descriptor_96 : decode prog_12_method_6_code 96 = .ok (.invokevirtual 110, 3) := by decide +kernel
theorem dM_descriptor_99 : decode prog_12_method_6_code 99 = .ok (.ifCond .eq 5, 3) := by decide +kernel
theorem dM_descriptor_102 : decode prog_12_method_6_code 102 = .ok (.iconst 0, 1) := by decide +kernel
theorem dM_descriptor_103 : decode prog_12_method_6_code 103 = .ok (.ireturn, 1) := by decide +kernel
theorem dM_descriptor_104 : decode prog_12_method_6_code 104 = .ok (.aload_n 0, 1) := by decide +kernel
theorem dM_descriptor_105 : decode prog_12_method_6_code 105 = .ok (.getfield 19, 3) := by decide +kernel
theorem dM_descriptor_108 : decode prog_12_method_6_code 108 = .ok (.bipush 8, 2) := by decide +kernel
theorem dM_descriptor_110 : decode prog_12_method_6_code 110 = .ok (.iload_n 1, 1) := by decide +kernel
theorem dM_descriptor_111 : decode prog_12_method_6_code 111 = .ok (.imul, 1) := by decide +kernel
theorem dM_descriptor_112 : decode prog_12_method_6_code 112 = .ok (.iconst 2, 1) := by decide +kernel
theorem dM_descriptor_113 : decode prog_12_method_6_code 113 = .ok (.iload 4, 2) := by decide +kernel
theorem dM_descriptor_115 : decode prog_12_method_6_code 115 = .ok (.imul, 1) := by decide +kernel
theorem dM_descriptor_116 : decode prog_12_method_6_code 116 = .ok (.iadd, 1) := by decide +kernel
theorem dM_descriptor_117 : decode prog_12_method_6_code 117 = .ok (.iload_n 2, 1) := by decide +kernel
theorem dM_descriptor_118 : decode prog_12_method_6_code 118 = .ok (.iastore, 1) := by decide +kernel
theorem dM_descriptor_119 : decode prog_12_method_6_code 119 = .ok (.aload_n 0, 1) := by decide +kernel
theorem dM_descriptor_120 : decode prog_12_method_6_code 120 = .ok (.getfield 19, 3) := by decide +kernel
theorem dM_descriptor_123 : decode prog_12_method_6_code 123 = .ok (.bipush 8, 2) := by decide +kernel
theorem dM_descriptor_125 : decode prog_12_method_6_code 125 = .ok (.iload_n 1, 1) := by decide +kernel
theorem dM_descriptor_126 : decode prog_12_method_6_code 126 = .ok (.imul, 1) := by decide +kernel
theorem dM_descriptor_127 : decode prog_12_method_6_code 127 = .ok (.iconst 2, 1) := by decide +kernel
theorem dM_descriptor_128 : decode prog_12_method_6_code 128 = .ok (.iload 4, 2) := by decide +kernel
theorem dM_descriptor_130 : decode prog_12_method_6_code 130 = .ok (.imul, 1) := by decide +kernel
theorem dM_descriptor_131 : decode prog_12_method_6_code 131 = .ok (.iadd, 1) := by decide +kernel
theorem dM_descriptor_132 : decode prog_12_method_6_code 132 = .ok (.iconst 1, 1) := by decide +kernel
theorem dM_descriptor_133 : decode prog_12_method_6_code 133 = .ok (.iadd, 1) := by decide +kernel
theorem dM_descriptor_134 : decode prog_12_method_6_code 134 = .ok (.iload_n 3, 1) := by decide +kernel
theorem dM_descriptor_135 : decode prog_12_method_6_code 135 = .ok (.iastore, 1) := by decide +kernel
theorem dM_descriptor_136 : decode prog_12_method_6_code 136 = .ok (.aload_n 0, 1) := by decide +kernel
theorem dM_descriptor_137 : decode prog_12_method_6_code 137 = .ok (.getfield 16, 3) := by decide +kernel
theorem dM_descriptor_140 : decode prog_12_method_6_code 140 = .ok (.iload_n 1, 1) := by decide +kernel
theorem dM_descriptor_141 : decode prog_12_method_6_code 141 = .ok (.iload 4, 2) := by decide +kernel
theorem dM_descriptor_143 : decode prog_12_method_6_code 143 = .ok (.aload_n 0, 1) := by decide +kernel
theorem dM_descriptor_144 : decode prog_12_method_6_code 144 = .ok (.getfield 16, 3) := by decide +kernel
theorem dM_descriptor_147 : decode prog_12_method_6_code 147 = .ok (.iload_n 1, 1) := by decide +kernel
theorem dM_descriptor_148 : decode prog_12_method_6_code 148 = .ok (.iaload, 1) := by decide +kernel
theorem dM_descriptor_149 : decode prog_12_method_6_code 149 = .ok (.if_icmp .ne 10, 3) := by decide +kernel
theorem dM_descriptor_152 : decode prog_12_method_6_code 152 = .ok (.iload 4, 2) := by decide +kernel
theorem dM_descriptor_154 : decode prog_12_method_6_code 154 = .ok (.iconst 1, 1) := by decide +kernel
theorem dM_descriptor_155 : decode prog_12_method_6_code 155 = .ok (.iadd, 1) := by decide +kernel
theorem dM_descriptor_156 : decode prog_12_method_6_code 156 = .ok (.goto 9, 3) := by decide +kernel
theorem dM_descriptor_159 : decode prog_12_method_6_code 159 = .ok (.aload_n 0, 1) := by decide +kernel
theorem dM_descriptor_160 : decode prog_12_method_6_code 160 = .ok (.getfield 16, 3) := by decide +kernel
theorem dM_descriptor_163 : decode prog_12_method_6_code 163 = .ok (.iload_n 1, 1) := by decide +kernel
theorem dM_descriptor_164 : decode prog_12_method_6_code 164 = .ok (.iaload, 1) := by decide +kernel
theorem dM_descriptor_165 : decode prog_12_method_6_code 165 = .ok (.iastore, 1) := by decide +kernel
theorem dM_descriptor_166 : decode prog_12_method_6_code 166 = .ok (.aload_n 0, 1) := by decide +kernel
theorem dM_descriptor_167 : decode prog_12_method_6_code 167 = .ok (.getfield 16, 3) := by decide +kernel
theorem dM_descriptor_170 : decode prog_12_method_6_code 170 = .ok (.iload_n 1, 1) := by decide +kernel
theorem dM_descriptor_171 : decode prog_12_method_6_code 171 = .ok (.iaload, 1) := by decide +kernel
theorem dM_descriptor_172 : decode prog_12_method_6_code 172 = .ok (.ireturn, 1) := by decide +kernel
theorem dM_wipe_0 : decode prog_12_method_7_code 0 = .ok (.aload_n 0, 1) := by decide +kernel
theorem dM_wipe_1 : decode prog_12_method_7_code 1 = .ok (.iload_n 1, 1) := by decide +kernel
theorem dM_wipe_2 : decode prog_12_method_7_code 2 = .ok (.iconst 0, 1) := by decide +kernel
theorem dM_wipe_3 : decode prog_12_method_7_code 3 = .ok (.bipush 9, 2) := by decide +kernel
theorem dM_wipe_5 : decode prog_12_method_7_code 5 = .ok (.invokestatic 106, 3) := by decide +kernel
theorem dM_wipe_8 : decode prog_12_method_7_code 8 = .ok (.ifCond .ne 7, 3) := by decide +kernel
theorem dM_wipe_11 : decode prog_12_method_7_code 11 = .ok (.iconst 1, 1) := by decide +kernel
theorem dM_wipe_12 : decode prog_12_method_7_code 12 = .ok (.goto 4, 3) := by decide +kernel
theorem dM_wipe_15 : decode prog_12_method_7_code 15 = .ok (.iconst 0, 1) := by decide +kernel
theorem dM_wipe_16 : decode prog_12_method_7_code 16 = .ok (.iconst 1, 1) := by decide +kernel
theorem dM_wipe_17 : decode prog_12_method_7_code 17 = .ok (.invokevirtual 110, 3) := by decide +kernel
theorem dM_wipe_20 : decode prog_12_method_7_code 20 = .ok (.ifCond .eq 4, 3) := by decide +kernel
theorem dM_wipe_23 : decode prog_12_method_7_code 23 = .ok (.return_, 1) := by decide +kernel
theorem dM_wipe_24 : decode prog_12_method_7_code 24 = .ok (.aload_n 0, 1) := by decide +kernel
theorem dM_wipe_25 : decode prog_12_method_7_code 25 = .ok (.getfield 7, 3) := by decide +kernel
theorem dM_wipe_28 : decode prog_12_method_7_code 28 = .ok (.iload_n 1, 1) := by decide +kernel
theorem dM_wipe_29 : decode prog_12_method_7_code 29 = .ok (.iconst 0, 1) := by decide +kernel
theorem dM_wipe_30 : decode prog_12_method_7_code 30 = .ok (.iastore, 1) := by decide +kernel
theorem dM_wipe_31 : decode prog_12_method_7_code 31 = .ok (.aload_n 0, 1) := by decide +kernel
theorem dM_wipe_32 : decode prog_12_method_7_code 32 = .ok (.getfield 16, 3) := by decide +kernel
theorem dM_wipe_35 : decode prog_12_method_7_code 35 = .ok (.iload_n 1, 1) := by decide +kernel
theorem dM_wipe_36 : decode prog_12_method_7_code 36 = .ok (.iconst 0, 1) := by decide +kernel
theorem dM_wipe_37 : decode prog_12_method_7_code 37 = .ok (.iastore, 1) := by decide +kernel
theorem dM_wipe_38 : decode prog_12_method_7_code 38 = .ok (.return_, 1) := by decide +kernel
theorem dM_copySheet_0 : decode prog_12_method_8_code 0 = .ok (.aload_n 0, 1) := by decide +kernel
theorem dM_copySheet_1 : decode prog_12_method_8_code 1 = .ok (.getfield 7, 3) := by decide +kernel
theorem dM_copySheet_4 : decode prog_12_method_8_code 4 = .ok (.iload_n 2, 1) := by decide +kernel
theorem dM_copySheet_5 : decode prog_12_method_8_code 5 = .ok (.aload_n 0, 1) := by decide +kernel
theorem dM_copySheet_6 : decode prog_12_method_8_code 6 = .ok (.getfield 7, 3) := by decide +kernel
theorem dM_copySheet_9 : decode prog_12_method_8_code 9 = .ok (.iload_n 1, 1) := by decide +kernel
theorem dM_copySheet_10 : decode prog_12_method_8_code 10 = .ok (.iaload, 1) := by decide +kernel
theorem dM_copySheet_11 : decode prog_12_method_8_code 11 = .ok (.iastore, 1) := by decide +kernel
theorem dM_copySheet_12 : decode prog_12_method_8_code 12 = .ok (.aload_n 0, 1) := by decide +kernel
theorem dM_copySheet_13 : decode prog_12_method_8_code 13 = .ok (.getfield 16, 3) := by decide +kernel
theorem dM_copySheet_16 : decode prog_12_method_8_code 16 = .ok (.iload_n 2, 1) := by decide +kernel
theorem dM_copySheet_17 : decode prog_12_method_8_code 17 = .ok (.aload_n 0, 1) := by decide +kernel
theorem dM_copySheet_18 : decode prog_12_method_8_code 18 = .ok (.getfield 16, 3) := by decide +kernel
theorem dM_copySheet_21 : decode prog_12_method_8_code 21 = .ok (.iload_n 1, 1) := by decide +kernel
theorem dM_copySheet_22 : decode prog_12_method_8_code 22 = .ok (.iaload, 1) := by decide +kernel
theorem dM_copySheet_23 : decode prog_12_method_8_code 23 = .ok (.iastore, 1) := by decide +kernel
theorem dM_copySheet_24 : decode prog_12_method_8_code 24 = .ok (.iconst 0, 1) := by decide +kernel
theorem dM_copySheet_25 : decode prog_12_method_8_code 25 = .ok (.istore_n 3, 1) := by decide +kernel
theorem dM_copySheet_26 : decode prog_12_method_8_code 26 = .ok (.iload_n 3, 1) := by decide +kernel
theorem dM_copySheet_27 : decode prog_12_method_8_code 27 = .ok (.bipush 24, 2) := by decide +kernel
theorem dM_copySheet_29 : decode prog_12_method_8_code 29 = .ok (.if_icmp .ge 31, 3) := by decide +kernel
theorem dM_copySheet_32 : decode prog_12_method_8_code 32 = .ok (.aload_n 0, 1) := by decide +kernel
theorem dM_copySheet_33 : decode prog_12_method_8_code 33 = .ok (.getfield 13, 3) := by decide +kernel
theorem dM_copySheet_36 : decode prog_12_method_8_code 36 = .ok (.bipush 24, 2) := by decide +kernel
theorem dM_copySheet_38 : decode prog_12_method_8_code 38 = .ok (.iload_n 2, 1) := by decide +kernel
theorem dM_copySheet_39 : decode prog_12_method_8_code 39 = .ok (.imul, 1) := by decide +kernel
theorem dM_copySheet_40 : decode prog_12_method_8_code 40 = .ok (.iload_n 3, 1) := by decide +kernel
theorem dM_copySheet_41 : decode prog_12_method_8_code 41 = .ok (.iadd, 1) := by decide +kernel
theorem dM_copySheet_42 : decode prog_12_method_8_code 42 = .ok (.aload_n 0, 1) := by decide +kernel
theorem dM_copySheet_43 : decode prog_12_method_8_code 43 = .ok (.getfield 13, 3) := by decide +kernel
theorem dM_copySheet_46 : decode prog_12_method_8_code 46 = .ok (.bipush 24, 2) := by decide +kernel
theorem dM_copySheet_48 : decode prog_12_method_8_code 48 = .ok (.iload_n 1, 1) := by decide +kernel
theorem dM_copySheet_49 : decode prog_12_method_8_code 49 = .ok (.imul, 1) := by decide +kernel
theorem dM_copySheet_50 : decode prog_12_method_8_code 50 = .ok (.iload_n 3, 1) := by decide +kernel
theorem dM_copySheet_51 : decode prog_12_method_8_code 51 = .ok (.iadd, 1) := by decide +kernel
theorem dM_copySheet_52 : decode prog_12_method_8_code 52 = .ok (.iaload, 1) := by decide +kernel
theorem dM_copySheet_53 : decode prog_12_method_8_code 53 = .ok (.iastore, 1) := by decide +kernel
theorem dM_copySheet_54 : decode prog_12_method_8_code 54 = .ok (.iinc 3 1, 3) := by decide +kernel
theorem dM_copySheet_57 : decode prog_12_method_8_code 57 = .ok (.goto (-31), 3) := by decide +kernel
theorem dM_copySheet_60 : decode prog_12_method_8_code 60 = .ok (.iconst 0, 1) := by decide +kernel
theorem dM_copySheet_61 : decode prog_12_method_8_code 61 = .ok (.istore_n 3, 1) := by decide +kernel
theorem dM_copySheet_62 : decode prog_12_method_8_code 62 = .ok (.iload_n 3, 1) := by decide +kernel
theorem dM_copySheet_63 : decode prog_12_method_8_code 63 = .ok (.bipush 8, 2) := by decide +kernel
theorem dM_copySheet_65 : decode prog_12_method_8_code 65 = .ok (.if_icmp .ge 31, 3) := by decide +kernel
theorem dM_copySheet_68 : decode prog_12_method_8_code 68 = .ok (.aload_n 0, 1) := by decide +kernel
theorem dM_copySheet_69 : decode prog_12_method_8_code 69 = .ok (.getfield 19, 3) := by decide +kernel
theorem dM_copySheet_72 : decode prog_12_method_8_code 72 = .ok (.bipush 8, 2) := by decide +kernel
theorem dM_copySheet_74 : decode prog_12_method_8_code 74 = .ok (.iload_n 2, 1) := by decide +kernel
theorem dM_copySheet_75 : decode prog_12_method_8_code 75 = .ok (.imul, 1) := by decide +kernel
theorem dM_copySheet_76 : decode prog_12_method_8_code 76 = .ok (.iload_n 3, 1) := by decide +kernel
theorem dM_copySheet_77 : decode prog_12_method_8_code 77 = .ok (.iadd, 1) := by decide +kernel
theorem dM_copySheet_78 : decode prog_12_method_8_code 78 = .ok (.aload_n 0, 1) := by decide +kernel
theorem dM_copySheet_79 : decode prog_12_method_8_code 79 = .ok (.getfield 19, 3) := by decide +kernel
theorem dM_copySheet_82 : decode prog_12_method_8_code 82 = .ok (.bipush 8, 2) := by decide +kernel
theorem dM_copySheet_84 : decode prog_12_method_8_code 84 = .ok (.iload_n 1, 1) := by decide +kernel
theorem dM_copySheet_85 : decode prog_12_method_8_code 85 = .ok (.imul, 1) := by decide +kernel
theorem dM_copySheet_86 : decode prog_12_method_8_code 86 = .ok (.iload_n 3, 1) := by decide +kernel
theorem dM_copySheet_87 : decode prog_12_method_8_code 87 = .ok (.iadd, 1) := by decide +kernel
theorem dM_copySheet_88 : decode prog_12_method_8_code 88 = .ok (.iaload, 1) := by decide +kernel
theorem dM_copySheet_89 : decode prog_12_method_8_code 89 = .ok (.iastore, 1) := by decide +kernel
theorem dM_copySheet_90 : decode prog_12_method_8_code 90 = .ok (.iinc 3 1, 3) := by decide +kernel
theorem dM_copySheet_93 : decode prog_12_method_8_code 93 = .ok (.goto (-31), 3) := by decide +kernel
theorem dM_copySheet_96 : decode prog_12_method_8_code 96 = .ok (.return_, 1) := by decide +kernel
theorem dM_fileOf_0 : decode prog_12_method_9_code 0 = .ok (.iconst (-1), 1) := by decide +kernel
theorem dM_fileOf_1 : decode prog_12_method_9_code 1 = .ok (.istore_n 3, 1) := by decide +kernel
theorem dM_fileOf_2 : decode prog_12_method_9_code 2 = .ok (.iconst 0, 1) := by decide +kernel
theorem dM_fileOf_3 : decode prog_12_method_9_code 3 = .ok (.istore 4, 2) := by decide +kernel
theorem dM_fileOf_5 : decode prog_12_method_9_code 5 = .ok (.iload 4, 2) := by decide +kernel
theorem dM_fileOf_7 : decode prog_12_method_9_code 7 = .ok (.aload_n 0, 1) := by decide +kernel
theorem dM_fileOf_8 : decode prog_12_method_9_code 8 = .ok (.getfield 7, 3) := by decide +kernel
theorem dM_fileOf_11 : decode prog_12_method_9_code 11 = .ok (.iload_n 1, 1) := by decide +kernel
theorem dM_fileOf_12 : decode prog_12_method_9_code 12 = .ok (.iaload, 1) := by decide +kernel
theorem dM_fileOf_13 : decode prog_12_method_9_code 13 = .ok (.if_icmp .ge 41, 3) := by decide +kernel
theorem dM_fileOf_16 : decode prog_12_method_9_code 16 = .ok (.aload_n 0, 1) := by decide +kernel
theorem dM_fileOf_17 : decode prog_12_method_9_code 17 = .ok (.getfield 13, 3) := by decide +kernel
theorem dM_fileOf_20 : decode prog_12_method_9_code 20 = .ok (.bipush 24, 2) := by decide +kernel
theorem dM_fileOf_22 : decode prog_12_method_9_code 22 = .ok (.iload_n 1, 1) := by decide +kernel
theorem dM_fileOf_23 : decode prog_12_method_9_code 23 = .ok (.imul, 1) := by decide +kernel
theorem dM_fileOf_24 : decode prog_12_method_9_code 24 = .ok (.iconst 3, 1) := by decide +kernel
theorem dM_fileOf_25 : decode prog_12_method_9_code 25 = .ok (.iload 4, 2) := by decide +kernel
theorem dM_fileOf_27 : decode prog_12_method_9_code 27 = .ok (.imul, 1) := by decide +kernel
theorem dM_fileOf_28 : decode prog_12_method_9_code 28 = .ok (.iadd, 1) := by decide +kernel
theorem dM_fileOf_29 : decode prog_12_method_9_code 29 = .ok (.iaload, 1) := by decide +kernel
theorem dM_fileOf_30 : decode prog_12_method_9_code 30 = .ok (.iload_n 2, 1) := by decide +kernel
theorem dM_fileOf_31 : decode prog_12_method_9_code 31 = .ok (.if_icmp .ne 15, 3) := by decide +kernel
theorem dM_fileOf_34 : decode prog_12_method_9_code 34 = .ok (.bipush 24, 2) := by decide +kernel
theorem dM_fileOf_36 : decode prog_12_method_9_code 36 = .ok (.iload_n 1, 1) := by decide +kernel
theorem dM_fileOf_37 : decode prog_12_method_9_code 37 = .ok (.imul, 1) := by decide +kernel
theorem dM_fileOf_38 : decode prog_12_method_9_code 38 = .ok (.iconst 3, 1) := by decide +kernel
theorem dM_fileOf_39 : decode prog_12_method_9_code 39 = .ok (.iload 4, 2) := by decide +kernel
theorem dM_fileOf_41 : decode prog_12_method_9_code 41 = .ok (.imul, 1) := by decide +kernel
theorem dM_fileOf_42 : decode prog_12_method_9_code 42 = .ok (.iadd, 1) := by decide +kernel
theorem dM_fileOf_43 : decode prog_12_method_9_code 43 = .ok (.goto 4, 3) := by decide +kernel
theorem dM_fileOf_46 : decode prog_12_method_9_code 46 = .ok (.iload_n 3, 1) := by decide +kernel
theorem dM_fileOf_47 : decode prog_12_method_9_code 47 = .ok (.istore_n 3, 1) := by decide +kernel
theorem dM_fileOf_48 : decode prog_12_method_9_code 48 = .ok (.iinc 4 1, 3) := by decide +kernel
theorem dM_fileOf_51 : decode prog_12_method_9_code 51 = .ok (.goto (-46), 3) := by decide +kernel
theorem dM_fileOf_54 : decode prog_12_method_9_code 54 = .ok (.iload_n 3, 1) := by decide +kernel
theorem dM_fileOf_55 : decode prog_12_method_9_code 55 = .ok (.ireturn, 1) := by decide +kernel
theorem dM_described_0 : decode prog_12_method_10_code 0 = .ok (.iconst (-1), 1) := by decide +kernel
theorem dM_described_1 : decode prog_12_method_10_code 1 = .ok (.istore_n 3, 1) := by decide +kernel
theorem dM_described_2 : decode prog_12_method_10_code 2 = .ok (.iconst 0, 1) := by decide +kernel
theorem dM_described_3 : decode prog_12_method_10_code 3 = .ok (.istore 4, 2) := by decide +kernel
theorem dM_described_5 : decode prog_12_method_10_code 5 = .ok (.iload 4, 2) := by decide +kernel
theorem dM_described_7 : decode prog_12_method_10_code 7 = .ok (.aload_n 0, 1) := by decide +kernel
theorem dM_described_8 : decode prog_12_method_10_code 8 = .ok (.getfield 16, 3) := by decide +kernel
theorem dM_described_11 : decode prog_12_method_10_code 11 = .ok (.iload_n 1, 1) := by decide +kernel
theorem dM_described_12 : decode prog_12_method_10_code 12 = .ok (.iaload, 1) := by decide +kernel
theorem dM_described_13 : decode prog_12_method_10_code 13 = .ok (.if_icmp .ge 48, 3) := by decide +kernel
theorem dM_described_16 : decode prog_12_method_10_code 16 = .ok (.aload_n 0, 1) := by decide +kernel
theorem dM_described_17 : decode prog_12_method_10_code 17 = .ok (.getfield 19, 3) := by decide +kernel
theorem dM_described_20 : decode prog_12_method_10_code 20 = .ok (.bipush 8, 2) := by decide +kernel
theorem dM_described_22 : decode prog_12_method_10_code 22 = .ok (.iload_n 1, 1) := by decide +kernel
theorem dM_described_23 : decode prog_12_method_10_code 23 = .ok (.imul, 1) := by decide +kernel
theorem dM_described_24 : decode prog_12_method_10_code 24 = .ok (.iconst 2, 1) := by decide +kernel
theorem dM_described_25 : decode prog_12_method_10_code 25 = .ok (.iload 4, 2) := by decide +kernel
theorem dM_described_27 : decode prog_12_method_10_code 27 = .ok (.imul, 1) := by decide +kernel
theorem dM_described_28 : decode prog_12_method_10_code 28 = .ok (.iadd, 1) := by decide +kernel
theorem dM_described_29 : decode prog_12_method_10_code 29 = .ok (.iaload, 1) := by decide +kernel
theorem dM_described_30 : decode prog_12_method_10_code 30 = .ok (.iload_n 2, 1) := by decide +kernel
theorem dM_described_31 : decode prog_12_method_10_code 31 = .ok (.if_icmp .ne 22, 3) := by decide +kernel
theorem dM_described_34 : decode prog_12_method_10_code 34 = .ok (.aload_n 0, 1) := by decide +kernel
theorem dM_described_35 : decode prog_12_method_10_code 35 = .ok (.getfield 19, 3) := by decide +kernel
theorem dM_described_38 : decode prog_12_method_10_code 38 = .ok (.bipush 8, 2) := by decide +kernel
theorem dM_described_40 : decode prog_12_method_10_code 40 = .ok (.iload_n 1, 1) := by decide +kernel
theorem dM_described_41 : decode prog_12_method_10_code 41 = .ok (.imul, 1) := by decide +kernel
theorem dM_described_42 : decode prog_12_method_10_code 42 = .ok (.iconst 2, 1) := by decide +kernel
theorem dM_described_43 : decode prog_12_method_10_code 43 = .ok (.iload 4, 2) := by decide +kernel
theorem dM_described_45 : decode prog_12_method_10_code 45 = .ok (.imul, 1) := by decide +kernel
theorem dM_described_46 : decode prog_12_method_10_code 46 = .ok (.iadd, 1) := by decide +kernel
theorem dM_described_47 : decode prog_12_method_10_code 47 = .ok (.iconst 1, 1) := by decide +kernel
theorem dM_described_48 : decode prog_12_method_10_code 48 = .ok (.iadd, 1) := by decide +kernel
theorem dM_described_49 : decode prog_12_method_10_code 49 = .ok (.iaload, 1) := by decide +kernel
theorem dM_described_50 : decode prog_12_method_10_code 50 = .ok (.goto 4, 3) := by decide +kernel
theorem dM_described_53 : decode prog_12_method_10_code 53 = .ok (.iload_n 3, 1) := by decide +kernel
theorem dM_described_54 : decode prog_12_method_10_code 54 = .ok (.istore_n 3, 1) := by decide +kernel
theorem dM_described_55 : decode prog_12_method_10_code 55 = .ok (.iinc 4 1, 3) := by decide +kernel
theorem dM_described_58 : decode prog_12_method_10_code 58 = .ok (.goto (-53), 3) := by decide +kernel
theorem dM_described_61 : decode prog_12_method_10_code 61 = .ok (.iload_n 3, 1) := by decide +kernel
theorem dM_described_62 : decode prog_12_method_10_code 62 = .ok (.ireturn, 1) := by decide +kernel
theorem dM_alike_0 : decode prog_12_method_11_code 0 = .ok (.aload_n 0, 1) := by decide +kernel
theorem dM_alike_1 : decode prog_12_method_11_code 1 = .ok (.getfield 7, 3) := by decide +kernel
theorem dM_alike_4 : decode prog_12_method_11_code 4 = .ok (.iload_n 1, 1) := by decide +kernel
theorem dM_alike_5 : decode prog_12_method_11_code 5 = .ok (.iaload, 1) := by decide +kernel
theorem dM_alike_6 : decode prog_12_method_11_code 6 = .ok (.aload_n 0, 1) := by decide +kernel
theorem dM_alike_7 : decode prog_12_method_11_code 7 = .ok (.getfield 7, 3) := by decide +kernel
theorem dM_alike_10 : decode prog_12_method_11_code 10 = .ok (.iload_n 2, 1) := by decide +kernel
theorem dM_alike_11 : decode prog_12_method_11_code 11 = .ok (.iaload, 1) := by decide +kernel
theorem dM_alike_12 : decode prog_12_method_11_code 12 = .ok (.if_icmp .ne 22, 3) := by decide +kernel
theorem dM_alike_15 : decode prog_12_method_11_code 15 = .ok (.aload_n 0, 1) := by decide +kernel
theorem dM_alike_16 : decode prog_12_method_11_code 16 = .ok (.getfield 16, 3) := by decide +kernel
theorem dM_alike_19 : decode prog_12_method_11_code 19 = .ok (.iload_n 1, 1) := by decide +kernel
theorem dM_alike_20 : decode prog_12_method_11_code 20 = .ok (.iaload, 1) := by decide +kernel
theorem dM_alike_21 : decode prog_12_method_11_code 21 = .ok (.aload_n 0, 1) := by decide +kernel
theorem dM_alike_22 : decode prog_12_method_11_code 22 = .ok (.getfield 16, 3) := by decide +kernel
theorem dM_alike_25 : decode prog_12_method_11_code 25 = .ok (.iload_n 2, 1) := by decide +kernel
theorem dM_alike_26 : decode prog_12_method_11_code 26 = .ok (.iaload, 1) := by decide +kernel
theorem dM_alike_27 : decode prog_12_method_11_code 27 = .ok (.if_icmp .ne 7, 3) := by decide +kernel
theorem dM_alike_30 : decode prog_12_method_11_code 30 = .ok (.iconst 1, 1) := by decide +kernel
theorem dM_alike_31 : decode prog_12_method_11_code 31 = .ok (.goto 4, 3) := by decide +kernel
theorem dM_alike_34 : decode prog_12_method_11_code 34 = .ok (.iconst 0, 1) := by decide +kernel
theorem dM_alike_35 : decode prog_12_method_11_code 35 = .ok (.istore_n 3, 1) := by decide +kernel
theorem dM_alike_36 : decode prog_12_method_11_code 36 = .ok (.iconst 0, 1) := by decide +kernel
theorem dM_alike_37 : decode prog_12_method_11_code 37 = .ok (.istore 4, 2) := by decide +kernel
theorem dM_alike_39 : decode prog_12_method_11_code 39 = .ok (.iload 4, 2) := by decide +kernel
theorem dM_alike_41 : decode prog_12_method_11_code 41 = .ok (.aload_n 0, 1) := by decide +kernel
theorem dM_alike_42 : decode prog_12_method_11_code 42 = .ok (.getfield 7, 3) := by decide +kernel
theorem dM_alike_45 : decode prog_12_method_11_code 45 = .ok (.iload_n 1, 1) := by decide +kernel
theorem dM_alike_46 : decode prog_12_method_11_code 46 = .ok (.iaload, 1) := by decide +kernel
theorem dM_alike_47 : decode prog_12_method_11_code 47 = .ok (.if_icmp .ge 91, 3) := by decide +kernel
theorem dM_alike_50 : decode prog_12_method_11_code 50 = .ok (.iload_n 3, 1) := by decide +kernel
theorem dM_alike_51 : decode prog_12_method_11_code 51 = .ok (.ifCond .eq 87, 3) := by decide +kernel
theorem dM_alike_54 : decode prog_12_method_11_code 54 = .ok (.bipush 24, 2) := by decide +kernel
theorem dM_alike_56 : decode prog_12_method_11_code 56 = .ok (.iload_n 1, 1) := by decide +kernel
theorem dM_alike_57 : decode prog_12_method_11_code 57 = .ok (.imul, 1) := by decide +kernel
theorem dM_alike_58 : decode prog_12_method_11_code 58 = .ok (.iconst 3, 1) := by decide +kernel
theorem dM_alike_59 : decode prog_12_method_11_code 59 = .ok (.iload 4, 2) := by decide +kernel
theorem dM_alike_61 : decode prog_12_method_11_code 61 = .ok (.imul, 1) := by decide +kernel
theorem dM_alike_62 : decode prog_12_method_11_code 62 = .ok (.iadd, 1) := by decide +kernel
theorem dM_alike_63 : decode prog_12_method_11_code 63 = .ok (.istore 5, 2) := by decide +kernel
theorem dM_alike_65 : decode prog_12_method_11_code 65 = .ok (.aload_n 0, 1) := by decide +kernel
theorem dM_alike_66 : decode prog_12_method_11_code 66 = .ok (.iload_n 2, 1) := by decide +kernel
theorem dM_alike_67 : decode prog_12_method_11_code 67 = .ok (.aload_n 0, 1) := by decide +kernel
theorem dM_alike_68 : decode prog_12_method_11_code 68 = .ok (.getfield 13, 3) := by decide +kernel
theorem dM_alike_71 : decode prog_12_method_11_code 71 = .ok (.iload 5, 2) := by decide +kernel
theorem dM_alike_73 : decode prog_12_method_11_code 73 = .ok (.iaload, 1) := by decide +kernel
theorem dM_alike_74 : decode prog_12_method_11_code 74 = .ok (.invokevirtual 114, 3) := by decide +kernel
theorem dM_alike_77 : decode prog_12_method_11_code 77 = .ok (.istore 6, 2) := by decide +kernel
theorem dM_alike_79 : decode prog_12_method_11_code 79 = .ok (.iload 6, 2) := by decide +kernel
theorem dM_alike_81 : decode prog_12_method_11_code 81 = .ok (.ifCond .lt 49, 3) := by decide +kernel
theorem dM_alike_84 : decode prog_12_method_11_code 84 = .ok (.aload_n 0, 1) := by decide +kernel
theorem dM_alike_85 : decode prog_12_method_11_code 85 = .ok (.getfield 13, 3) := by decide +kernel
theorem dM_alike_88 : decode prog_12_method_11_code 88 = .ok (.iload 6, 2) := by decide +kernel
theorem dM_alike_90 : decode prog_12_method_11_code 90 = .ok (.iconst 1, 1) := by decide +kernel
theorem dM_alike_91 : decode prog_12_method_11_code 91 = .ok (.iadd, 1) := by decide +kernel
theorem dM_alike_92 : decode prog_12_method_11_code 92 = .ok (.iaload, 1) := by decide +kernel
theorem dM_alike_93 : decode prog_12_method_11_code 93 = .ok (.aload_n 0, 1) := by decide +kernel
theorem dM_alike_94 : decode prog_12_method_11_code 94 = .ok (.getfield 13, 3) := by decide +kernel
theorem dM_alike_97 : decode prog_12_method_11_code 97 = .ok (.iload 5, 2) := by decide +kernel
theorem dM_alike_99 : decode prog_12_method_11_code 99 = .ok (.iconst 1, 1) := by decide +kernel
theorem dM_alike_100 : decode prog_12_method_11_code 100 = .ok (.iadd, 1) := by decide +kernel
theorem dM_alike_101 : decode prog_12_method_11_code 101 = .ok (.iaload, 1) := by decide +kernel
theorem dM_alike_102 : decode prog_12_method_11_code 102 = .ok (.if_icmp .ne 28, 3) := by decide +kernel
theorem dM_alike_105 : decode prog_12_method_11_code 105 = .ok (.aload_n 0, 1) := by decide +kernel
theorem dM_alike_106 : decode prog_12_method_11_code 106 = .ok (.getfield 13, 3) := by decide +kernel
theorem dM_alike_109 : decode prog_12_method_11_code 109 = .ok (.iload 6, 2) := by decide +kernel
theorem dM_alike_111 : decode prog_12_method_11_code 111 = .ok (.iconst 2, 1) := by decide +kernel
theorem dM_alike_112 : decode prog_12_method_11_code 112 = .ok (.iadd, 1) := by decide +kernel
theorem dM_alike_113 : decode prog_12_method_11_code 113 = .ok (.iaload, 1) := by decide +kernel
theorem dM_alike_114 : decode prog_12_method_11_code 114 = .ok (.aload_n 0, 1) := by decide +kernel
theorem dM_alike_115 : decode prog_12_method_11_code 115 = .ok (.getfield 13, 3) := by decide +kernel
theorem dM_alike_118 : decode prog_12_method_11_code 118 = .ok (.iload 5, 2) := by decide +kernel
theorem dM_alike_120 : decode prog_12_method_11_code 120 = .ok (.iconst 2, 1) := by decide +kernel
theorem dM_alike_121 : decode prog_12_method_11_code 121 = .ok (.iadd, 1) := by decide +kernel
theorem dM_alike_122 : decode prog_12_method_11_code 122 = .ok (.iaload, 1) := by decide +kernel
theorem dM_alike_123 : decode prog_12_method_11_code 123 = .ok (.if_icmp .ne 7, 3) := by decide +kernel
theorem dM_alike_126 : decode prog_12_method_11_code 126 = .ok (.iconst 1, 1) := by decide +kernel
theorem dM_alike_127 : decode prog_12_method_11_code 127 = .ok (.goto 4, 3) := by decide +kernel
theorem dM_alike_130 : decode prog_12_method_11_code 130 = .ok (.iconst 0, 1) := by decide +kernel
theorem dM_alike_131 : decode prog_12_method_11_code 131 = .ok (.istore_n 3, 1) := by decide +kernel
theorem dM_alike_132 : decode prog_12_method_11_code 132 = .ok (.iinc 4 1, 3) := by decide +kernel
theorem dM_alike_135 : decode prog_12_method_11_code 135 = .ok (.goto (-96), 3) := by decide +kernel
theorem dM_alike_138 : decode prog_12_method_11_code 138 = .ok (.iconst 0, 1) := by decide +kernel
theorem dM_alike_139 : decode prog_12_method_11_code 139 = .ok (.istore 4, 2) := by decide +kernel
theorem dM_alike_141 : decode prog_12_method_11_code 141 = .ok (.iload 4, 2) := by decide +kernel
theorem dM_alike_143 : decode prog_12_method_11_code 143 = .ok (.aload_n 0, 1) := by decide +kernel
theorem dM_alike_144 : decode prog_12_method_11_code 144 = .ok (.getfield 16, 3) := by decide +kernel
theorem dM_alike_147 : decode prog_12_method_11_code 147 = .ok (.iload_n 1, 1) := by decide +kernel
theorem dM_alike_148 : decode prog_12_method_11_code 148 = .ok (.iaload, 1) := by decide +kernel
theorem dM_alike_149 : decode prog_12_method_11_code 149 = .ok (.if_icmp .ge 57, 3) := by decide +kernel
theorem dM_alike_152 : decode prog_12_method_11_code 152 = .ok (.iload_n 3, 1) := by decide +kernel
theorem dM_alike_153 : decode prog_12_method_11_code 153 = .ok (.ifCond .eq 53, 3) := by decide +kernel
theorem dM_alike_156 : decode prog_12_method_11_code 156 = .ok (.aload_n 0, 1) := by decide +kernel
theorem dM_alike_157 : decode prog_12_method_11_code 157 = .ok (.iload_n 2, 1) := by decide +kernel
theorem dM_alike_158 : decode prog_12_method_11_code 158 = .ok (.aload_n 0, 1) := by decide +kernel
theorem dM_alike_159 : decode prog_12_method_11_code 159 = .ok (.getfield 19, 3) := by decide +kernel
theorem dM_alike_162 : decode prog_12_method_11_code 162 = .ok (.bipush 8, 2) := by decide +kernel
theorem dM_alike_164 : decode prog_12_method_11_code 164 = .ok (.iload_n 1, 1) := by decide +kernel
theorem dM_alike_165 : decode prog_12_method_11_code 165 = .ok (.imul, 1) := by decide +kernel
theorem dM_alike_166 : decode prog_12_method_11_code 166 = .ok (.iconst 2, 1) := by decide +kernel
theorem dM_alike_167 : decode prog_12_method_11_code 167 = .ok (.iload 4, 2) := by decide +kernel
theorem dM_alike_169 : decode prog_12_method_11_code 169 = .ok (.imul, 1) := by decide +kernel
theorem dM_alike_170 : decode prog_12_method_11_code 170 = .ok (.iadd, 1) := by decide +kernel
theorem dM_alike_171 : decode prog_12_method_11_code 171 = .ok (.iaload, 1) := by decide +kernel
theorem dM_alike_172 : decode prog_12_method_11_code 172 = .ok (.invokevirtual 118, 3) := by decide +kernel
theorem dM_alike_175 : decode prog_12_method_11_code 175 = .ok (.aload_n 0, 1) := by decide +kernel
theorem dM_alike_176 : decode prog_12_method_11_code 176 = .ok (.getfield 19, 3) := by decide +kernel
theorem dM_alike_179 : decode prog_12_method_11_code 179 = .ok (.bipush 8, 2) := by decide +kernel
theorem dM_alike_181 : decode prog_12_method_11_code 181 = .ok (.iload_n 1, 1) := by decide +kernel
theorem dM_alike_182 : decode prog_12_method_11_code 182 = .ok (.imul, 1) := by decide +kernel
theorem dM_alike_183 : decode prog_12_method_11_code 183 = .ok (.iconst 2, 1) := by decide +kernel
theorem dM_alike_184 : decode prog_12_method_11_code 184 = .ok (.iload 4, 2) := by decide +kernel
theorem dM_alike_186 : decode prog_12_method_11_code 186 = .ok (.imul, 1) := by decide +kernel
theorem dM_alike_187 : decode prog_12_method_11_code 187 = .ok (.iadd, 1) := by decide +kernel
theorem dM_alike_188 : decode prog_12_method_11_code 188 = .ok (.iconst 1, 1) := by decide +kernel
theorem dM_alike_189 : decode prog_12_method_11_code 189 = .ok (.iadd, 1) := by decide +kernel
theorem dM_alike_190 : decode prog_12_method_11_code 190 = .ok (.iaload, 1) := by decide +kernel
theorem dM_alike_191 : decode prog_12_method_11_code 191 = .ok (.if_icmp .ne 7, 3) := by decide +kernel
theorem dM_alike_194 : decode prog_12_method_11_code 194 = .ok (.iconst 1, 1) := by decide +kernel
theorem dM_alike_195 : decode prog_12_method_11_code 195 = .ok (.goto 4, 3) := by decide +kernel
theorem dM_alike_198 : decode prog_12_method_11_code 198 = .ok (.iconst 0, 1) := by decide +kernel
theorem dM_alike_199 : decode prog_12_method_11_code 199 = .ok (.istore_n 3, 1) := by decide +kernel
theorem dM_alike_200 : decode prog_12_method_11_code 200 = .ok (.iinc 4 1, 3) := by decide +kernel
theorem dM_alike_203 : decode prog_12_method_11_code 203 = .ok (.goto (-62), 3) := by decide +kernel
theorem dM_alike_206 : decode prog_12_method_11_code 206 = .ok (.iload_n 3, 1) := by decide +kernel
theorem dM_alike_207 : decode prog_12_method_11_code 207 = .ok (.ireturn, 1) := by decide +kernel
theorem dM_freeLoader_0 : decode prog_12_method_12_code 0 = .ok (.iconst 1, 1) := by decide +kernel
theorem dM_freeLoader_1 : decode prog_12_method_12_code 1 = .ok (.istore_n 1, 1) := by decide +kernel
theorem dM_freeLoader_2 : decode prog_12_method_12_code 2 = .ok (.iload_n 1, 1) := by decide +kernel
theorem dM_freeLoader_3 : decode prog_12_method_12_code 3 = .ok (.bipush 41, 2) := by decide +kernel
theorem dM_freeLoader_5 : decode prog_12_method_12_code 5 = .ok (.if_icmp .ge 18, 3) := by decide +kernel
theorem dM_freeLoader_8 : decode prog_12_method_12_code 8 = .ok (.aload_n 0, 1) := by decide +kernel
theorem dM_freeLoader_9 : decode prog_12_method_12_code 9 = .ok (.getfield 22, 3) := by decide +kernel
theorem dM_freeLoader_12 : decode prog_12_method_12_code 12 = .ok (.iload_n 1, 1) := by decide +kernel
theorem dM_freeLoader_13 : decode prog_12_method_12_code 13 = .ok (.baload, 1) := by decide +kernel
theorem dM_freeLoader_14 : decode prog_12_method_12_code 14 = .ok (.ifCond .eq 9, 3) := by decide +kernel
theorem dM_freeLoader_17 : decode prog_12_method_12_code 17 = .ok (.iinc 1 1, 3) := by decide +kernel
theorem dM_freeLoader_20 : decode prog_12_method_12_code 20 = .ok (.goto (-18), 3) := by decide +kernel
theorem dM_freeLoader_23 : decode prog_12_method_12_code 23 = .ok (.iload_n 1, 1) := by decide +kernel
theorem dM_freeLoader_24 : decode prog_12_method_12_code 24 = .ok (.ireturn, 1) := by decide +kernel
theorem dM_freeLoaders_0 : decode prog_12_method_13_code 0 = .ok (.iconst 0, 1) := by decide +kernel
theorem dM_freeLoaders_1 : decode prog_12_method_13_code 1 = .ok (.istore_n 1, 1) := by decide +kernel
theorem dM_freeLoaders_2 : decode prog_12_method_13_code 2 = .ok (.iconst 1, 1) := by decide +kernel
theorem dM_freeLoaders_3 : decode prog_12_method_13_code 3 = .ok (.istore_n 2, 1) := by decide +kernel
theorem dM_freeLoaders_4 : decode prog_12_method_13_code 4 = .ok (.iload_n 2, 1) := by decide +kernel
theorem dM_freeLoaders_5 : decode prog_12_method_13_code 5 = .ok (.bipush 41, 2) := by decide +kernel
theorem dM_freeLoaders_7 : decode prog_12_method_13_code 7 = .ok (.if_icmp .ge 26, 3) := by decide +kernel
theorem dM_freeLoaders_10 : decode prog_12_method_13_code 10 = .ok (.aload_n 0, 1) := by decide +kernel
theorem dM_freeLoaders_11 : decode prog_12_method_13_code 11 = .ok (.getfield 22, 3) := by decide +kernel
theorem dM_freeLoaders_14 : decode prog_12_method_13_code 14 = .ok (.iload_n 2, 1) := by decide +kernel
theorem dM_freeLoaders_15 : decode prog_12_method_13_code 15 = .ok (.baload, 1) := by decide +kernel
theorem dM_freeLoaders_16 : decode prog_12_method_13_code 16 = .ok (.ifCond .eq 7, 3) := by decide +kernel
theorem dM_freeLoaders_19 : decode prog_12_method_13_code 19 = .ok (.iload_n 1, 1) := by decide +kernel
theorem dM_freeLoaders_20 : decode prog_12_method_13_code 20 = .ok (.goto 6, 3) := by decide +kernel
theorem dM_freeLoaders_23 : decode prog_12_method_13_code 23 = .ok (.iload_n 1, 1) := by decide +kernel
theorem dM_freeLoaders_24 : decode prog_12_method_13_code 24 = .ok (.iconst 1, 1) := by decide +kernel
theorem dM_freeLoaders_25 : decode prog_12_method_13_code 25 = .ok (.iadd, 1) := by decide +kernel
theorem dM_freeLoaders_26 : decode prog_12_method_13_code 26 = .ok (.istore_n 1, 1) := by decide +kernel
theorem dM_freeLoaders_27 : decode prog_12_method_13_code 27 = .ok (.iinc 2 1, 3) := by decide +kernel
theorem dM_freeLoaders_30 : decode prog_12_method_13_code 30 = .ok (.goto (-26), 3) := by decide +kernel
theorem dM_freeLoaders_33 : decode prog_12_method_13_code 33 = .ok (.iload_n 1, 1) := by decide +kernel
theorem dM_freeLoaders_34 : decode prog_12_method_13_code 34 = .ok (.ireturn, 1) := by decide +kernel
theorem dM_begin_0 : decode prog_12_method_14_code 0 = .ok (.aload_n 0, 1) := by decide +kernel
theorem dM_begin_1 : decode prog_12_method_14_code 1 = .ok (.invokevirtual 121, 3) := by decide +kernel
theorem dM_begin_4 : decode prog_12_method_14_code 4 = .ok (.istore_n 3, 1) := by decide +kernel
theorem dM_begin_5 : decode prog_12_method_14_code 5 = .ok (.aload_n 0, 1) := by decide +kernel
theorem dM_begin_6 : decode prog_12_method_14_code 6 = .ok (.getfield 22, 3) := by decide +kernel
theorem dM_begin_9 : decode prog_12_method_14_code 9 = .ok (.iload_n 3, 1) := by decide +kernel
theorem dM_begin_10 : decode prog_12_method_14_code 10 = .ok (.iconst 1, 1) := by decide +kernel
theorem dM_begin_11 : decode prog_12_method_14_code 11 = .ok (.bastore, 1) := by decide +kernel
theorem dM_begin_12 : decode prog_12_method_14_code 12 = .ok (.aload_n 0, 1) := by decide +kernel
theorem dM_begin_13 : decode prog_12_method_14_code 13 = .ok (.getfield 26, 3) := by decide +kernel
theorem dM_begin_16 : decode prog_12_method_14_code 16 = .ok (.iload_n 3, 1) := by decide +kernel
theorem dM_begin_17 : decode prog_12_method_14_code 17 = .ok (.iload_n 1, 1) := by decide +kernel
theorem dM_begin_18 : decode prog_12_method_14_code 18 = .ok (.iastore, 1) := by decide +kernel
theorem dM_begin_19 : decode prog_12_method_14_code 19 = .ok (.aload_n 0, 1) := by decide +kernel
theorem dM_begin_20 : decode prog_12_method_14_code 20 = .ok (.getfield 29, 3) := by decide +kernel
theorem dM_begin_23 : decode prog_12_method_14_code 23 = .ok (.iload_n 3, 1) := by decide +kernel
theorem dM_begin_24 : decode prog_12_method_14_code 24 = .ok (.iload_n 2, 1) := by decide +kernel
theorem dM_begin_25 : decode prog_12_method_14_code 25 = .ok (.iastore, 1) := by decide +kernel
theorem dM_begin_26 : decode prog_12_method_14_code 26 = .ok (.aload_n 0, 1) := by decide +kernel
theorem dM_begin_27 : decode prog_12_method_14_code 27 = .ok (.getfield 32, 3) := by decide +kernel
theorem dM_begin_30 : decode prog_12_method_14_code 30 = .ok (.iload_n 3, 1) := by decide +kernel
theorem dM_begin_31 : decode prog_12_method_14_code 31 = .ok (.iconst 0, 1) := by decide +kernel
theorem dM_begin_32 : decode prog_12_method_14_code 32 = .ok (.iastore, 1) := by decide +kernel
theorem dM_begin_33 : decode prog_12_method_14_code 33 = .ok (.iload_n 3, 1) := by decide +kernel
theorem dM_begin_34 : decode prog_12_method_14_code 34 = .ok (.ireturn, 1) := by decide +kernel
theorem dM_defining_0 : decode prog_12_method_15_code 0 = .ok (.aload_n 0, 1) := by decide +kernel
theorem dM_defining_1 : decode prog_12_method_15_code 1 = .ok (.getfield 58, 3) := by decide +kernel
theorem dM_defining_4 : decode prog_12_method_15_code 4 = .ok (.iconst 2, 1) := by decide +kernel
theorem dM_defining_5 : decode prog_12_method_15_code 5 = .ok (.iload_n 1, 1) := by decide +kernel
theorem dM_defining_6 : decode prog_12_method_15_code 6 = .ok (.imul, 1) := by decide +kernel
theorem dM_defining_7 : decode prog_12_method_15_code 7 = .ok (.iload_n 2, 1) := by decide +kernel
theorem dM_defining_8 : decode prog_12_method_15_code 8 = .ok (.iadd, 1) := by decide +kernel
theorem dM_defining_9 : decode prog_12_method_15_code 9 = .ok (.iaload, 1) := by decide +kernel
theorem dM_defining_10 : decode prog_12_method_15_code 10 = .ok (.istore 4, 2) := by decide +kernel
theorem dM_defining_12 : decode prog_12_method_15_code 12 = .ok (.bipush 8, 2) := by decide +kernel
theorem dM_defining_14 : decode prog_12_method_15_code 14 = .ok (.iload_n 1, 1) := by decide +kernel
theorem dM_defining_15 : decode prog_12_method_15_code 15 = .ok (.imul, 1) := by decide +kernel
theorem dM_defining_16 : decode prog_12_method_15_code 16 = .ok (.iconst 4, 1) := by decide +kernel
theorem dM_defining_17 : decode prog_12_method_15_code 17 = .ok (.iload_n 2, 1) := by decide +kernel
theorem dM_defining_18 : decode prog_12_method_15_code 18 = .ok (.imul, 1) := by decide +kernel
theorem dM_defining_19 : decode prog_12_method_15_code 19 = .ok (.iadd, 1) := by decide +kernel
theorem dM_defining_20 : decode prog_12_method_15_code 20 = .ok (.istore 5, 2) := by decide +kernel
theorem dM_defining_22 : decode prog_12_method_15_code 22 = .ok (.iload 4, 2) := by decide +kernel
theorem dM_defining_24 : decode prog_12_method_15_code 24 = .ok (.ifCond .ne 5, 3) := by decide +kernel
theorem dM_defining_27 : decode prog_12_method_15_code 27 = .ok (.iload_n 3, 1) := by decide +kernel
theorem dM_defining_28 : decode prog_12_method_15_code 28 = .ok (.ireturn, 1) := by decide +kernel
theorem dM_defining_29 : decode prog_12_method_15_code 29 = .ok (.iconst 1, 1) := by decide +kernel
theorem dM_defining_30 : decode prog_12_method_15_code 30 = .ok (.istore 6, 2) := by decide +kernel
theorem dM_defining_32 : decode prog_12_method_15_code 32 = .ok (.iload 6, 2) := by decide +kernel
theorem dM_defining_34 : decode prog_12_method_15_code 34 = .ok (.bipush 41, 2) := by decide +kernel
theorem dM_defining_36 : decode prog_12_method_15_code 36 = .ok (.if_icmp .ge 115, 3) := by decide +kernel
theorem dM_defining_39 : decode prog_12_method_15_code 39 = .ok (.aload_n 0, 1) := by decide +kernel
theorem dM_defining_40 : decode prog_12_method_15_code 40 = .ok (.getfield 22, 3) := by decide +kernel
theorem dM_defining_43 : decode prog_12_method_15_code 43 = .ok (.iload 6, 2) := by decide +kernel
theorem dM_defining_45 : decode prog_12_method_15_code 45 = .ok (.baload, 1) := by decide +kernel
theorem dM_defining_46 : decode prog_12_method_15_code 46 = .ok (.ifCond .eq 41, 3) := by decide +kernel
theorem dM_defining_49 : decode prog_12_method_15_code 49 = .ok (.aload_n 0, 1) := by decide +kernel
theorem dM_defining_50 : decode prog_12_method_15_code 50 = .ok (.getfield 26, 3) := by decide +kernel
theorem dM_defining_53 : decode prog_12_method_15_code 53 = .ok (.iload 6, 2) := by decide +kernel
theorem dM_defining_55 : decode prog_12_method_15_code 55 = .ok (.iaload, 1) := by decide +kernel
theorem dM_defining_56 : decode prog_12_method_15_code 56 = .ok (.iconst 1, 1) := by decide +kernel
theorem dM_defining_57 : decode prog_12_method_15_code 57 = .ok (.if_icmp .ne 30, 3) := by decide +kernel
theorem dM_defining_60 : decode prog_12_method_15_code 60 = .ok (.aload_n 0, 1) := by decide +kernel
theorem dM_defining_61 : decode prog_12_method_15_code 61 = .ok (.getfield 29, 3) := by decide +kernel
theorem dM_defining_64 : decode prog_12_method_15_code 64 = .ok (.iload 6, 2) := by decide +kernel
theorem dM_defining_66 : decode prog_12_method_15_code 66 = .ok (.iaload, 1) := by decide +kernel
theorem dM_defining_67 : decode prog_12_method_15_code 67 = .ok (.iload_n 3, 1) := by decide +kernel
theorem dM_defining_68 : decode prog_12_method_15_code 68 = .ok (.if_icmp .ne 19, 3) := by decide +kernel
theorem dM_defining_71 : decode prog_12_method_15_code 71 = .ok (.aload_n 0, 1) := by decide +kernel
theorem dM_defining_72 : decode prog_12_method_15_code 72 = .ok (.getfield 32, 3) := by decide +kernel
theorem dM_defining_75 : decode prog_12_method_15_code 75 = .ok (.iload 6, 2) := by decide +kernel
theorem dM_defining_77 : decode prog_12_method_15_code 77 = .ok (.iaload, 1) := by decide +kernel
theorem dM_defining_78 : decode prog_12_method_15_code 78 = .ok (.iload 4, 2) := by decide +kernel
theorem dM_defining_80 : decode prog_12_method_15_code 80 = .ok (.if_icmp .ne 7, 3) := by decide +kernel
theorem dM_defining_83 : decode prog_12_method_15_code 83 = .ok (.iconst 1, 1) := by decide +kernel
theorem dM_defining_84 : decode prog_12_method_15_code 84 = .ok (.goto 4, 3) := by decide +kernel
theorem dM_defining_87 : decode prog_12_method_15_code 87 = .ok (.iconst 0, 1) := by decide +kernel
theorem dM_defining_88 : decode prog_12_method_15_code 88 = .ok (.istore 7, 2) := by decide +kernel
theorem dM_defining_90 : decode prog_12_method_15_code 90 = .ok (.iconst 0, 1) := by decide +kernel
theorem dM_defining_91 : decode prog_12_method_15_code 91 = .ok (.istore 8, 2) := by decide +kernel
theorem dM_defining_93 : decode prog_12_method_15_code 93 = .ok (.iload 8, 2) := by decide +kernel
theorem dM_defining_95 : decode prog_12_method_15_code 95 = .ok (.iload 4, 2) := by decide +kernel
theorem dM_defining_97 : decode prog_12_method_15_code 97 = .ok (.if_icmp .ge 40, 3) := by decide +kernel
theorem dM_defining_100 : decode prog_12_method_15_code 100 = .ok (.iload 7, 2) := by decide +kernel
theorem dM_defining_102 : decode prog_12_method_15_code 102 = .ok (.ifCond .eq 35, 3) := by decide +kernel
theorem dM_defining_105 : decode prog_12_method_15_code 105 = .ok (.aload_n 0, 1) := by decide +kernel
theorem dM_defining_106 : decode prog_12_method_15_code 106 = .ok (.aload_n 0, 1) := by decide +kernel
theorem dM_defining_107 : decode prog_12_method_15_code 107 = .ok (.getfield 55, 3) := by decide +kernel
theorem dM_defining_110 : decode prog_12_method_15_code 110 = .ok (.iload 5, 2) := by decide +kernel
theorem dM_defining_112 : decode prog_12_method_15_code 112 = .ok (.iload 8, 2) := by decide +kernel
theorem dM_defining_114 : decode prog_12_method_15_code 114 = .ok (.iadd, 1) := by decide +kernel
theorem dM_defining_115 : decode prog_12_method_15_code 115 = .ok (.iaload, 1) := by decide +kernel
theorem dM_defining_116 : decode prog_12_method_15_code 116 = .ok (.bipush 10, 2) := by decide +kernel
theorem dM_defining_118 : decode prog_12_method_15_code 118 = .ok (.iconst 4, 1) := by decide +kernel
theorem dM_defining_119 : decode prog_12_method_15_code 119 = .ok (.iload 6, 2) := by decide +kernel
theorem dM_defining_121 : decode prog_12_method_15_code 121 = .ok (.imul, 1) := by decide +kernel
theorem dM_defining_122 : decode prog_12_method_15_code 122 = .ok (.iadd, 1) := by decide +kernel
theorem dM_defining_123 : decode prog_12_method_15_code 123 = .ok (.iload 8, 2) := by decide +kernel
theorem dM_defining_125 : decode prog_12_method_15_code 125 = .ok (.iadd, 1) := by decide +kernel
theorem dM_defining_126 : decode prog_12_method_15_code 126 = .ok (.invokevirtual 125, 3) := by decide +kernel
theorem dM_defining_129 : decode prog_12_method_15_code 129 = .ok (.istore 7, 2) := by decide +kernel
theorem dM_defining_131 : decode prog_12_method_15_code 131 = .ok (.iinc 8 1, 3) := by decide +kernel
theorem dM_defining_134 : decode prog_12_method_15_code 134 = .ok (.goto (-41), 3) := by decide +kernel
theorem dM_defining_137 : decode prog_12_method_15_code 137 = .ok (.iload 7, 2) := by decide +kernel
theorem dM_defining_139 : decode prog_12_method_15_code 139 = .ok (.ifCond .eq 6, 3) := by decide +kernel
theorem dM_defining_142 : decode prog_12_method_15_code 142 = .ok (.iload 6, 2) := by decide +kernel
theorem dM_defining_144 : decode prog_12_method_15_code 144 = .ok (.ireturn, 1) := by decide +kernel
theorem dM_defining_145 : decode prog_12_method_15_code 145 = .ok (.iinc 6 1, 3) := by decide +kernel
theorem dM_defining_148 : decode prog_12_method_15_code 148 = .ok (.goto (-116), 3) := by decide +kernel
theorem dM_defining_151 : decode prog_12_method_15_code 151 = .ok (.aload_n 0, 1) := by decide +kernel
theorem dM_defining_152 : decode prog_12_method_15_code 152 = .ok (.iconst 1, 1) := by decide +kernel
theorem dM_defining_153 : decode prog_12_method_15_code 153 = .ok (.iload_n 3, 1) := by decide +kernel
theorem dM_defining_154 : decode prog_12_method_15_code 154 = .ok (.invokevirtual 129, 3) := by decide +kernel
theorem dM_defining_157 : decode prog_12_method_15_code 157 = .ok (.istore 6, 2) := by decide +kernel
theorem dM_defining_159 : decode prog_12_method_15_code 159 = .ok (.aload_n 0, 1) := by decide +kernel
theorem dM_defining_160 : decode prog_12_method_15_code 160 = .ok (.getfield 32, 3) := by decide +kernel
theorem dM_defining_163 : decode prog_12_method_15_code 163 = .ok (.iload 6, 2) := by decide +kernel
theorem dM_defining_165 : decode prog_12_method_15_code 165 = .ok (.iload 4, 2) := by decide +kernel
theorem dM_defining_167 : decode prog_12_method_15_code 167 = .ok (.iastore, 1) := by decide +kernel
theorem dM_defining_168 : decode prog_12_method_15_code 168 = .ok (.iconst 0, 1) := by decide +kernel
theorem dM_defining_169 : decode prog_12_method_15_code 169 = .ok (.istore 7, 2) := by decide +kernel
theorem dM_defining_171 : decode prog_12_method_15_code 171 = .ok (.iload 7, 2) := by decide +kernel
theorem dM_defining_173 : decode prog_12_method_15_code 173 = .ok (.iload 4, 2) := by decide +kernel
theorem dM_defining_175 : decode prog_12_method_15_code 175 = .ok (.if_icmp .ge 33, 3) := by decide +kernel
theorem dM_defining_178 : decode prog_12_method_15_code 178 = .ok (.aload_n 0, 1) := by decide +kernel
theorem dM_defining_179 : decode prog_12_method_15_code 179 = .ok (.aload_n 0, 1) := by decide +kernel
theorem dM_defining_180 : decode prog_12_method_15_code 180 = .ok (.getfield 55, 3) := by decide +kernel
theorem dM_defining_183 : decode prog_12_method_15_code 183 = .ok (.iload 5, 2) := by decide +kernel
theorem dM_defining_185 : decode prog_12_method_15_code 185 = .ok (.iload 7, 2) := by decide +kernel
theorem dM_defining_187 : decode prog_12_method_15_code 187 = .ok (.iadd, 1) := by decide +kernel
theorem dM_defining_188 : decode prog_12_method_15_code 188 = .ok (.iaload, 1) := by decide +kernel
theorem dM_defining_189 : decode prog_12_method_15_code 189 = .ok (.bipush 10, 2) := by decide +kernel
theorem dM_defining_191 : decode prog_12_method_15_code 191 = .ok (.iconst 4, 1) := by decide +kernel
theorem dM_defining_192 : decode prog_12_method_15_code 192 = .ok (.iload 6, 2) := by decide +kernel
theorem dM_defining_194 : decode prog_12_method_15_code 194 = .ok (.imul, 1) := by decide +kernel
theorem dM_defining_195 : decode prog_12_method_15_code 195 = .ok (.iadd, 1) := by decide +kernel
theorem dM_defining_196 : decode prog_12_method_15_code 196 = .ok (.iload 7, 2) := by decide +kernel
theorem dM_defining_198 : decode prog_12_method_15_code 198 = .ok (.iadd, 1) := by decide +kernel
theorem dM_defining_199 : decode prog_12_method_15_code 199 = .ok (.invokevirtual 132, 3) := by decide +kernel
theorem dM_defining_202 : decode prog_12_method_15_code 202 = .ok (.iinc 7 1, 3) := by decide +kernel
theorem dM_defining_205 : decode prog_12_method_15_code 205 = .ok (.goto (-34), 3) := by decide +kernel
theorem dM_defining_208 : decode prog_12_method_15_code 208 = .ok (.iload 6, 2) := by decide +kernel
theorem dM_defining_210 : decode prog_12_method_15_code 210 = .ok (.ireturn, 1) := by decide +kernel
theorem dM_filtering_0 : decode prog_12_method_16_code 0 = .ok (.aload_n 0, 1) := by decide +kernel
theorem dM_filtering_1 : decode prog_12_method_16_code 1 = .ok (.getfield 61, 3) := by decide +kernel
theorem dM_filtering_4 : decode prog_12_method_16_code 4 = .ok (.iload_n 1, 1) := by decide +kernel
theorem dM_filtering_5 : decode prog_12_method_16_code 5 = .ok (.baload, 1) := by decide +kernel
theorem dM_filtering_6 : decode prog_12_method_16_code 6 = .ok (.ifCond .ne 5, 3) := by decide +kernel
theorem dM_filtering_9 : decode prog_12_method_16_code 9 = .ok (.iload_n 2, 1) := by decide +kernel
theorem dM_filtering_10 : decode prog_12_method_16_code 10 = .ok (.ireturn, 1) := by decide +kernel
theorem dM_filtering_11 : decode prog_12_method_16_code 11 = .ok (.iconst 1, 1) := by decide +kernel
theorem dM_filtering_12 : decode prog_12_method_16_code 12 = .ok (.istore_n 3, 1) := by decide +kernel
theorem dM_filtering_13 : decode prog_12_method_16_code 13 = .ok (.iload_n 3, 1) := by decide +kernel
theorem dM_filtering_14 : decode prog_12_method_16_code 14 = .ok (.bipush 41, 2) := by decide +kernel
theorem dM_filtering_16 : decode prog_12_method_16_code 16 = .ok (.if_icmp .ge 87, 3) := by decide +kernel
theorem dM_filtering_19 : decode prog_12_method_16_code 19 = .ok (.aload_n 0, 1) := by decide +kernel
theorem dM_filtering_20 : decode prog_12_method_16_code 20 = .ok (.getfield 22, 3) := by decide +kernel
theorem dM_filtering_23 : decode prog_12_method_16_code 23 = .ok (.iload_n 3, 1) := by decide +kernel
theorem dM_filtering_24 : decode prog_12_method_16_code 24 = .ok (.baload, 1) := by decide +kernel
theorem dM_filtering_25 : decode prog_12_method_16_code 25 = .ok (.ifCond .eq 72, 3) := by decide +kernel
theorem dM_filtering_28 : decode prog_12_method_16_code 28 = .ok (.aload_n 0, 1) := by decide +kernel
theorem dM_filtering_29 : decode prog_12_method_16_code 29 = .ok (.getfield 26, 3) := by decide +kernel
theorem dM_filtering_32 : decode prog_12_method_16_code 32 = .ok (.iload_n 3, 1) := by decide +kernel
theorem dM_filtering_33 : decode prog_12_method_16_code 33 = .ok (.iaload, 1) := by decide +kernel
theorem dM_filtering_34 : decode prog_12_method_16_code 34 = .ok (.iconst 2, 1) := by decide +kernel
theorem dM_filtering_35 : decode prog_12_method_16_code 35 = .ok (.if_icmp .ne 62, 3) := by decide +kernel
theorem dM_filtering_38 : decode prog_12_method_16_code 38 = .ok (.aload_n 0, 1) := by decide +kernel
theorem dM_filtering_39 : decode prog_12_method_16_code 39 = .ok (.getfield 29, 3) := by decide +kernel
theorem dM_filtering_42 : decode prog_12_method_16_code 42 = .ok (.iload_n 3, 1) := by decide +kernel
theorem dM_filtering_43 : decode prog_12_method_16_code 43 = .ok (.iaload, 1) := by decide +kernel
theorem dM_filtering_44 : decode prog_12_method_16_code 44 = .ok (.iload_n 2, 1) := by decide +kernel
theorem dM_filtering_45 : decode prog_12_method_16_code 45 = .ok (.if_icmp .ne 52, 3) := by decide +kernel
theorem dM_filtering_48 : decode prog_12_method_16_code 48 = .ok (.aload_n 0, 1) := by decide +kernel
theorem dM_filtering_49 : decode prog_12_method_16_code 49 = .ok (.getfield 35, 3) := by decide +kernel
theorem dM_filtering_52 : decode prog_12_method_16_code 52 = .ok (.iload_n 3, 1) := by decide +kernel
theorem dM_filtering_53 : decode prog_12_method_16_code 53 = .ok (.iaload, 1) := by decide +kernel
theorem dM_filtering_54 : decode prog_12_method_16_code 54 = .ok (.aload_n 0, 1) := by decide +kernel
theorem dM_filtering_55 : decode prog_12_method_16_code 55 = .ok (.getfield 64, 3) := by decide +kernel
theorem dM_filtering_58 : decode prog_12_method_16_code 58 = .ok (.iload_n 1, 1) := by decide +kernel
theorem dM_filtering_59 : decode prog_12_method_16_code 59 = .ok (.iaload, 1) := by decide +kernel
theorem dM_filtering_60 : decode prog_12_method_16_code 60 = .ok (.if_icmp .ne 37, 3) := by decide +kernel
theorem dM_filtering_63 : decode prog_12_method_16_code 63 = .ok (.aload_n 0, 1) := by decide +kernel
theorem dM_filtering_64 : decode prog_12_method_16_code 64 = .ok (.getfield 38, 3) := by decide +kernel
theorem dM_filtering_67 : decode prog_12_method_16_code 67 = .ok (.iload_n 3, 1) := by decide +kernel
theorem dM_filtering_68 : decode prog_12_method_16_code 68 = .ok (.laload, 1) := by decide +kernel
theorem dM_filtering_69 : decode prog_12_method_16_code 69 = .ok (.aload_n 0, 1) := by decide +kernel
theorem dM_filtering_70 : decode prog_12_method_16_code 70 = .ok (.getfield 67, 3) := by decide +kernel
theorem dM_filtering_73 : decode prog_12_method_16_code 73 = .ok (.iload_n 1, 1) := by decide +kernel
theorem dM_filtering_74 : decode prog_12_method_16_code 74 = .ok (.laload, 1) := by decide +kernel
theorem dM_filtering_75 : decode prog_12_method_16_code 75 = .ok (.lcmp, 1) := by decide +kernel
theorem dM_filtering_76 : decode prog_12_method_16_code 76 = .ok (.ifCond .ne 21, 3) := by decide +kernel
theorem dM_filtering_79 : decode prog_12_method_16_code 79 = .ok (.aload_n 0, 1) := by decide +kernel
theorem dM_filtering_80 : decode prog_12_method_16_code 80 = .ok (.getfield 42, 3) := by decide +kernel
theorem dM_filtering_83 : decode prog_12_method_16_code 83 = .ok (.iload_n 3, 1) := by decide +kernel
theorem dM_filtering_84 : decode prog_12_method_16_code 84 = .ok (.laload, 1) := by decide +kernel
theorem dM_filtering_85 : decode prog_12_method_16_code 85 = .ok (.aload_n 0, 1) := by decide +kernel
theorem dM_filtering_86 : decode prog_12_method_16_code 86 = .ok (.getfield 70, 3) := by decide +kernel
theorem dM_filtering_89 : decode prog_12_method_16_code 89 = .ok (.iload_n 1, 1) := by decide +kernel
theorem dM_filtering_90 : decode prog_12_method_16_code 90 = .ok (.laload, 1) := by decide +kernel
theorem dM_filtering_91 : decode prog_12_method_16_code 91 = .ok (.lcmp, 1) := by decide +kernel
theorem dM_filtering_92 : decode prog_12_method_16_code 92 = .ok (.ifCond .ne 5, 3) := by decide +kernel
theorem dM_filtering_95 : decode prog_12_method_16_code 95 = .ok (.iload_n 3, 1) := by decide +kernel
theorem dM_filtering_96 : decode prog_12_method_16_code 96 = .ok (.ireturn, 1) := by decide +kernel
theorem dM_filtering_97 : decode prog_12_method_16_code 97 = .ok (.iinc 3 1, 3) := by decide +kernel
theorem dM_filtering_100 : decode prog_12_method_16_code 100 = .ok (.goto (-87), 3) := by decide +kernel
theorem dM_filtering_103 : decode prog_12_method_16_code 103 = .ok (.aload_n 0, 1) := by decide +kernel
theorem dM_filtering_104 : decode prog_12_method_16_code 104 = .ok (.iconst 2, 1) := by decide +kernel
theorem dM_filtering_105 : decode prog_12_method_16_code 105 = .ok (.iload_n 2, 1) := by decide +kernel
theorem dM_filtering_106 : decode prog_12_method_16_code 106 = .ok (.invokevirtual 129, 3) := by decide +kernel
theorem dM_filtering_109 : decode prog_12_method_16_code 109 = .ok (.istore_n 3, 1) := by decide +kernel
theorem dM_filtering_110 : decode prog_12_method_16_code 110 = .ok (.aload_n 0, 1) := by decide +kernel
theorem dM_filtering_111 : decode prog_12_method_16_code 111 = .ok (.getfield 35, 3) := by decide +kernel
theorem dM_filtering_114 : decode prog_12_method_16_code 114 = .ok (.iload_n 3, 1) := by decide +kernel
theorem dM_filtering_115 : decode prog_12_method_16_code 115 = .ok (.aload_n 0, 1) := by decide +kernel
theorem dM_filtering_116 : decode prog_12_method_16_code 116 = .ok (.getfield 64, 3) := by decide +kernel
theorem dM_filtering_119 : decode prog_12_method_16_code 119 = .ok (.iload_n 1, 1) := by decide +kernel
theorem dM_filtering_120 : decode prog_12_method_16_code 120 = .ok (.iaload, 1) := by decide +kernel
theorem dM_filtering_121 : decode prog_12_method_16_code 121 = .ok (.iastore, 1) := by decide +kernel
theorem dM_filtering_122 : decode prog_12_method_16_code 122 = .ok (.aload_n 0, 1) := by decide +kernel
theorem dM_filtering_123 : decode prog_12_method_16_code 123 = .ok (.getfield 38, 3) := by decide +kernel
theorem dM_filtering_126 : decode prog_12_method_16_code 126 = .ok (.iload_n 3, 1) := by decide +kernel
theorem dM_filtering_127 : decode prog_12_method_16_code 127 = .ok (.aload_n 0, 1) := by decide +kernel
theorem dM_filtering_128 : decode prog_12_method_16_code 128 = .ok (.getfield 67, 3) := by decide +kernel
theorem dM_filtering_131 : decode prog_12_method_16_code 131 = .ok (.iload_n 1, 1) := by decide +kernel
theorem dM_filtering_132 : decode prog_12_method_16_code 132 = .ok (.laload, 1) := by decide +kernel
theorem dM_filtering_133 : decode prog_12_method_16_code 133 = .ok (.lastore, 1) := by decide +kernel
theorem dM_filtering_134 : decode prog_12_method_16_code 134 = .ok (.aload_n 0, 1) := by decide +kernel
theorem dM_filtering_135 : decode prog_12_method_16_code 135 = .ok (.getfield 42, 3) := by decide +kernel
theorem dM_filtering_138 : decode prog_12_method_16_code 138 = .ok (.iload_n 3, 1) := by decide +kernel
theorem dM_filtering_139 : decode prog_12_method_16_code 139 = .ok (.aload_n 0, 1) := by decide +kernel
theorem dM_filtering_140 : decode prog_12_method_16_code 140 = .ok (.getfield 70, 3) := by decide +kernel
theorem dM_filtering_143 : decode prog_12_method_16_code 143 = .ok (.iload_n 1, 1) := by decide +kernel
theorem dM_filtering_144 : decode prog_12_method_16_code 144 = .ok (.laload, 1) := by decide +kernel
theorem dM_filtering_145 : decode prog_12_method_16_code 145 = .ok (.lastore, 1) := by decide +kernel
theorem dM_filtering_146 : decode prog_12_method_16_code 146 = .ok (.iload_n 3, 1) := by decide +kernel
theorem dM_filtering_147 : decode prog_12_method_16_code 147 = .ok (.ireturn, 1) := by decide +kernel
theorem dM_admits_0 : decode prog_12_method_17_code 0 = .ok (.aload_n 0, 1) := by decide +kernel
theorem dM_admits_1 : decode prog_12_method_17_code 1 = .ok (.getfield 42, 3) := by decide +kernel
theorem dM_admits_4 : decode prog_12_method_17_code 4 = .ok (.iload_n 1, 1) := by decide +kernel
theorem dM_admits_5 : decode prog_12_method_17_code 5 = .ok (.laload, 1) := by decide +kernel
theorem dM_admits_6 : decode prog_12_method_17_code 6 = .ok (.iload_n 2, 1) := by decide +kernel
theorem dM_admits_7 : decode prog_12_method_17_code 7 = .ok (.lshr, 1) := by decide +kernel
theorem dM_admits_8 : decode prog_12_method_17_code 8 = .ok (.lconst 1, 1) := by decide +kernel
theorem dM_admits_9 : decode prog_12_method_17_code 9 = .ok (.land, 1) := by decide +kernel
theorem dM_admits_10 : decode prog_12_method_17_code 10 = .ok (.lconst 1, 1) := by decide +kernel
theorem dM_admits_11 : decode prog_12_method_17_code 11 = .ok (.lcmp, 1) := by decide +kernel
theorem dM_admits_12 : decode prog_12_method_17_code 12 = .ok (.ifCond .ne 5, 3) := by decide +kernel
theorem dM_admits_15 : decode prog_12_method_17_code 15 = .ok (.iconst 0, 1) := by decide +kernel
theorem dM_admits_16 : decode prog_12_method_17_code 16 = .ok (.ireturn, 1) := by decide +kernel
theorem dM_admits_17 : decode prog_12_method_17_code 17 = .ok (.aload_n 0, 1) := by decide +kernel
theorem dM_admits_18 : decode prog_12_method_17_code 18 = .ok (.getfield 38, 3) := by decide +kernel
theorem dM_admits_21 : decode prog_12_method_17_code 21 = .ok (.iload_n 1, 1) := by decide +kernel
theorem dM_admits_22 : decode prog_12_method_17_code 22 = .ok (.laload, 1) := by decide +kernel
theorem dM_admits_23 : decode prog_12_method_17_code 23 = .ok (.iload_n 2, 1) := by decide +kernel
theorem dM_admits_24 : decode prog_12_method_17_code 24 = .ok (.lshr, 1) := by decide +kernel
theorem dM_admits_25 : decode prog_12_method_17_code 25 = .ok (.lconst 1, 1) := by decide +kernel
theorem dM_admits_26 : decode prog_12_method_17_code 26 = .ok (.land, 1) := by decide +kernel
theorem dM_admits_27 : decode prog_12_method_17_code 27 = .ok (.lconst 1, 1) := by decide +kernel
theorem dM_admits_28 : decode prog_12_method_17_code 28 = .ok (.lcmp, 1) := by decide +kernel
theorem dM_admits_29 : decode prog_12_method_17_code 29 = .ok (.ifCond .eq 19, 3) := by decide +kernel
theorem dM_admits_32 : decode prog_12_method_17_code 32 = .ok (.aload_n 0, 1) := by decide +kernel
theorem dM_admits_33 : decode prog_12_method_17_code 33 = .ok (.getfield 35, 3) := by decide +kernel
theorem dM_admits_36 : decode prog_12_method_17_code 36 = .ok (.iload_n 1, 1) := by decide +kernel
theorem dM_admits_37 : decode prog_12_method_17_code 37 = .ok (.iaload, 1) := by decide +kernel
theorem dM_admits_38 : decode prog_12_method_17_code 38 = .ok (.iload_n 2, 1) := by decide +kernel
theorem dM_admits_39 : decode prog_12_method_17_code 39 = .ok (.iconst 3, 1) := by decide +kernel
theorem dM_admits_40 : decode prog_12_method_17_code 40 = .ok (.ishr, 1) := by decide +kernel
theorem dM_admits_41 : decode prog_12_method_17_code 41 = .ok (.ishr, 1) := by decide +kernel
theorem dM_admits_42 : decode prog_12_method_17_code 42 = .ok (.iconst 1, 1) := by decide +kernel
theorem dM_admits_43 : decode prog_12_method_17_code 43 = .ok (.iand, 1) := by decide +kernel
theorem dM_admits_44 : decode prog_12_method_17_code 44 = .ok (.iconst 1, 1) := by decide +kernel
theorem dM_admits_45 : decode prog_12_method_17_code 45 = .ok (.if_icmp .ne 7, 3) := by decide +kernel
theorem dM_admits_48 : decode prog_12_method_17_code 48 = .ok (.iconst 1, 1) := by decide +kernel
theorem dM_admits_49 : decode prog_12_method_17_code 49 = .ok (.goto 4, 3) := by decide +kernel
theorem dM_admits_52 : decode prog_12_method_17_code 52 = .ok (.iconst 0, 1) := by decide +kernel
theorem dM_admits_53 : decode prog_12_method_17_code 53 = .ok (.ireturn, 1) := by decide +kernel
theorem dM_holders_0 : decode prog_12_method_18_code 0 = .ok (.iload_n 1, 1) := by decide +kernel
theorem dM_holders_1 : decode prog_12_method_18_code 1 = .ok (.ifCond .ne 7, 3) := by decide +kernel
theorem dM_holders_4 : decode prog_12_method_18_code 4 = .ok (.iconst 2, 1) := by decide +kernel
theorem dM_holders_5 : decode prog_12_method_18_code 5 = .ok (.goto 4, 3) := by decide +kernel
theorem dM_holders_8 : decode prog_12_method_18_code 8 = .ok (.iconst 0, 1) := by decide +kernel
theorem dM_holders_9 : decode prog_12_method_18_code 9 = .ok (.istore_n 2, 1) := by decide +kernel
theorem dM_holders_10 : decode prog_12_method_18_code 10 = .ok (.iconst 1, 1) := by decide +kernel
theorem dM_holders_11 : decode prog_12_method_18_code 11 = .ok (.istore_n 3, 1) := by decide +kernel
theorem dM_holders_12 : decode prog_12_method_18_code 12 = .ok (.iload_n 3, 1) := by decide +kernel
theorem dM_holders_13 : decode prog_12_method_18_code 13 = .ok (.bipush 41, 2) := by decide +kernel
theorem dM_holders_15 : decode prog_12_method_18_code 15 = .ok (.if_icmp .ge 36, 3) := by decide +kernel
theorem dM_holders_18 : decode prog_12_method_18_code 18 = .ok (.aload_n 0, 1) := by decide +kernel
theorem dM_holders_19 : decode prog_12_method_18_code 19 = .ok (.getfield 22, 3) := by decide +kernel
theorem dM_holders_22 : decode prog_12_method_18_code 22 = .ok (.iload_n 3, 1) := by decide +kernel
theorem dM_holders_23 : decode prog_12_method_18_code 23 = .ok (.baload, 1) := by decide +kernel
theorem dM_holders_24 : decode prog_12_method_18_code 24 = .ok (.ifCond .eq 19, 3) := by decide +kernel
theorem dM_holders_27 : decode prog_12_method_18_code 27 = .ok (.aload_n 0, 1) := by decide +kernel
theorem dM_holders_28 : decode prog_12_method_18_code 28 = .ok (.getfield 29, 3) := by decide +kernel
theorem dM_holders_31 : decode prog_12_method_18_code 31 = .ok (.iload_n 3, 1) := by decide +kernel
theorem dM_holders_32 : decode prog_12_method_18_code 32 = .ok (.iaload, 1) := by decide +kernel
theorem dM_holders_33 : decode prog_12_method_18_code 33 = .ok (.iload_n 1, 1) := by decide +kernel
theorem dM_holders_34 : decode prog_12_method_18_code 34 = .ok (.if_icmp .ne 9, 3) := by decide +kernel
theorem dM_holders_37 : decode prog_12_method_18_code 37 = .ok (.iload_n 2, 1) := by decide +kernel
theorem dM_holders_38 : decode prog_12_method_18_code 38 = .ok (.iconst 1, 1) := by decide +kernel
theorem dM_holders_39 : decode prog_12_method_18_code 39 = .ok (.iadd, 1) := by decide +kernel
theorem dM_holders_40 : decode prog_12_method_18_code 40 = .ok (.goto 4, 3) := by decide +kernel
theorem dM_holders_43 : decode prog_12_method_18_code 43 = .ok (.iload_n 2, 1) := by decide +kernel
theorem dM_holders_44 : decode prog_12_method_18_code 44 = .ok (.istore_n 2, 1) := by decide +kernel
theorem dM_holders_45 : decode prog_12_method_18_code 45 = .ok (.iinc 3 1, 3) := by decide +kernel
theorem dM_holders_48 : decode prog_12_method_18_code 48 = .ok (.goto (-36), 3) := by decide +kernel
theorem dM_holders_51 : decode prog_12_method_18_code 51 = .ok (.iconst 1, 1) := by decide +kernel
theorem dM_holders_52 : decode prog_12_method_18_code 52 = .ok (.istore_n 3, 1) := by decide +kernel
theorem dM_holders_53 : decode prog_12_method_18_code 53 = .ok (.iload_n 3, 1) := by decide +kernel
theorem dM_holders_54 : decode prog_12_method_18_code 54 = .ok (.aload_n 0, 1) := by decide +kernel
theorem dM_holders_55 : decode prog_12_method_18_code 55 = .ok (.getfield 45, 3) := by decide +kernel
theorem dM_holders_58 : decode prog_12_method_18_code 58 = .ok (.if_icmp .ge 57, 3) := by decide +kernel
theorem dM_holders_61 : decode prog_12_method_18_code 61 = .ok (.iconst 0, 1) := by decide +kernel
theorem dM_holders_62 : decode prog_12_method_18_code 62 = .ok (.istore 4, 2) := by decide +kernel
theorem dM_holders_64 : decode prog_12_method_18_code 64 = .ok (.iload 4, 2) := by decide +kernel
theorem dM_holders_66 : decode prog_12_method_18_code 66 = .ok (.iconst 3, 1) := by decide +kernel
theorem dM_holders_67 : decode prog_12_method_18_code 67 = .ok (.if_icmp .ge 42, 3) := by decide +kernel
theorem dM_holders_70 : decode prog_12_method_18_code 70 = .ok (.aload_n 0, 1) := by decide +kernel
theorem dM_holders_71 : decode prog_12_method_18_code 71 = .ok (.getfield 49, 3) := by decide +kernel
theorem dM_holders_74 : decode prog_12_method_18_code 74 = .ok (.iload_n 3, 1) := by decide +kernel
theorem dM_holders_75 : decode prog_12_method_18_code 75 = .ok (.iaload, 1) := by decide +kernel
theorem dM_holders_76 : decode prog_12_method_18_code 76 = .ok (.iconst 1, 1) := by decide +kernel
theorem dM_holders_77 : decode prog_12_method_18_code 77 = .ok (.if_icmp .ne 32, 3) := by decide +kernel
theorem dM_holders_80 : decode prog_12_method_18_code 80 = .ok (.aload_n 0, 1) := by decide +kernel
theorem dM_holders_81 : decode prog_12_method_18_code 81 = .ok (.getfield 73, 3) := by decide +kernel
theorem dM_holders_84 : decode prog_12_method_18_code 84 = .ok (.iconst 3, 1) := by decide +kernel
theorem dM_holders_85 : decode prog_12_method_18_code 85 = .ok (.iload_n 3, 1) := by decide +kernel
theorem dM_holders_86 : decode prog_12_method_18_code 86 = .ok (.imul, 1) := by decide +kernel
theorem dM_holders_87 : decode prog_12_method_18_code 87 = .ok (.iload 4, 2) := by decide +kernel
theorem dM_holders_89 : decode prog_12_method_18_code 89 = .ok (.iadd, 1) := by decide +kernel
theorem dM_holders_90 : decode prog_12_method_18_code 90 = .ok (.iaload, 1) := by decide +kernel
theorem dM_holders_91 : decode prog_12_method_18_code 91 = .ok (.iload_n 1, 1) := by decide +kernel
theorem dM_holders_92 : decode prog_12_method_18_code 92 = .ok (.if_icmp .ne 9, 3) := by decide +kernel
theorem dM_holders_95 : decode prog_12_method_18_code 95 = .ok (.iload_n 2, 1) := by decide +kernel
theorem dM_holders_96 : decode prog_12_method_18_code 96 = .ok (.iconst 1, 1) := by decide +kernel
theorem dM_holders_97 : decode prog_12_method_18_code 97 = .ok (.iadd, 1) := by decide +kernel
theorem dM_holders_98 : decode prog_12_method_18_code 98 = .ok (.goto 4, 3) := by decide +kernel
theorem dM_holders_101 : decode prog_12_method_18_code 101 = .ok (.iload_n 2, 1) := by decide +kernel
theorem dM_holders_102 : decode prog_12_method_18_code 102 = .ok (.istore_n 2, 1) := by decide +kernel
theorem dM_holders_103 : decode prog_12_method_18_code 103 = .ok (.iinc 4 1, 3) := by decide +kernel
theorem dM_holders_106 : decode prog_12_method_18_code 106 = .ok (.goto (-42), 3) := by decide +kernel
theorem dM_holders_109 : decode prog_12_method_18_code 109 = .ok (.iinc 3 1, 3) := by decide +kernel
theorem dM_holders_112 : decode prog_12_method_18_code 112 = .ok (.goto (-59), 3) := by decide +kernel
theorem dM_holders_115 : decode prog_12_method_18_code 115 = .ok (.iload_n 2, 1) := by decide +kernel
theorem dM_holders_116 : decode prog_12_method_18_code 116 = .ok (.ireturn, 1) := by decide +kernel
theorem dM_sweep_0 : decode prog_12_method_19_code 0 = .ok (.iconst 0, 1) := by decide +kernel
theorem dM_sweep_1 : decode prog_12_method_19_code 1 = .ok (.istore_n 1, 1) := by decide +kernel
theorem dM_sweep_2 : decode prog_12_method_19_code 2 = .ok (.iconst 1, 1) := by decide +kernel
theorem dM_sweep_3 : decode prog_12_method_19_code 3 = .ok (.istore_n 2, 1) := by decide +kernel
theorem dM_sweep_4 : decode prog_12_method_19_code 4 = .ok (.iload_n 2, 1) := by decide +kernel
theorem dM_sweep_5 : decode prog_12_method_19_code 5 = .ok (.ifCond .eq 102, 3) := by decide +kernel
theorem dM_sweep_8 : decode prog_12_method_19_code 8 = .ok (.iconst 0, 1) := by decide +kernel
theorem dM_sweep_9 : decode prog_12_method_19_code 9 = .ok (.istore_n 2, 1) := by decide +kernel
theorem dM_sweep_10 : decode prog_12_method_19_code 10 = .ok (.iconst 1, 1) := by decide +kernel
theorem dM_sweep_11 : decode prog_12_method_19_code 11 = .ok (.istore_n 3, 1) := by decide +kernel
theorem dM_sweep_12 : decode prog_12_method_19_code 12 = .ok (.iload_n 3, 1) := by decide +kernel
theorem dM_sweep_13 : decode prog_12_method_19_code 13 = .ok (.bipush 41, 2) := by decide +kernel
theorem dM_sweep_15 : decode prog_12_method_19_code 15 = .ok (.if_icmp .ge 89, 3) := by decide +kernel
theorem dM_sweep_18 : decode prog_12_method_19_code 18 = .ok (.aload_n 0, 1) := by decide +kernel
theorem dM_sweep_19 : decode prog_12_method_19_code 19 = .ok (.getfield 22, 3) := by decide +kernel
theorem dM_sweep_22 : decode prog_12_method_19_code 22 = .ok (.iload_n 3, 1) := by decide +kernel
theorem dM_sweep_23 : decode prog_12_method_19_code 23 = .ok (.baload, 1) := by decide +kernel
theorem dM_sweep_24 : decode prog_12_method_19_code 24 = .ok (.ifCond .eq 74, 3) := by decide +kernel
theorem dM_sweep_27 : decode prog_12_method_19_code 27 = .ok (.aload_n 0, 1) := by decide +kernel
theorem dM_sweep_28 : decode prog_12_method_19_code 28 = .ok (.iload_n 3, 1) := by decide +kernel
theorem dM_sweep_29 : decode prog_12_method_19_code 29 = .ok (.invokevirtual 136, 3) := by decide +kernel
theorem dM_sweep_32 : decode prog_12_method_19_code 32 = .ok (.ifCond .le 6, 3) := by decide +kernel
theorem dM_sweep_35 : decode prog_12_method_19_code 35 = .ok (.goto 63, 3) := by decide +kernel
theorem dM_sweep_38 : decode prog_12_method_19_code 38 = .ok (.aload_n 0, 1) := by decide +kernel
theorem dM_sweep_39 : decode prog_12_method_19_code 39 = .ok (.getfield 22, 3) := by decide +kernel
theorem dM_sweep_42 : decode prog_12_method_19_code 42 = .ok (.iload_n 3, 1) := by decide +kernel
theorem dM_sweep_43 : decode prog_12_method_19_code 43 = .ok (.iconst 0, 1) := by decide +kernel
theorem dM_sweep_44 : decode prog_12_method_19_code 44 = .ok (.bastore, 1) := by decide +kernel
theorem dM_sweep_45 : decode prog_12_method_19_code 45 = .ok (.iinc 1 1, 3) := by decide +kernel
theorem dM_sweep_48 : decode prog_12_method_19_code 48 = .ok (.iconst 1, 1) := by decide +kernel
theorem dM_sweep_49 : decode prog_12_method_19_code 49 = .ok (.istore_n 2, 1) := by decide +kernel
theorem dM_sweep_50 : decode prog_12_method_19_code 50 = .ok (.bipush 8, 2) := by decide +kernel
theorem dM_sweep_52 : decode prog_12_method_19_code 52 = .ok (.istore 4, 2) := by decide +kernel
theorem dM_sweep_54 : decode prog_12_method_19_code 54 = .ok (.iload 4, 2) := by decide +kernel
theorem dM_sweep_56 : decode prog_12_method_19_code 56 = .ok (.aload_n 0, 1) := by decide +kernel
theorem dM_sweep_57 : decode prog_12_method_19_code 57 = .ok (.getfield 82, 3) := by decide +kernel
theorem dM_sweep_60 : decode prog_12_method_19_code 60 = .ok (.if_icmp .ge 38, 3) := by decide +kernel
theorem dM_sweep_63 : decode prog_12_method_19_code 63 = .ok (.aload_n 0, 1) := by decide +kernel
theorem dM_sweep_64 : decode prog_12_method_19_code 64 = .ok (.getfield 88, 3) := by decide +kernel
theorem dM_sweep_67 : decode prog_12_method_19_code 67 = .ok (.iload 4, 2) := by decide +kernel
theorem dM_sweep_69 : decode prog_12_method_19_code 69 = .ok (.aload_n 0, 1) := by decide +kernel
theorem dM_sweep_70 : decode prog_12_method_19_code 70 = .ok (.getfield 88, 3) := by decide +kernel
theorem dM_sweep_73 : decode prog_12_method_19_code 73 = .ok (.iload 4, 2) := by decide +kernel
theorem dM_sweep_75 : decode prog_12_method_19_code 75 = .ok (.iaload, 1) := by decide +kernel
theorem dM_sweep_76 : decode prog_12_method_19_code 76 = .ok (.iload_n 3, 1) := by decide +kernel
theorem dM_sweep_77 : decode prog_12_method_19_code 77 = .ok (.if_icmp .ne 7, 3) := by decide +kernel
theorem dM_sweep_80 : decode prog_12_method_19_code 80 = .ok (.iconst (-1), 1) := by decide +kernel
theorem dM_sweep_81 : decode prog_12_method_19_code 81 = .ok (.goto 10, 3) := by decide +kernel
theorem dM_sweep_84 : decode prog_12_method_19_code 84 = .ok (.aload_n 0, 1) := by decide +kernel
theorem dM_sweep_85 : decode prog_12_method_19_code 85 = .ok (.getfield 88, 3) := by decide +kernel
theorem dM_sweep_88 : decode prog_12_method_19_code 88 = .ok (.iload 4, 2) := by decide +kernel
theorem dM_sweep_90 : decode prog_12_method_19_code 90 = .ok (.iaload, 1) := by decide +kernel
theorem dM_sweep_91 : decode prog_12_method_19_code 91 = .ok (.iastore, 1) := by decide +kernel
theorem dM_sweep_92 : decode prog_12_method_19_code 92 = .ok (.iinc 4 1, 3) := by decide +kernel
theorem dM_sweep_95 : decode prog_12_method_19_code 95 = .ok (.goto (-41), 3) := by decide +kernel
theorem dM_sweep_98 : decode prog_12_method_19_code 98 = .ok (.iinc 3 1, 3) := by decide +kernel
theorem dM_sweep_101 : decode prog_12_method_19_code 101 = .ok (.goto (-89), 3) := by decide +kernel
theorem dM_sweep_104 : decode prog_12_method_19_code 104 = .ok (.goto (-100), 3) := by decide +kernel
theorem dM_sweep_107 : decode prog_12_method_19_code 107 = .ok (.iload_n 1, 1) := by decide +kernel
theorem dM_sweep_108 : decode prog_12_method_19_code 108 = .ok (.ireturn, 1) := by decide +kernel
theorem dM_noScope_0 : decode prog_12_method_20_code 0 = .ok (.iload_n 1, 1) := by decide +kernel
theorem dM_noScope_1 : decode prog_12_method_20_code 1 = .ok (.ifCond .lt 11, 3) := by decide +kernel
theorem dM_noScope_4 : decode prog_12_method_20_code 4 = .ok (.iload_n 1, 1) := by decide +kernel
theorem dM_noScope_5 : decode prog_12_method_20_code 5 = .ok (.aload_n 0, 1) := by decide +kernel
theorem dM_noScope_6 : decode prog_12_method_20_code 6 = .ok (.getfield 45, 3) := by decide +kernel
theorem dM_noScope_9 : decode prog_12_method_20_code 9 = .ok (.if_icmp .lt 7, 3) := by decide +kernel
theorem dM_noScope_12 : decode prog_12_method_20_code 12 = .ok (.iconst 1, 1) := by decide +kernel
theorem dM_noScope_13 : decode prog_12_method_20_code 13 = .ok (.goto 4, 3) := by decide +kernel
theorem dM_noScope_16 : decode prog_12_method_20_code 16 = .ok (.iconst 0, 1) := by decide +kernel
theorem dM_noScope_17 : decode prog_12_method_20_code 17 = .ok (.ireturn, 1) := by decide +kernel
theorem dM_child_0 : decode prog_12_method_21_code 0 = .ok (.aload_n 0, 1) := by decide +kernel
theorem dM_child_1 : decode prog_12_method_21_code 1 = .ok (.aload_n 0, 1) := by decide +kernel
theorem dM_child_2 : decode prog_12_method_21_code 2 = .ok (.iload_n 1, 1) := by decide +kernel
theorem dM_child_3 : decode prog_12_method_21_code 3 = .ok (.invokevirtual 140, 3) := by decide +kernel
theorem dM_child_6 : decode prog_12_method_21_code 6 = .ok (.ifCond .ne 13, 3) := by decide +kernel
theorem dM_child_9 : decode prog_12_method_21_code 9 = .ok (.aload_n 0, 1) := by decide +kernel
theorem dM_child_10 : decode prog_12_method_21_code 10 = .ok (.getfield 49, 3) := by decide +kernel
theorem dM_child_13 : decode prog_12_method_21_code 13 = .ok (.iload_n 1, 1) := by decide +kernel
theorem dM_child_14 : decode prog_12_method_21_code 14 = .ok (.iaload, 1) := by decide +kernel
theorem dM_child_15 : decode prog_12_method_21_code 15 = .ok (.iconst 2, 1) := by decide +kernel
theorem dM_child_16 : decode prog_12_method_21_code 16 = .ok (.if_icmp .ne 7, 3) := by decide +kernel
theorem dM_child_19 : decode prog_12_method_21_code 19 = .ok (.iconst 1, 1) := by decide +kernel
theorem dM_child_20 : decode prog_12_method_21_code 20 = .ok (.goto 4, 3) := by decide +kernel
theorem dM_child_23 : decode prog_12_method_21_code 23 = .ok (.iconst 0, 1) := by decide +kernel
theorem dM_child_24 : decode prog_12_method_21_code 24 = .ok (.iconst 1, 1) := by decide +kernel
theorem dM_child_25 : decode prog_12_method_21_code 25 = .ok (.invokevirtual 110, 3) := by decide +kernel
theorem dM_child_28 : decode prog_12_method_21_code 28 = .ok (.ifCond .ne 25, 3) := by decide +kernel
theorem dM_child_31 : decode prog_12_method_21_code 31 = .ok (.aload_n 0, 1) := by decide +kernel
theorem dM_child_32 : decode prog_12_method_21_code 32 = .ok (.aload_n 0, 1) := by decide +kernel
theorem dM_child_33 : decode prog_12_method_21_code 33 = .ok (.getfield 45, 3) := by decide +kernel
theorem dM_child_36 : decode prog_12_method_21_code 36 = .ok (.bipush 12, 2) := by decide +kernel
theorem dM_child_38 : decode prog_12_method_21_code 38 = .ok (.if_icmp .ne 7, 3) := by decide +kernel
theorem dM_child_41 : decode prog_12_method_21_code 41 = .ok (.iconst 1, 1) := by decide +kernel
theorem dM_child_42 : decode prog_12_method_21_code 42 = .ok (.goto 4, 3) := by decide +kernel
theorem dM_child_45 : decode prog_12_method_21_code 45 = .ok (.iconst 0, 1) := by decide +kernel
theorem dM_child_46 : decode prog_12_method_21_code 46 = .ok (.iconst 2, 1) := by decide +kernel
theorem dM_child_47 : decode prog_12_method_21_code 47 = .ok (.invokevirtual 110, 3) := by decide +kernel
theorem dM_child_50 : decode prog_12_method_21_code 50 = .ok (.ifCond .eq 5, 3) := by decide +kernel
theorem dM_child_53 : decode prog_12_method_21_code 53 = .ok (.iconst 0, 1) := by decide +kernel
theorem dM_child_54 : decode prog_12_method_21_code 54 = .ok (.ireturn, 1) := by decide +kernel
theorem dM_child_55 : decode prog_12_method_21_code 55 = .ok (.aload_n 0, 1) := by decide +kernel
theorem dM_child_56 : decode prog_12_method_21_code 56 = .ok (.getfield 52, 3) := by decide +kernel
theorem dM_child_59 : decode prog_12_method_21_code 59 = .ok (.aload_n 0, 1) := by decide +kernel
theorem dM_child_60 : decode prog_12_method_21_code 60 = .ok (.getfield 45, 3) := by decide +kernel
theorem dM_child_63 : decode prog_12_method_21_code 63 = .ok (.iload_n 1, 1) := by decide +kernel
theorem dM_child_64 : decode prog_12_method_21_code 64 = .ok (.iastore, 1) := by decide +kernel
theorem dM_child_65 : decode prog_12_method_21_code 65 = .ok (.aload_n 0, 1) := by decide +kernel
theorem dM_child_66 : decode prog_12_method_21_code 66 = .ok (.dup, 1) := by decide +kernel
theorem dM_child_67 : decode prog_12_method_21_code 67 = .ok (.getfield 45, 3) := by decide +kernel
theorem dM_child_70 : decode prog_12_method_21_code 70 = .ok (.iconst 1, 1) := by decide +kernel
theorem dM_child_71 : decode prog_12_method_21_code 71 = .ok (.iadd, 1) := by decide +kernel
theorem dM_child_72 : decode prog_12_method_21_code 72 = .ok (.putfield 45, 3) := by decide +kernel
theorem dM_child_75 : decode prog_12_method_21_code 75 = .ok (.aload_n 0, 1) := by decide +kernel
theorem dM_child_76 : decode prog_12_method_21_code 76 = .ok (.getfield 45, 3) := by decide +kernel
theorem dM_child_79 : decode prog_12_method_21_code 79 = .ok (.iconst 1, 1) := by decide +kernel
theorem dM_child_80 : decode prog_12_method_21_code 80 = .ok (.isub, 1) := by decide +kernel
theorem dM_child_81 : decode prog_12_method_21_code 81 = .ok (.ireturn, 1) := by decide +kernel
theorem dM_add_0 : decode prog_12_method_22_code 0 = .ok (.aload_n 0, 1) := by decide +kernel
theorem dM_add_1 : decode prog_12_method_22_code 1 = .ok (.aload_n 0, 1) := by decide +kernel
theorem dM_add_2 : decode prog_12_method_22_code 2 = .ok (.iload_n 1, 1) := by decide +kernel
theorem dM_add_3 : decode prog_12_method_22_code 3 = .ok (.invokevirtual 140, 3) := by decide +kernel
theorem dM_add_6 : decode prog_12_method_22_code 6 = .ok (.ifCond .ne 13, 3) := by decide +kernel
theorem dM_add_9 : decode prog_12_method_22_code 9 = .ok (.iload_n 2, 1) := by decide +kernel
theorem dM_add_10 : decode prog_12_method_22_code 10 = .ok (.iconst 0, 1) := by decide +kernel
theorem dM_add_11 : decode prog_12_method_22_code 11 = .ok (.bipush 9, 2) := by decide +kernel
theorem dM_add_13 : decode prog_12_method_22_code 13 = .ok (.invokestatic 106, 3) := by decide +kernel
theorem dM_add_16 : decode prog_12_method_22_code 16 = .ok (.ifCond .ne 7, 3) := by decide +kernel
theorem dM_add_19 : decode prog_12_method_22_code 19 = .ok (.iconst 1, 1) := by decide +kernel
theorem dM_add_20 : decode prog_12_method_22_code 20 = .ok (.goto 4, 3) := by decide +kernel
theorem dM_add_23 : decode prog_12_method_22_code 23 = .ok (.iconst 0, 1) := by decide +kernel
theorem dM_add_24 : decode prog_12_method_22_code 24 = .ok (.iconst 1, 1) := by decide +kernel
theorem dM_add_25 : decode prog_12_method_22_code 25 = .ok (.invokevirtual 110, 3) := by decide +kernel
theorem dM_add_28 : decode prog_12_method_22_code 28 = .ok (.ifCond .ne 25, 3) := by decide +kernel
theorem dM_add_31 : decode prog_12_method_22_code 31 = .ok (.aload_n 0, 1) := by decide +kernel
theorem dM_add_32 : decode prog_12_method_22_code 32 = .ok (.aload_n 0, 1) := by decide +kernel
theorem dM_add_33 : decode prog_12_method_22_code 33 = .ok (.getfield 49, 3) := by decide +kernel
theorem dM_add_36 : decode prog_12_method_22_code 36 = .ok (.iload_n 1, 1) := by decide +kernel
theorem dM_add_37 : decode prog_12_method_22_code 37 = .ok (.iaload, 1) := by decide +kernel
theorem dM_add_38 : decode prog_12_method_22_code 38 = .ok (.ifCond .le 7, 3) := by decide +kernel
theorem dM_add_41 : decode prog_12_method_22_code 41 = .ok (.iconst 1, 1) := by decide +kernel
theorem dM_add_42 : decode prog_12_method_22_code 42 = .ok (.goto 4, 3) := by decide +kernel
theorem dM_add_45 : decode prog_12_method_22_code 45 = .ok (.iconst 0, 1) := by decide +kernel
theorem dM_add_46 : decode prog_12_method_22_code 46 = .ok (.iconst 2, 1) := by decide +kernel
theorem dM_add_47 : decode prog_12_method_22_code 47 = .ok (.invokevirtual 110, 3) := by decide +kernel
theorem dM_add_50 : decode prog_12_method_22_code 50 = .ok (.ifCond .eq 5, 3) := by decide +kernel
theorem dM_add_53 : decode prog_12_method_22_code 53 = .ok (.iconst 0, 1) := by decide +kernel
theorem dM_add_54 : decode prog_12_method_22_code 54 = .ok (.ireturn, 1) := by decide +kernel
theorem dM_add_55 : decode prog_12_method_22_code 55 = .ok (.iconst 2, 1) := by decide +kernel
theorem dM_add_56 : decode prog_12_method_22_code 56 = .ok (.iload_n 1, 1) := by decide +kernel
theorem dM_add_57 : decode prog_12_method_22_code 57 = .ok (.imul, 1) := by decide +kernel
theorem dM_add_58 : decode prog_12_method_22_code 58 = .ok (.iload_n 3, 1) := by decide +kernel
theorem dM_add_59 : decode prog_12_method_22_code 59 = .ok (.ifCond .eq 7, 3) := by decide +kernel
theorem dM_add_62 : decode prog_12_method_22_code 62 = .ok (.iconst 1, 1) := by decide +kernel
theorem dM_add_63 : decode prog_12_method_22_code 63 = .ok (.goto 4, 3) := by decide +kernel
theorem dM_add_66 : decode prog_12_method_22_code 66 = .ok (.iconst 0, 1) := by decide +kernel
theorem dM_add_67 : decode prog_12_method_22_code 67 = .ok (.iadd, 1) := by decide +kernel
theorem dM_add_68 : decode prog_12_method_22_code 68 = .ok (.istore 4, 2) := by decide +kernel
theorem dM_add_70 : decode prog_12_method_22_code 70 = .ok (.aload_n 0, 1) := by decide +kernel
theorem dM_add_71 : decode prog_12_method_22_code 71 = .ok (.getfield 58, 3) := by decide +kernel
theorem dM_add_74 : decode prog_12_method_22_code 74 = .ok (.iload 4, 2) := by decide +kernel
theorem dM_add_76 : decode prog_12_method_22_code 76 = .ok (.iaload, 1) := by decide +kernel
theorem dM_add_77 : decode prog_12_method_22_code 77 = .ok (.iconst 4, 1) := by decide +kernel
theorem dM_add_78 : decode prog_12_method_22_code 78 = .ok (.if_icmp .ge 7, 3) := by decide +kernel
theorem dM_add_81 : decode prog_12_method_22_code 81 = .ok (.iconst 1, 1) := by decide +kernel
theorem dM_add_82 : decode prog_12_method_22_code 82 = .ok (.goto 4, 3) := by decide +kernel
theorem dM_add_85 : decode prog_12_method_22_code 85 = .ok (.iconst 0, 1) := by decide +kernel
theorem dM_add_86 : decode prog_12_method_22_code 86 = .ok (.istore 5, 2) := by decide +kernel
theorem dM_add_88 : decode prog_12_method_22_code 88 = .ok (.iconst 0, 1) := by decide +kernel
theorem dM_add_89 : decode prog_12_method_22_code 89 = .ok (.istore 6, 2) := by decide +kernel
theorem dM_add_91 : decode prog_12_method_22_code 91 = .ok (.iload 6, 2) := by decide +kernel
theorem dM_add_93 : decode prog_12_method_22_code 93 = .ok (.aload_n 0, 1) := by decide +kernel
theorem dM_add_94 : decode prog_12_method_22_code 94 = .ok (.getfield 58, 3) := by decide +kernel
theorem dM_add_97 : decode prog_12_method_22_code 97 = .ok (.iload 4, 2) := by decide +kernel
theorem dM_add_99 : decode prog_12_method_22_code 99 = .ok (.iaload, 1) := by decide +kernel
theorem dM_add_100 : decode prog_12_method_22_code 100 = .ok (.if_icmp .ge 37, 3) := by decide +kernel
theorem dM_add_103 : decode prog_12_method_22_code 103 = .ok (.iload 5, 2) := by decide +kernel
theorem dM_add_105 : decode prog_12_method_22_code 105 = .ok (.ifCond .eq 23, 3) := by decide +kernel
theorem dM_add_108 : decode prog_12_method_22_code 108 = .ok (.aload_n 0, 1) := by decide +kernel
theorem dM_add_109 : decode prog_12_method_22_code 109 = .ok (.getfield 55, 3) := by decide +kernel
theorem dM_add_112 : decode prog_12_method_22_code 112 = .ok (.iconst 4, 1) := by decide +kernel
theorem dM_add_113 : decode prog_12_method_22_code 113 = .ok (.iload 4, 2) := by decide +kernel
theorem dM_add_115 : decode prog_12_method_22_code 115 = .ok (.imul, 1) := by decide +kernel
theorem dM_add_116 : decode prog_12_method_22_code 116 = .ok (.iload 6, 2) := by decide +kernel
theorem dM_add_118 : decode prog_12_method_22_code 118 = .ok (.iadd, 1) := by decide +kernel
theorem dM_add_119 : decode prog_12_method_22_code 119 = .ok (.iaload, 1) := by decide +kernel
theorem dM_add_120 : decode prog_12_method_22_code 120 = .ok (.iload_n 2, 1) := by decide +kernel
theorem dM_add_121 : decode prog_12_method_22_code 121 = .ok (.if_icmp .eq 7, 3) := by decide +kernel
theorem dM_add_124 : decode prog_12_method_22_code 124 = .ok (.iconst 1, 1) := by decide +kernel
theorem dM_add_125 : decode prog_12_method_22_code 125 = .ok (.goto 4, 3) := by decide +kernel
theorem dM_add_128 : decode prog_12_method_22_code 128 = .ok (.iconst 0, 1) := by decide +kernel
theorem dM_add_129 : decode prog_12_method_22_code 129 = .ok (.istore 5, 2) := by decide +kernel
theorem dM_add_131 : decode prog_12_method_22_code 131 = .ok (.iinc 6 1, 3) := by decide +kernel
theorem dM_add_134 : decode prog_12_method_22_code 134 = .ok (.goto (-43), 3) := by decide +kernel
theorem dM_add_137 : decode prog_12_method_22_code 137 = .ok (.iload 5, 2) := by decide +kernel
theorem dM_add_139 : decode prog_12_method_22_code 139 = .ok (.ifCond .ne 5, 3) := by decide +kernel
theorem dM_add_142 : decode prog_12_method_22_code 142 = .ok (.iconst 0, 1) := by decide +kernel
theorem dM_add_143 : decode prog_12_method_22_code 143 = .ok (.ireturn, 1) := by decide +kernel
theorem dM_add_144 : decode prog_12_method_22_code 144 = .ok (.aload_n 0, 1) := by decide +kernel
theorem dM_add_145 : decode prog_12_method_22_code 145 = .ok (.getfield 55, 3) := by decide +kernel
theorem dM_add_148 : decode prog_12_method_22_code 148 = .ok (.iconst 4, 1) := by decide +kernel
theorem dM_add_149 : decode prog_12_method_22_code 149 = .ok (.iload 4, 2) := by decide +kernel
theorem dM_add_151 : decode prog_12_method_22_code 151 = .ok (.imul, 1) := by decide +kernel
theorem dM_add_152 : decode prog_12_method_22_code 152 = .ok (.aload_n 0, 1) := by decide +kernel
theorem dM_add_153 : decode prog_12_method_22_code 153 = .ok (.getfield 58, 3) := by decide +kernel
theorem dM_add_156 : decode prog_12_method_22_code 156 = .ok (.iload 4, 2) := by decide +kernel
theorem dM_add_158 : decode prog_12_method_22_code 158 = .ok (.iaload, 1) := by decide +kernel
theorem dM_add_159 : decode prog_12_method_22_code 159 = .ok (.iadd, 1) := by decide +kernel
theorem dM_add_160 : decode prog_12_method_22_code 160 = .ok (.iload_n 2, 1) := by decide +kernel
theorem dM_add_161 : decode prog_12_method_22_code 161 = .ok (.iastore, 1) := by decide +kernel
theorem dM_add_162 : decode prog_12_method_22_code 162 = .ok (.aload_n 0, 1) := by decide +kernel
theorem dM_add_163 : decode prog_12_method_22_code 163 = .ok (.getfield 58, 3) := by decide +kernel
theorem dM_add_166 : decode prog_12_method_22_code 166 = .ok (.iload 4, 2) := by decide +kernel
theorem dM_add_168 : decode prog_12_method_22_code 168 = .ok (.dup2, 1) := by decide +kernel
theorem dM_add_169 : decode prog_12_method_22_code 169 = .ok (.iaload, 1) := by decide +kernel
theorem dM_add_170 : decode prog_12_method_22_code 170 = .ok (.iconst 1, 1) := by decide +kernel
theorem dM_add_171 : decode prog_12_method_22_code 171 = .ok (.iadd, 1) := by decide +kernel
theorem dM_add_172 : decode prog_12_method_22_code 172 = .ok (.iastore, 1) := by decide +kernel
theorem dM_add_173 : decode prog_12_method_22_code 173 = .ok (.iconst 1, 1) := by decide +kernel
theorem dM_add_174 : decode prog_12_method_22_code 174 = .ok (.ireturn, 1) := by decide +kernel
theorem dM_filter_0 : decode prog_12_method_23_code 0 = .ok (.aload_n 0, 1) := by decide +kernel
theorem dM_filter_1 : decode prog_12_method_23_code 1 = .ok (.aload_n 0, 1) := by decide +kernel
theorem dM_filter_2 : decode prog_12_method_23_code 2 = .ok (.iload_n 1, 1) := by decide +kernel
theorem dM_filter_3 : decode prog_12_method_23_code 3 = .ok (.invokevirtual 140, 3) := by decide +kernel
theorem dM_filter_6 : decode prog_12_method_23_code 6 = .ok (.ifCond .ne 14, 3) := by decide +kernel
theorem dM_filter_9 : decode prog_12_method_23_code 9 = .ok (.iload_n 2, 1) := by decide +kernel
theorem dM_filter_10 : decode prog_12_method_23_code 10 = .ok (.iconst 0, 1) := by decide +kernel
theorem dM_filter_11 : decode prog_12_method_23_code 11 = .ok (.sipush 255, 3) := by decide +kernel
theorem dM_filter_14 : decode prog_12_method_23_code 14 = .ok (.invokestatic 106, 3) := by decide +kernel
theorem dM_filter_17 : decode prog_12_method_23_code 17 = .ok (.ifCond .ne 7, 3) := by decide +kernel
theorem dM_filter_20 : decode prog_12_method_23_code 20 = .ok (.iconst 1, 1) := by decide +kernel
theorem dM_filter_21 : decode prog_12_method_23_code 21 = .ok (.goto 4, 3) := by decide +kernel
theorem dM_filter_24 : decode prog_12_method_23_code 24 = .ok (.iconst 0, 1) := by decide +kernel
theorem dM_filter_25 : decode prog_12_method_23_code 25 = .ok (.iconst 1, 1) := by decide +kernel
theorem dM_filter_26 : decode prog_12_method_23_code 26 = .ok (.invokevirtual 110, 3) := by decide +kernel
theorem dM_filter_29 : decode prog_12_method_23_code 29 = .ok (.ifCond .ne 25, 3) := by decide +kernel
theorem dM_filter_32 : decode prog_12_method_23_code 32 = .ok (.aload_n 0, 1) := by decide +kernel
theorem dM_filter_33 : decode prog_12_method_23_code 33 = .ok (.aload_n 0, 1) := by decide +kernel
theorem dM_filter_34 : decode prog_12_method_23_code 34 = .ok (.getfield 49, 3) := by decide +kernel
theorem dM_filter_37 : decode prog_12_method_23_code 37 = .ok (.iload_n 1, 1) := by decide +kernel
theorem dM_filter_38 : decode prog_12_method_23_code 38 = .ok (.iaload, 1) := by decide +kernel
theorem dM_filter_39 : decode prog_12_method_23_code 39 = .ok (.ifCond .le 7, 3) := by decide +kernel
theorem dM_filter_42 : decode prog_12_method_23_code 42 = .ok (.iconst 1, 1) := by decide +kernel
theorem dM_filter_43 : decode prog_12_method_23_code 43 = .ok (.goto 4, 3) := by decide +kernel
theorem dM_filter_46 : decode prog_12_method_23_code 46 = .ok (.iconst 0, 1) := by decide +kernel
theorem dM_filter_47 : decode prog_12_method_23_code 47 = .ok (.iconst 2, 1) := by decide +kernel
theorem dM_filter_48 : decode prog_12_method_23_code 48 = .ok (.invokevirtual 110, 3) := by decide +kernel
theorem dM_filter_51 : decode prog_12_method_23_code 51 = .ok (.ifCond .eq 4, 3) := by decide +kernel
theorem dM_filter_54 : decode prog_12_method_23_code 54 = .ok (.return_, 1) := by decide +kernel
theorem dM_filter_55 : decode prog_12_method_23_code 55 = .ok (.aload_n 0, 1) := by decide +kernel
theorem dM_filter_56 : decode prog_12_method_23_code 56 = .ok (.getfield 61, 3) := by decide +kernel
theorem dM_filter_59 : decode prog_12_method_23_code 59 = .ok (.iload_n 1, 1) := by decide +kernel
theorem dM_filter_60 : decode prog_12_method_23_code 60 = .ok (.iconst 1, 1) := by decide +kernel
theorem dM_filter_61 : decode prog_12_method_23_code 61 = .ok (.bastore, 1) := by decide +kernel
theorem dM_filter_62 : decode prog_12_method_23_code 62 = .ok (.aload_n 0, 1) := by decide +kernel
theorem dM_filter_63 : decode prog_12_method_23_code 63 = .ok (.getfield 64, 3) := by decide +kernel
theorem dM_filter_66 : decode prog_12_method_23_code 66 = .ok (.iload_n 1, 1) := by decide +kernel
theorem dM_filter_67 : decode prog_12_method_23_code 67 = .ok (.iload_n 2, 1) := by decide +kernel
theorem dM_filter_68 : decode prog_12_method_23_code 68 = .ok (.iastore, 1) := by decide +kernel
theorem dM_filter_69 : decode prog_12_method_23_code 69 = .ok (.aload_n 0, 1) := by decide +kernel
theorem dM_filter_70 : decode prog_12_method_23_code 70 = .ok (.getfield 67, 3) := by decide +kernel
theorem dM_filter_73 : decode prog_12_method_23_code 73 = .ok (.iload_n 1, 1) := by decide +kernel
theorem dM_filter_74 : decode prog_12_method_23_code 74 = .ok (.lload_n 3, 1) := by decide +kernel
theorem dM_filter_75 : decode prog_12_method_23_code 75 = .ok (.lastore, 1) := by decide +kernel
theorem dM_filter_76 : decode prog_12_method_23_code 76 = .ok (.aload_n 0, 1) := by decide +kernel
theorem dM_filter_77 : decode prog_12_method_23_code 77 = .ok (.getfield 70, 3) := by decide +kernel
theorem dM_filter_80 : decode prog_12_method_23_code 80 = .ok (.iload_n 1, 1) := by decide +kernel
theorem dM_filter_81 : decode prog_12_method_23_code 81 = .ok (.lload 5, 2) := by decide +kernel
theorem dM_filter_83 : decode prog_12_method_23_code 83 = .ok (.lastore, 1) := by decide +kernel
theorem dM_filter_84 : decode prog_12_method_23_code 84 = .ok (.return_, 1) := by decide +kernel
theorem dM_lock_0 : decode prog_12_method_24_code 0 = .ok (.aload_n 0, 1) := by decide +kernel
theorem dM_lock_1 : decode prog_12_method_24_code 1 = .ok (.aload_n 0, 1) := by decide +kernel
theorem dM_lock_2 : decode prog_12_method_24_code 2 = .ok (.iload_n 1, 1) := by decide +kernel
theorem dM_lock_3 : decode prog_12_method_24_code 3 = .ok (.invokevirtual 140, 3) := by decide +kernel
theorem dM_lock_6 : decode prog_12_method_24_code 6 = .ok (.iconst 1, 1) := by decide +kernel
theorem dM_lock_7 : decode prog_12_method_24_code 7 = .ok (.invokevirtual 110, 3) := by decide +kernel
theorem dM_lock_10 : decode prog_12_method_24_code 10 = .ok (.ifCond .ne 61, 3) := by decide +kernel
theorem dM_lock_13 : decode prog_12_method_24_code 13 = .ok (.aload_n 0, 1) := by decide +kernel
theorem dM_lock_14 : decode prog_12_method_24_code 14 = .ok (.aload_n 0, 1) := by decide +kernel
theorem dM_lock_15 : decode prog_12_method_24_code 15 = .ok (.getfield 49, 3) := by decide +kernel
theorem dM_lock_18 : decode prog_12_method_24_code 18 = .ok (.iload_n 1, 1) := by decide +kernel
theorem dM_lock_19 : decode prog_12_method_24_code 19 = .ok (.iaload, 1) := by decide +kernel
theorem dM_lock_20 : decode prog_12_method_24_code 20 = .ok (.ifCond .gt 18, 3) := by decide +kernel
theorem dM_lock_23 : decode prog_12_method_24_code 23 = .ok (.aload_n 0, 1) := by decide +kernel
theorem dM_lock_24 : decode prog_12_method_24_code 24 = .ok (.getfield 49, 3) := by decide +kernel
theorem dM_lock_27 : decode prog_12_method_24_code 27 = .ok (.aload_n 0, 1) := by decide +kernel
theorem dM_lock_28 : decode prog_12_method_24_code 28 = .ok (.getfield 52, 3) := by decide +kernel
theorem dM_lock_31 : decode prog_12_method_24_code 31 = .ok (.iload_n 1, 1) := by decide +kernel
theorem dM_lock_32 : decode prog_12_method_24_code 32 = .ok (.iaload, 1) := by decide +kernel
theorem dM_lock_33 : decode prog_12_method_24_code 33 = .ok (.iaload, 1) := by decide +kernel
theorem dM_lock_34 : decode prog_12_method_24_code 34 = .ok (.iconst 1, 1) := by decide +kernel
theorem dM_lock_35 : decode prog_12_method_24_code 35 = .ok (.if_icmp .eq 7, 3) := by decide +kernel
theorem dM_lock_38 : decode prog_12_method_24_code 38 = .ok (.iconst 1, 1) := by decide +kernel
theorem dM_lock_39 : decode prog_12_method_24_code 39 = .ok (.goto 4, 3) := by decide +kernel
theorem dM_lock_42 : decode prog_12_method_24_code 42 = .ok (.iconst 0, 1) := by decide +kernel
theorem dM_lock_43 : decode prog_12_method_24_code 43 = .ok (.iconst 2, 1) := by decide +kernel
theorem dM_lock_44 : decode prog_12_method_24_code 44 = .ok (.invokevirtual 110, 3) := by decide +kernel
theorem dM_lock_47 : decode prog_12_method_24_code 47 = .ok (.ifCond .ne 24, 3) := by decide +kernel
theorem dM_lock_50 : decode prog_12_method_24_code 50 = .ok (.aload_n 0, 1) := by decide +kernel
theorem dM_lock_51 : decode prog_12_method_24_code 51 = .ok (.aload_n 0, 1) := by decide +kernel
theorem dM_lock_52 : decode prog_12_method_24_code 52 = .ok (.invokevirtual 144, 3) := by decide +kernel
theorem dM_lock_55 : decode prog_12_method_24_code 55 = .ok (.iconst 3, 1) := by decide +kernel
theorem dM_lock_56 : decode prog_12_method_24_code 56 = .ok (.if_icmp .ge 7, 3) := by decide +kernel
theorem dM_lock_59 : decode prog_12_method_24_code 59 = .ok (.iconst 1, 1) := by decide +kernel
theorem dM_lock_60 : decode prog_12_method_24_code 60 = .ok (.goto 4, 3) := by decide +kernel
theorem dM_lock_63 : decode prog_12_method_24_code 63 = .ok (.iconst 0, 1) := by decide +kernel
theorem dM_lock_64 : decode prog_12_method_24_code 64 = .ok (.iconst 3, 1) := by decide +kernel
theorem dM_lock_65 : decode prog_12_method_24_code 65 = .ok (.invokevirtual 110, 3) := by decide +kernel
theorem dM_lock_68 : decode prog_12_method_24_code 68 = .ok (.ifCond .eq 5, 3) := by decide +kernel
theorem dM_lock_71 : decode prog_12_method_24_code 71 = .ok (.iconst 0, 1) := by decide +kernel
theorem dM_lock_72 : decode prog_12_method_24_code 72 = .ok (.ireturn, 1) := by decide +kernel
theorem dM_lock_73 : decode prog_12_method_24_code 73 = .ok (.aload_n 0, 1) := by decide +kernel
theorem dM_lock_74 : decode prog_12_method_24_code 74 = .ok (.iload_n 1, 1) := by decide +kernel
theorem dM_lock_75 : decode prog_12_method_24_code 75 = .ok (.iconst 1, 1) := by decide +kernel
theorem dM_lock_76 : decode prog_12_method_24_code 76 = .ok (.aload_n 0, 1) := by decide +kernel
theorem dM_lock_77 : decode prog_12_method_24_code 77 = .ok (.getfield 73, 3) := by decide +kernel
theorem dM_lock_80 : decode prog_12_method_24_code 80 = .ok (.iconst 3, 1) := by decide +kernel
theorem dM_lock_81 : decode prog_12_method_24_code 81 = .ok (.aload_n 0, 1) := by decide +kernel
theorem dM_lock_82 : decode prog_12_method_24_code 82 = .ok (.getfield 52, 3) := by decide +kernel
theorem dM_lock_85 : decode prog_12_method_24_code 85 = .ok (.iload_n 1, 1) := by decide +kernel
theorem dM_lock_86 : decode prog_12_method_24_code 86 = .ok (.iaload, 1) := by decide +kernel
theorem dM_lock_87 : decode prog_12_method_24_code 87 = .ok (.imul, 1) := by decide +kernel
theorem dM_lock_88 : decode prog_12_method_24_code 88 = .ok (.iconst 1, 1) := by decide +kernel
theorem dM_lock_89 : decode prog_12_method_24_code 89 = .ok (.iadd, 1) := by decide +kernel
theorem dM_lock_90 : decode prog_12_method_24_code 90 = .ok (.iaload, 1) := by decide +kernel
theorem dM_lock_91 : decode prog_12_method_24_code 91 = .ok (.invokevirtual 147, 3) := by decide +kernel
theorem dM_lock_94 : decode prog_12_method_24_code 94 = .ok (.istore_n 2, 1) := by decide +kernel
theorem dM_lock_95 : decode prog_12_method_24_code 95 = .ok (.aload_n 0, 1) := by decide +kernel
theorem dM_lock_96 : decode prog_12_method_24_code 96 = .ok (.iload_n 1, 1) := by decide +kernel
theorem dM_lock_97 : decode prog_12_method_24_code 97 = .ok (.iload_n 2, 1) := by decide +kernel
theorem dM_lock_98 : decode prog_12_method_24_code 98 = .ok (.invokevirtual 151, 3) := by decide +kernel
theorem dM_lock_101 : decode prog_12_method_24_code 101 = .ok (.istore_n 3, 1) := by decide +kernel
theorem dM_lock_102 : decode prog_12_method_24_code 102 = .ok (.aload_n 0, 1) := by decide +kernel
theorem dM_lock_103 : decode prog_12_method_24_code 103 = .ok (.iload_n 1, 1) := by decide +kernel
theorem dM_lock_104 : decode prog_12_method_24_code 104 = .ok (.iconst 0, 1) := by decide +kernel
theorem dM_lock_105 : decode prog_12_method_24_code 105 = .ok (.iload_n 2, 1) := by decide +kernel
theorem dM_lock_106 : decode prog_12_method_24_code 106 = .ok (.invokevirtual 147, 3) := by decide +kernel
theorem dM_lock_109 : decode prog_12_method_24_code 109 = .ok (.istore 4, 2) := by decide +kernel
theorem dM_lock_111 : decode prog_12_method_24_code 111 = .ok (.aload_n 0, 1) := by decide +kernel
theorem dM_lock_112 : decode prog_12_method_24_code 112 = .ok (.getfield 73, 3) := by decide +kernel
theorem dM_lock_115 : decode prog_12_method_24_code 115 = .ok (.iconst 3, 1) := by decide +kernel
theorem dM_lock_116 : decode prog_12_method_24_code 116 = .ok (.iload_n 1, 1) := by decide +kernel
theorem dM_lock_117 : decode prog_12_method_24_code 117 = .ok (.imul, 1) := by decide +kernel
theorem dM_lock_118 : decode prog_12_method_24_code 118 = .ok (.iload_n 2, 1) := by decide +kernel
theorem dM_lock_119 : decode prog_12_method_24_code 119 = .ok (.iastore, 1) := by decide +kernel
theorem dM_lock_120 : decode prog_12_method_24_code 120 = .ok (.aload_n 0, 1) := by decide +kernel
theorem dM_lock_121 : decode prog_12_method_24_code 121 = .ok (.getfield 73, 3) := by decide +kernel
theorem dM_lock_124 : decode prog_12_method_24_code 124 = .ok (.iconst 3, 1) := by decide +kernel
theorem dM_lock_125 : decode prog_12_method_24_code 125 = .ok (.iload_n 1, 1) := by decide +kernel
theorem dM_lock_126 : decode prog_12_method_24_code 126 = .ok (.imul, 1) := by decide +kernel
theorem dM_lock_127 : decode prog_12_method_24_code 127 = .ok (.iconst 1, 1) := by decide +kernel
theorem dM_lock_128 : decode prog_12_method_24_code 128 = .ok (.iadd, 1) := by decide +kernel
theorem dM_lock_129 : decode prog_12_method_24_code 129 = .ok (.iload_n 3, 1) := by decide +kernel
theorem dM_lock_130 : decode prog_12_method_24_code 130 = .ok (.iastore, 1) := by decide +kernel
theorem dM_lock_131 : decode prog_12_method_24_code 131 = .ok (.aload_n 0, 1) := by decide +kernel
theorem dM_lock_132 : decode prog_12_method_24_code 132 = .ok (.getfield 73, 3) := by decide +kernel
theorem dM_lock_135 : decode prog_12_method_24_code 135 = .ok (.iconst 3, 1) := by decide +kernel
theorem dM_lock_136 : decode prog_12_method_24_code 136 = .ok (.iload_n 1, 1) := by decide +kernel
theorem dM_lock_137 : decode prog_12_method_24_code 137 = .ok (.imul, 1) := by decide +kernel
theorem dM_lock_138 : decode prog_12_method_24_code 138 = .ok (.iconst 2, 1) := by decide +kernel
theorem dM_lock_139 : decode prog_12_method_24_code 139 = .ok (.iadd, 1) := by decide +kernel
theorem dM_lock_140 : decode prog_12_method_24_code 140 = .ok (.iload 4, 2) := by decide +kernel
theorem dM_lock_142 : decode prog_12_method_24_code 142 = .ok (.iastore, 1) := by decide +kernel
theorem dM_lock_143 : decode prog_12_method_24_code 143 = .ok (.aload_n 0, 1) := by decide +kernel
theorem dM_lock_144 : decode prog_12_method_24_code 144 = .ok (.getfield 49, 3) := by decide +kernel
theorem dM_lock_147 : decode prog_12_method_24_code 147 = .ok (.iload_n 1, 1) := by decide +kernel
theorem dM_lock_148 : decode prog_12_method_24_code 148 = .ok (.iconst 1, 1) := by decide +kernel
theorem dM_lock_149 : decode prog_12_method_24_code 149 = .ok (.iastore, 1) := by decide +kernel
theorem dM_lock_150 : decode prog_12_method_24_code 150 = .ok (.iload 4, 2) := by decide +kernel
theorem dM_lock_152 : decode prog_12_method_24_code 152 = .ok (.ireturn, 1) := by decide +kernel
theorem dM_release_0 : decode prog_12_method_25_code 0 = .ok (.aload_n 0, 1) := by decide +kernel
theorem dM_release_1 : decode prog_12_method_25_code 1 = .ok (.aload_n 0, 1) := by decide +kernel
theorem dM_release_2 : decode prog_12_method_25_code 2 = .ok (.iload_n 1, 1) := by decide +kernel
theorem dM_release_3 : decode prog_12_method_25_code 3 = .ok (.invokevirtual 140, 3) := by decide +kernel
theorem dM_release_6 : decode prog_12_method_25_code 6 = .ok (.ifCond .ne 7, 3) := by decide +kernel
theorem dM_release_9 : decode prog_12_method_25_code 9 = .ok (.iload_n 1, 1) := by decide +kernel
theorem dM_release_10 : decode prog_12_method_25_code 10 = .ok (.ifCond .ne 7, 3) := by decide +kernel
theorem dM_release_13 : decode prog_12_method_25_code 13 = .ok (.iconst 1, 1) := by decide +kernel
theorem dM_release_14 : decode prog_12_method_25_code 14 = .ok (.goto 4, 3) := by decide +kernel
theorem dM_release_17 : decode prog_12_method_25_code 17 = .ok (.iconst 0, 1) := by decide +kernel
theorem dM_release_18 : decode prog_12_method_25_code 18 = .ok (.iconst 1, 1) := by decide +kernel
theorem dM_release_19 : decode prog_12_method_25_code 19 = .ok (.invokevirtual 110, 3) := by decide +kernel
theorem dM_release_22 : decode prog_12_method_25_code 22 = .ok (.ifCond .eq 5, 3) := by decide +kernel
theorem dM_release_25 : decode prog_12_method_25_code 25 = .ok (.iconst 0, 1) := by decide +kernel
theorem dM_release_26 : decode prog_12_method_25_code 26 = .ok (.ireturn, 1) := by decide +kernel
theorem dM_release_27 : decode prog_12_method_25_code 27 = .ok (.iconst 0, 1) := by decide +kernel
theorem dM_release_28 : decode prog_12_method_25_code 28 = .ok (.istore_n 2, 1) := by decide +kernel
theorem dM_release_29 : decode prog_12_method_25_code 29 = .ok (.iconst 1, 1) := by decide +kernel
theorem dM_release_30 : decode prog_12_method_25_code 30 = .ok (.istore_n 3, 1) := by decide +kernel
theorem dM_release_31 : decode prog_12_method_25_code 31 = .ok (.iload_n 3, 1) := by decide +kernel
theorem dM_release_32 : decode prog_12_method_25_code 32 = .ok (.aload_n 0, 1) := by decide +kernel
theorem dM_release_33 : decode prog_12_method_25_code 33 = .ok (.getfield 45, 3) := by decide +kernel
theorem dM_release_36 : decode prog_12_method_25_code 36 = .ok (.if_icmp .ge 39, 3) := by decide +kernel
theorem dM_release_39 : decode prog_12_method_25_code 39 = .ok (.iload_n 2, 1) := by decide +kernel
theorem dM_release_40 : decode prog_12_method_25_code 40 = .ok (.ifCond .ne 23, 3) := by decide +kernel
theorem dM_release_43 : decode prog_12_method_25_code 43 = .ok (.aload_n 0, 1) := by decide +kernel
theorem dM_release_44 : decode prog_12_method_25_code 44 = .ok (.getfield 52, 3) := by decide +kernel
theorem dM_release_47 : decode prog_12_method_25_code 47 = .ok (.iload_n 3, 1) := by decide +kernel
theorem dM_release_48 : decode prog_12_method_25_code 48 = .ok (.iaload, 1) := by decide +kernel
theorem dM_release_49 : decode prog_12_method_25_code 49 = .ok (.iload_n 1, 1) := by decide +kernel
theorem dM_release_50 : decode prog_12_method_25_code 50 = .ok (.if_icmp .ne 17, 3) := by decide +kernel
theorem dM_release_53 : decode prog_12_method_25_code 53 = .ok (.aload_n 0, 1) := by decide +kernel
theorem dM_release_54 : decode prog_12_method_25_code 54 = .ok (.getfield 49, 3) := by decide +kernel
theorem dM_release_57 : decode prog_12_method_25_code 57 = .ok (.iload_n 3, 1) := by decide +kernel
theorem dM_release_58 : decode prog_12_method_25_code 58 = .ok (.iaload, 1) := by decide +kernel
theorem dM_release_59 : decode prog_12_method_25_code 59 = .ok (.iconst 2, 1) := by decide +kernel
theorem dM_release_60 : decode prog_12_method_25_code 60 = .ok (.if_icmp .eq 7, 3) := by decide +kernel
theorem dM_release_63 : decode prog_12_method_25_code 63 = .ok (.iconst 1, 1) := by decide +kernel
theorem dM_release_64 : decode prog_12_method_25_code 64 = .ok (.goto 4, 3) := by decide +kernel
theorem dM_release_67 : decode prog_12_method_25_code 67 = .ok (.iconst 0, 1) := by decide +kernel
theorem dM_release_68 : decode prog_12_method_25_code 68 = .ok (.istore_n 2, 1) := by decide +kernel
theorem dM_release_69 : decode prog_12_method_25_code 69 = .ok (.iinc 3 1, 3) := by decide +kernel
theorem dM_release_72 : decode prog_12_method_25_code 72 = .ok (.goto (-41), 3) := by decide +kernel
theorem dM_release_75 : decode prog_12_method_25_code 75 = .ok (.aload_n 0, 1) := by decide +kernel
theorem dM_release_76 : decode prog_12_method_25_code 76 = .ok (.aload_n 0, 1) := by decide +kernel
theorem dM_release_77 : decode prog_12_method_25_code 77 = .ok (.getfield 49, 3) := by decide +kernel
theorem dM_release_80 : decode prog_12_method_25_code 80 = .ok (.iload_n 1, 1) := by decide +kernel
theorem dM_release_81 : decode prog_12_method_25_code 81 = .ok (.iaload, 1) := by decide +kernel
theorem dM_release_82 : decode prog_12_method_25_code 82 = .ok (.iconst 2, 1) := by decide +kernel
theorem dM_release_83 : decode prog_12_method_25_code 83 = .ok (.if_icmp .eq 7, 3) := by decide +kernel
theorem dM_release_86 : decode prog_12_method_25_code 86 = .ok (.iload_n 2, 1) := by decide +kernel
theorem dM_release_87 : decode prog_12_method_25_code 87 = .ok (.ifCond .eq 7, 3) := by decide +kernel
theorem dM_release_90 : decode prog_12_method_25_code 90 = .ok (.iconst 1, 1) := by decide +kernel
theorem dM_release_91 : decode prog_12_method_25_code 91 = .ok (.goto 4, 3) := by decide +kernel
theorem dM_release_94 : decode prog_12_method_25_code 94 = .ok (.iconst 0, 1) := by decide +kernel
theorem dM_release_95 : decode prog_12_method_25_code 95 = .ok (.iconst 2, 1) := by decide +kernel
theorem dM_release_96 : decode prog_12_method_25_code 96 = .ok (.invokevirtual 110, 3) := by decide +kernel
theorem dM_release_99 : decode prog_12_method_25_code 99 = .ok (.ifCond .eq 5, 3) := by decide +kernel
theorem dM_release_102 : decode prog_12_method_25_code 102 = .ok (.iconst 0, 1) := by decide +kernel
theorem dM_release_103 : decode prog_12_method_25_code 103 = .ok (.ireturn, 1) := by decide +kernel
theorem dM_release_104 : decode prog_12_method_25_code 104 = .ok (.aload_n 0, 1) := by decide +kernel
theorem dM_release_105 : decode prog_12_method_25_code 105 = .ok (.getfield 49, 3) := by decide +kernel
theorem dM_release_108 : decode prog_12_method_25_code 108 = .ok (.iload_n 1, 1) := by decide +kernel
theorem dM_release_109 : decode prog_12_method_25_code 109 = .ok (.iconst 2, 1) := by decide +kernel
theorem dM_release_110 : decode prog_12_method_25_code 110 = .ok (.iastore, 1) := by decide +kernel
theorem dM_release_111 : decode prog_12_method_25_code 111 = .ok (.aload_n 0, 1) := by decide +kernel
theorem dM_release_112 : decode prog_12_method_25_code 112 = .ok (.invokevirtual 154, 3) := by decide +kernel
theorem dM_release_115 : decode prog_12_method_25_code 115 = .ok (.ireturn, 1) := by decide +kernel
theorem dM_loader_0 : decode prog_12_method_26_code 0 = .ok (.aload_n 0, 1) := by decide +kernel
theorem dM_loader_1 : decode prog_12_method_26_code 1 = .ok (.aload_n 0, 1) := by decide +kernel
theorem dM_loader_2 : decode prog_12_method_26_code 2 = .ok (.iload_n 1, 1) := by decide +kernel
theorem dM_loader_3 : decode prog_12_method_26_code 3 = .ok (.invokevirtual 140, 3) := by decide +kernel
theorem dM_loader_6 : decode prog_12_method_26_code 6 = .ok (.iconst 1, 1) := by decide +kernel
theorem dM_loader_7 : decode prog_12_method_26_code 7 = .ok (.invokevirtual 110, 3) := by decide +kernel
theorem dM_loader_10 : decode prog_12_method_26_code 10 = .ok (.ifCond .eq 5, 3) := by decide +kernel
theorem dM_loader_13 : decode prog_12_method_26_code 13 = .ok (.iconst 0, 1) := by decide +kernel
theorem dM_loader_14 : decode prog_12_method_26_code 14 = .ok (.ireturn, 1) := by decide +kernel
theorem dM_loader_15 : decode prog_12_method_26_code 15 = .ok (.aload_n 0, 1) := by decide +kernel
theorem dM_loader_16 : decode prog_12_method_26_code 16 = .ok (.getfield 49, 3) := by decide +kernel
theorem dM_loader_19 : decode prog_12_method_26_code 19 = .ok (.iload_n 1, 1) := by decide +kernel
theorem dM_loader_20 : decode prog_12_method_26_code 20 = .ok (.iaload, 1) := by decide +kernel
theorem dM_loader_21 : decode prog_12_method_26_code 21 = .ok (.iconst 1, 1) := by decide +kernel
theorem dM_loader_22 : decode prog_12_method_26_code 22 = .ok (.if_icmp .ne 24, 3) := by decide +kernel
theorem dM_loader_25 : decode prog_12_method_26_code 25 = .ok (.aload_n 0, 1) := by decide +kernel
theorem dM_loader_26 : decode prog_12_method_26_code 26 = .ok (.getfield 73, 3) := by decide +kernel
theorem dM_loader_29 : decode prog_12_method_26_code 29 = .ok (.iconst 3, 1) := by decide +kernel
theorem dM_loader_30 : decode prog_12_method_26_code 30 = .ok (.iload_n 1, 1) := by decide +kernel
theorem dM_loader_31 : decode prog_12_method_26_code 31 = .ok (.imul, 1) := by decide +kernel
theorem dM_loader_32 : decode prog_12_method_26_code 32 = .ok (.iload_n 2, 1) := by decide +kernel
theorem dM_loader_33 : decode prog_12_method_26_code 33 = .ok (.ifCond .eq 7, 3) := by decide +kernel
theorem dM_loader_36 : decode prog_12_method_26_code 36 = .ok (.iconst 1, 1) := by decide +kernel
theorem dM_loader_37 : decode prog_12_method_26_code 37 = .ok (.goto 4, 3) := by decide +kernel
theorem dM_loader_40 : decode prog_12_method_26_code 40 = .ok (.iconst 2, 1) := by decide +kernel
theorem dM_loader_41 : decode prog_12_method_26_code 41 = .ok (.iadd, 1) := by decide +kernel
theorem dM_loader_42 : decode prog_12_method_26_code 42 = .ok (.iaload, 1) := by decide +kernel
theorem dM_loader_43 : decode prog_12_method_26_code 43 = .ok (.goto 4, 3) := by decide +kernel
theorem dM_loader_46 : decode prog_12_method_26_code 46 = .ok (.iconst (-1), 1) := by decide +kernel
theorem dM_loader_47 : decode prog_12_method_26_code 47 = .ok (.ireturn, 1) := by decide +kernel
theorem dM_look_0 : decode prog_12_method_27_code 0 = .ok (.aload_n 0, 1) := by decide +kernel
theorem dM_look_1 : decode prog_12_method_27_code 1 = .ok (.iconst 0, 1) := by decide +kernel
theorem dM_look_2 : decode prog_12_method_27_code 2 = .ok (.putfield 103, 3) := by decide +kernel
theorem dM_look_5 : decode prog_12_method_27_code 5 = .ok (.iload_n 1, 1) := by decide +kernel
theorem dM_look_6 : decode prog_12_method_27_code 6 = .ok (.ifCond .lt 27, 3) := by decide +kernel
theorem dM_look_9 : decode prog_12_method_27_code 9 = .ok (.iload_n 1, 1) := by decide +kernel
theorem dM_look_10 : decode prog_12_method_27_code 10 = .ok (.bipush 41, 2) := by decide +kernel
theorem dM_look_12 : decode prog_12_method_27_code 12 = .ok (.if_icmp .ge 21, 3) := by decide +kernel
theorem dM_look_15 : decode prog_12_method_27_code 15 = .ok (.aload_n 0, 1) := by decide +kernel
theorem dM_look_16 : decode prog_12_method_27_code 16 = .ok (.getfield 22, 3) := by decide +kernel
theorem dM_look_19 : decode prog_12_method_27_code 19 = .ok (.iload_n 1, 1) := by decide +kernel
theorem dM_look_20 : decode prog_12_method_27_code 20 = .ok (.baload, 1) := by decide +kernel
theorem dM_look_21 : decode prog_12_method_27_code 21 = .ok (.ifCond .eq 12, 3) := by decide +kernel
theorem dM_look_24 : decode prog_12_method_27_code 24 = .ok (.iload_n 2, 1) := by decide +kernel
theorem dM_look_25 : decode prog_12_method_27_code 25 = .ok (.iconst 0, 1) := by decide +kernel
theorem dM_look_26 : decode prog_12_method_27_code 26 = .ok (.iconst 3, 1) := by decide +kernel
theorem dM_look_27 : decode prog_12_method_27_code 27 = .ok (.invokestatic 106, 3) := by decide +kernel
theorem dM_look_30 : decode prog_12_method_27_code 30 = .ok (.ifCond .ne 5, 3) := by decide +kernel
theorem dM_look_33 : decode prog_12_method_27_code 33 = .ok (.iconst (-1), 1) := by decide +kernel
theorem dM_look_34 : decode prog_12_method_27_code 34 = .ok (.ireturn, 1) := by decide +kernel
theorem dM_look_35 : decode prog_12_method_27_code 35 = .ok (.iconst 0, 1) := by decide +kernel
theorem dM_look_36 : decode prog_12_method_27_code 36 = .ok (.istore_n 3, 1) := by decide +kernel
theorem dM_look_37 : decode prog_12_method_27_code 37 = .ok (.bipush 8, 2) := by decide +kernel
theorem dM_look_39 : decode prog_12_method_27_code 39 = .ok (.istore 4, 2) := by decide +kernel
theorem dM_look_41 : decode prog_12_method_27_code 41 = .ok (.iload 4, 2) := by decide +kernel
theorem dM_look_43 : decode prog_12_method_27_code 43 = .ok (.aload_n 0, 1) := by decide +kernel
theorem dM_look_44 : decode prog_12_method_27_code 44 = .ok (.getfield 82, 3) := by decide +kernel
theorem dM_look_47 : decode prog_12_method_27_code 47 = .ok (.if_icmp .ge 28, 3) := by decide +kernel
theorem dM_look_50 : decode prog_12_method_27_code 50 = .ok (.aload_n 0, 1) := by decide +kernel
theorem dM_look_51 : decode prog_12_method_27_code 51 = .ok (.getfield 88, 3) := by decide +kernel
theorem dM_look_54 : decode prog_12_method_27_code 54 = .ok (.iload 4, 2) := by decide +kernel
theorem dM_look_56 : decode prog_12_method_27_code 56 = .ok (.iaload, 1) := by decide +kernel
theorem dM_look_57 : decode prog_12_method_27_code 57 = .ok (.iload_n 1, 1) := by decide +kernel
theorem dM_look_58 : decode prog_12_method_27_code 58 = .ok (.if_icmp .ne 9, 3) := by decide +kernel
theorem dM_look_61 : decode prog_12_method_27_code 61 = .ok (.iload_n 3, 1) := by decide +kernel
theorem dM_look_62 : decode prog_12_method_27_code 62 = .ok (.iconst 1, 1) := by decide +kernel
theorem dM_look_63 : decode prog_12_method_27_code 63 = .ok (.iadd, 1) := by decide +kernel
theorem dM_look_64 : decode prog_12_method_27_code 64 = .ok (.goto 4, 3) := by decide +kernel
theorem dM_look_67 : decode prog_12_method_27_code 67 = .ok (.iload_n 3, 1) := by decide +kernel
theorem dM_look_68 : decode prog_12_method_27_code 68 = .ok (.istore_n 3, 1) := by decide +kernel
theorem dM_look_69 : decode prog_12_method_27_code 69 = .ok (.iinc 4 1, 3) := by decide +kernel
theorem dM_look_72 : decode prog_12_method_27_code 72 = .ok (.goto (-31), 3) := by decide +kernel
theorem dM_look_75 : decode prog_12_method_27_code 75 = .ok (.iload_n 2, 1) := by decide +kernel
theorem dM_look_76 : decode prog_12_method_27_code 76 = .ok (.ifCond .ne 12, 3) := by decide +kernel
theorem dM_look_79 : decode prog_12_method_27_code 79 = .ok (.aload_n 0, 1) := by decide +kernel
theorem dM_look_80 : decode prog_12_method_27_code 80 = .ok (.getfield 26, 3) := by decide +kernel
theorem dM_look_83 : decode prog_12_method_27_code 83 = .ok (.iload_n 1, 1) := by decide +kernel
theorem dM_look_84 : decode prog_12_method_27_code 84 = .ok (.iaload, 1) := by decide +kernel
theorem dM_look_85 : decode prog_12_method_27_code 85 = .ok (.goto 31, 3) := by decide +kernel
theorem dM_look_88 : decode prog_12_method_27_code 88 = .ok (.iload_n 2, 1) := by decide +kernel
theorem dM_look_89 : decode prog_12_method_27_code 89 = .ok (.iconst 1, 1) := by decide +kernel
theorem dM_look_90 : decode prog_12_method_27_code 90 = .ok (.if_icmp .ne 12, 3) := by decide +kernel
theorem dM_look_93 : decode prog_12_method_27_code 93 = .ok (.aload_n 0, 1) := by decide +kernel
theorem dM_look_94 : decode prog_12_method_27_code 94 = .ok (.getfield 29, 3) := by decide +kernel
theorem dM_look_97 : decode prog_12_method_27_code 97 = .ok (.iload_n 1, 1) := by decide +kernel
theorem dM_look_98 : decode prog_12_method_27_code 98 = .ok (.iaload, 1) := by decide +kernel
theorem dM_look_99 : decode prog_12_method_27_code 99 = .ok (.goto 17, 3) := by decide +kernel
theorem dM_look_102 : decode prog_12_method_27_code 102 = .ok (.iload_n 2, 1) := by decide +kernel
theorem dM_look_103 : decode prog_12_method_27_code 103 = .ok (.iconst 2, 1) := by decide +kernel
theorem dM_look_104 : decode prog_12_method_27_code 104 = .ok (.if_icmp .ne 11, 3) := by decide +kernel
theorem dM_look_107 : decode prog_12_method_27_code 107 = .ok (.aload_n 0, 1) := by decide +kernel
theorem dM_look_108 : decode prog_12_method_27_code 108 = .ok (.iload_n 1, 1) := by decide +kernel
theorem dM_look_109 : decode prog_12_method_27_code 109 = .ok (.invokevirtual 136, 3) := by decide +kernel
theorem dM_look_112 : decode prog_12_method_27_code 112 = .ok (.goto 4, 3) := by decide +kernel
theorem dM_look_115 : decode prog_12_method_27_code 115 = .ok (.iload_n 3, 1) := by decide +kernel
theorem dM_look_116 : decode prog_12_method_27_code 116 = .ok (.ireturn, 1) := by decide +kernel
theorem dM_seek_0 : decode prog_12_method_28_code 0 = .ok (.iload_n 1, 1) := by decide +kernel
theorem dM_seek_1 : decode prog_12_method_28_code 1 = .ok (.istore_n 3, 1) := by decide +kernel
theorem dM_seek_2 : decode prog_12_method_28_code 2 = .ok (.aload_n 0, 1) := by decide +kernel
theorem dM_seek_3 : decode prog_12_method_28_code 3 = .ok (.iconst (-1), 1) := by decide +kernel
theorem dM_seek_4 : decode prog_12_method_28_code 4 = .ok (.putfield 157, 3) := by decide +kernel
theorem dM_seek_7 : decode prog_12_method_28_code 7 = .ok (.iload_n 3, 1) := by decide +kernel
theorem dM_seek_8 : decode prog_12_method_28_code 8 = .ok (.ifCond .le 114, 3) := by decide +kernel
theorem dM_seek_11 : decode prog_12_method_28_code 11 = .ok (.aload_n 0, 1) := by decide +kernel
theorem dM_seek_12 : decode prog_12_method_28_code 12 = .ok (.getfield 157, 3) := by decide +kernel
theorem dM_seek_15 : decode prog_12_method_28_code 15 = .ok (.ifCond .ge 107, 3) := by decide +kernel
theorem dM_seek_18 : decode prog_12_method_28_code 18 = .ok (.aload_n 0, 1) := by decide +kernel
theorem dM_seek_19 : decode prog_12_method_28_code 19 = .ok (.getfield 26, 3) := by decide +kernel
theorem dM_seek_22 : decode prog_12_method_28_code 22 = .ok (.iload_n 3, 1) := by decide +kernel
theorem dM_seek_23 : decode prog_12_method_28_code 23 = .ok (.iaload, 1) := by decide +kernel
theorem dM_seek_24 : decode prog_12_method_28_code 24 = .ok (.iconst 2, 1) := by decide +kernel
theorem dM_seek_25 : decode prog_12_method_28_code 25 = .ok (.if_icmp .ne 26, 3) := by decide +kernel
theorem dM_seek_28 : decode prog_12_method_28_code 28 = .ok (.aload_n 0, 1) := by decide +kernel
theorem dM_seek_29 : decode prog_12_method_28_code 29 = .ok (.iload_n 3, 1) := by decide +kernel
theorem dM_seek_30 : decode prog_12_method_28_code 30 = .ok (.iload_n 2, 1) := by decide +kernel
theorem dM_seek_31 : decode prog_12_method_28_code 31 = .ok (.invokevirtual 160, 3) := by decide +kernel
theorem dM_seek_34 : decode prog_12_method_28_code 34 = .ok (.ifCond .eq 12, 3) := by decide +kernel
theorem dM_seek_37 : decode prog_12_method_28_code 37 = .ok (.aload_n 0, 1) := by decide +kernel
theorem dM_seek_38 : decode prog_12_method_28_code 38 = .ok (.getfield 29, 3) := by decide +kernel
theorem dM_seek_41 : decode prog_12_method_28_code 41 = .ok (.iload_n 3, 1) := by decide +kernel
theorem dM_seek_42 : decode prog_12_method_28_code 42 = .ok (.iaload, 1) := by decide +kernel
theorem dM_seek_43 : decode prog_12_method_28_code 43 = .ok (.goto 4, 3) := by decide +kernel
theorem dM_seek_46 : decode prog_12_method_28_code 46 = .ok (.iconst 0, 1) := by decide +kernel
theorem dM_seek_47 : decode prog_12_method_28_code 47 = .ok (.istore_n 3, 1) := by decide +kernel
theorem dM_seek_48 : decode prog_12_method_28_code 48 = .ok (.goto (-41), 3) := by decide +kernel
theorem dM_seek_51 : decode prog_12_method_28_code 51 = .ok (.iconst 0, 1) := by decide +kernel
theorem dM_seek_52 : decode prog_12_method_28_code 52 = .ok (.istore 4, 2) := by decide +kernel
theorem dM_seek_54 : decode prog_12_method_28_code 54 = .ok (.iload 4, 2) := by decide +kernel
theorem dM_seek_56 : decode prog_12_method_28_code 56 = .ok (.aload_n 0, 1) := by decide +kernel
theorem dM_seek_57 : decode prog_12_method_28_code 57 = .ok (.getfield 32, 3) := by decide +kernel
theorem dM_seek_60 : decode prog_12_method_28_code 60 = .ok (.iload_n 3, 1) := by decide +kernel
theorem dM_seek_61 : decode prog_12_method_28_code 61 = .ok (.iaload, 1) := by decide +kernel
theorem dM_seek_62 : decode prog_12_method_28_code 62 = .ok (.if_icmp .ge 34, 3) := by decide +kernel
theorem dM_seek_65 : decode prog_12_method_28_code 65 = .ok (.aload_n 0, 1) := by decide +kernel
theorem dM_seek_66 : decode prog_12_method_28_code 66 = .ok (.getfield 157, 3) := by decide +kernel
theorem dM_seek_69 : decode prog_12_method_28_code 69 = .ok (.ifCond .ge 27, 3) := by decide +kernel
theorem dM_seek_72 : decode prog_12_method_28_code 72 = .ok (.aload_n 0, 1) := by decide +kernel
theorem dM_seek_73 : decode prog_12_method_28_code 73 = .ok (.aload_n 0, 1) := by decide +kernel
theorem dM_seek_74 : decode prog_12_method_28_code 74 = .ok (.bipush 10, 2) := by decide +kernel
theorem dM_seek_76 : decode prog_12_method_28_code 76 = .ok (.iconst 4, 1) := by decide +kernel
theorem dM_seek_77 : decode prog_12_method_28_code 77 = .ok (.iload_n 3, 1) := by decide +kernel
theorem dM_seek_78 : decode prog_12_method_28_code 78 = .ok (.imul, 1) := by decide +kernel
theorem dM_seek_79 : decode prog_12_method_28_code 79 = .ok (.iadd, 1) := by decide +kernel
theorem dM_seek_80 : decode prog_12_method_28_code 80 = .ok (.iload 4, 2) := by decide +kernel
theorem dM_seek_82 : decode prog_12_method_28_code 82 = .ok (.iadd, 1) := by decide +kernel
theorem dM_seek_83 : decode prog_12_method_28_code 83 = .ok (.iload_n 2, 1) := by decide +kernel
theorem dM_seek_84 : decode prog_12_method_28_code 84 = .ok (.invokevirtual 114, 3) := by decide +kernel
theorem dM_seek_87 : decode prog_12_method_28_code 87 = .ok (.putfield 157, 3) := by decide +kernel
theorem dM_seek_90 : decode prog_12_method_28_code 90 = .ok (.iinc 4 1, 3) := by decide +kernel
theorem dM_seek_93 : decode prog_12_method_28_code 93 = .ok (.goto (-39), 3) := by decide +kernel
theorem dM_seek_96 : decode prog_12_method_28_code 96 = .ok (.aload_n 0, 1) := by decide +kernel
theorem dM_seek_97 : decode prog_12_method_28_code 97 = .ok (.iload_n 3, 1) := by decide +kernel
theorem dM_seek_98 : decode prog_12_method_28_code 98 = .ok (.putfield 163, 3) := by decide +kernel
theorem dM_seek_101 : decode prog_12_method_28_code 101 = .ok (.aload_n 0, 1) := by decide +kernel
theorem dM_seek_102 : decode prog_12_method_28_code 102 = .ok (.getfield 157, 3) := by decide +kernel
theorem dM_seek_105 : decode prog_12_method_28_code 105 = .ok (.ifCond .ge 12, 3) := by decide +kernel
theorem dM_seek_108 : decode prog_12_method_28_code 108 = .ok (.aload_n 0, 1) := by decide +kernel
theorem dM_seek_109 : decode prog_12_method_28_code 109 = .ok (.getfield 29, 3) := by decide +kernel
theorem dM_seek_112 : decode prog_12_method_28_code 112 = .ok (.iload_n 3, 1) := by decide +kernel
theorem dM_seek_113 : decode prog_12_method_28_code 113 = .ok (.iaload, 1) := by decide +kernel
theorem dM_seek_114 : decode prog_12_method_28_code 114 = .ok (.goto 4, 3) := by decide +kernel
theorem dM_seek_117 : decode prog_12_method_28_code 117 = .ok (.iload_n 3, 1) := by decide +kernel
theorem dM_seek_118 : decode prog_12_method_28_code 118 = .ok (.istore_n 3, 1) := by decide +kernel
theorem dM_seek_119 : decode prog_12_method_28_code 119 = .ok (.goto (-112), 3) := by decide +kernel
theorem dM_seek_122 : decode prog_12_method_28_code 122 = .ok (.aload_n 0, 1) := by decide +kernel
theorem dM_seek_123 : decode prog_12_method_28_code 123 = .ok (.getfield 157, 3) := by decide +kernel
theorem dM_seek_126 : decode prog_12_method_28_code 126 = .ok (.ifCond .lt 7, 3) := by decide +kernel
theorem dM_seek_129 : decode prog_12_method_28_code 129 = .ok (.iconst 1, 1) := by decide +kernel
theorem dM_seek_130 : decode prog_12_method_28_code 130 = .ok (.goto 4, 3) := by decide +kernel
theorem dM_seek_133 : decode prog_12_method_28_code 133 = .ok (.iconst 0, 1) := by decide +kernel
theorem dM_seek_134 : decode prog_12_method_28_code 134 = .ok (.ireturn, 1) := by decide +kernel
theorem dM_definedBy_0 : decode prog_12_method_29_code 0 = .ok (.iconst (-1), 1) := by decide +kernel
theorem dM_definedBy_1 : decode prog_12_method_29_code 1 = .ok (.istore_n 3, 1) := by decide +kernel
theorem dM_definedBy_2 : decode prog_12_method_29_code 2 = .ok (.bipush 8, 2) := by decide +kernel
theorem dM_definedBy_4 : decode prog_12_method_29_code 4 = .ok (.istore 4, 2) := by decide +kernel
theorem dM_definedBy_6 : decode prog_12_method_29_code 6 = .ok (.iload 4, 2) := by decide +kernel
theorem dM_definedBy_8 : decode prog_12_method_29_code 8 = .ok (.aload_n 0, 1) := by decide +kernel
theorem dM_definedBy_9 : decode prog_12_method_29_code 9 = .ok (.getfield 82, 3) := by decide +kernel
theorem dM_definedBy_12 : decode prog_12_method_29_code 12 = .ok (.if_icmp .ge 38, 3) := by decide +kernel
theorem dM_definedBy_15 : decode prog_12_method_29_code 15 = .ok (.aload_n 0, 1) := by decide +kernel
theorem dM_definedBy_16 : decode prog_12_method_29_code 16 = .ok (.getfield 88, 3) := by decide +kernel
theorem dM_definedBy_19 : decode prog_12_method_29_code 19 = .ok (.iload 4, 2) := by decide +kernel
theorem dM_definedBy_21 : decode prog_12_method_29_code 21 = .ok (.iaload, 1) := by decide +kernel
theorem dM_definedBy_22 : decode prog_12_method_29_code 22 = .ok (.iload_n 1, 1) := by decide +kernel
theorem dM_definedBy_23 : decode prog_12_method_29_code 23 = .ok (.if_icmp .ne 19, 3) := by decide +kernel
theorem dM_definedBy_26 : decode prog_12_method_29_code 26 = .ok (.aload_n 0, 1) := by decide +kernel
theorem dM_definedBy_27 : decode prog_12_method_29_code 27 = .ok (.getfield 85, 3) := by decide +kernel
theorem dM_definedBy_30 : decode prog_12_method_29_code 30 = .ok (.iload 4, 2) := by decide +kernel
theorem dM_definedBy_32 : decode prog_12_method_29_code 32 = .ok (.iaload, 1) := by decide +kernel
theorem dM_definedBy_33 : decode prog_12_method_29_code 33 = .ok (.iload_n 2, 1) := by decide +kernel
theorem dM_definedBy_34 : decode prog_12_method_29_code 34 = .ok (.if_icmp .ne 8, 3) := by decide +kernel
theorem dM_definedBy_37 : decode prog_12_method_29_code 37 = .ok (.iload 4, 2) := by decide +kernel
theorem dM_definedBy_39 : decode prog_12_method_29_code 39 = .ok (.goto 4, 3) := by decide +kernel
theorem dM_definedBy_42 : decode prog_12_method_29_code 42 = .ok (.iload_n 3, 1) := by decide +kernel
theorem dM_definedBy_43 : decode prog_12_method_29_code 43 = .ok (.istore_n 3, 1) := by decide +kernel
theorem dM_definedBy_44 : decode prog_12_method_29_code 44 = .ok (.iinc 4 1, 3) := by decide +kernel
theorem dM_definedBy_47 : decode prog_12_method_29_code 47 = .ok (.goto (-41), 3) := by decide +kernel
theorem dM_definedBy_50 : decode prog_12_method_29_code 50 = .ok (.iload_n 3, 1) := by decide +kernel
theorem dM_definedBy_51 : decode prog_12_method_29_code 51 = .ok (.ireturn, 1) := by decide +kernel
theorem dM_resolve_0 : decode prog_12_method_30_code 0 = .ok (.iconst 0, 1) := by decide +kernel
theorem dM_resolve_1 : decode prog_12_method_30_code 1 = .ok (.istore_n 3, 1) := by decide +kernel
theorem dM_resolve_2 : decode prog_12_method_30_code 2 = .ok (.iload_n 2, 1) := by decide +kernel
theorem dM_resolve_3 : decode prog_12_method_30_code 3 = .ok (.istore 4, 2) := by decide +kernel
theorem dM_resolve_5 : decode prog_12_method_30_code 5 = .ok (.iload_n 1, 1) := by decide +kernel
theorem dM_resolve_6 : decode prog_12_method_30_code 6 = .ok (.istore 5, 2) := by decide +kernel
theorem dM_resolve_8 : decode prog_12_method_30_code 8 = .ok (.iconst (-1), 1) := by decide +kernel
theorem dM_resolve_9 : decode prog_12_method_30_code 9 = .ok (.istore 6, 2) := by decide +kernel
theorem dM_resolve_11 : decode prog_12_method_30_code 11 = .ok (.iload 6, 2) := by decide +kernel
theorem dM_resolve_13 : decode prog_12_method_30_code 13 = .ok (.ifCond .ge 162, 3) := by decide +kernel
theorem dM_resolve_16 : decode prog_12_method_30_code 16 = .ok (.iload 4, 2) := by decide +kernel
theorem dM_resolve_18 : decode prog_12_method_30_code 18 = .ok (.bipush 8, 2) := by decide +kernel
theorem dM_resolve_20 : decode prog_12_method_30_code 20 = .ok (.if_icmp .ge 10, 3) := by decide +kernel
theorem dM_resolve_23 : decode prog_12_method_30_code 23 = .ok (.iload 4, 2) := by decide +kernel
theorem dM_resolve_25 : decode prog_12_method_30_code 25 = .ok (.istore 6, 2) := by decide +kernel
theorem dM_resolve_27 : decode prog_12_method_30_code 27 = .ok (.goto 37, 3) := by decide +kernel
theorem dM_resolve_30 : decode prog_12_method_30_code 30 = .ok (.aload_n 0, 1) := by decide +kernel
theorem dM_resolve_31 : decode prog_12_method_30_code 31 = .ok (.iload 5, 2) := by decide +kernel
theorem dM_resolve_33 : decode prog_12_method_30_code 33 = .ok (.iload 4, 2) := by decide +kernel
theorem dM_resolve_35 : decode prog_12_method_30_code 35 = .ok (.invokevirtual 166, 3) := by decide +kernel
theorem dM_resolve_38 : decode prog_12_method_30_code 38 = .ok (.ifCond .ne 14, 3) := by decide +kernel
theorem dM_resolve_41 : decode prog_12_method_30_code 41 = .ok (.iload_n 3, 1) := by decide +kernel
theorem dM_resolve_42 : decode prog_12_method_30_code 42 = .ok (.ifCond .ne 7, 3) := by decide +kernel
theorem dM_resolve_45 : decode prog_12_method_30_code 45 = .ok (.iconst (-1), 1) := by decide +kernel
theorem dM_resolve_46 : decode prog_12_method_30_code 46 = .ok (.goto 5, 3) := by decide +kernel
theorem dM_resolve_49 : decode prog_12_method_30_code 49 = .ok (.bipush (-2), 2) := by decide +kernel
theorem dM_resolve_51 : decode prog_12_method_30_code 51 = .ok (.ireturn, 1) := by decide +kernel
theorem dM_resolve_52 : decode prog_12_method_30_code 52 = .ok (.aload_n 0, 1) := by decide +kernel
theorem dM_resolve_53 : decode prog_12_method_30_code 53 = .ok (.aload_n 0, 1) := by decide +kernel
theorem dM_resolve_54 : decode prog_12_method_30_code 54 = .ok (.getfield 163, 3) := by decide +kernel
theorem dM_resolve_57 : decode prog_12_method_30_code 57 = .ok (.iload 4, 2) := by decide +kernel
theorem dM_resolve_59 : decode prog_12_method_30_code 59 = .ok (.invokevirtual 169, 3) := by decide +kernel
theorem dM_resolve_62 : decode prog_12_method_30_code 62 = .ok (.istore 6, 2) := by decide +kernel
theorem dM_resolve_64 : decode prog_12_method_30_code 64 = .ok (.iload 6, 2) := by decide +kernel
theorem dM_resolve_66 : decode prog_12_method_30_code 66 = .ok (.ifCond .lt 6, 3) := by decide +kernel
theorem dM_resolve_69 : decode prog_12_method_30_code 69 = .ok (.goto (-58), 3) := by decide +kernel
theorem dM_resolve_72 : decode prog_12_method_30_code 72 = .ok (.iconst 0, 1) := by decide +kernel
theorem dM_resolve_73 : decode prog_12_method_30_code 73 = .ok (.istore 7, 2) := by decide +kernel
theorem dM_resolve_75 : decode prog_12_method_30_code 75 = .ok (.iload 7, 2) := by decide +kernel
theorem dM_resolve_77 : decode prog_12_method_30_code 77 = .ok (.iload_n 3, 1) := by decide +kernel
theorem dM_resolve_78 : decode prog_12_method_30_code 78 = .ok (.if_icmp .ge 43, 3) := by decide +kernel
theorem dM_resolve_81 : decode prog_12_method_30_code 81 = .ok (.aload_n 0, 1) := by decide +kernel
theorem dM_resolve_82 : decode prog_12_method_30_code 82 = .ok (.getfield 97, 3) := by decide +kernel
theorem dM_resolve_85 : decode prog_12_method_30_code 85 = .ok (.iload 7, 2) := by decide +kernel
theorem dM_resolve_87 : decode prog_12_method_30_code 87 = .ok (.iaload, 1) := by decide +kernel
theorem dM_resolve_88 : decode prog_12_method_30_code 88 = .ok (.aload_n 0, 1) := by decide +kernel
theorem dM_resolve_89 : decode prog_12_method_30_code 89 = .ok (.getfield 163, 3) := by decide +kernel
theorem dM_resolve_92 : decode prog_12_method_30_code 92 = .ok (.if_icmp .ne 23, 3) := by decide +kernel
theorem dM_resolve_95 : decode prog_12_method_30_code 95 = .ok (.aload_n 0, 1) := by decide +kernel
theorem dM_resolve_96 : decode prog_12_method_30_code 96 = .ok (.getfield 13, 3) := by decide +kernel
theorem dM_resolve_99 : decode prog_12_method_30_code 99 = .ok (.aload_n 0, 1) := by decide +kernel
theorem dM_resolve_100 : decode prog_12_method_30_code 100 = .ok (.getfield 100, 3) := by decide +kernel
theorem dM_resolve_103 : decode prog_12_method_30_code 103 = .ok (.iload 7, 2) := by decide +kernel
theorem dM_resolve_105 : decode prog_12_method_30_code 105 = .ok (.iaload, 1) := by decide +kernel
theorem dM_resolve_106 : decode prog_12_method_30_code 106 = .ok (.iaload, 1) := by decide +kernel
theorem dM_resolve_107 : decode prog_12_method_30_code 107 = .ok (.iload 4, 2) := by decide +kernel
theorem dM_resolve_109 : decode prog_12_method_30_code 109 = .ok (.if_icmp .ne 6, 3) := by decide +kernel
theorem dM_resolve_112 : decode prog_12_method_30_code 112 = .ok (.bipush (-2), 2) := by decide +kernel
theorem dM_resolve_114 : decode prog_12_method_30_code 114 = .ok (.ireturn, 1) := by decide +kernel
theorem dM_resolve_115 : decode prog_12_method_30_code 115 = .ok (.iinc 7 1, 3) := by decide +kernel
theorem dM_resolve_118 : decode prog_12_method_30_code 118 = .ok (.goto (-43), 3) := by decide +kernel
theorem dM_resolve_121 : decode prog_12_method_30_code 121 = .ok (.iload_n 3, 1) := by decide +kernel
theorem dM_resolve_122 : decode prog_12_method_30_code 122 = .ok (.bipush 8, 2) := by decide +kernel
theorem dM_resolve_124 : decode prog_12_method_30_code 124 = .ok (.if_icmp .ne 6, 3) := by decide +kernel
theorem dM_resolve_127 : decode prog_12_method_30_code 127 = .ok (.bipush (-2), 2) := by decide +kernel
theorem dM_resolve_129 : decode prog_12_method_30_code 129 = .ok (.ireturn, 1) := by decide +kernel
theorem dM_resolve_130 : decode prog_12_method_30_code 130 = .ok (.aload_n 0, 1) := by decide +kernel
theorem dM_resolve_131 : decode prog_12_method_30_code 131 = .ok (.getfield 97, 3) := by decide +kernel
theorem dM_resolve_134 : decode prog_12_method_30_code 134 = .ok (.iload_n 3, 1) := by decide +kernel
theorem dM_resolve_135 : decode prog_12_method_30_code 135 = .ok (.aload_n 0, 1) := by decide +kernel
theorem dM_resolve_136 : decode prog_12_method_30_code 136 = .ok (.getfield 163, 3) := by decide +kernel
theorem dM_resolve_139 : decode prog_12_method_30_code 139 = .ok (.iastore, 1) := by decide +kernel
theorem dM_resolve_140 : decode prog_12_method_30_code 140 = .ok (.aload_n 0, 1) := by decide +kernel
theorem dM_resolve_141 : decode prog_12_method_30_code 141 = .ok (.getfield 100, 3) := by decide +kernel
theorem dM_resolve_144 : decode prog_12_method_30_code 144 = .ok (.iload_n 3, 1) := by decide +kernel
theorem dM_resolve_145 : decode prog_12_method_30_code 145 = .ok (.aload_n 0, 1) := by decide +kernel
theorem dM_resolve_146 : decode prog_12_method_30_code 146 = .ok (.getfield 157, 3) := by decide +kernel
theorem dM_resolve_149 : decode prog_12_method_30_code 149 = .ok (.iastore, 1) := by decide +kernel
theorem dM_resolve_150 : decode prog_12_method_30_code 150 = .ok (.iinc 3 1, 3) := by decide +kernel
theorem dM_resolve_153 : decode prog_12_method_30_code 153 = .ok (.aload_n 0, 1) := by decide +kernel
theorem dM_resolve_154 : decode prog_12_method_30_code 154 = .ok (.getfield 163, 3) := by decide +kernel
theorem dM_resolve_157 : decode prog_12_method_30_code 157 = .ok (.istore 5, 2) := by decide +kernel
theorem dM_resolve_159 : decode prog_12_method_30_code 159 = .ok (.aload_n 0, 1) := by decide +kernel
theorem dM_resolve_160 : decode prog_12_method_30_code 160 = .ok (.getfield 13, 3) := by decide +kernel
theorem dM_resolve_163 : decode prog_12_method_30_code 163 = .ok (.aload_n 0, 1) := by decide +kernel
theorem dM_resolve_164 : decode prog_12_method_30_code 164 = .ok (.getfield 157, 3) := by decide +kernel
theorem dM_resolve_167 : decode prog_12_method_30_code 167 = .ok (.iconst 1, 1) := by decide +kernel
theorem dM_resolve_168 : decode prog_12_method_30_code 168 = .ok (.iadd, 1) := by decide +kernel
theorem dM_resolve_169 : decode prog_12_method_30_code 169 = .ok (.iaload, 1) := by decide +kernel
theorem dM_resolve_170 : decode prog_12_method_30_code 170 = .ok (.istore 4, 2) := by decide +kernel
theorem dM_resolve_172 : decode prog_12_method_30_code 172 = .ok (.goto (-161), 3) := by decide +kernel
theorem dM_resolve_175 : decode prog_12_method_30_code 175 = .ok (.iload_n 3, 1) := by decide +kernel
theorem dM_resolve_176 : decode prog_12_method_30_code 176 = .ok (.iconst 1, 1) := by decide +kernel
theorem dM_resolve_177 : decode prog_12_method_30_code 177 = .ok (.isub, 1) := by decide +kernel
theorem dM_resolve_178 : decode prog_12_method_30_code 178 = .ok (.istore 7, 2) := by decide +kernel
theorem dM_resolve_180 : decode prog_12_method_30_code 180 = .ok (.iload 7, 2) := by decide +kernel
theorem dM_resolve_182 : decode prog_12_method_30_code 182 = .ok (.ifCond .lt 108, 3) := by decide +kernel
theorem dM_resolve_185 : decode prog_12_method_30_code 185 = .ok (.aload_n 0, 1) := by decide +kernel
theorem dM_resolve_186 : decode prog_12_method_30_code 186 = .ok (.getfield 82, 3) := by decide +kernel
theorem dM_resolve_189 : decode prog_12_method_30_code 189 = .ok (.bipush 120, 2) := by decide +kernel
theorem dM_resolve_191 : decode prog_12_method_30_code 191 = .ok (.if_icmp .ne 6, 3) := by decide +kernel
theorem dM_resolve_194 : decode prog_12_method_30_code 194 = .ok (.bipush (-2), 2) := by decide +kernel
theorem dM_resolve_196 : decode prog_12_method_30_code 196 = .ok (.ireturn, 1) := by decide +kernel
theorem dM_resolve_197 : decode prog_12_method_30_code 197 = .ok (.aload_n 0, 1) := by decide +kernel
theorem dM_resolve_198 : decode prog_12_method_30_code 198 = .ok (.getfield 85, 3) := by decide +kernel
theorem dM_resolve_201 : decode prog_12_method_30_code 201 = .ok (.aload_n 0, 1) := by decide +kernel
theorem dM_resolve_202 : decode prog_12_method_30_code 202 = .ok (.getfield 82, 3) := by decide +kernel
theorem dM_resolve_205 : decode prog_12_method_30_code 205 = .ok (.aload_n 0, 1) := by decide +kernel
theorem dM_resolve_206 : decode prog_12_method_30_code 206 = .ok (.getfield 13, 3) := by decide +kernel
theorem dM_resolve_209 : decode prog_12_method_30_code 209 = .ok (.aload_n 0, 1) := by decide +kernel
theorem dM_resolve_210 : decode prog_12_method_30_code 210 = .ok (.getfield 100, 3) := by decide +kernel
theorem dM_resolve_213 : decode prog_12_method_30_code 213 = .ok (.iload 7, 2) := by decide +kernel
theorem dM_resolve_215 : decode prog_12_method_30_code 215 = .ok (.iaload, 1) := by decide +kernel
theorem dM_resolve_216 : decode prog_12_method_30_code 216 = .ok (.iaload, 1) := by decide +kernel
theorem dM_resolve_217 : decode prog_12_method_30_code 217 = .ok (.iastore, 1) := by decide +kernel
theorem dM_resolve_218 : decode prog_12_method_30_code 218 = .ok (.aload_n 0, 1) := by decide +kernel
theorem dM_resolve_219 : decode prog_12_method_30_code 219 = .ok (.getfield 88, 3) := by decide +kernel
theorem dM_resolve_222 : decode prog_12_method_30_code 222 = .ok (.aload_n 0, 1) := by decide +kernel
theorem dM_resolve_223 : decode prog_12_method_30_code 223 = .ok (.getfield 82, 3) := by decide +kernel
theorem dM_resolve_226 : decode prog_12_method_30_code 226 = .ok (.aload_n 0, 1) := by decide +kernel
theorem dM_resolve_227 : decode prog_12_method_30_code 227 = .ok (.getfield 97, 3) := by decide +kernel
theorem dM_resolve_230 : decode prog_12_method_30_code 230 = .ok (.iload 7, 2) := by decide +kernel
theorem dM_resolve_232 : decode prog_12_method_30_code 232 = .ok (.iaload, 1) := by decide +kernel
theorem dM_resolve_233 : decode prog_12_method_30_code 233 = .ok (.iastore, 1) := by decide +kernel
theorem dM_resolve_234 : decode prog_12_method_30_code 234 = .ok (.aload_n 0, 1) := by decide +kernel
theorem dM_resolve_235 : decode prog_12_method_30_code 235 = .ok (.getfield 91, 3) := by decide +kernel
theorem dM_resolve_238 : decode prog_12_method_30_code 238 = .ok (.aload_n 0, 1) := by decide +kernel
theorem dM_resolve_239 : decode prog_12_method_30_code 239 = .ok (.getfield 82, 3) := by decide +kernel
theorem dM_resolve_242 : decode prog_12_method_30_code 242 = .ok (.aload_n 0, 1) := by decide +kernel
theorem dM_resolve_243 : decode prog_12_method_30_code 243 = .ok (.getfield 13, 3) := by decide +kernel
theorem dM_resolve_246 : decode prog_12_method_30_code 246 = .ok (.aload_n 0, 1) := by decide +kernel
theorem dM_resolve_247 : decode prog_12_method_30_code 247 = .ok (.getfield 100, 3) := by decide +kernel
theorem dM_resolve_250 : decode prog_12_method_30_code 250 = .ok (.iload 7, 2) := by decide +kernel
theorem dM_resolve_252 : decode prog_12_method_30_code 252 = .ok (.iaload, 1) := by decide +kernel
theorem dM_resolve_253 : decode prog_12_method_30_code 253 = .ok (.iconst 2, 1) := by decide +kernel
theorem dM_resolve_254 : decode prog_12_method_30_code 254 = .ok (.iadd, 1) := by decide +kernel
theorem dM_resolve_255 : decode prog_12_method_30_code 255 = .ok (.iaload, 1) := by decide +kernel
theorem dM_resolve_256 : decode prog_12_method_30_code 256 = .ok (.iastore, 1) := by decide +kernel
theorem dM_resolve_257 : decode prog_12_method_30_code 257 = .ok (.aload_n 0, 1) := by decide +kernel
theorem dM_resolve_258 : decode prog_12_method_30_code 258 = .ok (.getfield 94, 3) := by decide +kernel
theorem dM_resolve_261 : decode prog_12_method_30_code 261 = .ok (.aload_n 0, 1) := by decide +kernel
theorem dM_resolve_262 : decode prog_12_method_30_code 262 = .ok (.getfield 82, 3) := by decide +kernel
theorem dM_resolve_265 : decode prog_12_method_30_code 265 = .ok (.iload 6, 2) := by decide +kernel
theorem dM_resolve_267 : decode prog_12_method_30_code 267 = .ok (.iastore, 1) := by decide +kernel
theorem dM_resolve_268 : decode prog_12_method_30_code 268 = .ok (.aload_n 0, 1) := by decide +kernel
theorem dM_resolve_269 : decode prog_12_method_30_code 269 = .ok (.getfield 82, 3) := by decide +kernel
theorem dM_resolve_272 : decode prog_12_method_30_code 272 = .ok (.istore 6, 2) := by decide +kernel
theorem dM_resolve_274 : decode prog_12_method_30_code 274 = .ok (.aload_n 0, 1) := by decide +kernel
theorem dM_resolve_275 : decode prog_12_method_30_code 275 = .ok (.dup, 1) := by decide +kernel
theorem dM_resolve_276 : decode prog_12_method_30_code 276 = .ok (.getfield 82, 3) := by decide +kernel
theorem dM_resolve_279 : decode prog_12_method_30_code 279 = .ok (.iconst 1, 1) := by decide +kernel
theorem dM_resolve_280 : decode prog_12_method_30_code 280 = .ok (.iadd, 1) := by decide +kernel
theorem dM_resolve_281 : decode prog_12_method_30_code 281 = .ok (.putfield 82, 3) := by decide +kernel
theorem dM_resolve_284 : decode prog_12_method_30_code 284 = .ok (.iinc 7 (-1), 3) := by decide +kernel
theorem dM_resolve_287 : decode prog_12_method_30_code 287 = .ok (.goto (-107), 3) := by decide +kernel
theorem dM_resolve_290 : decode prog_12_method_30_code 290 = .ok (.iload 6, 2) := by decide +kernel
theorem dM_resolve_292 : decode prog_12_method_30_code 292 = .ok (.ireturn, 1) := by decide +kernel
theorem dM_loads_0 : decode prog_12_method_31_code 0 = .ok (.aload_n 0, 1) := by decide +kernel
theorem dM_loads_1 : decode prog_12_method_31_code 1 = .ok (.aload_n 0, 1) := by decide +kernel
theorem dM_loads_2 : decode prog_12_method_31_code 2 = .ok (.getfield 73, 3) := by decide +kernel
theorem dM_loads_5 : decode prog_12_method_31_code 5 = .ok (.iconst 3, 1) := by decide +kernel
theorem dM_loads_6 : decode prog_12_method_31_code 6 = .ok (.iload_n 1, 1) := by decide +kernel
theorem dM_loads_7 : decode prog_12_method_31_code 7 = .ok (.imul, 1) := by decide +kernel
theorem dM_loads_8 : decode prog_12_method_31_code 8 = .ok (.iconst 2, 1) := by decide +kernel
theorem dM_loads_9 : decode prog_12_method_31_code 9 = .ok (.iadd, 1) := by decide +kernel
theorem dM_loads_10 : decode prog_12_method_31_code 10 = .ok (.iaload, 1) := by decide +kernel
theorem dM_loads_11 : decode prog_12_method_31_code 11 = .ok (.iload_n 2, 1) := by decide +kernel
theorem dM_loads_12 : decode prog_12_method_31_code 12 = .ok (.invokevirtual 172, 3) := by decide +kernel
theorem dM_loads_15 : decode prog_12_method_31_code 15 = .ok (.istore_n 3, 1) := by decide +kernel
theorem dM_loads_16 : decode prog_12_method_31_code 16 = .ok (.aload_n 0, 1) := by decide +kernel
theorem dM_loads_17 : decode prog_12_method_31_code 17 = .ok (.iload_n 3, 1) := by decide +kernel
theorem dM_loads_18 : decode prog_12_method_31_code 18 = .ok (.iconst (-1), 1) := by decide +kernel
theorem dM_loads_19 : decode prog_12_method_31_code 19 = .ok (.if_icmp .ne 7, 3) := by decide +kernel
theorem dM_loads_22 : decode prog_12_method_31_code 22 = .ok (.iconst 3, 1) := by decide +kernel
theorem dM_loads_23 : decode prog_12_method_31_code 23 = .ok (.goto 14, 3) := by decide +kernel
theorem dM_loads_26 : decode prog_12_method_31_code 26 = .ok (.iload_n 3, 1) := by decide +kernel
theorem dM_loads_27 : decode prog_12_method_31_code 27 = .ok (.bipush (-2), 2) := by decide +kernel
theorem dM_loads_29 : decode prog_12_method_31_code 29 = .ok (.if_icmp .ne 7, 3) := by decide +kernel
theorem dM_loads_32 : decode prog_12_method_31_code 32 = .ok (.iconst 4, 1) := by decide +kernel
theorem dM_loads_33 : decode prog_12_method_31_code 33 = .ok (.goto 4, 3) := by decide +kernel
theorem dM_loads_36 : decode prog_12_method_31_code 36 = .ok (.iconst 0, 1) := by decide +kernel
theorem dM_loads_37 : decode prog_12_method_31_code 37 = .ok (.putfield 103, 3) := by decide +kernel
theorem dM_loads_40 : decode prog_12_method_31_code 40 = .ok (.aload_n 0, 1) := by decide +kernel
theorem dM_loads_41 : decode prog_12_method_31_code 41 = .ok (.getfield 103, 3) := by decide +kernel
theorem dM_loads_44 : decode prog_12_method_31_code 44 = .ok (.ifCond .le 7, 3) := by decide +kernel
theorem dM_loads_47 : decode prog_12_method_31_code 47 = .ok (.iconst 0, 1) := by decide +kernel
theorem dM_loads_48 : decode prog_12_method_31_code 48 = .ok (.goto 4, 3) := by decide +kernel
theorem dM_loads_51 : decode prog_12_method_31_code 51 = .ok (.iload_n 3, 1) := by decide +kernel
theorem dM_loads_52 : decode prog_12_method_31_code 52 = .ok (.ireturn, 1) := by decide +kernel
theorem dM_load_0 : decode prog_12_method_32_code 0 = .ok (.aload_n 0, 1) := by decide +kernel
theorem dM_load_1 : decode prog_12_method_32_code 1 = .ok (.aload_n 0, 1) := by decide +kernel
theorem dM_load_2 : decode prog_12_method_32_code 2 = .ok (.iload_n 1, 1) := by decide +kernel
theorem dM_load_3 : decode prog_12_method_32_code 3 = .ok (.invokevirtual 140, 3) := by decide +kernel
theorem dM_load_6 : decode prog_12_method_32_code 6 = .ok (.ifCond .ne 13, 3) := by decide +kernel
theorem dM_load_9 : decode prog_12_method_32_code 9 = .ok (.iload_n 2, 1) := by decide +kernel
theorem dM_load_10 : decode prog_12_method_32_code 10 = .ok (.iconst 0, 1) := by decide +kernel
theorem dM_load_11 : decode prog_12_method_32_code 11 = .ok (.bipush 63, 2) := by decide +kernel
theorem dM_load_13 : decode prog_12_method_32_code 13 = .ok (.invokestatic 106, 3) := by decide +kernel
theorem dM_load_16 : decode prog_12_method_32_code 16 = .ok (.ifCond .ne 7, 3) := by decide +kernel
theorem dM_load_19 : decode prog_12_method_32_code 19 = .ok (.iconst 1, 1) := by decide +kernel
theorem dM_load_20 : decode prog_12_method_32_code 20 = .ok (.goto 4, 3) := by decide +kernel
theorem dM_load_23 : decode prog_12_method_32_code 23 = .ok (.iconst 0, 1) := by decide +kernel
theorem dM_load_24 : decode prog_12_method_32_code 24 = .ok (.iconst 1, 1) := by decide +kernel
theorem dM_load_25 : decode prog_12_method_32_code 25 = .ok (.invokevirtual 110, 3) := by decide +kernel
theorem dM_load_28 : decode prog_12_method_32_code 28 = .ok (.ifCond .ne 26, 3) := by decide +kernel
theorem dM_load_31 : decode prog_12_method_32_code 31 = .ok (.aload_n 0, 1) := by decide +kernel
theorem dM_load_32 : decode prog_12_method_32_code 32 = .ok (.aload_n 0, 1) := by decide +kernel
theorem dM_load_33 : decode prog_12_method_32_code 33 = .ok (.getfield 49, 3) := by decide +kernel
theorem dM_load_36 : decode prog_12_method_32_code 36 = .ok (.iload_n 1, 1) := by decide +kernel
theorem dM_load_37 : decode prog_12_method_32_code 37 = .ok (.iaload, 1) := by decide +kernel
theorem dM_load_38 : decode prog_12_method_32_code 38 = .ok (.iconst 1, 1) := by decide +kernel
theorem dM_load_39 : decode prog_12_method_32_code 39 = .ok (.if_icmp .eq 7, 3) := by decide +kernel
theorem dM_load_42 : decode prog_12_method_32_code 42 = .ok (.iconst 1, 1) := by decide +kernel
theorem dM_load_43 : decode prog_12_method_32_code 43 = .ok (.goto 4, 3) := by decide +kernel
theorem dM_load_46 : decode prog_12_method_32_code 46 = .ok (.iconst 0, 1) := by decide +kernel
theorem dM_load_47 : decode prog_12_method_32_code 47 = .ok (.iconst 2, 1) := by decide +kernel
theorem dM_load_48 : decode prog_12_method_32_code 48 = .ok (.invokevirtual 110, 3) := by decide +kernel
theorem dM_load_51 : decode prog_12_method_32_code 51 = .ok (.ifCond .eq 5, 3) := by decide +kernel
theorem dM_load_54 : decode prog_12_method_32_code 54 = .ok (.iconst 0, 1) := by decide +kernel
theorem dM_load_55 : decode prog_12_method_32_code 55 = .ok (.ireturn, 1) := by decide +kernel
theorem dM_load_56 : decode prog_12_method_32_code 56 = .ok (.aload_n 0, 1) := by decide +kernel
theorem dM_load_57 : decode prog_12_method_32_code 57 = .ok (.iload_n 1, 1) := by decide +kernel
theorem dM_load_58 : decode prog_12_method_32_code 58 = .ok (.iload_n 2, 1) := by decide +kernel
theorem dM_load_59 : decode prog_12_method_32_code 59 = .ok (.invokevirtual 175, 3) := by decide +kernel
theorem dM_load_62 : decode prog_12_method_32_code 62 = .ok (.ireturn, 1) := by decide +kernel
theorem dM_info_0 : decode prog_12_method_33_code 0 = .ok (.aload_n 0, 1) := by decide +kernel
theorem dM_info_1 : decode prog_12_method_33_code 1 = .ok (.iload_n 1, 1) := by decide +kernel
theorem dM_info_2 : decode prog_12_method_33_code 2 = .ok (.ifCond .lt 20, 3) := by decide +kernel
theorem dM_info_5 : decode prog_12_method_33_code 5 = .ok (.iload_n 1, 1) := by decide +kernel
theorem dM_info_6 : decode prog_12_method_33_code 6 = .ok (.aload_n 0, 1) := by decide +kernel
theorem dM_info_7 : decode prog_12_method_33_code 7 = .ok (.getfield 82, 3) := by decide +kernel
theorem dM_info_10 : decode prog_12_method_33_code 10 = .ok (.if_icmp .ge 12, 3) := by decide +kernel
theorem dM_info_13 : decode prog_12_method_33_code 13 = .ok (.iload_n 2, 1) := by decide +kernel
theorem dM_info_14 : decode prog_12_method_33_code 14 = .ok (.iconst 0, 1) := by decide +kernel
theorem dM_info_15 : decode prog_12_method_33_code 15 = .ok (.iconst 3, 1) := by decide +kernel
theorem dM_info_16 : decode prog_12_method_33_code 16 = .ok (.invokestatic 106, 3) := by decide +kernel
theorem dM_info_19 : decode prog_12_method_33_code 19 = .ok (.ifCond .ne 7, 3) := by decide +kernel
theorem dM_info_22 : decode prog_12_method_33_code 22 = .ok (.iconst 1, 1) := by decide +kernel
theorem dM_info_23 : decode prog_12_method_33_code 23 = .ok (.goto 4, 3) := by decide +kernel
theorem dM_info_26 : decode prog_12_method_33_code 26 = .ok (.iconst 0, 1) := by decide +kernel
theorem dM_info_27 : decode prog_12_method_33_code 27 = .ok (.iconst 1, 1) := by decide +kernel
theorem dM_info_28 : decode prog_12_method_33_code 28 = .ok (.invokevirtual 110, 3) := by decide +kernel
theorem dM_info_31 : decode prog_12_method_33_code 31 = .ok (.ifCond .eq 5, 3) := by decide +kernel
theorem dM_info_34 : decode prog_12_method_33_code 34 = .ok (.iconst 0, 1) := by decide +kernel
theorem dM_info_35 : decode prog_12_method_33_code 35 = .ok (.ireturn, 1) := by decide +kernel
theorem dM_info_36 : decode prog_12_method_33_code 36 = .ok (.iload_n 2, 1) := by decide +kernel
theorem dM_info_37 : decode prog_12_method_33_code 37 = .ok (.ifCond .ne 12, 3) := by decide +kernel
theorem dM_info_40 : decode prog_12_method_33_code 40 = .ok (.aload_n 0, 1) := by decide +kernel
theorem dM_info_41 : decode prog_12_method_33_code 41 = .ok (.getfield 85, 3) := by decide +kernel
theorem dM_info_44 : decode prog_12_method_33_code 44 = .ok (.iload_n 1, 1) := by decide +kernel
theorem dM_info_45 : decode prog_12_method_33_code 45 = .ok (.iaload, 1) := by decide +kernel
theorem dM_info_46 : decode prog_12_method_33_code 46 = .ok (.goto 37, 3) := by decide +kernel
theorem dM_info_49 : decode prog_12_method_33_code 49 = .ok (.iload_n 2, 1) := by decide +kernel
theorem dM_info_50 : decode prog_12_method_33_code 50 = .ok (.iconst 1, 1) := by decide +kernel
theorem dM_info_51 : decode prog_12_method_33_code 51 = .ok (.if_icmp .ne 12, 3) := by decide +kernel
theorem dM_info_54 : decode prog_12_method_33_code 54 = .ok (.aload_n 0, 1) := by decide +kernel
theorem dM_info_55 : decode prog_12_method_33_code 55 = .ok (.getfield 88, 3) := by decide +kernel
theorem dM_info_58 : decode prog_12_method_33_code 58 = .ok (.iload_n 1, 1) := by decide +kernel
theorem dM_info_59 : decode prog_12_method_33_code 59 = .ok (.iaload, 1) := by decide +kernel
theorem dM_info_60 : decode prog_12_method_33_code 60 = .ok (.goto 23, 3) := by decide +kernel
theorem dM_info_63 : decode prog_12_method_33_code 63 = .ok (.iload_n 2, 1) := by decide +kernel
theorem dM_info_64 : decode prog_12_method_33_code 64 = .ok (.iconst 2, 1) := by decide +kernel
theorem dM_info_65 : decode prog_12_method_33_code 65 = .ok (.if_icmp .ne 12, 3) := by decide +kernel
theorem dM_info_68 : decode prog_12_method_33_code 68 = .ok (.aload_n 0, 1) := by decide +kernel
theorem dM_info_69 : decode prog_12_method_33_code 69 = .ok (.getfield 91, 3) := by decide +kernel
theorem dM_info_72 : decode prog_12_method_33_code 72 = .ok (.iload_n 1, 1) := by decide +kernel
theorem dM_info_73 : decode prog_12_method_33_code 73 = .ok (.iaload, 1) := by decide +kernel
theorem dM_info_74 : decode prog_12_method_33_code 74 = .ok (.goto 9, 3) := by decide +kernel
theorem dM_info_77 : decode prog_12_method_33_code 77 = .ok (.aload_n 0, 1) := by decide +kernel
theorem dM_info_78 : decode prog_12_method_33_code 78 = .ok (.getfield 94, 3) := by decide +kernel
theorem dM_info_81 : decode prog_12_method_33_code 81 = .ok (.iload_n 1, 1) := by decide +kernel
theorem dM_info_82 : decode prog_12_method_33_code 82 = .ok (.iaload, 1) := by decide +kernel
theorem dM_info_83 : decode prog_12_method_33_code 83 = .ok (.ireturn, 1) := by decide +kernel
theorem dM_descends_0 : decode prog_12_method_34_code 0 = .ok (.iload_n 1, 1) := by decide +kernel
theorem dM_descends_1 : decode prog_12_method_34_code 1 = .ok (.istore_n 3, 1) := by decide +kernel
theorem dM_descends_2 : decode prog_12_method_34_code 2 = .ok (.iload_n 3, 1) := by decide +kernel
theorem dM_descends_3 : decode prog_12_method_34_code 3 = .ok (.ifCond .lt 18, 3) := by decide +kernel
theorem dM_descends_6 : decode prog_12_method_34_code 6 = .ok (.iload_n 3, 1) := by decide +kernel
theorem dM_descends_7 : decode prog_12_method_34_code 7 = .ok (.iload_n 2, 1) := by decide +kernel
theorem dM_descends_8 : decode prog_12_method_34_code 8 = .ok (.if_icmp .eq 13, 3) := by decide +kernel
theorem dM_descends_11 : decode prog_12_method_34_code 11 = .ok (.aload_n 0, 1) := by decide +kernel
theorem dM_descends_12 : decode prog_12_method_34_code 12 = .ok (.getfield 94, 3) := by decide +kernel
theorem dM_descends_15 : decode prog_12_method_34_code 15 = .ok (.iload_n 3, 1) := by decide +kernel
theorem dM_descends_16 : decode prog_12_method_34_code 16 = .ok (.iaload, 1) := by decide +kernel
theorem dM_descends_17 : decode prog_12_method_34_code 17 = .ok (.istore_n 3, 1) := by decide +kernel
theorem dM_descends_18 : decode prog_12_method_34_code 18 = .ok (.goto (-16), 3) := by decide +kernel
theorem dM_descends_21 : decode prog_12_method_34_code 21 = .ok (.iload_n 3, 1) := by decide +kernel
theorem dM_descends_22 : decode prog_12_method_34_code 22 = .ok (.ifCond .lt 7, 3) := by decide +kernel
theorem dM_descends_25 : decode prog_12_method_34_code 25 = .ok (.iconst 1, 1) := by decide +kernel
theorem dM_descends_26 : decode prog_12_method_34_code 26 = .ok (.goto 4, 3) := by decide +kernel
theorem dM_descends_29 : decode prog_12_method_34_code 29 = .ok (.iconst 0, 1) := by decide +kernel
theorem dM_descends_30 : decode prog_12_method_34_code 30 = .ok (.ireturn, 1) := by decide +kernel
theorem dM_isA_0 : decode prog_12_method_35_code 0 = .ok (.aload_n 0, 1) := by decide +kernel
theorem dM_isA_1 : decode prog_12_method_35_code 1 = .ok (.iload_n 1, 1) := by decide +kernel
theorem dM_isA_2 : decode prog_12_method_35_code 2 = .ok (.ifCond .lt 23, 3) := by decide +kernel
theorem dM_isA_5 : decode prog_12_method_35_code 5 = .ok (.iload_n 1, 1) := by decide +kernel
theorem dM_isA_6 : decode prog_12_method_35_code 6 = .ok (.aload_n 0, 1) := by decide +kernel
theorem dM_isA_7 : decode prog_12_method_35_code 7 = .ok (.getfield 82, 3) := by decide +kernel
theorem dM_isA_10 : decode prog_12_method_35_code 10 = .ok (.if_icmp .ge 15, 3) := by decide +kernel
theorem dM_isA_13 : decode prog_12_method_35_code 13 = .ok (.iload_n 2, 1) := by decide +kernel
theorem dM_isA_14 : decode prog_12_method_35_code 14 = .ok (.ifCond .lt 11, 3) := by decide +kernel
theorem dM_isA_17 : decode prog_12_method_35_code 17 = .ok (.iload_n 2, 1) := by decide +kernel
theorem dM_isA_18 : decode prog_12_method_35_code 18 = .ok (.aload_n 0, 1) := by decide +kernel
theorem dM_isA_19 : decode prog_12_method_35_code 19 = .ok (.getfield 82, 3) := by decide +kernel
theorem dM_isA_22 : decode prog_12_method_35_code 22 = .ok (.if_icmp .lt 7, 3) := by decide +kernel
theorem dM_isA_25 : decode prog_12_method_35_code 25 = .ok (.iconst 1, 1) := by decide +kernel
theorem dM_isA_26 : decode prog_12_method_35_code 26 = .ok (.goto 4, 3) := by decide +kernel
theorem dM_isA_29 : decode prog_12_method_35_code 29 = .ok (.iconst 0, 1) := by decide +kernel
theorem dM_isA_30 : decode prog_12_method_35_code 30 = .ok (.iconst 1, 1) := by decide +kernel
theorem dM_isA_31 : decode prog_12_method_35_code 31 = .ok (.invokevirtual 110, 3) := by decide +kernel
theorem dM_isA_34 : decode prog_12_method_35_code 34 = .ok (.ifCond .eq 5, 3) := by decide +kernel
theorem dM_isA_37 : decode prog_12_method_35_code 37 = .ok (.iconst 0, 1) := by decide +kernel
theorem dM_isA_38 : decode prog_12_method_35_code 38 = .ok (.ireturn, 1) := by decide +kernel
theorem dM_isA_39 : decode prog_12_method_35_code 39 = .ok (.aload_n 0, 1) := by decide +kernel
theorem dM_isA_40 : decode prog_12_method_35_code 40 = .ok (.iload_n 1, 1) := by decide +kernel
theorem dM_isA_41 : decode prog_12_method_35_code 41 = .ok (.iload_n 2, 1) := by decide +kernel
theorem dM_isA_42 : decode prog_12_method_35_code 42 = .ok (.invokevirtual 178, 3) := by decide +kernel
theorem dM_isA_45 : decode prog_12_method_35_code 45 = .ok (.ireturn, 1) := by decide +kernel
theorem dM_describedFrom_0 : decode prog_12_method_36_code 0 = .ok (.iload_n 1, 1) := by decide +kernel
theorem dM_describedFrom_1 : decode prog_12_method_36_code 1 = .ok (.istore_n 3, 1) := by decide +kernel
theorem dM_describedFrom_2 : decode prog_12_method_36_code 2 = .ok (.iconst (-1), 1) := by decide +kernel
theorem dM_describedFrom_3 : decode prog_12_method_36_code 3 = .ok (.istore 4, 2) := by decide +kernel
theorem dM_describedFrom_5 : decode prog_12_method_36_code 5 = .ok (.iload_n 3, 1) := by decide +kernel
theorem dM_describedFrom_6 : decode prog_12_method_36_code 6 = .ok (.ifCond .le 59, 3) := by decide +kernel
theorem dM_describedFrom_9 : decode prog_12_method_36_code 9 = .ok (.iload 4, 2) := by decide +kernel
theorem dM_describedFrom_11 : decode prog_12_method_36_code 11 = .ok (.ifCond .ge 54, 3) := by decide +kernel
theorem dM_describedFrom_14 : decode prog_12_method_36_code 14 = .ok (.iconst 0, 1) := by decide +kernel
theorem dM_describedFrom_15 : decode prog_12_method_36_code 15 = .ok (.istore 5, 2) := by decide +kernel
theorem dM_describedFrom_17 : decode prog_12_method_36_code 17 = .ok (.iload 5, 2) := by decide +kernel
theorem dM_describedFrom_19 : decode prog_12_method_36_code 19 = .ok (.aload_n 0, 1) := by decide +kernel
theorem dM_describedFrom_20 : decode prog_12_method_36_code 20 = .ok (.getfield 32, 3) := by decide +kernel
theorem dM_describedFrom_23 : decode prog_12_method_36_code 23 = .ok (.iload_n 3, 1) := by decide +kernel
theorem dM_describedFrom_24 : decode prog_12_method_36_code 24 = .ok (.iaload, 1) := by decide +kernel
theorem dM_describedFrom_25 : decode prog_12_method_36_code 25 = .ok (.if_icmp .ge 30, 3) := by decide +kernel
theorem dM_describedFrom_28 : decode prog_12_method_36_code 28 = .ok (.iload 4, 2) := by decide +kernel
theorem dM_describedFrom_30 : decode prog_12_method_36_code 30 = .ok (.ifCond .ge 25, 3) := by decide +kernel
theorem dM_describedFrom_33 : decode prog_12_method_36_code 33 = .ok (.aload_n 0, 1) := by decide +kernel
theorem dM_describedFrom_34 : decode prog_12_method_36_code 34 = .ok (.bipush 10, 2) := by decide +kernel
theorem dM_describedFrom_36 : decode prog_12_method_36_code 36 = .ok (.iconst 4, 1) := by decide +kernel
theorem dM_describedFrom_37 : decode prog_12_method_36_code 37 = .ok (.iload_n 3, 1) := by decide +kernel
theorem dM_describedFrom_38 : decode prog_12_method_36_code 38 = .ok (.imul, 1) := by decide +kernel
theorem dM_describedFrom_39 : decode prog_12_method_36_code 39 = .ok (.iadd, 1) := by decide +kernel
theorem dM_describedFrom_40 : decode prog_12_method_36_code 40 = .ok (.iload 5, 2) := by decide +kernel
theorem dM_describedFrom_42 : decode prog_12_method_36_code 42 = .ok (.iadd, 1) := by decide +kernel
theorem dM_describedFrom_43 : decode prog_12_method_36_code 43 = .ok (.iload_n 2, 1) := by decide +kernel
theorem dM_describedFrom_44 : decode prog_12_method_36_code 44 = .ok (.invokevirtual 118, 3) := by decide +kernel
theorem dM_describedFrom_47 : decode prog_12_method_36_code 47 = .ok (.istore 4, 2) := by decide +kernel
theorem dM_describedFrom_49 : decode prog_12_method_36_code 49 = .ok (.iinc 5 1, 3) := by decide +kernel
theorem dM_describedFrom_52 : decode prog_12_method_36_code 52 = .ok (.goto (-35), 3) := by decide +kernel
theorem dM_describedFrom_55 : decode prog_12_method_36_code 55 = .ok (.aload_n 0, 1) := by decide +kernel
theorem dM_describedFrom_56 : decode prog_12_method_36_code 56 = .ok (.getfield 29, 3) := by decide +kernel
theorem dM_describedFrom_59 : decode prog_12_method_36_code 59 = .ok (.iload_n 3, 1) := by decide +kernel
theorem dM_describedFrom_60 : decode prog_12_method_36_code 60 = .ok (.iaload, 1) := by decide +kernel
theorem dM_describedFrom_61 : decode prog_12_method_36_code 61 = .ok (.istore_n 3, 1) := by decide +kernel
theorem dM_describedFrom_62 : decode prog_12_method_36_code 62 = .ok (.goto (-57), 3) := by decide +kernel
theorem dM_describedFrom_65 : decode prog_12_method_36_code 65 = .ok (.iload 4, 2) := by decide +kernel
theorem dM_describedFrom_67 : decode prog_12_method_36_code 67 = .ok (.bipush 8, 2) := by decide +kernel
theorem dM_describedFrom_69 : decode prog_12_method_36_code 69 = .ok (.if_icmp .ge 6, 3) := by decide +kernel
theorem dM_describedFrom_72 : decode prog_12_method_36_code 72 = .ok (.iload 4, 2) := by decide +kernel
theorem dM_describedFrom_74 : decode prog_12_method_36_code 74 = .ok (.ireturn, 1) := by decide +kernel
theorem dM_describedFrom_75 : decode prog_12_method_36_code 75 = .ok (.iload_n 1, 1) := by decide +kernel
theorem dM_describedFrom_76 : decode prog_12_method_36_code 76 = .ok (.istore 5, 2) := by decide +kernel
theorem dM_describedFrom_78 : decode prog_12_method_36_code 78 = .ok (.iconst 1, 1) := by decide +kernel
theorem dM_describedFrom_79 : decode prog_12_method_36_code 79 = .ok (.istore 6, 2) := by decide +kernel
theorem dM_describedFrom_81 : decode prog_12_method_36_code 81 = .ok (.iconst 0, 1) := by decide +kernel
theorem dM_describedFrom_82 : decode prog_12_method_36_code 82 = .ok (.istore 7, 2) := by decide +kernel
theorem dM_describedFrom_84 : decode prog_12_method_36_code 84 = .ok (.iload 5, 2) := by decide +kernel
theorem dM_describedFrom_86 : decode prog_12_method_36_code 86 = .ok (.ifCond .le 105, 3) := by decide +kernel
theorem dM_describedFrom_89 : decode prog_12_method_36_code 89 = .ok (.iload 7, 2) := by decide +kernel
theorem dM_describedFrom_91 : decode prog_12_method_36_code 91 = .ok (.ifCond .ne 100, 3) := by decide +kernel
theorem dM_describedFrom_94 : decode prog_12_method_36_code 94 = .ok (.aload_n 0, 1) := by decide +kernel
theorem dM_describedFrom_95 : decode prog_12_method_36_code 95 = .ok (.getfield 26, 3) := by decide +kernel
theorem dM_describedFrom_98 : decode prog_12_method_36_code 98 = .ok (.iload 5, 2) := by decide +kernel
theorem dM_describedFrom_100 : decode prog_12_method_36_code 100 = .ok (.iaload, 1) := by decide +kernel
theorem dM_describedFrom_101 : decode prog_12_method_36_code 101 = .ok (.iconst 2, 1) := by decide +kernel
theorem dM_describedFrom_102 : decode prog_12_method_36_code 102 = .ok (.if_icmp .ne 26, 3) := by decide +kernel
theorem dM_describedFrom_105 : decode prog_12_method_36_code 105 = .ok (.iload 6, 2) := by decide +kernel
theorem dM_describedFrom_107 : decode prog_12_method_36_code 107 = .ok (.ifCond .eq 18, 3) := by decide +kernel
theorem dM_describedFrom_110 : decode prog_12_method_36_code 110 = .ok (.aload_n 0, 1) := by decide +kernel
theorem dM_describedFrom_111 : decode prog_12_method_36_code 111 = .ok (.iload 5, 2) := by decide +kernel
theorem dM_describedFrom_113 : decode prog_12_method_36_code 113 = .ok (.iload 4, 2) := by decide +kernel
theorem dM_describedFrom_115 : decode prog_12_method_36_code 115 = .ok (.invokevirtual 160, 3) := by decide +kernel
theorem dM_describedFrom_118 : decode prog_12_method_36_code 118 = .ok (.ifCond .eq 7, 3) := by decide +kernel
theorem dM_describedFrom_121 : decode prog_12_method_36_code 121 = .ok (.iconst 1, 1) := by decide +kernel
theorem dM_describedFrom_122 : decode prog_12_method_36_code 122 = .ok (.goto 4, 3) := by decide +kernel
theorem dM_describedFrom_125 : decode prog_12_method_36_code 125 = .ok (.iconst 0, 1) := by decide +kernel
theorem dM_describedFrom_126 : decode prog_12_method_36_code 126 = .ok (.istore 6, 2) := by decide +kernel
theorem dM_describedFrom_128 : decode prog_12_method_36_code 128 = .ok (.iconst 0, 1) := by decide +kernel
theorem dM_describedFrom_129 : decode prog_12_method_36_code 129 = .ok (.istore 8, 2) := by decide +kernel
theorem dM_describedFrom_131 : decode prog_12_method_36_code 131 = .ok (.iload 8, 2) := by decide +kernel
theorem dM_describedFrom_133 : decode prog_12_method_36_code 133 = .ok (.aload_n 0, 1) := by decide +kernel
theorem dM_describedFrom_134 : decode prog_12_method_36_code 134 = .ok (.getfield 32, 3) := by decide +kernel
theorem dM_describedFrom_137 : decode prog_12_method_36_code 137 = .ok (.iload 5, 2) := by decide +kernel
theorem dM_describedFrom_139 : decode prog_12_method_36_code 139 = .ok (.iaload, 1) := by decide +kernel
theorem dM_describedFrom_140 : decode prog_12_method_36_code 140 = .ok (.if_icmp .ge 39, 3) := by decide +kernel
theorem dM_describedFrom_143 : decode prog_12_method_36_code 143 = .ok (.iload 7, 2) := by decide +kernel
theorem dM_describedFrom_145 : decode prog_12_method_36_code 145 = .ok (.ifCond .ne 21, 3) := by decide +kernel
theorem dM_describedFrom_148 : decode prog_12_method_36_code 148 = .ok (.aload_n 0, 1) := by decide +kernel
theorem dM_describedFrom_149 : decode prog_12_method_36_code 149 = .ok (.bipush 10, 2) := by decide +kernel
theorem dM_describedFrom_151 : decode prog_12_method_36_code 151 = .ok (.iconst 4, 1) := by decide +kernel
theorem dM_describedFrom_152 : decode prog_12_method_36_code 152 = .ok (.iload 5, 2) := by decide +kernel
theorem dM_describedFrom_154 : decode prog_12_method_36_code 154 = .ok (.imul, 1) := by decide +kernel
theorem dM_describedFrom_155 : decode prog_12_method_36_code 155 = .ok (.iadd, 1) := by decide +kernel
theorem dM_describedFrom_156 : decode prog_12_method_36_code 156 = .ok (.iload 8, 2) := by decide +kernel
theorem dM_describedFrom_158 : decode prog_12_method_36_code 158 = .ok (.iadd, 1) := by decide +kernel
theorem dM_describedFrom_159 : decode prog_12_method_36_code 159 = .ok (.iload_n 2, 1) := by decide +kernel
theorem dM_describedFrom_160 : decode prog_12_method_36_code 160 = .ok (.invokevirtual 118, 3) := by decide +kernel
theorem dM_describedFrom_163 : decode prog_12_method_36_code 163 = .ok (.ifCond .lt 7, 3) := by decide +kernel
theorem dM_describedFrom_166 : decode prog_12_method_36_code 166 = .ok (.iconst 1, 1) := by decide +kernel
theorem dM_describedFrom_167 : decode prog_12_method_36_code 167 = .ok (.goto 4, 3) := by decide +kernel
theorem dM_describedFrom_170 : decode prog_12_method_36_code 170 = .ok (.iconst 0, 1) := by decide +kernel
theorem dM_describedFrom_171 : decode prog_12_method_36_code 171 = .ok (.istore 7, 2) := by decide +kernel
theorem dM_describedFrom_173 : decode prog_12_method_36_code 173 = .ok (.iinc 8 1, 3) := by decide +kernel
theorem dM_describedFrom_176 : decode prog_12_method_36_code 176 = .ok (.goto (-45), 3) := by decide +kernel
theorem dM_describedFrom_179 : decode prog_12_method_36_code 179 = .ok (.aload_n 0, 1) := by decide +kernel
theorem dM_describedFrom_180 : decode prog_12_method_36_code 180 = .ok (.getfield 29, 3) := by decide +kernel
theorem dM_describedFrom_183 : decode prog_12_method_36_code 183 = .ok (.iload 5, 2) := by decide +kernel
theorem dM_describedFrom_185 : decode prog_12_method_36_code 185 = .ok (.iaload, 1) := by decide +kernel
theorem dM_describedFrom_186 : decode prog_12_method_36_code 186 = .ok (.istore 5, 2) := by decide +kernel
theorem dM_describedFrom_188 : decode prog_12_method_36_code 188 = .ok (.goto (-104), 3) := by decide +kernel
theorem dM_describedFrom_191 : decode prog_12_method_36_code 191 = .ok (.iload 6, 2) := by decide +kernel
theorem dM_describedFrom_193 : decode prog_12_method_36_code 193 = .ok (.ifCond .eq 8, 3) := by decide +kernel
theorem dM_describedFrom_196 : decode prog_12_method_36_code 196 = .ok (.iload 4, 2) := by decide +kernel
theorem dM_describedFrom_198 : decode prog_12_method_36_code 198 = .ok (.goto 4, 3) := by decide +kernel
theorem dM_describedFrom_201 : decode prog_12_method_36_code 201 = .ok (.iconst (-1), 1) := by decide +kernel
theorem dM_describedFrom_202 : decode prog_12_method_36_code 202 = .ok (.ireturn, 1) := by decide +kernel
theorem dM_apply_0 : decode prog_12_method_37_code 0 = .ok (.aload_n 0, 1) := by decide +kernel
theorem dM_apply_1 : decode prog_12_method_37_code 1 = .ok (.aload_n 0, 1) := by decide +kernel
theorem dM_apply_2 : decode prog_12_method_37_code 2 = .ok (.iload_n 1, 1) := by decide +kernel
theorem dM_apply_3 : decode prog_12_method_37_code 3 = .ok (.invokevirtual 140, 3) := by decide +kernel
theorem dM_apply_6 : decode prog_12_method_37_code 6 = .ok (.ifCond .ne 13, 3) := by decide +kernel
theorem dM_apply_9 : decode prog_12_method_37_code 9 = .ok (.iload_n 2, 1) := by decide +kernel
theorem dM_apply_10 : decode prog_12_method_37_code 10 = .ok (.iconst 0, 1) := by decide +kernel
theorem dM_apply_11 : decode prog_12_method_37_code 11 = .ok (.bipush 9, 2) := by decide +kernel
theorem dM_apply_13 : decode prog_12_method_37_code 13 = .ok (.invokestatic 106, 3) := by decide +kernel
theorem dM_apply_16 : decode prog_12_method_37_code 16 = .ok (.ifCond .ne 7, 3) := by decide +kernel
theorem dM_apply_19 : decode prog_12_method_37_code 19 = .ok (.iconst 1, 1) := by decide +kernel
theorem dM_apply_20 : decode prog_12_method_37_code 20 = .ok (.goto 4, 3) := by decide +kernel
theorem dM_apply_23 : decode prog_12_method_37_code 23 = .ok (.iconst 0, 1) := by decide +kernel
theorem dM_apply_24 : decode prog_12_method_37_code 24 = .ok (.iconst 1, 1) := by decide +kernel
theorem dM_apply_25 : decode prog_12_method_37_code 25 = .ok (.invokevirtual 110, 3) := by decide +kernel
theorem dM_apply_28 : decode prog_12_method_37_code 28 = .ok (.ifCond .ne 26, 3) := by decide +kernel
theorem dM_apply_31 : decode prog_12_method_37_code 31 = .ok (.aload_n 0, 1) := by decide +kernel
theorem dM_apply_32 : decode prog_12_method_37_code 32 = .ok (.aload_n 0, 1) := by decide +kernel
theorem dM_apply_33 : decode prog_12_method_37_code 33 = .ok (.getfield 49, 3) := by decide +kernel
theorem dM_apply_36 : decode prog_12_method_37_code 36 = .ok (.iload_n 1, 1) := by decide +kernel
theorem dM_apply_37 : decode prog_12_method_37_code 37 = .ok (.iaload, 1) := by decide +kernel
theorem dM_apply_38 : decode prog_12_method_37_code 38 = .ok (.iconst 1, 1) := by decide +kernel
theorem dM_apply_39 : decode prog_12_method_37_code 39 = .ok (.if_icmp .eq 7, 3) := by decide +kernel
theorem dM_apply_42 : decode prog_12_method_37_code 42 = .ok (.iconst 1, 1) := by decide +kernel
theorem dM_apply_43 : decode prog_12_method_37_code 43 = .ok (.goto 4, 3) := by decide +kernel
theorem dM_apply_46 : decode prog_12_method_37_code 46 = .ok (.iconst 0, 1) := by decide +kernel
theorem dM_apply_47 : decode prog_12_method_37_code 47 = .ok (.iconst 2, 1) := by decide +kernel
theorem dM_apply_48 : decode prog_12_method_37_code 48 = .ok (.invokevirtual 110, 3) := by decide +kernel
theorem dM_apply_51 : decode prog_12_method_37_code 51 = .ok (.ifCond .eq 5, 3) := by decide +kernel
theorem dM_apply_54 : decode prog_12_method_37_code 54 = .ok (.iconst 0, 1) := by decide +kernel
theorem dM_apply_55 : decode prog_12_method_37_code 55 = .ok (.ireturn, 1) := by decide +kernel
theorem dM_apply_56 : decode prog_12_method_37_code 56 = .ok (.aload_n 0, 1) := by decide +kernel
theorem dM_apply_57 : decode prog_12_method_37_code 57 = .ok (.aload_n 0, 1) := by decide +kernel
theorem dM_apply_58 : decode prog_12_method_37_code 58 = .ok (.getfield 73, 3) := by decide +kernel
theorem dM_apply_61 : decode prog_12_method_37_code 61 = .ok (.iconst 3, 1) := by decide +kernel
theorem dM_apply_62 : decode prog_12_method_37_code 62 = .ok (.iload_n 1, 1) := by decide +kernel
theorem dM_apply_63 : decode prog_12_method_37_code 63 = .ok (.imul, 1) := by decide +kernel
theorem dM_apply_64 : decode prog_12_method_37_code 64 = .ok (.iconst 2, 1) := by decide +kernel
theorem dM_apply_65 : decode prog_12_method_37_code 65 = .ok (.iadd, 1) := by decide +kernel
theorem dM_apply_66 : decode prog_12_method_37_code 66 = .ok (.iaload, 1) := by decide +kernel
theorem dM_apply_67 : decode prog_12_method_37_code 67 = .ok (.iload_n 2, 1) := by decide +kernel
theorem dM_apply_68 : decode prog_12_method_37_code 68 = .ok (.invokevirtual 181, 3) := by decide +kernel
theorem dM_apply_71 : decode prog_12_method_37_code 71 = .ok (.istore_n 3, 1) := by decide +kernel
theorem dM_apply_72 : decode prog_12_method_37_code 72 = .ok (.iload_n 3, 1) := by decide +kernel
theorem dM_apply_73 : decode prog_12_method_37_code 73 = .ok (.ifCond .ge 5, 3) := by decide +kernel
theorem dM_apply_76 : decode prog_12_method_37_code 76 = .ok (.iconst (-1), 1) := by decide +kernel
theorem dM_apply_77 : decode prog_12_method_37_code 77 = .ok (.ireturn, 1) := by decide +kernel
theorem dM_apply_78 : decode prog_12_method_37_code 78 = .ok (.aload_n 0, 1) := by decide +kernel
theorem dM_apply_79 : decode prog_12_method_37_code 79 = .ok (.iload_n 1, 1) := by decide +kernel
theorem dM_apply_80 : decode prog_12_method_37_code 80 = .ok (.iload_n 3, 1) := by decide +kernel
theorem dM_apply_81 : decode prog_12_method_37_code 81 = .ok (.invokevirtual 175, 3) := by decide +kernel
theorem dM_apply_84 : decode prog_12_method_37_code 84 = .ok (.istore 4, 2) := by decide +kernel
theorem dM_apply_86 : decode prog_12_method_37_code 86 = .ok (.aload_n 0, 1) := by decide +kernel
theorem dM_apply_87 : decode prog_12_method_37_code 87 = .ok (.getfield 103, 3) := by decide +kernel
theorem dM_apply_90 : decode prog_12_method_37_code 90 = .ok (.ifCond .le 5, 3) := by decide +kernel
theorem dM_apply_93 : decode prog_12_method_37_code 93 = .ok (.iconst 0, 1) := by decide +kernel
theorem dM_apply_94 : decode prog_12_method_37_code 94 = .ok (.ireturn, 1) := by decide +kernel
theorem dM_apply_95 : decode prog_12_method_37_code 95 = .ok (.aload_n 0, 1) := by decide +kernel
theorem dM_apply_96 : decode prog_12_method_37_code 96 = .ok (.iload 4, 2) := by decide +kernel
theorem dM_apply_98 : decode prog_12_method_37_code 98 = .ok (.iconst 1, 1) := by decide +kernel
theorem dM_apply_99 : decode prog_12_method_37_code 99 = .ok (.invokevirtual 178, 3) := by decide +kernel
theorem dM_apply_102 : decode prog_12_method_37_code 102 = .ok (.ifCond .ne 6, 3) := by decide +kernel
theorem dM_apply_105 : decode prog_12_method_37_code 105 = .ok (.bipush (-2), 2) := by decide +kernel
theorem dM_apply_107 : decode prog_12_method_37_code 107 = .ok (.ireturn, 1) := by decide +kernel
theorem dM_apply_108 : decode prog_12_method_37_code 108 = .ok (.aload_n 0, 1) := by decide +kernel
theorem dM_apply_109 : decode prog_12_method_37_code 109 = .ok (.getfield 79, 3) := by decide +kernel
theorem dM_apply_112 : decode prog_12_method_37_code 112 = .ok (.iload_n 1, 1) := by decide +kernel
theorem dM_apply_113 : decode prog_12_method_37_code 113 = .ok (.iaload, 1) := by decide +kernel
theorem dM_apply_114 : decode prog_12_method_37_code 114 = .ok (.istore 5, 2) := by decide +kernel
theorem dM_apply_116 : decode prog_12_method_37_code 116 = .ok (.iconst 0, 1) := by decide +kernel
theorem dM_apply_117 : decode prog_12_method_37_code 117 = .ok (.istore 6, 2) := by decide +kernel
theorem dM_apply_119 : decode prog_12_method_37_code 119 = .ok (.iload 6, 2) := by decide +kernel
theorem dM_apply_121 : decode prog_12_method_37_code 121 = .ok (.iload 5, 2) := by decide +kernel
theorem dM_apply_123 : decode prog_12_method_37_code 123 = .ok (.if_icmp .ge 28, 3) := by decide +kernel
theorem dM_apply_126 : decode prog_12_method_37_code 126 = .ok (.aload_n 0, 1) := by decide +kernel
theorem dM_apply_127 : decode prog_12_method_37_code 127 = .ok (.getfield 76, 3) := by decide +kernel
theorem dM_apply_130 : decode prog_12_method_37_code 130 = .ok (.bipush 8, 2) := by decide +kernel
theorem dM_apply_132 : decode prog_12_method_37_code 132 = .ok (.iload_n 1, 1) := by decide +kernel
theorem dM_apply_133 : decode prog_12_method_37_code 133 = .ok (.imul, 1) := by decide +kernel
theorem dM_apply_134 : decode prog_12_method_37_code 134 = .ok (.iload 6, 2) := by decide +kernel
theorem dM_apply_136 : decode prog_12_method_37_code 136 = .ok (.iadd, 1) := by decide +kernel
theorem dM_apply_137 : decode prog_12_method_37_code 137 = .ok (.iaload, 1) := by decide +kernel
theorem dM_apply_138 : decode prog_12_method_37_code 138 = .ok (.iload 4, 2) := by decide +kernel
theorem dM_apply_140 : decode prog_12_method_37_code 140 = .ok (.if_icmp .ne 5, 3) := by decide +kernel
theorem dM_apply_143 : decode prog_12_method_37_code 143 = .ok (.iconst 0, 1) := by decide +kernel
theorem dM_apply_144 : decode prog_12_method_37_code 144 = .ok (.ireturn, 1) := by decide +kernel
theorem dM_apply_145 : decode prog_12_method_37_code 145 = .ok (.iinc 6 1, 3) := by decide +kernel
theorem dM_apply_148 : decode prog_12_method_37_code 148 = .ok (.goto (-29), 3) := by decide +kernel
theorem dM_apply_151 : decode prog_12_method_37_code 151 = .ok (.iload 5, 2) := by decide +kernel
theorem dM_apply_153 : decode prog_12_method_37_code 153 = .ok (.bipush 8, 2) := by decide +kernel
theorem dM_apply_155 : decode prog_12_method_37_code 155 = .ok (.if_icmp .ne 6, 3) := by decide +kernel
theorem dM_apply_158 : decode prog_12_method_37_code 158 = .ok (.bipush (-3), 2) := by decide +kernel
theorem dM_apply_160 : decode prog_12_method_37_code 160 = .ok (.ireturn, 1) := by decide +kernel
theorem dM_apply_161 : decode prog_12_method_37_code 161 = .ok (.aload_n 0, 1) := by decide +kernel
theorem dM_apply_162 : decode prog_12_method_37_code 162 = .ok (.getfield 76, 3) := by decide +kernel
theorem dM_apply_165 : decode prog_12_method_37_code 165 = .ok (.bipush 8, 2) := by decide +kernel
theorem dM_apply_167 : decode prog_12_method_37_code 167 = .ok (.iload_n 1, 1) := by decide +kernel
theorem dM_apply_168 : decode prog_12_method_37_code 168 = .ok (.imul, 1) := by decide +kernel
theorem dM_apply_169 : decode prog_12_method_37_code 169 = .ok (.iload 5, 2) := by decide +kernel
theorem dM_apply_171 : decode prog_12_method_37_code 171 = .ok (.iadd, 1) := by decide +kernel
theorem dM_apply_172 : decode prog_12_method_37_code 172 = .ok (.iload 4, 2) := by decide +kernel
theorem dM_apply_174 : decode prog_12_method_37_code 174 = .ok (.iastore, 1) := by decide +kernel
theorem dM_apply_175 : decode prog_12_method_37_code 175 = .ok (.aload_n 0, 1) := by decide +kernel
theorem dM_apply_176 : decode prog_12_method_37_code 176 = .ok (.getfield 79, 3) := by decide +kernel
theorem dM_apply_179 : decode prog_12_method_37_code 179 = .ok (.iload_n 1, 1) := by decide +kernel
theorem dM_apply_180 : decode prog_12_method_37_code 180 = .ok (.dup2, 1) := by decide +kernel
theorem dM_apply_181 : decode prog_12_method_37_code 181 = .ok (.iaload, 1) := by decide +kernel
theorem dM_apply_182 : decode prog_12_method_37_code 182 = .ok (.iconst 1, 1) := by decide +kernel
theorem dM_apply_183 : decode prog_12_method_37_code 183 = .ok (.iadd, 1) := by decide +kernel
theorem dM_apply_184 : decode prog_12_method_37_code 184 = .ok (.iastore, 1) := by decide +kernel
theorem dM_apply_185 : decode prog_12_method_37_code 185 = .ok (.iconst 1, 1) := by decide +kernel
theorem dM_apply_186 : decode prog_12_method_37_code 186 = .ok (.ireturn, 1) := by decide +kernel
theorem dM_applied_0 : decode prog_12_method_38_code 0 = .ok (.aload_n 0, 1) := by decide +kernel
theorem dM_applied_1 : decode prog_12_method_38_code 1 = .ok (.aload_n 0, 1) := by decide +kernel
theorem dM_applied_2 : decode prog_12_method_38_code 2 = .ok (.iload_n 1, 1) := by decide +kernel
theorem dM_applied_3 : decode prog_12_method_38_code 3 = .ok (.invokevirtual 140, 3) := by decide +kernel
theorem dM_applied_6 : decode prog_12_method_38_code 6 = .ok (.iconst 1, 1) := by decide +kernel
theorem dM_applied_7 : decode prog_12_method_38_code 7 = .ok (.invokevirtual 110, 3) := by decide +kernel
theorem dM_applied_10 : decode prog_12_method_38_code 10 = .ok (.ifCond .eq 5, 3) := by decide +kernel
theorem dM_applied_13 : decode prog_12_method_38_code 13 = .ok (.iconst 0, 1) := by decide +kernel
theorem dM_applied_14 : decode prog_12_method_38_code 14 = .ok (.ireturn, 1) := by decide +kernel
theorem dM_applied_15 : decode prog_12_method_38_code 15 = .ok (.iload_n 2, 1) := by decide +kernel
theorem dM_applied_16 : decode prog_12_method_38_code 16 = .ok (.ifCond .lt 13, 3) := by decide +kernel
theorem dM_applied_19 : decode prog_12_method_38_code 19 = .ok (.iload_n 2, 1) := by decide +kernel
theorem dM_applied_20 : decode prog_12_method_38_code 20 = .ok (.aload_n 0, 1) := by decide +kernel
theorem dM_applied_21 : decode prog_12_method_38_code 21 = .ok (.getfield 79, 3) := by decide +kernel
theorem dM_applied_24 : decode prog_12_method_38_code 24 = .ok (.iload_n 1, 1) := by decide +kernel
theorem dM_applied_25 : decode prog_12_method_38_code 25 = .ok (.iaload, 1) := by decide +kernel
theorem dM_applied_26 : decode prog_12_method_38_code 26 = .ok (.if_icmp .lt 7, 3) := by decide +kernel
theorem dM_applied_29 : decode prog_12_method_38_code 29 = .ok (.iconst (-1), 1) := by decide +kernel
theorem dM_applied_30 : decode prog_12_method_38_code 30 = .ok (.goto 14, 3) := by decide +kernel
theorem dM_applied_33 : decode prog_12_method_38_code 33 = .ok (.aload_n 0, 1) := by decide +kernel
theorem dM_applied_34 : decode prog_12_method_38_code 34 = .ok (.getfield 76, 3) := by decide +kernel
theorem dM_applied_37 : decode prog_12_method_38_code 37 = .ok (.bipush 8, 2) := by decide +kernel
theorem dM_applied_39 : decode prog_12_method_38_code 39 = .ok (.iload_n 1, 1) := by decide +kernel
theorem dM_applied_40 : decode prog_12_method_38_code 40 = .ok (.imul, 1) := by decide +kernel
theorem dM_applied_41 : decode prog_12_method_38_code 41 = .ok (.iload_n 2, 1) := by decide +kernel
theorem dM_applied_42 : decode prog_12_method_38_code 42 = .ok (.iadd, 1) := by decide +kernel
theorem dM_applied_43 : decode prog_12_method_38_code 43 = .ok (.iaload, 1) := by decide +kernel
theorem dM_applied_44 : decode prog_12_method_38_code 44 = .ok (.ireturn, 1) := by decide +kernel
