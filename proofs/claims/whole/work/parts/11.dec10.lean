/-! decode rows (by program) -/
theorem d_M_init_0 : decode (cd m_M_init) 0 = .ok (.aload_n 0, 1) := by decide +kernel
theorem d_M_init_1 : decode (cd m_M_init) 1 = .ok (.invokespecial 1, 3) := by decide +kernel
theorem d_M_init_4 : decode (cd m_M_init) 4 = .ok (.aload_n 0, 1) := by decide +kernel
theorem d_M_init_5 : decode (cd m_M_init) 5 = .ok (.sipush 600, 3) := by decide +kernel
theorem d_M_init_8 : decode (cd m_M_init) 8 = .ok (.newarray .int, 2) := by decide +kernel
theorem d_M_init_10 : decode (cd m_M_init) 10 = .ok (.putfield 7, 3) := by decide +kernel
theorem d_M_init_13 : decode (cd m_M_init) 13 = .ok (.aload_n 0, 1) := by decide +kernel
theorem d_M_init_14 : decode (cd m_M_init) 14 = .ok (.sipush 602, 3) := by decide +kernel
theorem d_M_init_17 : decode (cd m_M_init) 17 = .ok (.newarray .int, 2) := by decide +kernel
theorem d_M_init_19 : decode (cd m_M_init) 19 = .ok (.putfield 13, 3) := by decide +kernel
theorem d_M_init_22 : decode (cd m_M_init) 22 = .ok (.aload_n 0, 1) := by decide +kernel
theorem d_M_init_23 : decode (cd m_M_init) 23 = .ok (.sipush 602, 3) := by decide +kernel
theorem d_M_init_26 : decode (cd m_M_init) 26 = .ok (.newarray .int, 2) := by decide +kernel
theorem d_M_init_28 : decode (cd m_M_init) 28 = .ok (.putfield 16, 3) := by decide +kernel
theorem d_M_init_31 : decode (cd m_M_init) 31 = .ok (.aload_n 0, 1) := by decide +kernel
theorem d_M_init_32 : decode (cd m_M_init) 32 = .ok (.sipush 602, 3) := by decide +kernel
theorem d_M_init_35 : decode (cd m_M_init) 35 = .ok (.newarray .int, 2) := by decide +kernel
theorem d_M_init_37 : decode (cd m_M_init) 37 = .ok (.putfield 19, 3) := by decide +kernel
theorem d_M_init_40 : decode (cd m_M_init) 40 = .ok (.aload_n 0, 1) := by decide +kernel
theorem d_M_init_41 : decode (cd m_M_init) 41 = .ok (.sipush 602, 3) := by decide +kernel
theorem d_M_init_44 : decode (cd m_M_init) 44 = .ok (.newarray .long, 2) := by decide +kernel
theorem d_M_init_46 : decode (cd m_M_init) 46 = .ok (.putfield 22, 3) := by decide +kernel
theorem d_M_init_49 : decode (cd m_M_init) 49 = .ok (.aload_n 0, 1) := by decide +kernel
theorem d_M_init_50 : decode (cd m_M_init) 50 = .ok (.iconst 2, 1) := by decide +kernel
theorem d_M_init_51 : decode (cd m_M_init) 51 = .ok (.newarray .int, 2) := by decide +kernel
theorem d_M_init_53 : decode (cd m_M_init) 53 = .ok (.putfield 26, 3) := by decide +kernel
theorem d_M_init_56 : decode (cd m_M_init) 56 = .ok (.aload_n 0, 1) := by decide +kernel
theorem d_M_init_57 : decode (cd m_M_init) 57 = .ok (.bipush 32, 2) := by decide +kernel
theorem d_M_init_59 : decode (cd m_M_init) 59 = .ok (.newarray .long, 2) := by decide +kernel
theorem d_M_init_61 : decode (cd m_M_init) 61 = .ok (.putfield 29, 3) := by decide +kernel
theorem d_M_init_64 : decode (cd m_M_init) 64 = .ok (.aload_n 0, 1) := by decide +kernel
theorem d_M_init_65 : decode (cd m_M_init) 65 = .ok (.bipush 32, 2) := by decide +kernel
theorem d_M_init_67 : decode (cd m_M_init) 67 = .ok (.newarray .int, 2) := by decide +kernel
theorem d_M_init_69 : decode (cd m_M_init) 69 = .ok (.putfield 32, 3) := by decide +kernel
theorem d_M_init_72 : decode (cd m_M_init) 72 = .ok (.aload_n 0, 1) := by decide +kernel
theorem d_M_init_73 : decode (cd m_M_init) 73 = .ok (.bipush 32, 2) := by decide +kernel
theorem d_M_init_75 : decode (cd m_M_init) 75 = .ok (.newarray .int, 2) := by decide +kernel
theorem d_M_init_77 : decode (cd m_M_init) 77 = .ok (.putfield 35, 3) := by decide +kernel
theorem d_M_init_80 : decode (cd m_M_init) 80 = .ok (.aload_n 0, 1) := by decide +kernel
theorem d_M_init_81 : decode (cd m_M_init) 81 = .ok (.iconst 2, 1) := by decide +kernel
theorem d_M_init_82 : decode (cd m_M_init) 82 = .ok (.newarray .int, 2) := by decide +kernel
theorem d_M_init_84 : decode (cd m_M_init) 84 = .ok (.putfield 38, 3) := by decide +kernel
theorem d_M_init_87 : decode (cd m_M_init) 87 = .ok (.aload_n 0, 1) := by decide +kernel
theorem d_M_init_88 : decode (cd m_M_init) 88 = .ok (.bipush 61, 2) := by decide +kernel
theorem d_M_init_90 : decode (cd m_M_init) 90 = .ok (.newarray .int, 2) := by decide +kernel
theorem d_M_init_92 : decode (cd m_M_init) 92 = .ok (.putfield 41, 3) := by decide +kernel
theorem d_M_init_95 : decode (cd m_M_init) 95 = .ok (.aload_n 0, 1) := by decide +kernel
theorem d_M_init_96 : decode (cd m_M_init) 96 = .ok (.sipush 244, 3) := by decide +kernel
theorem d_M_init_99 : decode (cd m_M_init) 99 = .ok (.newarray .int, 2) := by decide +kernel
theorem d_M_init_101 : decode (cd m_M_init) 101 = .ok (.putfield 44, 3) := by decide +kernel
theorem d_M_init_104 : decode (cd m_M_init) 104 = .ok (.aload_n 0, 1) := by decide +kernel
theorem d_M_init_105 : decode (cd m_M_init) 105 = .ok (.sipush 244, 3) := by decide +kernel
theorem d_M_init_108 : decode (cd m_M_init) 108 = .ok (.newarray .long, 2) := by decide +kernel
theorem d_M_init_110 : decode (cd m_M_init) 110 = .ok (.putfield 47, 3) := by decide +kernel
theorem d_M_init_113 : decode (cd m_M_init) 113 = .ok (.aload_n 0, 1) := by decide +kernel
theorem d_M_init_114 : decode (cd m_M_init) 114 = .ok (.bipush 61, 2) := by decide +kernel
theorem d_M_init_116 : decode (cd m_M_init) 116 = .ok (.newarray .int, 2) := by decide +kernel
theorem d_M_init_118 : decode (cd m_M_init) 118 = .ok (.putfield 50, 3) := by decide +kernel
theorem d_M_init_121 : decode (cd m_M_init) 121 = .ok (.aload_n 0, 1) := by decide +kernel
theorem d_M_init_122 : decode (cd m_M_init) 122 = .ok (.bipush 61, 2) := by decide +kernel
theorem d_M_init_124 : decode (cd m_M_init) 124 = .ok (.newarray .int, 2) := by decide +kernel
theorem d_M_init_126 : decode (cd m_M_init) 126 = .ok (.putfield 53, 3) := by decide +kernel
theorem d_M_init_129 : decode (cd m_M_init) 129 = .ok (.aload_n 0, 1) := by decide +kernel
theorem d_M_init_130 : decode (cd m_M_init) 130 = .ok (.bipush 61, 2) := by decide +kernel
theorem d_M_init_132 : decode (cd m_M_init) 132 = .ok (.newarray .int, 2) := by decide +kernel
theorem d_M_init_134 : decode (cd m_M_init) 134 = .ok (.putfield 56, 3) := by decide +kernel
theorem d_M_init_137 : decode (cd m_M_init) 137 = .ok (.aload_n 0, 1) := by decide +kernel
theorem d_M_init_138 : decode (cd m_M_init) 138 = .ok (.bipush 61, 2) := by decide +kernel
theorem d_M_init_140 : decode (cd m_M_init) 140 = .ok (.newarray .int, 2) := by decide +kernel
theorem d_M_init_142 : decode (cd m_M_init) 142 = .ok (.putfield 59, 3) := by decide +kernel
theorem d_M_init_145 : decode (cd m_M_init) 145 = .ok (.aload_n 0, 1) := by decide +kernel
theorem d_M_init_146 : decode (cd m_M_init) 146 = .ok (.sipush 366, 3) := by decide +kernel
theorem d_M_init_149 : decode (cd m_M_init) 149 = .ok (.newarray .int, 2) := by decide +kernel
theorem d_M_init_151 : decode (cd m_M_init) 151 = .ok (.putfield 62, 3) := by decide +kernel
theorem d_M_init_154 : decode (cd m_M_init) 154 = .ok (.aload_n 0, 1) := by decide +kernel
theorem d_M_init_155 : decode (cd m_M_init) 155 = .ok (.sipush 366, 3) := by decide +kernel
theorem d_M_init_158 : decode (cd m_M_init) 158 = .ok (.newarray .int, 2) := by decide +kernel
theorem d_M_init_160 : decode (cd m_M_init) 160 = .ok (.putfield 65, 3) := by decide +kernel
theorem d_M_init_163 : decode (cd m_M_init) 163 = .ok (.aload_n 0, 1) := by decide +kernel
theorem d_M_init_164 : decode (cd m_M_init) 164 = .ok (.sipush 1464, 3) := by decide +kernel
theorem d_M_init_167 : decode (cd m_M_init) 167 = .ok (.newarray .int, 2) := by decide +kernel
theorem d_M_init_169 : decode (cd m_M_init) 169 = .ok (.putfield 68, 3) := by decide +kernel
theorem d_M_init_172 : decode (cd m_M_init) 172 = .ok (.aload_n 0, 1) := by decide +kernel
theorem d_M_init_173 : decode (cd m_M_init) 173 = .ok (.sipush 1464, 3) := by decide +kernel
theorem d_M_init_176 : decode (cd m_M_init) 176 = .ok (.newarray .long, 2) := by decide +kernel
theorem d_M_init_178 : decode (cd m_M_init) 178 = .ok (.putfield 71, 3) := by decide +kernel
theorem d_M_init_181 : decode (cd m_M_init) 181 = .ok (.aload_n 0, 1) := by decide +kernel
theorem d_M_init_182 : decode (cd m_M_init) 182 = .ok (.iconst 2, 1) := by decide +kernel
theorem d_M_init_183 : decode (cd m_M_init) 183 = .ok (.newarray .int, 2) := by decide +kernel
theorem d_M_init_185 : decode (cd m_M_init) 185 = .ok (.putfield 74, 3) := by decide +kernel
theorem d_M_init_188 : decode (cd m_M_init) 188 = .ok (.aload_n 0, 1) := by decide +kernel
theorem d_M_init_189 : decode (cd m_M_init) 189 = .ok (.sipush 400, 3) := by decide +kernel
theorem d_M_init_192 : decode (cd m_M_init) 192 = .ok (.newarray .int, 2) := by decide +kernel
theorem d_M_init_194 : decode (cd m_M_init) 194 = .ok (.putfield 77, 3) := by decide +kernel
theorem d_M_init_197 : decode (cd m_M_init) 197 = .ok (.aload_n 0, 1) := by decide +kernel
theorem d_M_init_198 : decode (cd m_M_init) 198 = .ok (.sipush 1600, 3) := by decide +kernel
theorem d_M_init_201 : decode (cd m_M_init) 201 = .ok (.newarray .long, 2) := by decide +kernel
theorem d_M_init_203 : decode (cd m_M_init) 203 = .ok (.putfield 80, 3) := by decide +kernel
theorem d_M_init_206 : decode (cd m_M_init) 206 = .ok (.aload_n 0, 1) := by decide +kernel
theorem d_M_init_207 : decode (cd m_M_init) 207 = .ok (.bipush 9, 2) := by decide +kernel
theorem d_M_init_209 : decode (cd m_M_init) 209 = .ok (.newarray .long, 2) := by decide +kernel
theorem d_M_init_211 : decode (cd m_M_init) 211 = .ok (.putfield 83, 3) := by decide +kernel
theorem d_M_init_214 : decode (cd m_M_init) 214 = .ok (.aload_n 0, 1) := by decide +kernel
theorem d_M_init_215 : decode (cd m_M_init) 215 = .ok (.bipush 9, 2) := by decide +kernel
theorem d_M_init_217 : decode (cd m_M_init) 217 = .ok (.newarray .int, 2) := by decide +kernel
theorem d_M_init_219 : decode (cd m_M_init) 219 = .ok (.putfield 86, 3) := by decide +kernel
theorem d_M_init_222 : decode (cd m_M_init) 222 = .ok (.aload_n 0, 1) := by decide +kernel
theorem d_M_init_223 : decode (cd m_M_init) 223 = .ok (.bipush 9, 2) := by decide +kernel
theorem d_M_init_225 : decode (cd m_M_init) 225 = .ok (.newarray .boolean, 2) := by decide +kernel
theorem d_M_init_227 : decode (cd m_M_init) 227 = .ok (.putfield 89, 3) := by decide +kernel
theorem d_M_init_230 : decode (cd m_M_init) 230 = .ok (.aload_n 0, 1) := by decide +kernel
theorem d_M_init_231 : decode (cd m_M_init) 231 = .ok (.iconst 4, 1) := by decide +kernel
theorem d_M_init_232 : decode (cd m_M_init) 232 = .ok (.newarray .int, 2) := by decide +kernel
theorem d_M_init_234 : decode (cd m_M_init) 234 = .ok (.putfield 93, 3) := by decide +kernel
theorem d_M_init_237 : decode (cd m_M_init) 237 = .ok (.aload_n 0, 1) := by decide +kernel
theorem d_M_init_238 : decode (cd m_M_init) 238 = .ok (.iconst 4, 1) := by decide +kernel
theorem d_M_init_239 : decode (cd m_M_init) 239 = .ok (.newarray .long, 2) := by decide +kernel
theorem d_M_init_241 : decode (cd m_M_init) 241 = .ok (.putfield 96, 3) := by decide +kernel
theorem d_M_init_244 : decode (cd m_M_init) 244 = .ok (.aload_n 0, 1) := by decide +kernel
theorem d_M_init_245 : decode (cd m_M_init) 245 = .ok (.sipush 366, 3) := by decide +kernel
theorem d_M_init_248 : decode (cd m_M_init) 248 = .ok (.newarray .int, 2) := by decide +kernel
theorem d_M_init_250 : decode (cd m_M_init) 250 = .ok (.putfield 99, 3) := by decide +kernel
theorem d_M_init_253 : decode (cd m_M_init) 253 = .ok (.aload_n 0, 1) := by decide +kernel
theorem d_M_init_254 : decode (cd m_M_init) 254 = .ok (.sipush 366, 3) := by decide +kernel
theorem d_M_init_257 : decode (cd m_M_init) 257 = .ok (.newarray .int, 2) := by decide +kernel
theorem d_M_init_259 : decode (cd m_M_init) 259 = .ok (.putfield 102, 3) := by decide +kernel
theorem d_M_init_262 : decode (cd m_M_init) 262 = .ok (.aload_n 0, 1) := by decide +kernel
theorem d_M_init_263 : decode (cd m_M_init) 263 = .ok (.bipush 61, 2) := by decide +kernel
theorem d_M_init_265 : decode (cd m_M_init) 265 = .ok (.newarray .int, 2) := by decide +kernel
theorem d_M_init_267 : decode (cd m_M_init) 267 = .ok (.putfield 105, 3) := by decide +kernel
theorem d_M_init_270 : decode (cd m_M_init) 270 = .ok (.aload_n 0, 1) := by decide +kernel
theorem d_M_init_271 : decode (cd m_M_init) 271 = .ok (.sipush 256, 3) := by decide +kernel
theorem d_M_init_274 : decode (cd m_M_init) 274 = .ok (.newarray .boolean, 2) := by decide +kernel
theorem d_M_init_276 : decode (cd m_M_init) 276 = .ok (.putfield 108, 3) := by decide +kernel
theorem d_M_init_279 : decode (cd m_M_init) 279 = .ok (.aload_n 0, 1) := by decide +kernel
theorem d_M_init_280 : decode (cd m_M_init) 280 = .ok (.bipush 6, 2) := by decide +kernel
theorem d_M_init_282 : decode (cd m_M_init) 282 = .ok (.newarray .int, 2) := by decide +kernel
theorem d_M_init_284 : decode (cd m_M_init) 284 = .ok (.putfield 111, 3) := by decide +kernel
theorem d_M_init_287 : decode (cd m_M_init) 287 = .ok (.aload_n 0, 1) := by decide +kernel
theorem d_M_init_288 : decode (cd m_M_init) 288 = .ok (.bipush 6, 2) := by decide +kernel
theorem d_M_init_290 : decode (cd m_M_init) 290 = .ok (.newarray .int, 2) := by decide +kernel
theorem d_M_init_292 : decode (cd m_M_init) 292 = .ok (.putfield 114, 3) := by decide +kernel
theorem d_M_init_295 : decode (cd m_M_init) 295 = .ok (.aload_n 0, 1) := by decide +kernel
theorem d_M_init_296 : decode (cd m_M_init) 296 = .ok (.bipush 6, 2) := by decide +kernel
theorem d_M_init_298 : decode (cd m_M_init) 298 = .ok (.newarray .int, 2) := by decide +kernel
theorem d_M_init_300 : decode (cd m_M_init) 300 = .ok (.putfield 117, 3) := by decide +kernel
theorem d_M_init_303 : decode (cd m_M_init) 303 = .ok (.aload_n 0, 1) := by decide +kernel
theorem d_M_init_304 : decode (cd m_M_init) 304 = .ok (.bipush 9, 2) := by decide +kernel
theorem d_M_init_306 : decode (cd m_M_init) 306 = .ok (.newarray .boolean, 2) := by decide +kernel
theorem d_M_init_308 : decode (cd m_M_init) 308 = .ok (.putfield 120, 3) := by decide +kernel
theorem d_M_init_311 : decode (cd m_M_init) 311 = .ok (.aload_n 0, 1) := by decide +kernel
theorem d_M_init_312 : decode (cd m_M_init) 312 = .ok (.bipush 6, 2) := by decide +kernel
theorem d_M_init_314 : decode (cd m_M_init) 314 = .ok (.newarray .boolean, 2) := by decide +kernel
theorem d_M_init_316 : decode (cd m_M_init) 316 = .ok (.putfield 123, 3) := by decide +kernel
theorem d_M_init_319 : decode (cd m_M_init) 319 = .ok (.return_, 1) := by decide +kernel
theorem d_M_thrown_0 : decode (cd m_M_thrown) 0 = .ok (.aload_n 0, 1) := by decide +kernel
theorem d_M_thrown_1 : decode (cd m_M_thrown) 1 = .ok (.getfield 126, 3) := by decide +kernel
theorem d_M_thrown_4 : decode (cd m_M_thrown) 4 = .ok (.ireturn, 1) := by decide +kernel
theorem d_M_raise_0 : decode (cd m_M_raise) 0 = .ok (.aload_n 0, 1) := by decide +kernel
theorem d_M_raise_1 : decode (cd m_M_raise) 1 = .ok (.iload_n 1, 1) := by decide +kernel
theorem d_M_raise_2 : decode (cd m_M_raise) 2 = .ok (.putfield 126, 3) := by decide +kernel
theorem d_M_raise_5 : decode (cd m_M_raise) 5 = .ok (.iconst 0, 1) := by decide +kernel
theorem d_M_raise_6 : decode (cd m_M_raise) 6 = .ok (.ireturn, 1) := by decide +kernel
theorem d_M_type_0 : decode (cd m_M_type) 0 = .ok (.aload_n 0, 1) := by decide +kernel
theorem d_M_type_1 : decode (cd m_M_type) 1 = .ok (.iconst 0, 1) := by decide +kernel
theorem d_M_type_2 : decode (cd m_M_type) 2 = .ok (.putfield 126, 3) := by decide +kernel
theorem d_M_type_5 : decode (cd m_M_type) 5 = .ok (.iload_n 3, 1) := by decide +kernel
theorem d_M_type_6 : decode (cd m_M_type) 6 = .ok (.iconst 1, 1) := by decide +kernel
theorem d_M_type_7 : decode (cd m_M_type) 7 = .ok (.if_icmp .lt 21, 3) := by decide +kernel
theorem d_M_type_10 : decode (cd m_M_type) 10 = .ok (.iload_n 3, 1) := by decide +kernel
theorem d_M_type_11 : decode (cd m_M_type) 11 = .ok (.bipush 8, 2) := by decide +kernel
theorem d_M_type_13 : decode (cd m_M_type) 13 = .ok (.if_icmp .gt 15, 3) := by decide +kernel
theorem d_M_type_16 : decode (cd m_M_type) 16 = .ok (.aload_n 0, 1) := by decide +kernel
theorem d_M_type_17 : decode (cd m_M_type) 17 = .ok (.getfield 130, 3) := by decide +kernel
theorem d_M_type_20 : decode (cd m_M_type) 20 = .ok (.iload_n 3, 1) := by decide +kernel
theorem d_M_type_21 : decode (cd m_M_type) 21 = .ok (.iadd, 1) := by decide +kernel
theorem d_M_type_22 : decode (cd m_M_type) 22 = .ok (.sipush 600, 3) := by decide +kernel
theorem d_M_type_25 : decode (cd m_M_type) 25 = .ok (.if_icmp .le 5, 3) := by decide +kernel
theorem d_M_type_28 : decode (cd m_M_type) 28 = .ok (.iconst 0, 1) := by decide +kernel
theorem d_M_type_29 : decode (cd m_M_type) 29 = .ok (.ireturn, 1) := by decide +kernel
theorem d_M_type_30 : decode (cd m_M_type) 30 = .ok (.iconst 0, 1) := by decide +kernel
theorem d_M_type_31 : decode (cd m_M_type) 31 = .ok (.istore 4, 2) := by decide +kernel
theorem d_M_type_33 : decode (cd m_M_type) 33 = .ok (.iload 4, 2) := by decide +kernel
theorem d_M_type_35 : decode (cd m_M_type) 35 = .ok (.iload_n 3, 1) := by decide +kernel
theorem d_M_type_36 : decode (cd m_M_type) 36 = .ok (.if_icmp .ge 39, 3) := by decide +kernel
theorem d_M_type_39 : decode (cd m_M_type) 39 = .ok (.lload_n 1, 1) := by decide +kernel
theorem d_M_type_40 : decode (cd m_M_type) 40 = .ok (.bipush 8, 2) := by decide +kernel
theorem d_M_type_42 : decode (cd m_M_type) 42 = .ok (.iload 4, 2) := by decide +kernel
theorem d_M_type_44 : decode (cd m_M_type) 44 = .ok (.imul, 1) := by decide +kernel
theorem d_M_type_45 : decode (cd m_M_type) 45 = .ok (.lshr, 1) := by decide +kernel
theorem d_M_type_46 : decode (cd m_M_type) 46 = .ok (.ldc2_w 133, 3) := by decide +kernel
theorem d_M_type_49 : decode (cd m_M_type) 49 = .ok (.land, 1) := by decide +kernel
theorem d_M_type_50 : decode (cd m_M_type) 50 = .ok (.l2i, 1) := by decide +kernel
theorem d_M_type_51 : decode (cd m_M_type) 51 = .ok (.istore 5, 2) := by decide +kernel
theorem d_M_type_53 : decode (cd m_M_type) 53 = .ok (.iload 5, 2) := by decide +kernel
theorem d_M_type_55 : decode (cd m_M_type) 55 = .ok (.bipush 32, 2) := by decide +kernel
theorem d_M_type_57 : decode (cd m_M_type) 57 = .ok (.if_icmp .lt 10, 3) := by decide +kernel
theorem d_M_type_60 : decode (cd m_M_type) 60 = .ok (.iload 5, 2) := by decide +kernel
theorem d_M_type_62 : decode (cd m_M_type) 62 = .ok (.bipush 126, 2) := by decide +kernel
theorem d_M_type_64 : decode (cd m_M_type) 64 = .ok (.if_icmp .le 5, 3) := by decide +kernel
theorem d_M_type_67 : decode (cd m_M_type) 67 = .ok (.iconst 0, 1) := by decide +kernel
theorem d_M_type_68 : decode (cd m_M_type) 68 = .ok (.ireturn, 1) := by decide +kernel
theorem d_M_type_69 : decode (cd m_M_type) 69 = .ok (.iinc 4 1, 3) := by decide +kernel
theorem d_M_type_72 : decode (cd m_M_type) 72 = .ok (.goto (-39), 3) := by decide +kernel
theorem d_M_type_75 : decode (cd m_M_type) 75 = .ok (.iload_n 3, 1) := by decide +kernel
theorem d_M_type_76 : decode (cd m_M_type) 76 = .ok (.iconst 1, 1) := by decide +kernel
theorem d_M_type_77 : decode (cd m_M_type) 77 = .ok (.isub, 1) := by decide +kernel
theorem d_M_type_78 : decode (cd m_M_type) 78 = .ok (.istore 4, 2) := by decide +kernel
theorem d_M_type_80 : decode (cd m_M_type) 80 = .ok (.iload 4, 2) := by decide +kernel
theorem d_M_type_82 : decode (cd m_M_type) 82 = .ok (.ifCond .lt 40, 3) := by decide +kernel
theorem d_M_type_85 : decode (cd m_M_type) 85 = .ok (.aload_n 0, 1) := by decide +kernel
theorem d_M_type_86 : decode (cd m_M_type) 86 = .ok (.getfield 7, 3) := by decide +kernel
theorem d_M_type_89 : decode (cd m_M_type) 89 = .ok (.aload_n 0, 1) := by decide +kernel
theorem d_M_type_90 : decode (cd m_M_type) 90 = .ok (.getfield 130, 3) := by decide +kernel
theorem d_M_type_93 : decode (cd m_M_type) 93 = .ok (.lload_n 1, 1) := by decide +kernel
theorem d_M_type_94 : decode (cd m_M_type) 94 = .ok (.bipush 8, 2) := by decide +kernel
theorem d_M_type_96 : decode (cd m_M_type) 96 = .ok (.iload 4, 2) := by decide +kernel
theorem d_M_type_98 : decode (cd m_M_type) 98 = .ok (.imul, 1) := by decide +kernel
theorem d_M_type_99 : decode (cd m_M_type) 99 = .ok (.lshr, 1) := by decide +kernel
theorem d_M_type_100 : decode (cd m_M_type) 100 = .ok (.ldc2_w 133, 3) := by decide +kernel
theorem d_M_type_103 : decode (cd m_M_type) 103 = .ok (.land, 1) := by decide +kernel
theorem d_M_type_104 : decode (cd m_M_type) 104 = .ok (.l2i, 1) := by decide +kernel
theorem d_M_type_105 : decode (cd m_M_type) 105 = .ok (.iastore, 1) := by decide +kernel
theorem d_M_type_106 : decode (cd m_M_type) 106 = .ok (.aload_n 0, 1) := by decide +kernel
theorem d_M_type_107 : decode (cd m_M_type) 107 = .ok (.dup, 1) := by decide +kernel
theorem d_M_type_108 : decode (cd m_M_type) 108 = .ok (.getfield 130, 3) := by decide +kernel
theorem d_M_type_111 : decode (cd m_M_type) 111 = .ok (.iconst 1, 1) := by decide +kernel
theorem d_M_type_112 : decode (cd m_M_type) 112 = .ok (.iadd, 1) := by decide +kernel
theorem d_M_type_113 : decode (cd m_M_type) 113 = .ok (.putfield 130, 3) := by decide +kernel
theorem d_M_type_116 : decode (cd m_M_type) 116 = .ok (.iinc 4 (-1), 3) := by decide +kernel
theorem d_M_type_119 : decode (cd m_M_type) 119 = .ok (.goto (-39), 3) := by decide +kernel
theorem d_M_type_122 : decode (cd m_M_type) 122 = .ok (.iconst 1, 1) := by decide +kernel
theorem d_M_type_123 : decode (cd m_M_type) 123 = .ok (.ireturn, 1) := by decide +kernel
theorem d_M_see_0 : decode (cd m_M_see) 0 = .ok (.iload_n 1, 1) := by decide +kernel
theorem d_M_see_1 : decode (cd m_M_see) 1 = .ok (.aload_n 0, 1) := by decide +kernel
theorem d_M_see_2 : decode (cd m_M_see) 2 = .ok (.getfield 130, 3) := by decide +kernel
theorem d_M_see_5 : decode (cd m_M_see) 5 = .ok (.if_icmp .ge 12, 3) := by decide +kernel
theorem d_M_see_8 : decode (cd m_M_see) 8 = .ok (.aload_n 0, 1) := by decide +kernel
theorem d_M_see_9 : decode (cd m_M_see) 9 = .ok (.getfield 7, 3) := by decide +kernel
theorem d_M_see_12 : decode (cd m_M_see) 12 = .ok (.iload_n 1, 1) := by decide +kernel
theorem d_M_see_13 : decode (cd m_M_see) 13 = .ok (.iaload, 1) := by decide +kernel
theorem d_M_see_14 : decode (cd m_M_see) 14 = .ok (.goto 4, 3) := by decide +kernel
theorem d_M_see_17 : decode (cd m_M_see) 17 = .ok (.iconst 0, 1) := by decide +kernel
theorem d_M_see_18 : decode (cd m_M_see) 18 = .ok (.ireturn, 1) := by decide +kernel
theorem d_M_isDigit_0 : decode (cd m_M_isDigit) 0 = .ok (.iload_n 0, 1) := by decide +kernel
theorem d_M_isDigit_1 : decode (cd m_M_isDigit) 1 = .ok (.bipush 48, 2) := by decide +kernel
theorem d_M_isDigit_3 : decode (cd m_M_isDigit) 3 = .ok (.if_icmp .lt 13, 3) := by decide +kernel
theorem d_M_isDigit_6 : decode (cd m_M_isDigit) 6 = .ok (.iload_n 0, 1) := by decide +kernel
theorem d_M_isDigit_7 : decode (cd m_M_isDigit) 7 = .ok (.bipush 57, 2) := by decide +kernel
theorem d_M_isDigit_9 : decode (cd m_M_isDigit) 9 = .ok (.if_icmp .gt 7, 3) := by decide +kernel
theorem d_M_isDigit_12 : decode (cd m_M_isDigit) 12 = .ok (.iconst 1, 1) := by decide +kernel
theorem d_M_isDigit_13 : decode (cd m_M_isDigit) 13 = .ok (.goto 4, 3) := by decide +kernel
theorem d_M_isDigit_16 : decode (cd m_M_isDigit) 16 = .ok (.iconst 0, 1) := by decide +kernel
theorem d_M_isDigit_17 : decode (cd m_M_isDigit) 17 = .ok (.ireturn, 1) := by decide +kernel
theorem d_M_isSmall_0 : decode (cd m_M_isSmall) 0 = .ok (.iload_n 0, 1) := by decide +kernel
theorem d_M_isSmall_1 : decode (cd m_M_isSmall) 1 = .ok (.bipush 97, 2) := by decide +kernel
theorem d_M_isSmall_3 : decode (cd m_M_isSmall) 3 = .ok (.if_icmp .lt 13, 3) := by decide +kernel
theorem d_M_isSmall_6 : decode (cd m_M_isSmall) 6 = .ok (.iload_n 0, 1) := by decide +kernel
theorem d_M_isSmall_7 : decode (cd m_M_isSmall) 7 = .ok (.bipush 122, 2) := by decide +kernel
theorem d_M_isSmall_9 : decode (cd m_M_isSmall) 9 = .ok (.if_icmp .gt 7, 3) := by decide +kernel
theorem d_M_isSmall_12 : decode (cd m_M_isSmall) 12 = .ok (.iconst 1, 1) := by decide +kernel
theorem d_M_isSmall_13 : decode (cd m_M_isSmall) 13 = .ok (.goto 4, 3) := by decide +kernel
theorem d_M_isSmall_16 : decode (cd m_M_isSmall) 16 = .ok (.iconst 0, 1) := by decide +kernel
theorem d_M_isSmall_17 : decode (cd m_M_isSmall) 17 = .ok (.ireturn, 1) := by decide +kernel
theorem d_M_isGreat_0 : decode (cd m_M_isGreat) 0 = .ok (.iload_n 0, 1) := by decide +kernel
theorem d_M_isGreat_1 : decode (cd m_M_isGreat) 1 = .ok (.bipush 65, 2) := by decide +kernel
theorem d_M_isGreat_3 : decode (cd m_M_isGreat) 3 = .ok (.if_icmp .lt 13, 3) := by decide +kernel
theorem d_M_isGreat_6 : decode (cd m_M_isGreat) 6 = .ok (.iload_n 0, 1) := by decide +kernel
theorem d_M_isGreat_7 : decode (cd m_M_isGreat) 7 = .ok (.bipush 90, 2) := by decide +kernel
theorem d_M_isGreat_9 : decode (cd m_M_isGreat) 9 = .ok (.if_icmp .gt 7, 3) := by decide +kernel
theorem d_M_isGreat_12 : decode (cd m_M_isGreat) 12 = .ok (.iconst 1, 1) := by decide +kernel
theorem d_M_isGreat_13 : decode (cd m_M_isGreat) 13 = .ok (.goto 4, 3) := by decide +kernel
theorem d_M_isGreat_16 : decode (cd m_M_isGreat) 16 = .ok (.iconst 0, 1) := by decide +kernel
theorem d_M_isGreat_17 : decode (cd m_M_isGreat) 17 = .ok (.ireturn, 1) := by decide +kernel
theorem d_M_isPart_0 : decode (cd m_M_isPart) 0 = .ok (.iload_n 0, 1) := by decide +kernel
theorem d_M_isPart_1 : decode (cd m_M_isPart) 1 = .ok (.invokestatic 135, 3) := by decide +kernel
theorem d_M_isPart_4 : decode (cd m_M_isPart) 4 = .ok (.ifCond .ne 17, 3) := by decide +kernel
theorem d_M_isPart_7 : decode (cd m_M_isPart) 7 = .ok (.iload_n 0, 1) := by decide +kernel
theorem d_M_isPart_8 : decode (cd m_M_isPart) 8 = .ok (.invokestatic 139, 3) := by decide +kernel
theorem d_M_isPart_11 : decode (cd m_M_isPart) 11 = .ok (.ifCond .ne 10, 3) := by decide +kernel
theorem d_M_isPart_14 : decode (cd m_M_isPart) 14 = .ok (.iload_n 0, 1) := by decide +kernel
theorem d_M_isPart_15 : decode (cd m_M_isPart) 15 = .ok (.invokestatic 142, 3) := by decide +kernel
theorem d_M_isPart_18 : decode (cd m_M_isPart) 18 = .ok (.ifCond .eq 7, 3) := by decide +kernel
theorem d_M_isPart_21 : decode (cd m_M_isPart) 21 = .ok (.iconst 1, 1) := by decide +kernel
theorem d_M_isPart_22 : decode (cd m_M_isPart) 22 = .ok (.goto 4, 3) := by decide +kernel
theorem d_M_isPart_25 : decode (cd m_M_isPart) 25 = .ok (.iconst 0, 1) := by decide +kernel
theorem d_M_isPart_26 : decode (cd m_M_isPart) 26 = .ok (.ireturn, 1) := by decide +kernel
theorem d_M_token_0 : decode (cd m_M_token) 0 = .ok (.aload_n 0, 1) := by decide +kernel
theorem d_M_token_1 : decode (cd m_M_token) 1 = .ok (.getfield 13, 3) := by decide +kernel
theorem d_M_token_4 : decode (cd m_M_token) 4 = .ok (.aload_n 0, 1) := by decide +kernel
theorem d_M_token_5 : decode (cd m_M_token) 5 = .ok (.getfield 145, 3) := by decide +kernel
theorem d_M_token_8 : decode (cd m_M_token) 8 = .ok (.iload_n 1, 1) := by decide +kernel
theorem d_M_token_9 : decode (cd m_M_token) 9 = .ok (.iastore, 1) := by decide +kernel
theorem d_M_token_10 : decode (cd m_M_token) 10 = .ok (.aload_n 0, 1) := by decide +kernel
theorem d_M_token_11 : decode (cd m_M_token) 11 = .ok (.getfield 19, 3) := by decide +kernel
theorem d_M_token_14 : decode (cd m_M_token) 14 = .ok (.aload_n 0, 1) := by decide +kernel
theorem d_M_token_15 : decode (cd m_M_token) 15 = .ok (.getfield 145, 3) := by decide +kernel
theorem d_M_token_18 : decode (cd m_M_token) 18 = .ok (.iload_n 2, 1) := by decide +kernel
theorem d_M_token_19 : decode (cd m_M_token) 19 = .ok (.iastore, 1) := by decide +kernel
theorem d_M_token_20 : decode (cd m_M_token) 20 = .ok (.aload_n 0, 1) := by decide +kernel
theorem d_M_token_21 : decode (cd m_M_token) 21 = .ok (.getfield 16, 3) := by decide +kernel
theorem d_M_token_24 : decode (cd m_M_token) 24 = .ok (.aload_n 0, 1) := by decide +kernel
theorem d_M_token_25 : decode (cd m_M_token) 25 = .ok (.getfield 145, 3) := by decide +kernel
theorem d_M_token_28 : decode (cd m_M_token) 28 = .ok (.iload_n 3, 1) := by decide +kernel
theorem d_M_token_29 : decode (cd m_M_token) 29 = .ok (.iastore, 1) := by decide +kernel
theorem d_M_token_30 : decode (cd m_M_token) 30 = .ok (.aload_n 0, 1) := by decide +kernel
theorem d_M_token_31 : decode (cd m_M_token) 31 = .ok (.getfield 22, 3) := by decide +kernel
theorem d_M_token_34 : decode (cd m_M_token) 34 = .ok (.aload_n 0, 1) := by decide +kernel
theorem d_M_token_35 : decode (cd m_M_token) 35 = .ok (.getfield 145, 3) := by decide +kernel
theorem d_M_token_38 : decode (cd m_M_token) 38 = .ok (.lload 4, 2) := by decide +kernel
theorem d_M_token_40 : decode (cd m_M_token) 40 = .ok (.lastore, 1) := by decide +kernel
theorem d_M_token_41 : decode (cd m_M_token) 41 = .ok (.aload_n 0, 1) := by decide +kernel
theorem d_M_token_42 : decode (cd m_M_token) 42 = .ok (.dup, 1) := by decide +kernel
theorem d_M_token_43 : decode (cd m_M_token) 43 = .ok (.getfield 145, 3) := by decide +kernel
theorem d_M_token_46 : decode (cd m_M_token) 46 = .ok (.iconst 1, 1) := by decide +kernel
theorem d_M_token_47 : decode (cd m_M_token) 47 = .ok (.iadd, 1) := by decide +kernel
theorem d_M_token_48 : decode (cd m_M_token) 48 = .ok (.putfield 145, 3) := by decide +kernel
theorem d_M_token_51 : decode (cd m_M_token) 51 = .ok (.return_, 1) := by decide +kernel
theorem d_M_packed_0 : decode (cd m_M_packed) 0 = .ok (.iload_n 0, 1) := by decide +kernel
theorem d_M_packed_1 : decode (cd m_M_packed) 1 = .ok (.i2l, 1) := by decide +kernel
theorem d_M_packed_2 : decode (cd m_M_packed) 2 = .ok (.bipush 8, 2) := by decide +kernel
theorem d_M_packed_4 : decode (cd m_M_packed) 4 = .ok (.lshl, 1) := by decide +kernel
theorem d_M_packed_5 : decode (cd m_M_packed) 5 = .ok (.iload_n 1, 1) := by decide +kernel
theorem d_M_packed_6 : decode (cd m_M_packed) 6 = .ok (.i2l, 1) := by decide +kernel
theorem d_M_packed_7 : decode (cd m_M_packed) 7 = .ok (.lor, 1) := by decide +kernel
theorem d_M_packed_8 : decode (cd m_M_packed) 8 = .ok (.bipush 8, 2) := by decide +kernel
theorem d_M_packed_10 : decode (cd m_M_packed) 10 = .ok (.lshl, 1) := by decide +kernel
theorem d_M_packed_11 : decode (cd m_M_packed) 11 = .ok (.iload_n 2, 1) := by decide +kernel
theorem d_M_packed_12 : decode (cd m_M_packed) 12 = .ok (.i2l, 1) := by decide +kernel
theorem d_M_packed_13 : decode (cd m_M_packed) 13 = .ok (.lor, 1) := by decide +kernel
theorem d_M_packed_14 : decode (cd m_M_packed) 14 = .ok (.bipush 8, 2) := by decide +kernel
theorem d_M_packed_16 : decode (cd m_M_packed) 16 = .ok (.lshl, 1) := by decide +kernel
theorem d_M_packed_17 : decode (cd m_M_packed) 17 = .ok (.iload_n 3, 1) := by decide +kernel
theorem d_M_packed_18 : decode (cd m_M_packed) 18 = .ok (.i2l, 1) := by decide +kernel
theorem d_M_packed_19 : decode (cd m_M_packed) 19 = .ok (.lor, 1) := by decide +kernel
theorem d_M_packed_20 : decode (cd m_M_packed) 20 = .ok (.bipush 8, 2) := by decide +kernel
theorem d_M_packed_22 : decode (cd m_M_packed) 22 = .ok (.lshl, 1) := by decide +kernel
theorem d_M_packed_23 : decode (cd m_M_packed) 23 = .ok (.iload 4, 2) := by decide +kernel
theorem d_M_packed_25 : decode (cd m_M_packed) 25 = .ok (.i2l, 1) := by decide +kernel
theorem d_M_packed_26 : decode (cd m_M_packed) 26 = .ok (.lor, 1) := by decide +kernel
theorem d_M_packed_27 : decode (cd m_M_packed) 27 = .ok (.lreturn, 1) := by decide +kernel
theorem d_M_wordOf_0 : decode (cd m_M_wordOf) 0 = .ok (.lload_n 0, 1) := by decide +kernel
theorem d_M_wordOf_1 : decode (cd m_M_wordOf) 1 = .ok (.iconst 0, 1) := by decide +kernel
theorem d_M_wordOf_2 : decode (cd m_M_wordOf) 2 = .ok (.iconst 0, 1) := by decide +kernel
theorem d_M_wordOf_3 : decode (cd m_M_wordOf) 3 = .ok (.iconst 0, 1) := by decide +kernel
theorem d_M_wordOf_4 : decode (cd m_M_wordOf) 4 = .ok (.bipush 105, 2) := by decide +kernel
theorem d_M_wordOf_6 : decode (cd m_M_wordOf) 6 = .ok (.bipush 115, 2) := by decide +kernel
theorem d_M_wordOf_8 : decode (cd m_M_wordOf) 8 = .ok (.invokestatic 148, 3) := by decide +kernel
theorem d_M_wordOf_11 : decode (cd m_M_wordOf) 11 = .ok (.lcmp, 1) := by decide +kernel
theorem d_M_wordOf_12 : decode (cd m_M_wordOf) 12 = .ok (.ifCond .ne 5, 3) := by decide +kernel
theorem d_M_wordOf_15 : decode (cd m_M_wordOf) 15 = .ok (.iconst 1, 1) := by decide +kernel
theorem d_M_wordOf_16 : decode (cd m_M_wordOf) 16 = .ok (.ireturn, 1) := by decide +kernel
theorem d_M_wordOf_17 : decode (cd m_M_wordOf) 17 = .ok (.lload_n 0, 1) := by decide +kernel
theorem d_M_wordOf_18 : decode (cd m_M_wordOf) 18 = .ok (.bipush 99, 2) := by decide +kernel
theorem d_M_wordOf_20 : decode (cd m_M_wordOf) 20 = .ok (.bipush 111, 2) := by decide +kernel
theorem d_M_wordOf_22 : decode (cd m_M_wordOf) 22 = .ok (.bipush 117, 2) := by decide +kernel
theorem d_M_wordOf_24 : decode (cd m_M_wordOf) 24 = .ok (.bipush 110, 2) := by decide +kernel
theorem d_M_wordOf_26 : decode (cd m_M_wordOf) 26 = .ok (.bipush 116, 2) := by decide +kernel
theorem d_M_wordOf_28 : decode (cd m_M_wordOf) 28 = .ok (.invokestatic 148, 3) := by decide +kernel
theorem d_M_wordOf_31 : decode (cd m_M_wordOf) 31 = .ok (.lcmp, 1) := by decide +kernel
theorem d_M_wordOf_32 : decode (cd m_M_wordOf) 32 = .ok (.ifCond .ne 5, 3) := by decide +kernel
theorem d_M_wordOf_35 : decode (cd m_M_wordOf) 35 = .ok (.iconst 2, 1) := by decide +kernel
theorem d_M_wordOf_36 : decode (cd m_M_wordOf) 36 = .ok (.ireturn, 1) := by decide +kernel
theorem d_M_wordOf_37 : decode (cd m_M_wordOf) 37 = .ok (.lload_n 0, 1) := by decide +kernel
theorem d_M_wordOf_38 : decode (cd m_M_wordOf) 38 = .ok (.iconst 0, 1) := by decide +kernel
theorem d_M_wordOf_39 : decode (cd m_M_wordOf) 39 = .ok (.iconst 0, 1) := by decide +kernel
theorem d_M_wordOf_40 : decode (cd m_M_wordOf) 40 = .ok (.bipush 115, 2) := by decide +kernel
theorem d_M_wordOf_42 : decode (cd m_M_wordOf) 42 = .ok (.bipush 117, 2) := by decide +kernel
theorem d_M_wordOf_44 : decode (cd m_M_wordOf) 44 = .ok (.bipush 109, 2) := by decide +kernel
theorem d_M_wordOf_46 : decode (cd m_M_wordOf) 46 = .ok (.invokestatic 148, 3) := by decide +kernel
theorem d_M_wordOf_49 : decode (cd m_M_wordOf) 49 = .ok (.lcmp, 1) := by decide +kernel
theorem d_M_wordOf_50 : decode (cd m_M_wordOf) 50 = .ok (.ifCond .ne 5, 3) := by decide +kernel
theorem d_M_wordOf_53 : decode (cd m_M_wordOf) 53 = .ok (.iconst 3, 1) := by decide +kernel
theorem d_M_wordOf_54 : decode (cd m_M_wordOf) 54 = .ok (.ireturn, 1) := by decide +kernel
theorem d_M_wordOf_55 : decode (cd m_M_wordOf) 55 = .ok (.lload_n 0, 1) := by decide +kernel
theorem d_M_wordOf_56 : decode (cd m_M_wordOf) 56 = .ok (.bipush 108, 2) := by decide +kernel
theorem d_M_wordOf_58 : decode (cd m_M_wordOf) 58 = .ok (.bipush 101, 2) := by decide +kernel
theorem d_M_wordOf_60 : decode (cd m_M_wordOf) 60 = .ok (.bipush 97, 2) := by decide +kernel
theorem d_M_wordOf_62 : decode (cd m_M_wordOf) 62 = .ok (.bipush 115, 2) := by decide +kernel
theorem d_M_wordOf_64 : decode (cd m_M_wordOf) 64 = .ok (.bipush 116, 2) := by decide +kernel
theorem d_M_wordOf_66 : decode (cd m_M_wordOf) 66 = .ok (.invokestatic 148, 3) := by decide +kernel
theorem d_M_wordOf_69 : decode (cd m_M_wordOf) 69 = .ok (.lcmp, 1) := by decide +kernel
theorem d_M_wordOf_70 : decode (cd m_M_wordOf) 70 = .ok (.ifCond .ne 5, 3) := by decide +kernel
theorem d_M_wordOf_73 : decode (cd m_M_wordOf) 73 = .ok (.iconst 4, 1) := by decide +kernel
theorem d_M_wordOf_74 : decode (cd m_M_wordOf) 74 = .ok (.ireturn, 1) := by decide +kernel
theorem d_M_wordOf_75 : decode (cd m_M_wordOf) 75 = .ok (.lload_n 0, 1) := by decide +kernel
theorem d_M_wordOf_76 : decode (cd m_M_wordOf) 76 = .ok (.iconst 0, 1) := by decide +kernel
theorem d_M_wordOf_77 : decode (cd m_M_wordOf) 77 = .ok (.bipush 109, 2) := by decide +kernel
theorem d_M_wordOf_79 : decode (cd m_M_wordOf) 79 = .ok (.bipush 111, 2) := by decide +kernel
theorem d_M_wordOf_81 : decode (cd m_M_wordOf) 81 = .ok (.bipush 115, 2) := by decide +kernel
theorem d_M_wordOf_83 : decode (cd m_M_wordOf) 83 = .ok (.bipush 116, 2) := by decide +kernel
theorem d_M_wordOf_85 : decode (cd m_M_wordOf) 85 = .ok (.invokestatic 148, 3) := by decide +kernel
theorem d_M_wordOf_88 : decode (cd m_M_wordOf) 88 = .ok (.lcmp, 1) := by decide +kernel
theorem d_M_wordOf_89 : decode (cd m_M_wordOf) 89 = .ok (.ifCond .ne 7, 3) := by decide +kernel
theorem d_M_wordOf_92 : decode (cd m_M_wordOf) 92 = .ok (.iconst 5, 1) := by decide +kernel
theorem d_M_wordOf_93 : decode (cd m_M_wordOf) 93 = .ok (.goto 4, 3) := by decide +kernel
theorem d_M_wordOf_96 : decode (cd m_M_wordOf) 96 = .ok (.iconst 0, 1) := by decide +kernel
theorem d_M_wordOf_97 : decode (cd m_M_wordOf) 97 = .ok (.ireturn, 1) := by decide +kernel
theorem d_M_tokenize_0 : decode (cd m_M_tokenize) 0 = .ok (.aload_n 0, 1) := by decide +kernel
theorem d_M_tokenize_1 : decode (cd m_M_tokenize) 1 = .ok (.iconst 0, 1) := by decide +kernel
theorem d_M_tokenize_2 : decode (cd m_M_tokenize) 2 = .ok (.putfield 145, 3) := by decide +kernel
theorem d_M_tokenize_5 : decode (cd m_M_tokenize) 5 = .ok (.iconst 0, 1) := by decide +kernel
theorem d_M_tokenize_6 : decode (cd m_M_tokenize) 6 = .ok (.istore_n 1, 1) := by decide +kernel
theorem d_M_tokenize_7 : decode (cd m_M_tokenize) 7 = .ok (.iconst 1, 1) := by decide +kernel
theorem d_M_tokenize_8 : decode (cd m_M_tokenize) 8 = .ok (.istore_n 2, 1) := by decide +kernel
theorem d_M_tokenize_9 : decode (cd m_M_tokenize) 9 = .ok (.iload_n 2, 1) := by decide +kernel
theorem d_M_tokenize_10 : decode (cd m_M_tokenize) 10 = .ok (.ifCond .eq 59, 3) := by decide +kernel
theorem d_M_tokenize_13 : decode (cd m_M_tokenize) 13 = .ok (.iload_n 1, 1) := by decide +kernel
theorem d_M_tokenize_14 : decode (cd m_M_tokenize) 14 = .ok (.aload_n 0, 1) := by decide +kernel
theorem d_M_tokenize_15 : decode (cd m_M_tokenize) 15 = .ok (.getfield 130, 3) := by decide +kernel
theorem d_M_tokenize_18 : decode (cd m_M_tokenize) 18 = .ok (.if_icmp .ge 51, 3) := by decide +kernel
theorem d_M_tokenize_21 : decode (cd m_M_tokenize) 21 = .ok (.aload_n 0, 1) := by decide +kernel
theorem d_M_tokenize_22 : decode (cd m_M_tokenize) 22 = .ok (.getfield 7, 3) := by decide +kernel
theorem d_M_tokenize_25 : decode (cd m_M_tokenize) 25 = .ok (.iload_n 1, 1) := by decide +kernel
theorem d_M_tokenize_26 : decode (cd m_M_tokenize) 26 = .ok (.iaload, 1) := by decide +kernel
theorem d_M_tokenize_27 : decode (cd m_M_tokenize) 27 = .ok (.bipush 32, 2) := by decide +kernel
theorem d_M_tokenize_29 : decode (cd m_M_tokenize) 29 = .ok (.if_icmp .ne 9, 3) := by decide +kernel
theorem d_M_tokenize_32 : decode (cd m_M_tokenize) 32 = .ok (.iinc 1 1, 3) := by decide +kernel
theorem d_M_tokenize_35 : decode (cd m_M_tokenize) 35 = .ok (.goto (-26), 3) := by decide +kernel
theorem d_M_tokenize_38 : decode (cd m_M_tokenize) 38 = .ok (.aload_n 0, 1) := by decide +kernel
theorem d_M_tokenize_39 : decode (cd m_M_tokenize) 39 = .ok (.iload_n 1, 1) := by decide +kernel
theorem d_M_tokenize_40 : decode (cd m_M_tokenize) 40 = .ok (.invokevirtual 152, 3) := by decide +kernel
theorem d_M_tokenize_43 : decode (cd m_M_tokenize) 43 = .ok (.istore_n 1, 1) := by decide +kernel
theorem d_M_tokenize_44 : decode (cd m_M_tokenize) 44 = .ok (.aload_n 0, 1) := by decide +kernel
theorem d_M_tokenize_45 : decode (cd m_M_tokenize) 45 = .ok (.getfield 13, 3) := by decide +kernel
theorem d_M_tokenize_48 : decode (cd m_M_tokenize) 48 = .ok (.aload_n 0, 1) := by decide +kernel
theorem d_M_tokenize_49 : decode (cd m_M_tokenize) 49 = .ok (.getfield 145, 3) := by decide +kernel
theorem d_M_tokenize_52 : decode (cd m_M_tokenize) 52 = .ok (.iconst 1, 1) := by decide +kernel
theorem d_M_tokenize_53 : decode (cd m_M_tokenize) 53 = .ok (.isub, 1) := by decide +kernel
theorem d_M_tokenize_54 : decode (cd m_M_tokenize) 54 = .ok (.iaload, 1) := by decide +kernel
theorem d_M_tokenize_55 : decode (cd m_M_tokenize) 55 = .ok (.bipush 6, 2) := by decide +kernel
theorem d_M_tokenize_57 : decode (cd m_M_tokenize) 57 = .ok (.if_icmp .eq 7, 3) := by decide +kernel
theorem d_M_tokenize_60 : decode (cd m_M_tokenize) 60 = .ok (.iconst 1, 1) := by decide +kernel
theorem d_M_tokenize_61 : decode (cd m_M_tokenize) 61 = .ok (.goto 4, 3) := by decide +kernel
theorem d_M_tokenize_64 : decode (cd m_M_tokenize) 64 = .ok (.iconst 0, 1) := by decide +kernel
theorem d_M_tokenize_65 : decode (cd m_M_tokenize) 65 = .ok (.istore_n 2, 1) := by decide +kernel
theorem d_M_tokenize_66 : decode (cd m_M_tokenize) 66 = .ok (.goto (-57), 3) := by decide +kernel
theorem d_M_tokenize_69 : decode (cd m_M_tokenize) 69 = .ok (.aload_n 0, 1) := by decide +kernel
theorem d_M_tokenize_70 : decode (cd m_M_tokenize) 70 = .ok (.iconst 0, 1) := by decide +kernel
theorem d_M_tokenize_71 : decode (cd m_M_tokenize) 71 = .ok (.iconst 0, 1) := by decide +kernel
theorem d_M_tokenize_72 : decode (cd m_M_tokenize) 72 = .ok (.aload_n 0, 1) := by decide +kernel
theorem d_M_tokenize_73 : decode (cd m_M_tokenize) 73 = .ok (.getfield 130, 3) := by decide +kernel
theorem d_M_tokenize_76 : decode (cd m_M_tokenize) 76 = .ok (.lconst 0, 1) := by decide +kernel
theorem d_M_tokenize_77 : decode (cd m_M_tokenize) 77 = .ok (.invokevirtual 156, 3) := by decide +kernel
theorem d_M_tokenize_80 : decode (cd m_M_tokenize) 80 = .ok (.return_, 1) := by decide +kernel
theorem d_M_oneToken_0 : decode (cd m_M_oneToken) 0 = .ok (.aload_n 0, 1) := by decide +kernel
theorem d_M_oneToken_1 : decode (cd m_M_oneToken) 1 = .ok (.getfield 7, 3) := by decide +kernel
theorem d_M_oneToken_4 : decode (cd m_M_oneToken) 4 = .ok (.iload_n 1, 1) := by decide +kernel
theorem d_M_oneToken_5 : decode (cd m_M_oneToken) 5 = .ok (.iaload, 1) := by decide +kernel
theorem d_M_oneToken_6 : decode (cd m_M_oneToken) 6 = .ok (.istore_n 2, 1) := by decide +kernel
theorem d_M_oneToken_7 : decode (cd m_M_oneToken) 7 = .ok (.iload_n 1, 1) := by decide +kernel
theorem d_M_oneToken_8 : decode (cd m_M_oneToken) 8 = .ok (.iconst 1, 1) := by decide +kernel
theorem d_M_oneToken_9 : decode (cd m_M_oneToken) 9 = .ok (.iadd, 1) := by decide +kernel
theorem d_M_oneToken_10 : decode (cd m_M_oneToken) 10 = .ok (.istore_n 3, 1) := by decide +kernel
theorem d_M_oneToken_11 : decode (cd m_M_oneToken) 11 = .ok (.iload_n 2, 1) := by decide +kernel
theorem d_M_oneToken_12 : decode (cd m_M_oneToken) 12 = .ok (.i2l, 1) := by decide +kernel
theorem d_M_oneToken_13 : decode (cd m_M_oneToken) 13 = .ok (.lstore 4, 2) := by decide +kernel
theorem d_M_oneToken_15 : decode (cd m_M_oneToken) 15 = .ok (.iload_n 2, 1) := by decide +kernel
theorem d_M_oneToken_16 : decode (cd m_M_oneToken) 16 = .ok (.invokestatic 142, 3) := by decide +kernel
theorem d_M_oneToken_19 : decode (cd m_M_oneToken) 19 = .ok (.ifCond .eq 84, 3) := by decide +kernel
theorem d_M_oneToken_22 : decode (cd m_M_oneToken) 22 = .ok (.iload_n 2, 1) := by decide +kernel
theorem d_M_oneToken_23 : decode (cd m_M_oneToken) 23 = .ok (.bipush 48, 2) := by decide +kernel
theorem d_M_oneToken_25 : decode (cd m_M_oneToken) 25 = .ok (.isub, 1) := by decide +kernel
theorem d_M_oneToken_26 : decode (cd m_M_oneToken) 26 = .ok (.i2l, 1) := by decide +kernel
theorem d_M_oneToken_27 : decode (cd m_M_oneToken) 27 = .ok (.lstore 4, 2) := by decide +kernel
theorem d_M_oneToken_29 : decode (cd m_M_oneToken) 29 = .ok (.aload_n 0, 1) := by decide +kernel
theorem d_M_oneToken_30 : decode (cd m_M_oneToken) 30 = .ok (.iload_n 3, 1) := by decide +kernel
theorem d_M_oneToken_31 : decode (cd m_M_oneToken) 31 = .ok (.invokevirtual 160, 3) := by decide +kernel
theorem d_M_oneToken_34 : decode (cd m_M_oneToken) 34 = .ok (.invokestatic 142, 3) := by decide +kernel
theorem d_M_oneToken_37 : decode (cd m_M_oneToken) 37 = .ok (.ifCond .eq 41, 3) := by decide +kernel
theorem d_M_oneToken_40 : decode (cd m_M_oneToken) 40 = .ok (.iload_n 3, 1) := by decide +kernel
theorem d_M_oneToken_41 : decode (cd m_M_oneToken) 41 = .ok (.iload_n 1, 1) := by decide +kernel
theorem d_M_oneToken_42 : decode (cd m_M_oneToken) 42 = .ok (.isub, 1) := by decide +kernel
theorem d_M_oneToken_43 : decode (cd m_M_oneToken) 43 = .ok (.bipush 9, 2) := by decide +kernel
theorem d_M_oneToken_45 : decode (cd m_M_oneToken) 45 = .ok (.if_icmp .ge 23, 3) := by decide +kernel
theorem d_M_oneToken_48 : decode (cd m_M_oneToken) 48 = .ok (.ldc2_w 163, 3) := by decide +kernel
theorem d_M_oneToken_51 : decode (cd m_M_oneToken) 51 = .ok (.lload 4, 2) := by decide +kernel
theorem d_M_oneToken_53 : decode (cd m_M_oneToken) 53 = .ok (.lmul, 1) := by decide +kernel
theorem d_M_oneToken_54 : decode (cd m_M_oneToken) 54 = .ok (.aload_n 0, 1) := by decide +kernel
theorem d_M_oneToken_55 : decode (cd m_M_oneToken) 55 = .ok (.iload_n 3, 1) := by decide +kernel
theorem d_M_oneToken_56 : decode (cd m_M_oneToken) 56 = .ok (.invokevirtual 160, 3) := by decide +kernel
theorem d_M_oneToken_59 : decode (cd m_M_oneToken) 59 = .ok (.i2l, 1) := by decide +kernel
theorem d_M_oneToken_60 : decode (cd m_M_oneToken) 60 = .ok (.ladd, 1) := by decide +kernel
theorem d_M_oneToken_61 : decode (cd m_M_oneToken) 61 = .ok (.ldc2_w 165, 3) := by decide +kernel
theorem d_M_oneToken_64 : decode (cd m_M_oneToken) 64 = .ok (.lsub, 1) := by decide +kernel
theorem d_M_oneToken_65 : decode (cd m_M_oneToken) 65 = .ok (.goto 5, 3) := by decide +kernel
theorem d_M_oneToken_68 : decode (cd m_M_oneToken) 68 = .ok (.lload 4, 2) := by decide +kernel
theorem d_M_oneToken_70 : decode (cd m_M_oneToken) 70 = .ok (.lstore 4, 2) := by decide +kernel
theorem d_M_oneToken_72 : decode (cd m_M_oneToken) 72 = .ok (.iinc 3 1, 3) := by decide +kernel
theorem d_M_oneToken_75 : decode (cd m_M_oneToken) 75 = .ok (.goto (-46), 3) := by decide +kernel
theorem d_M_oneToken_78 : decode (cd m_M_oneToken) 78 = .ok (.aload_n 0, 1) := by decide +kernel
theorem d_M_oneToken_79 : decode (cd m_M_oneToken) 79 = .ok (.iload_n 3, 1) := by decide +kernel
theorem d_M_oneToken_80 : decode (cd m_M_oneToken) 80 = .ok (.iload_n 1, 1) := by decide +kernel
theorem d_M_oneToken_81 : decode (cd m_M_oneToken) 81 = .ok (.isub, 1) := by decide +kernel
theorem d_M_oneToken_82 : decode (cd m_M_oneToken) 82 = .ok (.bipush 9, 2) := by decide +kernel
theorem d_M_oneToken_84 : decode (cd m_M_oneToken) 84 = .ok (.if_icmp .le 8, 3) := by decide +kernel
theorem d_M_oneToken_87 : decode (cd m_M_oneToken) 87 = .ok (.bipush 6, 2) := by decide +kernel
theorem d_M_oneToken_89 : decode (cd m_M_oneToken) 89 = .ok (.goto 4, 3) := by decide +kernel
theorem d_M_oneToken_92 : decode (cd m_M_oneToken) 92 = .ok (.iconst 3, 1) := by decide +kernel
theorem d_M_oneToken_93 : decode (cd m_M_oneToken) 93 = .ok (.iconst 0, 1) := by decide +kernel
theorem d_M_oneToken_94 : decode (cd m_M_oneToken) 94 = .ok (.iload_n 1, 1) := by decide +kernel
theorem d_M_oneToken_95 : decode (cd m_M_oneToken) 95 = .ok (.lload 4, 2) := by decide +kernel
theorem d_M_oneToken_97 : decode (cd m_M_oneToken) 97 = .ok (.invokevirtual 156, 3) := by decide +kernel
theorem d_M_oneToken_100 : decode (cd m_M_oneToken) 100 = .ok (.goto 421, 3) := by decide +kernel
theorem d_M_oneToken_103 : decode (cd m_M_oneToken) 103 = .ok (.iload_n 2, 1) := by decide +kernel
theorem d_M_oneToken_104 : decode (cd m_M_oneToken) 104 = .ok (.invokestatic 135, 3) := by decide +kernel
theorem d_M_oneToken_107 : decode (cd m_M_oneToken) 107 = .ok (.ifCond .eq 111, 3) := by decide +kernel
theorem d_M_oneToken_110 : decode (cd m_M_oneToken) 110 = .ok (.aload_n 0, 1) := by decide +kernel
theorem d_M_oneToken_111 : decode (cd m_M_oneToken) 111 = .ok (.iload_n 3, 1) := by decide +kernel
theorem d_M_oneToken_112 : decode (cd m_M_oneToken) 112 = .ok (.invokevirtual 160, 3) := by decide +kernel
theorem d_M_oneToken_115 : decode (cd m_M_oneToken) 115 = .ok (.invokestatic 135, 3) := by decide +kernel
theorem d_M_oneToken_118 : decode (cd m_M_oneToken) 118 = .ok (.ifCond .ne 14, 3) := by decide +kernel
theorem d_M_oneToken_121 : decode (cd m_M_oneToken) 121 = .ok (.aload_n 0, 1) := by decide +kernel
theorem d_M_oneToken_122 : decode (cd m_M_oneToken) 122 = .ok (.iload_n 3, 1) := by decide +kernel
theorem d_M_oneToken_123 : decode (cd m_M_oneToken) 123 = .ok (.invokevirtual 160, 3) := by decide +kernel
theorem d_M_oneToken_126 : decode (cd m_M_oneToken) 126 = .ok (.invokestatic 142, 3) := by decide +kernel
theorem d_M_oneToken_129 : decode (cd m_M_oneToken) 129 = .ok (.ifCond .eq 36, 3) := by decide +kernel
theorem d_M_oneToken_132 : decode (cd m_M_oneToken) 132 = .ok (.iload_n 3, 1) := by decide +kernel
theorem d_M_oneToken_133 : decode (cd m_M_oneToken) 133 = .ok (.iload_n 1, 1) := by decide +kernel
theorem d_M_oneToken_134 : decode (cd m_M_oneToken) 134 = .ok (.isub, 1) := by decide +kernel
theorem d_M_oneToken_135 : decode (cd m_M_oneToken) 135 = .ok (.bipush 7, 2) := by decide +kernel
theorem d_M_oneToken_137 : decode (cd m_M_oneToken) 137 = .ok (.if_icmp .ge 18, 3) := by decide +kernel
theorem d_M_oneToken_140 : decode (cd m_M_oneToken) 140 = .ok (.lload 4, 2) := by decide +kernel
theorem d_M_oneToken_142 : decode (cd m_M_oneToken) 142 = .ok (.bipush 8, 2) := by decide +kernel
theorem d_M_oneToken_144 : decode (cd m_M_oneToken) 144 = .ok (.lshl, 1) := by decide +kernel
theorem d_M_oneToken_145 : decode (cd m_M_oneToken) 145 = .ok (.aload_n 0, 1) := by decide +kernel
theorem d_M_oneToken_146 : decode (cd m_M_oneToken) 146 = .ok (.iload_n 3, 1) := by decide +kernel
theorem d_M_oneToken_147 : decode (cd m_M_oneToken) 147 = .ok (.invokevirtual 160, 3) := by decide +kernel
theorem d_M_oneToken_150 : decode (cd m_M_oneToken) 150 = .ok (.i2l, 1) := by decide +kernel
theorem d_M_oneToken_151 : decode (cd m_M_oneToken) 151 = .ok (.lor, 1) := by decide +kernel
theorem d_M_oneToken_152 : decode (cd m_M_oneToken) 152 = .ok (.goto 5, 3) := by decide +kernel
theorem d_M_oneToken_155 : decode (cd m_M_oneToken) 155 = .ok (.lload 4, 2) := by decide +kernel
theorem d_M_oneToken_157 : decode (cd m_M_oneToken) 157 = .ok (.lstore 4, 2) := by decide +kernel
theorem d_M_oneToken_159 : decode (cd m_M_oneToken) 159 = .ok (.iinc 3 1, 3) := by decide +kernel
theorem d_M_oneToken_162 : decode (cd m_M_oneToken) 162 = .ok (.goto (-52), 3) := by decide +kernel
theorem d_M_oneToken_165 : decode (cd m_M_oneToken) 165 = .ok (.iload_n 3, 1) := by decide +kernel
theorem d_M_oneToken_166 : decode (cd m_M_oneToken) 166 = .ok (.iload_n 1, 1) := by decide +kernel
theorem d_M_oneToken_167 : decode (cd m_M_oneToken) 167 = .ok (.isub, 1) := by decide +kernel
theorem d_M_oneToken_168 : decode (cd m_M_oneToken) 168 = .ok (.iconst 5, 1) := by decide +kernel
theorem d_M_oneToken_169 : decode (cd m_M_oneToken) 169 = .ok (.if_icmp .le 7, 3) := by decide +kernel
theorem d_M_oneToken_172 : decode (cd m_M_oneToken) 172 = .ok (.iconst 0, 1) := by decide +kernel
theorem d_M_oneToken_173 : decode (cd m_M_oneToken) 173 = .ok (.goto 8, 3) := by decide +kernel
theorem d_M_oneToken_176 : decode (cd m_M_oneToken) 176 = .ok (.lload 4, 2) := by decide +kernel
theorem d_M_oneToken_178 : decode (cd m_M_oneToken) 178 = .ok (.invokestatic 167, 3) := by decide +kernel
theorem d_M_oneToken_181 : decode (cd m_M_oneToken) 181 = .ok (.istore 6, 2) := by decide +kernel
theorem d_M_oneToken_183 : decode (cd m_M_oneToken) 183 = .ok (.aload_n 0, 1) := by decide +kernel
theorem d_M_oneToken_184 : decode (cd m_M_oneToken) 184 = .ok (.iload 6, 2) := by decide +kernel
theorem d_M_oneToken_186 : decode (cd m_M_oneToken) 186 = .ok (.ifCond .le 7, 3) := by decide +kernel
theorem d_M_oneToken_189 : decode (cd m_M_oneToken) 189 = .ok (.iconst 5, 1) := by decide +kernel
theorem d_M_oneToken_190 : decode (cd m_M_oneToken) 190 = .ok (.goto 17, 3) := by decide +kernel
theorem d_M_oneToken_193 : decode (cd m_M_oneToken) 193 = .ok (.iload_n 3, 1) := by decide +kernel
theorem d_M_oneToken_194 : decode (cd m_M_oneToken) 194 = .ok (.iload_n 1, 1) := by decide +kernel
theorem d_M_oneToken_195 : decode (cd m_M_oneToken) 195 = .ok (.isub, 1) := by decide +kernel
theorem d_M_oneToken_196 : decode (cd m_M_oneToken) 196 = .ok (.bipush 6, 2) := by decide +kernel
theorem d_M_oneToken_198 : decode (cd m_M_oneToken) 198 = .ok (.if_icmp .le 8, 3) := by decide +kernel
theorem d_M_oneToken_201 : decode (cd m_M_oneToken) 201 = .ok (.bipush 6, 2) := by decide +kernel
theorem d_M_oneToken_203 : decode (cd m_M_oneToken) 203 = .ok (.goto 4, 3) := by decide +kernel
theorem d_M_oneToken_206 : decode (cd m_M_oneToken) 206 = .ok (.iconst 1, 1) := by decide +kernel
theorem d_M_oneToken_207 : decode (cd m_M_oneToken) 207 = .ok (.iload 6, 2) := by decide +kernel
theorem d_M_oneToken_209 : decode (cd m_M_oneToken) 209 = .ok (.iload_n 1, 1) := by decide +kernel
theorem d_M_oneToken_210 : decode (cd m_M_oneToken) 210 = .ok (.lload 4, 2) := by decide +kernel
theorem d_M_oneToken_212 : decode (cd m_M_oneToken) 212 = .ok (.invokevirtual 156, 3) := by decide +kernel
theorem d_M_oneToken_215 : decode (cd m_M_oneToken) 215 = .ok (.goto 306, 3) := by decide +kernel
theorem d_M_oneToken_218 : decode (cd m_M_oneToken) 218 = .ok (.iload_n 2, 1) := by decide +kernel
theorem d_M_oneToken_219 : decode (cd m_M_oneToken) 219 = .ok (.invokestatic 139, 3) := by decide +kernel
theorem d_M_oneToken_222 : decode (cd m_M_oneToken) 222 = .ok (.ifCond .eq 70, 3) := by decide +kernel
theorem d_M_oneToken_225 : decode (cd m_M_oneToken) 225 = .ok (.aload_n 0, 1) := by decide +kernel
theorem d_M_oneToken_226 : decode (cd m_M_oneToken) 226 = .ok (.iload_n 3, 1) := by decide +kernel
theorem d_M_oneToken_227 : decode (cd m_M_oneToken) 227 = .ok (.invokevirtual 160, 3) := by decide +kernel
theorem d_M_oneToken_230 : decode (cd m_M_oneToken) 230 = .ok (.invokestatic 171, 3) := by decide +kernel
theorem d_M_oneToken_233 : decode (cd m_M_oneToken) 233 = .ok (.ifCond .eq 35, 3) := by decide +kernel
theorem d_M_oneToken_236 : decode (cd m_M_oneToken) 236 = .ok (.iload_n 3, 1) := by decide +kernel
theorem d_M_oneToken_237 : decode (cd m_M_oneToken) 237 = .ok (.iload_n 1, 1) := by decide +kernel
theorem d_M_oneToken_238 : decode (cd m_M_oneToken) 238 = .ok (.isub, 1) := by decide +kernel
theorem d_M_oneToken_239 : decode (cd m_M_oneToken) 239 = .ok (.iconst 5, 1) := by decide +kernel
theorem d_M_oneToken_240 : decode (cd m_M_oneToken) 240 = .ok (.if_icmp .ge 18, 3) := by decide +kernel
theorem d_M_oneToken_243 : decode (cd m_M_oneToken) 243 = .ok (.lload 4, 2) := by decide +kernel
theorem d_M_oneToken_245 : decode (cd m_M_oneToken) 245 = .ok (.bipush 8, 2) := by decide +kernel
theorem d_M_oneToken_247 : decode (cd m_M_oneToken) 247 = .ok (.lshl, 1) := by decide +kernel
theorem d_M_oneToken_248 : decode (cd m_M_oneToken) 248 = .ok (.aload_n 0, 1) := by decide +kernel
theorem d_M_oneToken_249 : decode (cd m_M_oneToken) 249 = .ok (.iload_n 3, 1) := by decide +kernel
theorem d_M_oneToken_250 : decode (cd m_M_oneToken) 250 = .ok (.invokevirtual 160, 3) := by decide +kernel
theorem d_M_oneToken_253 : decode (cd m_M_oneToken) 253 = .ok (.i2l, 1) := by decide +kernel
theorem d_M_oneToken_254 : decode (cd m_M_oneToken) 254 = .ok (.lor, 1) := by decide +kernel
theorem d_M_oneToken_255 : decode (cd m_M_oneToken) 255 = .ok (.goto 5, 3) := by decide +kernel
theorem d_M_oneToken_258 : decode (cd m_M_oneToken) 258 = .ok (.lload 4, 2) := by decide +kernel
theorem d_M_oneToken_260 : decode (cd m_M_oneToken) 260 = .ok (.lstore 4, 2) := by decide +kernel
theorem d_M_oneToken_262 : decode (cd m_M_oneToken) 262 = .ok (.iinc 3 1, 3) := by decide +kernel
theorem d_M_oneToken_265 : decode (cd m_M_oneToken) 265 = .ok (.goto (-40), 3) := by decide +kernel
theorem d_M_oneToken_268 : decode (cd m_M_oneToken) 268 = .ok (.aload_n 0, 1) := by decide +kernel
theorem d_M_oneToken_269 : decode (cd m_M_oneToken) 269 = .ok (.iload_n 3, 1) := by decide +kernel
theorem d_M_oneToken_270 : decode (cd m_M_oneToken) 270 = .ok (.iload_n 1, 1) := by decide +kernel
theorem d_M_oneToken_271 : decode (cd m_M_oneToken) 271 = .ok (.isub, 1) := by decide +kernel
theorem d_M_oneToken_272 : decode (cd m_M_oneToken) 272 = .ok (.iconst 4, 1) := by decide +kernel
theorem d_M_oneToken_273 : decode (cd m_M_oneToken) 273 = .ok (.if_icmp .le 8, 3) := by decide +kernel
theorem d_M_oneToken_276 : decode (cd m_M_oneToken) 276 = .ok (.bipush 6, 2) := by decide +kernel
theorem d_M_oneToken_278 : decode (cd m_M_oneToken) 278 = .ok (.goto 4, 3) := by decide +kernel
theorem d_M_oneToken_281 : decode (cd m_M_oneToken) 281 = .ok (.iconst 2, 1) := by decide +kernel
theorem d_M_oneToken_282 : decode (cd m_M_oneToken) 282 = .ok (.iconst 0, 1) := by decide +kernel
theorem d_M_oneToken_283 : decode (cd m_M_oneToken) 283 = .ok (.iload_n 1, 1) := by decide +kernel
theorem d_M_oneToken_284 : decode (cd m_M_oneToken) 284 = .ok (.lload 4, 2) := by decide +kernel
theorem d_M_oneToken_286 : decode (cd m_M_oneToken) 286 = .ok (.invokevirtual 156, 3) := by decide +kernel
theorem d_M_oneToken_289 : decode (cd m_M_oneToken) 289 = .ok (.goto 232, 3) := by decide +kernel
theorem d_M_oneToken_292 : decode (cd m_M_oneToken) 292 = .ok (.aload_n 0, 1) := by decide +kernel
theorem d_M_oneToken_293 : decode (cd m_M_oneToken) 293 = .ok (.iload_n 3, 1) := by decide +kernel
theorem d_M_oneToken_294 : decode (cd m_M_oneToken) 294 = .ok (.invokevirtual 160, 3) := by decide +kernel
theorem d_M_oneToken_297 : decode (cd m_M_oneToken) 297 = .ok (.istore 6, 2) := by decide +kernel
theorem d_M_oneToken_299 : decode (cd m_M_oneToken) 299 = .ok (.iload_n 2, 1) := by decide +kernel
theorem d_M_oneToken_300 : decode (cd m_M_oneToken) 300 = .ok (.bipush 58, 2) := by decide +kernel
theorem d_M_oneToken_302 : decode (cd m_M_oneToken) 302 = .ok (.if_icmp .ne 16, 3) := by decide +kernel
theorem d_M_oneToken_305 : decode (cd m_M_oneToken) 305 = .ok (.iload 6, 2) := by decide +kernel
theorem d_M_oneToken_307 : decode (cd m_M_oneToken) 307 = .ok (.bipush 45, 2) := by decide +kernel
theorem d_M_oneToken_309 : decode (cd m_M_oneToken) 309 = .ok (.if_icmp .ne 9, 3) := by decide +kernel
theorem d_M_oneToken_312 : decode (cd m_M_oneToken) 312 = .ok (.sipush 300, 3) := by decide +kernel
theorem d_M_oneToken_315 : decode (cd m_M_oneToken) 315 = .ok (.goto 61, 3) := by decide +kernel
theorem d_M_oneToken_318 : decode (cd m_M_oneToken) 318 = .ok (.iload_n 2, 1) := by decide +kernel
theorem d_M_oneToken_319 : decode (cd m_M_oneToken) 319 = .ok (.bipush 33, 2) := by decide +kernel
theorem d_M_oneToken_321 : decode (cd m_M_oneToken) 321 = .ok (.if_icmp .ne 16, 3) := by decide +kernel
theorem d_M_oneToken_324 : decode (cd m_M_oneToken) 324 = .ok (.iload 6, 2) := by decide +kernel
theorem d_M_oneToken_326 : decode (cd m_M_oneToken) 326 = .ok (.bipush 61, 2) := by decide +kernel
theorem d_M_oneToken_328 : decode (cd m_M_oneToken) 328 = .ok (.if_icmp .ne 9, 3) := by decide +kernel
theorem d_M_oneToken_331 : decode (cd m_M_oneToken) 331 = .ok (.sipush 301, 3) := by decide +kernel
theorem d_M_oneToken_334 : decode (cd m_M_oneToken) 334 = .ok (.goto 42, 3) := by decide +kernel
theorem d_M_oneToken_337 : decode (cd m_M_oneToken) 337 = .ok (.iload_n 2, 1) := by decide +kernel
theorem d_M_oneToken_338 : decode (cd m_M_oneToken) 338 = .ok (.bipush 60, 2) := by decide +kernel
theorem d_M_oneToken_340 : decode (cd m_M_oneToken) 340 = .ok (.if_icmp .ne 16, 3) := by decide +kernel
theorem d_M_oneToken_343 : decode (cd m_M_oneToken) 343 = .ok (.iload 6, 2) := by decide +kernel
theorem d_M_oneToken_345 : decode (cd m_M_oneToken) 345 = .ok (.bipush 61, 2) := by decide +kernel
theorem d_M_oneToken_347 : decode (cd m_M_oneToken) 347 = .ok (.if_icmp .ne 9, 3) := by decide +kernel
theorem d_M_oneToken_350 : decode (cd m_M_oneToken) 350 = .ok (.sipush 302, 3) := by decide +kernel
theorem d_M_oneToken_353 : decode (cd m_M_oneToken) 353 = .ok (.goto 23, 3) := by decide +kernel
theorem d_M_oneToken_356 : decode (cd m_M_oneToken) 356 = .ok (.iload_n 2, 1) := by decide +kernel
theorem d_M_oneToken_357 : decode (cd m_M_oneToken) 357 = .ok (.bipush 62, 2) := by decide +kernel
theorem d_M_oneToken_359 : decode (cd m_M_oneToken) 359 = .ok (.if_icmp .ne 16, 3) := by decide +kernel
theorem d_M_oneToken_362 : decode (cd m_M_oneToken) 362 = .ok (.iload 6, 2) := by decide +kernel
theorem d_M_oneToken_364 : decode (cd m_M_oneToken) 364 = .ok (.bipush 61, 2) := by decide +kernel
theorem d_M_oneToken_366 : decode (cd m_M_oneToken) 366 = .ok (.if_icmp .ne 9, 3) := by decide +kernel
theorem d_M_oneToken_369 : decode (cd m_M_oneToken) 369 = .ok (.sipush 303, 3) := by decide +kernel
theorem d_M_oneToken_372 : decode (cd m_M_oneToken) 372 = .ok (.goto 4, 3) := by decide +kernel
theorem d_M_oneToken_375 : decode (cd m_M_oneToken) 375 = .ok (.iconst 0, 1) := by decide +kernel
theorem d_M_oneToken_376 : decode (cd m_M_oneToken) 376 = .ok (.istore 7, 2) := by decide +kernel
theorem d_M_oneToken_378 : decode (cd m_M_oneToken) 378 = .ok (.iload_n 2, 1) := by decide +kernel
theorem d_M_oneToken_379 : decode (cd m_M_oneToken) 379 = .ok (.bipush 40, 2) := by decide +kernel
theorem d_M_oneToken_381 : decode (cd m_M_oneToken) 381 = .ok (.if_icmp .eq 87, 3) := by decide +kernel
theorem d_M_oneToken_384 : decode (cd m_M_oneToken) 384 = .ok (.iload_n 2, 1) := by decide +kernel
theorem d_M_oneToken_385 : decode (cd m_M_oneToken) 385 = .ok (.bipush 41, 2) := by decide +kernel
theorem d_M_oneToken_387 : decode (cd m_M_oneToken) 387 = .ok (.if_icmp .eq 81, 3) := by decide +kernel
theorem d_M_oneToken_390 : decode (cd m_M_oneToken) 390 = .ok (.iload_n 2, 1) := by decide +kernel
theorem d_M_oneToken_391 : decode (cd m_M_oneToken) 391 = .ok (.bipush 44, 2) := by decide +kernel
theorem d_M_oneToken_393 : decode (cd m_M_oneToken) 393 = .ok (.if_icmp .eq 75, 3) := by decide +kernel
theorem d_M_oneToken_396 : decode (cd m_M_oneToken) 396 = .ok (.iload_n 2, 1) := by decide +kernel
theorem d_M_oneToken_397 : decode (cd m_M_oneToken) 397 = .ok (.bipush 46, 2) := by decide +kernel
theorem d_M_oneToken_399 : decode (cd m_M_oneToken) 399 = .ok (.if_icmp .eq 69, 3) := by decide +kernel
theorem d_M_oneToken_402 : decode (cd m_M_oneToken) 402 = .ok (.iload_n 2, 1) := by decide +kernel
theorem d_M_oneToken_403 : decode (cd m_M_oneToken) 403 = .ok (.bipush 63, 2) := by decide +kernel
theorem d_M_oneToken_405 : decode (cd m_M_oneToken) 405 = .ok (.if_icmp .eq 63, 3) := by decide +kernel
theorem d_M_oneToken_408 : decode (cd m_M_oneToken) 408 = .ok (.iload_n 2, 1) := by decide +kernel
theorem d_M_oneToken_409 : decode (cd m_M_oneToken) 409 = .ok (.bipush 33, 2) := by decide +kernel
theorem d_M_oneToken_411 : decode (cd m_M_oneToken) 411 = .ok (.if_icmp .eq 57, 3) := by decide +kernel
theorem d_M_oneToken_414 : decode (cd m_M_oneToken) 414 = .ok (.iload_n 2, 1) := by decide +kernel
theorem d_M_oneToken_415 : decode (cd m_M_oneToken) 415 = .ok (.bipush 95, 2) := by decide +kernel
theorem d_M_oneToken_417 : decode (cd m_M_oneToken) 417 = .ok (.if_icmp .eq 51, 3) := by decide +kernel
theorem d_M_oneToken_420 : decode (cd m_M_oneToken) 420 = .ok (.iload_n 2, 1) := by decide +kernel
theorem d_M_oneToken_421 : decode (cd m_M_oneToken) 421 = .ok (.bipush 61, 2) := by decide +kernel
theorem d_M_oneToken_423 : decode (cd m_M_oneToken) 423 = .ok (.if_icmp .eq 45, 3) := by decide +kernel
theorem d_M_oneToken_426 : decode (cd m_M_oneToken) 426 = .ok (.iload_n 2, 1) := by decide +kernel
theorem d_M_oneToken_427 : decode (cd m_M_oneToken) 427 = .ok (.bipush 60, 2) := by decide +kernel
theorem d_M_oneToken_429 : decode (cd m_M_oneToken) 429 = .ok (.if_icmp .eq 39, 3) := by decide +kernel
theorem d_M_oneToken_432 : decode (cd m_M_oneToken) 432 = .ok (.iload_n 2, 1) := by decide +kernel
theorem d_M_oneToken_433 : decode (cd m_M_oneToken) 433 = .ok (.bipush 62, 2) := by decide +kernel
theorem d_M_oneToken_435 : decode (cd m_M_oneToken) 435 = .ok (.if_icmp .eq 33, 3) := by decide +kernel
theorem d_M_oneToken_438 : decode (cd m_M_oneToken) 438 = .ok (.iload_n 2, 1) := by decide +kernel
theorem d_M_oneToken_439 : decode (cd m_M_oneToken) 439 = .ok (.bipush 43, 2) := by decide +kernel
theorem d_M_oneToken_441 : decode (cd m_M_oneToken) 441 = .ok (.if_icmp .eq 27, 3) := by decide +kernel
theorem d_M_oneToken_444 : decode (cd m_M_oneToken) 444 = .ok (.iload_n 2, 1) := by decide +kernel
theorem d_M_oneToken_445 : decode (cd m_M_oneToken) 445 = .ok (.bipush 45, 2) := by decide +kernel
theorem d_M_oneToken_447 : decode (cd m_M_oneToken) 447 = .ok (.if_icmp .eq 21, 3) := by decide +kernel
theorem d_M_oneToken_450 : decode (cd m_M_oneToken) 450 = .ok (.iload_n 2, 1) := by decide +kernel
theorem d_M_oneToken_451 : decode (cd m_M_oneToken) 451 = .ok (.bipush 42, 2) := by decide +kernel
theorem d_M_oneToken_453 : decode (cd m_M_oneToken) 453 = .ok (.if_icmp .eq 15, 3) := by decide +kernel
theorem d_M_oneToken_456 : decode (cd m_M_oneToken) 456 = .ok (.iload_n 2, 1) := by decide +kernel
theorem d_M_oneToken_457 : decode (cd m_M_oneToken) 457 = .ok (.bipush 47, 2) := by decide +kernel
theorem d_M_oneToken_459 : decode (cd m_M_oneToken) 459 = .ok (.if_icmp .eq 9, 3) := by decide +kernel
theorem d_M_oneToken_462 : decode (cd m_M_oneToken) 462 = .ok (.iload_n 2, 1) := by decide +kernel
theorem d_M_oneToken_463 : decode (cd m_M_oneToken) 463 = .ok (.bipush 37, 2) := by decide +kernel
theorem d_M_oneToken_465 : decode (cd m_M_oneToken) 465 = .ok (.if_icmp .ne 7, 3) := by decide +kernel
theorem d_M_oneToken_468 : decode (cd m_M_oneToken) 468 = .ok (.iconst 1, 1) := by decide +kernel
theorem d_M_oneToken_469 : decode (cd m_M_oneToken) 469 = .ok (.goto 4, 3) := by decide +kernel
theorem d_M_oneToken_472 : decode (cd m_M_oneToken) 472 = .ok (.iconst 0, 1) := by decide +kernel
theorem d_M_oneToken_473 : decode (cd m_M_oneToken) 473 = .ok (.istore 8, 2) := by decide +kernel
theorem d_M_oneToken_475 : decode (cd m_M_oneToken) 475 = .ok (.aload_n 0, 1) := by decide +kernel
theorem d_M_oneToken_476 : decode (cd m_M_oneToken) 476 = .ok (.iload 7, 2) := by decide +kernel
theorem d_M_oneToken_478 : decode (cd m_M_oneToken) 478 = .ok (.ifCond .gt 8, 3) := by decide +kernel
theorem d_M_oneToken_481 : decode (cd m_M_oneToken) 481 = .ok (.iload 8, 2) := by decide +kernel
theorem d_M_oneToken_483 : decode (cd m_M_oneToken) 483 = .ok (.ifCond .eq 7, 3) := by decide +kernel
theorem d_M_oneToken_486 : decode (cd m_M_oneToken) 486 = .ok (.iconst 4, 1) := by decide +kernel
theorem d_M_oneToken_487 : decode (cd m_M_oneToken) 487 = .ok (.goto 5, 3) := by decide +kernel
theorem d_M_oneToken_490 : decode (cd m_M_oneToken) 490 = .ok (.bipush 6, 2) := by decide +kernel
theorem d_M_oneToken_492 : decode (cd m_M_oneToken) 492 = .ok (.iload 7, 2) := by decide +kernel
theorem d_M_oneToken_494 : decode (cd m_M_oneToken) 494 = .ok (.ifCond .le 8, 3) := by decide +kernel
