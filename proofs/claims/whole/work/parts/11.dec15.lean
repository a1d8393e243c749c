/-! decode rows (by program) -/
theorem d_L_program_0 : decode (cd m_L_program) 0 = .ok (.aload_n 1, 1) := by decide +kernel
theorem d_L_program_1 : decode (cd m_L_program) 1 = .ok (.iconst 0, 1) := by decide +kernel
theorem d_L_program_2 : decode (cd m_L_program) 2 = .ok (.aload_n 0, 1) := by decide +kernel
theorem d_L_program_3 : decode (cd m_L_program) 3 = .ok (.invokevirtual 7, 3) := by decide +kernel
theorem d_L_program_6 : decode (cd m_L_program) 6 = .ok (.i2l, 1) := by decide +kernel
theorem d_L_program_7 : decode (cd m_L_program) 7 = .ok (.lastore, 1) := by decide +kernel
theorem d_L_program_8 : decode (cd m_L_program) 8 = .ok (.goto 6, 3) := by decide +kernel
theorem d_L_program_11 : decode (cd m_L_program) 11 = .ok (.astore_n 2, 1) := by decide +kernel
theorem d_L_program_12 : decode (cd m_L_program) 12 = .ok (.iconst 1, 1) := by decide +kernel
theorem d_L_program_13 : decode (cd m_L_program) 13 = .ok (.ireturn, 1) := by decide +kernel
theorem d_L_program_14 : decode (cd m_L_program) 14 = .ok (.iconst 0, 1) := by decide +kernel
theorem d_L_program_15 : decode (cd m_L_program) 15 = .ok (.ireturn, 1) := by decide +kernel
theorem d_L_rule_0 : decode (cd m_L_rule) 0 = .ok (.aload_n 3, 1) := by decide +kernel
theorem d_L_rule_1 : decode (cd m_L_rule) 1 = .ok (.iconst 0, 1) := by decide +kernel
theorem d_L_rule_2 : decode (cd m_L_rule) 2 = .ok (.aload_n 0, 1) := by decide +kernel
theorem d_L_rule_3 : decode (cd m_L_rule) 3 = .ok (.iload_n 1, 1) := by decide +kernel
theorem d_L_rule_4 : decode (cd m_L_rule) 4 = .ok (.iload_n 2, 1) := by decide +kernel
theorem d_L_rule_5 : decode (cd m_L_rule) 5 = .ok (.invokevirtual 15, 3) := by decide +kernel
theorem d_L_rule_8 : decode (cd m_L_rule) 8 = .ok (.i2l, 1) := by decide +kernel
theorem d_L_rule_9 : decode (cd m_L_rule) 9 = .ok (.lastore, 1) := by decide +kernel
theorem d_L_rule_10 : decode (cd m_L_rule) 10 = .ok (.goto 7, 3) := by decide +kernel
theorem d_L_rule_13 : decode (cd m_L_rule) 13 = .ok (.astore 4, 2) := by decide +kernel
theorem d_L_rule_15 : decode (cd m_L_rule) 15 = .ok (.iconst 1, 1) := by decide +kernel
theorem d_L_rule_16 : decode (cd m_L_rule) 16 = .ok (.ireturn, 1) := by decide +kernel
theorem d_L_rule_17 : decode (cd m_L_rule) 17 = .ok (.iconst 0, 1) := by decide +kernel
theorem d_L_rule_18 : decode (cd m_L_rule) 18 = .ok (.ireturn, 1) := by decide +kernel
theorem d_L_literal_0 : decode (cd m_L_literal) 0 = .ok (.aload 4, 2) := by decide +kernel
theorem d_L_literal_2 : decode (cd m_L_literal) 2 = .ok (.iconst 0, 1) := by decide +kernel
theorem d_L_literal_3 : decode (cd m_L_literal) 3 = .ok (.aload_n 0, 1) := by decide +kernel
theorem d_L_literal_4 : decode (cd m_L_literal) 4 = .ok (.iload_n 1, 1) := by decide +kernel
theorem d_L_literal_5 : decode (cd m_L_literal) 5 = .ok (.iload_n 2, 1) := by decide +kernel
theorem d_L_literal_6 : decode (cd m_L_literal) 6 = .ok (.iload_n 3, 1) := by decide +kernel
theorem d_L_literal_7 : decode (cd m_L_literal) 7 = .ok (.invokevirtual 21, 3) := by decide +kernel
theorem d_L_literal_10 : decode (cd m_L_literal) 10 = .ok (.i2l, 1) := by decide +kernel
theorem d_L_literal_11 : decode (cd m_L_literal) 11 = .ok (.lastore, 1) := by decide +kernel
theorem d_L_literal_12 : decode (cd m_L_literal) 12 = .ok (.goto 7, 3) := by decide +kernel
theorem d_L_literal_15 : decode (cd m_L_literal) 15 = .ok (.astore 5, 2) := by decide +kernel
theorem d_L_literal_17 : decode (cd m_L_literal) 17 = .ok (.iconst 1, 1) := by decide +kernel
theorem d_L_literal_18 : decode (cd m_L_literal) 18 = .ok (.ireturn, 1) := by decide +kernel
theorem d_L_literal_19 : decode (cd m_L_literal) 19 = .ok (.iconst 0, 1) := by decide +kernel
theorem d_L_literal_20 : decode (cd m_L_literal) 20 = .ok (.ireturn, 1) := by decide +kernel
theorem d_L_law_0 : decode (cd m_L_law) 0 = .ok (.new 8, 3) := by decide +kernel
theorem d_L_law_3 : decode (cd m_L_law) 3 = .ok (.dup, 1) := by decide +kernel
theorem d_L_law_4 : decode (cd m_L_law) 4 = .ok (.invokespecial 25, 3) := by decide +kernel
theorem d_L_law_7 : decode (cd m_L_law) 7 = .ok (.astore_n 1, 1) := by decide +kernel
theorem d_L_law_8 : decode (cd m_L_law) 8 = .ok (.new 26, 3) := by decide +kernel
theorem d_L_law_11 : decode (cd m_L_law) 11 = .ok (.dup, 1) := by decide +kernel
theorem d_L_law_12 : decode (cd m_L_law) 12 = .ok (.invokespecial 28, 3) := by decide +kernel
theorem d_L_law_15 : decode (cd m_L_law) 15 = .ok (.astore_n 2, 1) := by decide +kernel
theorem d_L_law_16 : decode (cd m_L_law) 16 = .ok (.iconst 1, 1) := by decide +kernel
theorem d_L_law_17 : decode (cd m_L_law) 17 = .ok (.newarray .long, 2) := by decide +kernel
theorem d_L_law_19 : decode (cd m_L_law) 19 = .ok (.astore_n 3, 1) := by decide +kernel
theorem d_L_law_20 : decode (cd m_L_law) 20 = .ok (.iconst 0, 1) := by decide +kernel
theorem d_L_law_21 : decode (cd m_L_law) 21 = .ok (.istore 4, 2) := by decide +kernel
theorem d_L_law_23 : decode (cd m_L_law) 23 = .ok (.iload 4, 2) := by decide +kernel
theorem d_L_law_25 : decode (cd m_L_law) 25 = .ok (.aload_n 0, 1) := by decide +kernel
theorem d_L_law_26 : decode (cd m_L_law) 26 = .ok (.arraylength, 1) := by decide +kernel
theorem d_L_law_27 : decode (cd m_L_law) 27 = .ok (.iconst 4, 1) := by decide +kernel
theorem d_L_law_28 : decode (cd m_L_law) 28 = .ok (.isub, 1) := by decide +kernel
theorem d_L_law_29 : decode (cd m_L_law) 29 = .ok (.if_icmp .gt 434, 3) := by decide +kernel
theorem d_L_law_32 : decode (cd m_L_law) 32 = .ok (.aload_n 0, 1) := by decide +kernel
theorem d_L_law_33 : decode (cd m_L_law) 33 = .ok (.iload 4, 2) := by decide +kernel
theorem d_L_law_35 : decode (cd m_L_law) 35 = .ok (.iaload, 1) := by decide +kernel
theorem d_L_law_36 : decode (cd m_L_law) 36 = .ok (.bipush 7, 2) := by decide +kernel
theorem d_L_law_38 : decode (cd m_L_law) 38 = .ok (.iand, 1) := by decide +kernel
theorem d_L_law_39 : decode (cd m_L_law) 39 = .ok (.tableswitch 418 0 7 #[45, 114, 158, 183, 196, 233, 270, 338], 45) := by decide +kernel
theorem d_L_law_84 : decode (cd m_L_law) 84 = .ok (.aload_n 1, 1) := by decide +kernel
theorem d_L_law_85 : decode (cd m_L_law) 85 = .ok (.aload_n 0, 1) := by decide +kernel
theorem d_L_law_86 : decode (cd m_L_law) 86 = .ok (.iload 4, 2) := by decide +kernel
theorem d_L_law_88 : decode (cd m_L_law) 88 = .ok (.iconst 1, 1) := by decide +kernel
theorem d_L_law_89 : decode (cd m_L_law) 89 = .ok (.iadd, 1) := by decide +kernel
theorem d_L_law_90 : decode (cd m_L_law) 90 = .ok (.iaload, 1) := by decide +kernel
theorem d_L_law_91 : decode (cd m_L_law) 91 = .ok (.i2l, 1) := by decide +kernel
theorem d_L_law_92 : decode (cd m_L_law) 92 = .ok (.bipush 32, 2) := by decide +kernel
theorem d_L_law_94 : decode (cd m_L_law) 94 = .ok (.lshl, 1) := by decide +kernel
theorem d_L_law_95 : decode (cd m_L_law) 95 = .ok (.aload_n 0, 1) := by decide +kernel
theorem d_L_law_96 : decode (cd m_L_law) 96 = .ok (.iload 4, 2) := by decide +kernel
theorem d_L_law_98 : decode (cd m_L_law) 98 = .ok (.iconst 2, 1) := by decide +kernel
theorem d_L_law_99 : decode (cd m_L_law) 99 = .ok (.iadd, 1) := by decide +kernel
theorem d_L_law_100 : decode (cd m_L_law) 100 = .ok (.iaload, 1) := by decide +kernel
theorem d_L_law_101 : decode (cd m_L_law) 101 = .ok (.i2l, 1) := by decide +kernel
theorem d_L_law_102 : decode (cd m_L_law) 102 = .ok (.ldc2_w 29, 3) := by decide +kernel
theorem d_L_law_105 : decode (cd m_L_law) 105 = .ok (.land, 1) := by decide +kernel
theorem d_L_law_106 : decode (cd m_L_law) 106 = .ok (.lor, 1) := by decide +kernel
theorem d_L_law_107 : decode (cd m_L_law) 107 = .ok (.aload_n 0, 1) := by decide +kernel
theorem d_L_law_108 : decode (cd m_L_law) 108 = .ok (.iload 4, 2) := by decide +kernel
theorem d_L_law_110 : decode (cd m_L_law) 110 = .ok (.iconst 3, 1) := by decide +kernel
theorem d_L_law_111 : decode (cd m_L_law) 111 = .ok (.iadd, 1) := by decide +kernel
theorem d_L_law_112 : decode (cd m_L_law) 112 = .ok (.iaload, 1) := by decide +kernel
theorem d_L_law_113 : decode (cd m_L_law) 113 = .ok (.invokevirtual 31, 3) := by decide +kernel
theorem d_L_law_116 : decode (cd m_L_law) 116 = .ok (.aload_n 2, 1) := by decide +kernel
theorem d_L_law_117 : decode (cd m_L_law) 117 = .ok (.aload_n 0, 1) := by decide +kernel
theorem d_L_law_118 : decode (cd m_L_law) 118 = .ok (.iload 4, 2) := by decide +kernel
theorem d_L_law_120 : decode (cd m_L_law) 120 = .ok (.iconst 1, 1) := by decide +kernel
theorem d_L_law_121 : decode (cd m_L_law) 121 = .ok (.iadd, 1) := by decide +kernel
theorem d_L_law_122 : decode (cd m_L_law) 122 = .ok (.iaload, 1) := by decide +kernel
theorem d_L_law_123 : decode (cd m_L_law) 123 = .ok (.i2l, 1) := by decide +kernel
theorem d_L_law_124 : decode (cd m_L_law) 124 = .ok (.bipush 32, 2) := by decide +kernel
theorem d_L_law_126 : decode (cd m_L_law) 126 = .ok (.lshl, 1) := by decide +kernel
theorem d_L_law_127 : decode (cd m_L_law) 127 = .ok (.aload_n 0, 1) := by decide +kernel
theorem d_L_law_128 : decode (cd m_L_law) 128 = .ok (.iload 4, 2) := by decide +kernel
theorem d_L_law_130 : decode (cd m_L_law) 130 = .ok (.iconst 2, 1) := by decide +kernel
theorem d_L_law_131 : decode (cd m_L_law) 131 = .ok (.iadd, 1) := by decide +kernel
theorem d_L_law_132 : decode (cd m_L_law) 132 = .ok (.iaload, 1) := by decide +kernel
theorem d_L_law_133 : decode (cd m_L_law) 133 = .ok (.i2l, 1) := by decide +kernel
theorem d_L_law_134 : decode (cd m_L_law) 134 = .ok (.ldc2_w 29, 3) := by decide +kernel
theorem d_L_law_137 : decode (cd m_L_law) 137 = .ok (.land, 1) := by decide +kernel
theorem d_L_law_138 : decode (cd m_L_law) 138 = .ok (.lor, 1) := by decide +kernel
theorem d_L_law_139 : decode (cd m_L_law) 139 = .ok (.aload_n 0, 1) := by decide +kernel
theorem d_L_law_140 : decode (cd m_L_law) 140 = .ok (.iload 4, 2) := by decide +kernel
theorem d_L_law_142 : decode (cd m_L_law) 142 = .ok (.iconst 3, 1) := by decide +kernel
theorem d_L_law_143 : decode (cd m_L_law) 143 = .ok (.iadd, 1) := by decide +kernel
theorem d_L_law_144 : decode (cd m_L_law) 144 = .ok (.iaload, 1) := by decide +kernel
theorem d_L_law_145 : decode (cd m_L_law) 145 = .ok (.invokevirtual 35, 3) := by decide +kernel
theorem d_L_law_148 : decode (cd m_L_law) 148 = .ok (.if_icmp .eq 309, 3) := by decide +kernel
theorem d_L_law_151 : decode (cd m_L_law) 151 = .ok (.iconst 0, 1) := by decide +kernel
theorem d_L_law_152 : decode (cd m_L_law) 152 = .ok (.ireturn, 1) := by decide +kernel
theorem d_L_law_153 : decode (cd m_L_law) 153 = .ok (.aload_n 1, 1) := by decide +kernel
theorem d_L_law_154 : decode (cd m_L_law) 154 = .ok (.aload_n 3, 1) := by decide +kernel
theorem d_L_law_155 : decode (cd m_L_law) 155 = .ok (.invokestatic 36, 3) := by decide +kernel
theorem d_L_law_158 : decode (cd m_L_law) 158 = .ok (.istore 5, 2) := by decide +kernel
theorem d_L_law_160 : decode (cd m_L_law) 160 = .ok (.aload_n 2, 1) := by decide +kernel
theorem d_L_law_161 : decode (cd m_L_law) 161 = .ok (.invokevirtual 41, 3) := by decide +kernel
theorem d_L_law_164 : decode (cd m_L_law) 164 = .ok (.istore 6, 2) := by decide +kernel
theorem d_L_law_166 : decode (cd m_L_law) 166 = .ok (.aload_n 2, 1) := by decide +kernel
theorem d_L_law_167 : decode (cd m_L_law) 167 = .ok (.invokevirtual 42, 3) := by decide +kernel
theorem d_L_law_170 : decode (cd m_L_law) 170 = .ok (.iload 5, 2) := by decide +kernel
theorem d_L_law_172 : decode (cd m_L_law) 172 = .ok (.if_icmp .eq 5, 3) := by decide +kernel
theorem d_L_law_175 : decode (cd m_L_law) 175 = .ok (.iconst 0, 1) := by decide +kernel
theorem d_L_law_176 : decode (cd m_L_law) 176 = .ok (.ireturn, 1) := by decide +kernel
theorem d_L_law_177 : decode (cd m_L_law) 177 = .ok (.iload 5, 2) := by decide +kernel
theorem d_L_law_179 : decode (cd m_L_law) 179 = .ok (.ifCond .ne 15, 3) := by decide +kernel
theorem d_L_law_182 : decode (cd m_L_law) 182 = .ok (.aload_n 3, 1) := by decide +kernel
theorem d_L_law_183 : decode (cd m_L_law) 183 = .ok (.iconst 0, 1) := by decide +kernel
theorem d_L_law_184 : decode (cd m_L_law) 184 = .ok (.laload, 1) := by decide +kernel
theorem d_L_law_185 : decode (cd m_L_law) 185 = .ok (.iload 6, 2) := by decide +kernel
theorem d_L_law_187 : decode (cd m_L_law) 187 = .ok (.i2l, 1) := by decide +kernel
theorem d_L_law_188 : decode (cd m_L_law) 188 = .ok (.lcmp, 1) := by decide +kernel
theorem d_L_law_189 : decode (cd m_L_law) 189 = .ok (.ifCond .eq 5, 3) := by decide +kernel
theorem d_L_law_192 : decode (cd m_L_law) 192 = .ok (.iconst 0, 1) := by decide +kernel
theorem d_L_law_193 : decode (cd m_L_law) 193 = .ok (.ireturn, 1) := by decide +kernel
theorem d_L_law_194 : decode (cd m_L_law) 194 = .ok (.goto 263, 3) := by decide +kernel
theorem d_L_law_197 : decode (cd m_L_law) 197 = .ok (.aload_n 1, 1) := by decide +kernel
theorem d_L_law_198 : decode (cd m_L_law) 198 = .ok (.aload_n 0, 1) := by decide +kernel
theorem d_L_law_199 : decode (cd m_L_law) 199 = .ok (.iload 4, 2) := by decide +kernel
theorem d_L_law_201 : decode (cd m_L_law) 201 = .ok (.iconst 1, 1) := by decide +kernel
theorem d_L_law_202 : decode (cd m_L_law) 202 = .ok (.iadd, 1) := by decide +kernel
theorem d_L_law_203 : decode (cd m_L_law) 203 = .ok (.iaload, 1) := by decide +kernel
theorem d_L_law_204 : decode (cd m_L_law) 204 = .ok (.invokevirtual 45, 3) := by decide +kernel
theorem d_L_law_207 : decode (cd m_L_law) 207 = .ok (.aload_n 2, 1) := by decide +kernel
theorem d_L_law_208 : decode (cd m_L_law) 208 = .ok (.aload_n 0, 1) := by decide +kernel
theorem d_L_law_209 : decode (cd m_L_law) 209 = .ok (.iload 4, 2) := by decide +kernel
theorem d_L_law_211 : decode (cd m_L_law) 211 = .ok (.iconst 1, 1) := by decide +kernel
theorem d_L_law_212 : decode (cd m_L_law) 212 = .ok (.iadd, 1) := by decide +kernel
theorem d_L_law_213 : decode (cd m_L_law) 213 = .ok (.iaload, 1) := by decide +kernel
theorem d_L_law_214 : decode (cd m_L_law) 214 = .ok (.invokevirtual 49, 3) := by decide +kernel
theorem d_L_law_217 : decode (cd m_L_law) 217 = .ok (.if_icmp .eq 240, 3) := by decide +kernel
theorem d_L_law_220 : decode (cd m_L_law) 220 = .ok (.iconst 0, 1) := by decide +kernel
theorem d_L_law_221 : decode (cd m_L_law) 221 = .ok (.ireturn, 1) := by decide +kernel
theorem d_L_law_222 : decode (cd m_L_law) 222 = .ok (.aload_n 1, 1) := by decide +kernel
theorem d_L_law_223 : decode (cd m_L_law) 223 = .ok (.invokevirtual 50, 3) := by decide +kernel
theorem d_L_law_226 : decode (cd m_L_law) 226 = .ok (.aload_n 2, 1) := by decide +kernel
theorem d_L_law_227 : decode (cd m_L_law) 227 = .ok (.invokevirtual 53, 3) := by decide +kernel
theorem d_L_law_230 : decode (cd m_L_law) 230 = .ok (.if_icmp .eq 227, 3) := by decide +kernel
theorem d_L_law_233 : decode (cd m_L_law) 233 = .ok (.iconst 0, 1) := by decide +kernel
theorem d_L_law_234 : decode (cd m_L_law) 234 = .ok (.ireturn, 1) := by decide +kernel
theorem d_L_law_235 : decode (cd m_L_law) 235 = .ok (.aload_n 1, 1) := by decide +kernel
theorem d_L_law_236 : decode (cd m_L_law) 236 = .ok (.aload_n 0, 1) := by decide +kernel
theorem d_L_law_237 : decode (cd m_L_law) 237 = .ok (.iload 4, 2) := by decide +kernel
theorem d_L_law_239 : decode (cd m_L_law) 239 = .ok (.iconst 1, 1) := by decide +kernel
theorem d_L_law_240 : decode (cd m_L_law) 240 = .ok (.iadd, 1) := by decide +kernel
theorem d_L_law_241 : decode (cd m_L_law) 241 = .ok (.iaload, 1) := by decide +kernel
theorem d_L_law_242 : decode (cd m_L_law) 242 = .ok (.aload_n 0, 1) := by decide +kernel
theorem d_L_law_243 : decode (cd m_L_law) 243 = .ok (.iload 4, 2) := by decide +kernel
theorem d_L_law_245 : decode (cd m_L_law) 245 = .ok (.iconst 2, 1) := by decide +kernel
theorem d_L_law_246 : decode (cd m_L_law) 246 = .ok (.iadd, 1) := by decide +kernel
theorem d_L_law_247 : decode (cd m_L_law) 247 = .ok (.iaload, 1) := by decide +kernel
theorem d_L_law_248 : decode (cd m_L_law) 248 = .ok (.invokevirtual 54, 3) := by decide +kernel
theorem d_L_law_251 : decode (cd m_L_law) 251 = .ok (.aload_n 2, 1) := by decide +kernel
theorem d_L_law_252 : decode (cd m_L_law) 252 = .ok (.aload_n 0, 1) := by decide +kernel
theorem d_L_law_253 : decode (cd m_L_law) 253 = .ok (.iload 4, 2) := by decide +kernel
theorem d_L_law_255 : decode (cd m_L_law) 255 = .ok (.iconst 1, 1) := by decide +kernel
theorem d_L_law_256 : decode (cd m_L_law) 256 = .ok (.iadd, 1) := by decide +kernel
theorem d_L_law_257 : decode (cd m_L_law) 257 = .ok (.iaload, 1) := by decide +kernel
theorem d_L_law_258 : decode (cd m_L_law) 258 = .ok (.aload_n 0, 1) := by decide +kernel
theorem d_L_law_259 : decode (cd m_L_law) 259 = .ok (.iload 4, 2) := by decide +kernel
theorem d_L_law_261 : decode (cd m_L_law) 261 = .ok (.iconst 2, 1) := by decide +kernel
theorem d_L_law_262 : decode (cd m_L_law) 262 = .ok (.iadd, 1) := by decide +kernel
theorem d_L_law_263 : decode (cd m_L_law) 263 = .ok (.iaload, 1) := by decide +kernel
theorem d_L_law_264 : decode (cd m_L_law) 264 = .ok (.invokevirtual 57, 3) := by decide +kernel
theorem d_L_law_267 : decode (cd m_L_law) 267 = .ok (.if_icmp .eq 190, 3) := by decide +kernel
theorem d_L_law_270 : decode (cd m_L_law) 270 = .ok (.iconst 0, 1) := by decide +kernel
theorem d_L_law_271 : decode (cd m_L_law) 271 = .ok (.ireturn, 1) := by decide +kernel
theorem d_L_law_272 : decode (cd m_L_law) 272 = .ok (.aload_n 1, 1) := by decide +kernel
theorem d_L_law_273 : decode (cd m_L_law) 273 = .ok (.aload_n 0, 1) := by decide +kernel
theorem d_L_law_274 : decode (cd m_L_law) 274 = .ok (.iload 4, 2) := by decide +kernel
theorem d_L_law_276 : decode (cd m_L_law) 276 = .ok (.iconst 1, 1) := by decide +kernel
theorem d_L_law_277 : decode (cd m_L_law) 277 = .ok (.iadd, 1) := by decide +kernel
theorem d_L_law_278 : decode (cd m_L_law) 278 = .ok (.iaload, 1) := by decide +kernel
theorem d_L_law_279 : decode (cd m_L_law) 279 = .ok (.aload_n 0, 1) := by decide +kernel
theorem d_L_law_280 : decode (cd m_L_law) 280 = .ok (.iload 4, 2) := by decide +kernel
theorem d_L_law_282 : decode (cd m_L_law) 282 = .ok (.iconst 2, 1) := by decide +kernel
theorem d_L_law_283 : decode (cd m_L_law) 283 = .ok (.iadd, 1) := by decide +kernel
theorem d_L_law_284 : decode (cd m_L_law) 284 = .ok (.iaload, 1) := by decide +kernel
theorem d_L_law_285 : decode (cd m_L_law) 285 = .ok (.invokevirtual 58, 3) := by decide +kernel
theorem d_L_law_288 : decode (cd m_L_law) 288 = .ok (.aload_n 2, 1) := by decide +kernel
theorem d_L_law_289 : decode (cd m_L_law) 289 = .ok (.aload_n 0, 1) := by decide +kernel
theorem d_L_law_290 : decode (cd m_L_law) 290 = .ok (.iload 4, 2) := by decide +kernel
theorem d_L_law_292 : decode (cd m_L_law) 292 = .ok (.iconst 1, 1) := by decide +kernel
theorem d_L_law_293 : decode (cd m_L_law) 293 = .ok (.iadd, 1) := by decide +kernel
theorem d_L_law_294 : decode (cd m_L_law) 294 = .ok (.iaload, 1) := by decide +kernel
theorem d_L_law_295 : decode (cd m_L_law) 295 = .ok (.aload_n 0, 1) := by decide +kernel
theorem d_L_law_296 : decode (cd m_L_law) 296 = .ok (.iload 4, 2) := by decide +kernel
theorem d_L_law_298 : decode (cd m_L_law) 298 = .ok (.iconst 2, 1) := by decide +kernel
theorem d_L_law_299 : decode (cd m_L_law) 299 = .ok (.iadd, 1) := by decide +kernel
theorem d_L_law_300 : decode (cd m_L_law) 300 = .ok (.iaload, 1) := by decide +kernel
theorem d_L_law_301 : decode (cd m_L_law) 301 = .ok (.invokevirtual 62, 3) := by decide +kernel
theorem d_L_law_304 : decode (cd m_L_law) 304 = .ok (.if_icmp .eq 153, 3) := by decide +kernel
theorem d_L_law_307 : decode (cd m_L_law) 307 = .ok (.iconst 0, 1) := by decide +kernel
theorem d_L_law_308 : decode (cd m_L_law) 308 = .ok (.ireturn, 1) := by decide +kernel
theorem d_L_law_309 : decode (cd m_L_law) 309 = .ok (.aload_n 1, 1) := by decide +kernel
theorem d_L_law_310 : decode (cd m_L_law) 310 = .ok (.aload_n 0, 1) := by decide +kernel
theorem d_L_law_311 : decode (cd m_L_law) 311 = .ok (.iload 4, 2) := by decide +kernel
theorem d_L_law_313 : decode (cd m_L_law) 313 = .ok (.iconst 1, 1) := by decide +kernel
theorem d_L_law_314 : decode (cd m_L_law) 314 = .ok (.iadd, 1) := by decide +kernel
theorem d_L_law_315 : decode (cd m_L_law) 315 = .ok (.iaload, 1) := by decide +kernel
theorem d_L_law_316 : decode (cd m_L_law) 316 = .ok (.aload_n 0, 1) := by decide +kernel
theorem d_L_law_317 : decode (cd m_L_law) 317 = .ok (.iload 4, 2) := by decide +kernel
theorem d_L_law_319 : decode (cd m_L_law) 319 = .ok (.iconst 2, 1) := by decide +kernel
theorem d_L_law_320 : decode (cd m_L_law) 320 = .ok (.iadd, 1) := by decide +kernel
theorem d_L_law_321 : decode (cd m_L_law) 321 = .ok (.iaload, 1) := by decide +kernel
theorem d_L_law_322 : decode (cd m_L_law) 322 = .ok (.aload_n 3, 1) := by decide +kernel
theorem d_L_law_323 : decode (cd m_L_law) 323 = .ok (.invokestatic 63, 3) := by decide +kernel
theorem d_L_law_326 : decode (cd m_L_law) 326 = .ok (.istore 5, 2) := by decide +kernel
theorem d_L_law_328 : decode (cd m_L_law) 328 = .ok (.aload_n 2, 1) := by decide +kernel
theorem d_L_law_329 : decode (cd m_L_law) 329 = .ok (.aload_n 0, 1) := by decide +kernel
theorem d_L_law_330 : decode (cd m_L_law) 330 = .ok (.iload 4, 2) := by decide +kernel
theorem d_L_law_332 : decode (cd m_L_law) 332 = .ok (.iconst 1, 1) := by decide +kernel
theorem d_L_law_333 : decode (cd m_L_law) 333 = .ok (.iadd, 1) := by decide +kernel
theorem d_L_law_334 : decode (cd m_L_law) 334 = .ok (.iaload, 1) := by decide +kernel
theorem d_L_law_335 : decode (cd m_L_law) 335 = .ok (.aload_n 0, 1) := by decide +kernel
theorem d_L_law_336 : decode (cd m_L_law) 336 = .ok (.iload 4, 2) := by decide +kernel
theorem d_L_law_338 : decode (cd m_L_law) 338 = .ok (.iconst 2, 1) := by decide +kernel
theorem d_L_law_339 : decode (cd m_L_law) 339 = .ok (.iadd, 1) := by decide +kernel
theorem d_L_law_340 : decode (cd m_L_law) 340 = .ok (.iaload, 1) := by decide +kernel
theorem d_L_law_341 : decode (cd m_L_law) 341 = .ok (.invokevirtual 66, 3) := by decide +kernel
theorem d_L_law_344 : decode (cd m_L_law) 344 = .ok (.istore 6, 2) := by decide +kernel
theorem d_L_law_346 : decode (cd m_L_law) 346 = .ok (.aload_n 2, 1) := by decide +kernel
theorem d_L_law_347 : decode (cd m_L_law) 347 = .ok (.invokevirtual 42, 3) := by decide +kernel
theorem d_L_law_350 : decode (cd m_L_law) 350 = .ok (.iload 5, 2) := by decide +kernel
theorem d_L_law_352 : decode (cd m_L_law) 352 = .ok (.if_icmp .eq 5, 3) := by decide +kernel
theorem d_L_law_355 : decode (cd m_L_law) 355 = .ok (.iconst 0, 1) := by decide +kernel
theorem d_L_law_356 : decode (cd m_L_law) 356 = .ok (.ireturn, 1) := by decide +kernel
theorem d_L_law_357 : decode (cd m_L_law) 357 = .ok (.iload 5, 2) := by decide +kernel
theorem d_L_law_359 : decode (cd m_L_law) 359 = .ok (.ifCond .ne 15, 3) := by decide +kernel
theorem d_L_law_362 : decode (cd m_L_law) 362 = .ok (.aload_n 3, 1) := by decide +kernel
theorem d_L_law_363 : decode (cd m_L_law) 363 = .ok (.iconst 0, 1) := by decide +kernel
theorem d_L_law_364 : decode (cd m_L_law) 364 = .ok (.laload, 1) := by decide +kernel
theorem d_L_law_365 : decode (cd m_L_law) 365 = .ok (.iload 6, 2) := by decide +kernel
theorem d_L_law_367 : decode (cd m_L_law) 367 = .ok (.i2l, 1) := by decide +kernel
theorem d_L_law_368 : decode (cd m_L_law) 368 = .ok (.lcmp, 1) := by decide +kernel
theorem d_L_law_369 : decode (cd m_L_law) 369 = .ok (.ifCond .eq 5, 3) := by decide +kernel
theorem d_L_law_372 : decode (cd m_L_law) 372 = .ok (.iconst 0, 1) := by decide +kernel
theorem d_L_law_373 : decode (cd m_L_law) 373 = .ok (.ireturn, 1) := by decide +kernel
theorem d_L_law_374 : decode (cd m_L_law) 374 = .ok (.goto 83, 3) := by decide +kernel
theorem d_L_law_377 : decode (cd m_L_law) 377 = .ok (.aload_n 1, 1) := by decide +kernel
theorem d_L_law_378 : decode (cd m_L_law) 378 = .ok (.aload_n 0, 1) := by decide +kernel
theorem d_L_law_379 : decode (cd m_L_law) 379 = .ok (.iload 4, 2) := by decide +kernel
theorem d_L_law_381 : decode (cd m_L_law) 381 = .ok (.iconst 1, 1) := by decide +kernel
theorem d_L_law_382 : decode (cd m_L_law) 382 = .ok (.iadd, 1) := by decide +kernel
theorem d_L_law_383 : decode (cd m_L_law) 383 = .ok (.iaload, 1) := by decide +kernel
theorem d_L_law_384 : decode (cd m_L_law) 384 = .ok (.aload_n 0, 1) := by decide +kernel
theorem d_L_law_385 : decode (cd m_L_law) 385 = .ok (.iload 4, 2) := by decide +kernel
theorem d_L_law_387 : decode (cd m_L_law) 387 = .ok (.iconst 2, 1) := by decide +kernel
theorem d_L_law_388 : decode (cd m_L_law) 388 = .ok (.iadd, 1) := by decide +kernel
theorem d_L_law_389 : decode (cd m_L_law) 389 = .ok (.iaload, 1) := by decide +kernel
theorem d_L_law_390 : decode (cd m_L_law) 390 = .ok (.aload_n 0, 1) := by decide +kernel
theorem d_L_law_391 : decode (cd m_L_law) 391 = .ok (.iload 4, 2) := by decide +kernel
theorem d_L_law_393 : decode (cd m_L_law) 393 = .ok (.iconst 3, 1) := by decide +kernel
theorem d_L_law_394 : decode (cd m_L_law) 394 = .ok (.iadd, 1) := by decide +kernel
theorem d_L_law_395 : decode (cd m_L_law) 395 = .ok (.iaload, 1) := by decide +kernel
theorem d_L_law_396 : decode (cd m_L_law) 396 = .ok (.aload_n 3, 1) := by decide +kernel
theorem d_L_law_397 : decode (cd m_L_law) 397 = .ok (.invokestatic 67, 3) := by decide +kernel
theorem d_L_law_400 : decode (cd m_L_law) 400 = .ok (.istore 5, 2) := by decide +kernel
theorem d_L_law_402 : decode (cd m_L_law) 402 = .ok (.aload_n 2, 1) := by decide +kernel
theorem d_L_law_403 : decode (cd m_L_law) 403 = .ok (.aload_n 0, 1) := by decide +kernel
theorem d_L_law_404 : decode (cd m_L_law) 404 = .ok (.iload 4, 2) := by decide +kernel
theorem d_L_law_406 : decode (cd m_L_law) 406 = .ok (.iconst 1, 1) := by decide +kernel
theorem d_L_law_407 : decode (cd m_L_law) 407 = .ok (.iadd, 1) := by decide +kernel
theorem d_L_law_408 : decode (cd m_L_law) 408 = .ok (.iaload, 1) := by decide +kernel
theorem d_L_law_409 : decode (cd m_L_law) 409 = .ok (.aload_n 0, 1) := by decide +kernel
theorem d_L_law_410 : decode (cd m_L_law) 410 = .ok (.iload 4, 2) := by decide +kernel
theorem d_L_law_412 : decode (cd m_L_law) 412 = .ok (.iconst 2, 1) := by decide +kernel
theorem d_L_law_413 : decode (cd m_L_law) 413 = .ok (.iadd, 1) := by decide +kernel
theorem d_L_law_414 : decode (cd m_L_law) 414 = .ok (.iaload, 1) := by decide +kernel
theorem d_L_law_415 : decode (cd m_L_law) 415 = .ok (.aload_n 0, 1) := by decide +kernel
theorem d_L_law_416 : decode (cd m_L_law) 416 = .ok (.iload 4, 2) := by decide +kernel
theorem d_L_law_418 : decode (cd m_L_law) 418 = .ok (.iconst 3, 1) := by decide +kernel
theorem d_L_law_419 : decode (cd m_L_law) 419 = .ok (.iadd, 1) := by decide +kernel
theorem d_L_law_420 : decode (cd m_L_law) 420 = .ok (.iaload, 1) := by decide +kernel
theorem d_L_law_421 : decode (cd m_L_law) 421 = .ok (.invokevirtual 70, 3) := by decide +kernel
theorem d_L_law_424 : decode (cd m_L_law) 424 = .ok (.istore 6, 2) := by decide +kernel
theorem d_L_law_426 : decode (cd m_L_law) 426 = .ok (.aload_n 2, 1) := by decide +kernel
theorem d_L_law_427 : decode (cd m_L_law) 427 = .ok (.invokevirtual 42, 3) := by decide +kernel
theorem d_L_law_430 : decode (cd m_L_law) 430 = .ok (.iload 5, 2) := by decide +kernel
theorem d_L_law_432 : decode (cd m_L_law) 432 = .ok (.if_icmp .eq 5, 3) := by decide +kernel
theorem d_L_law_435 : decode (cd m_L_law) 435 = .ok (.iconst 0, 1) := by decide +kernel
theorem d_L_law_436 : decode (cd m_L_law) 436 = .ok (.ireturn, 1) := by decide +kernel
theorem d_L_law_437 : decode (cd m_L_law) 437 = .ok (.iload 5, 2) := by decide +kernel
theorem d_L_law_439 : decode (cd m_L_law) 439 = .ok (.ifCond .ne 15, 3) := by decide +kernel
theorem d_L_law_442 : decode (cd m_L_law) 442 = .ok (.aload_n 3, 1) := by decide +kernel
theorem d_L_law_443 : decode (cd m_L_law) 443 = .ok (.iconst 0, 1) := by decide +kernel
theorem d_L_law_444 : decode (cd m_L_law) 444 = .ok (.laload, 1) := by decide +kernel
theorem d_L_law_445 : decode (cd m_L_law) 445 = .ok (.iload 6, 2) := by decide +kernel
theorem d_L_law_447 : decode (cd m_L_law) 447 = .ok (.i2l, 1) := by decide +kernel
theorem d_L_law_448 : decode (cd m_L_law) 448 = .ok (.lcmp, 1) := by decide +kernel
theorem d_L_law_449 : decode (cd m_L_law) 449 = .ok (.ifCond .eq 5, 3) := by decide +kernel
theorem d_L_law_452 : decode (cd m_L_law) 452 = .ok (.iconst 0, 1) := by decide +kernel
theorem d_L_law_453 : decode (cd m_L_law) 453 = .ok (.ireturn, 1) := by decide +kernel
theorem d_L_law_454 : decode (cd m_L_law) 454 = .ok (.goto 3, 3) := by decide +kernel
theorem d_L_law_457 : decode (cd m_L_law) 457 = .ok (.iinc 4 4, 3) := by decide +kernel
theorem d_L_law_460 : decode (cd m_L_law) 460 = .ok (.goto (-437), 3) := by decide +kernel
theorem d_L_law_463 : decode (cd m_L_law) 463 = .ok (.iconst 1, 1) := by decide +kernel
theorem d_L_law_464 : decode (cd m_L_law) 464 = .ok (.ireturn, 1) := by decide +kernel
