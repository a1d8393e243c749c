/-! decode rows (by program) -/
theorem d_M_readLiteral_146 : decode (cd m_M_readLiteral) 146 = .ok (.ireturn, 1) := by decide +kernel
theorem d_M_readLiteral_147 : decode (cd m_M_readLiteral) 147 = .ok (.aload_n 0, 1) := by decide +kernel
theorem d_M_readLiteral_148 : decode (cd m_M_readLiteral) 148 = .ok (.iconst 0, 1) := by decide +kernel
theorem d_M_readLiteral_149 : decode (cd m_M_readLiteral) 149 = .ok (.iload_n 2, 1) := by decide +kernel
theorem d_M_readLiteral_150 : decode (cd m_M_readLiteral) 150 = .ok (.ifCond .ne 15, 3) := by decide +kernel
theorem d_M_readLiteral_153 : decode (cd m_M_readLiteral) 153 = .ok (.aload_n 0, 1) := by decide +kernel
theorem d_M_readLiteral_154 : decode (cd m_M_readLiteral) 154 = .ok (.getfield 50, 3) := by decide +kernel
theorem d_M_readLiteral_157 : decode (cd m_M_readLiteral) 157 = .ok (.aload_n 0, 1) := by decide +kernel
theorem d_M_readLiteral_158 : decode (cd m_M_readLiteral) 158 = .ok (.getfield 196, 3) := by decide +kernel
theorem d_M_readLiteral_161 : decode (cd m_M_readLiteral) 161 = .ok (.iaload, 1) := by decide +kernel
theorem d_M_readLiteral_162 : decode (cd m_M_readLiteral) 162 = .ok (.ifCond .ne 7, 3) := by decide +kernel
theorem d_M_readLiteral_165 : decode (cd m_M_readLiteral) 165 = .ok (.iconst 1, 1) := by decide +kernel
theorem d_M_readLiteral_166 : decode (cd m_M_readLiteral) 166 = .ok (.goto 4, 3) := by decide +kernel
theorem d_M_readLiteral_169 : decode (cd m_M_readLiteral) 169 = .ok (.iconst 0, 1) := by decide +kernel
theorem d_M_readLiteral_170 : decode (cd m_M_readLiteral) 170 = .ok (.invokevirtual 253, 3) := by decide +kernel
theorem d_M_readLiteral_173 : decode (cd m_M_readLiteral) 173 = .ok (.ifCond .ne 5, 3) := by decide +kernel
theorem d_M_readLiteral_176 : decode (cd m_M_readLiteral) 176 = .ok (.iconst 0, 1) := by decide +kernel
theorem d_M_readLiteral_177 : decode (cd m_M_readLiteral) 177 = .ok (.ireturn, 1) := by decide +kernel
theorem d_M_readLiteral_178 : decode (cd m_M_readLiteral) 178 = .ok (.aload_n 0, 1) := by decide +kernel
theorem d_M_readLiteral_179 : decode (cd m_M_readLiteral) 179 = .ok (.dup, 1) := by decide +kernel
theorem d_M_readLiteral_180 : decode (cd m_M_readLiteral) 180 = .ok (.getfield 250, 3) := by decide +kernel
theorem d_M_readLiteral_183 : decode (cd m_M_readLiteral) 183 = .ok (.iload_n 2, 1) := by decide +kernel
theorem d_M_readLiteral_184 : decode (cd m_M_readLiteral) 184 = .ok (.ifCond .eq 7, 3) := by decide +kernel
theorem d_M_readLiteral_187 : decode (cd m_M_readLiteral) 187 = .ok (.iconst 0, 1) := by decide +kernel
theorem d_M_readLiteral_188 : decode (cd m_M_readLiteral) 188 = .ok (.goto 4, 3) := by decide +kernel
theorem d_M_readLiteral_191 : decode (cd m_M_readLiteral) 191 = .ok (.iconst 1, 1) := by decide +kernel
theorem d_M_readLiteral_192 : decode (cd m_M_readLiteral) 192 = .ok (.iadd, 1) := by decide +kernel
theorem d_M_readLiteral_193 : decode (cd m_M_readLiteral) 193 = .ok (.putfield 250, 3) := by decide +kernel
theorem d_M_readLiteral_196 : decode (cd m_M_readLiteral) 196 = .ok (.aload_n 0, 1) := by decide +kernel
theorem d_M_readLiteral_197 : decode (cd m_M_readLiteral) 197 = .ok (.getfield 62, 3) := by decide +kernel
theorem d_M_readLiteral_200 : decode (cd m_M_readLiteral) 200 = .ok (.iload_n 1, 1) := by decide +kernel
theorem d_M_readLiteral_201 : decode (cd m_M_readLiteral) 201 = .ok (.iload_n 2, 1) := by decide +kernel
theorem d_M_readLiteral_202 : decode (cd m_M_readLiteral) 202 = .ok (.ifCond .eq 7, 3) := by decide +kernel
theorem d_M_readLiteral_205 : decode (cd m_M_readLiteral) 205 = .ok (.iconst 1, 1) := by decide +kernel
theorem d_M_readLiteral_206 : decode (cd m_M_readLiteral) 206 = .ok (.goto 4, 3) := by decide +kernel
theorem d_M_readLiteral_209 : decode (cd m_M_readLiteral) 209 = .ok (.iconst 0, 1) := by decide +kernel
theorem d_M_readLiteral_210 : decode (cd m_M_readLiteral) 210 = .ok (.iastore, 1) := by decide +kernel
theorem d_M_readLiteral_211 : decode (cd m_M_readLiteral) 211 = .ok (.aload_n 0, 1) := by decide +kernel
theorem d_M_readLiteral_212 : decode (cd m_M_readLiteral) 212 = .ok (.getfield 65, 3) := by decide +kernel
theorem d_M_readLiteral_215 : decode (cd m_M_readLiteral) 215 = .ok (.iload_n 1, 1) := by decide +kernel
theorem d_M_readLiteral_216 : decode (cd m_M_readLiteral) 216 = .ok (.aload_n 0, 1) := by decide +kernel
theorem d_M_readLiteral_217 : decode (cd m_M_readLiteral) 217 = .ok (.getfield 247, 3) := by decide +kernel
theorem d_M_readLiteral_220 : decode (cd m_M_readLiteral) 220 = .ok (.iastore, 1) := by decide +kernel
theorem d_M_readLiteral_221 : decode (cd m_M_readLiteral) 221 = .ok (.aload_n 0, 1) := by decide +kernel
theorem d_M_readLiteral_222 : decode (cd m_M_readLiteral) 222 = .ok (.getfield 102, 3) := by decide +kernel
theorem d_M_readLiteral_225 : decode (cd m_M_readLiteral) 225 = .ok (.iload_n 1, 1) := by decide +kernel
theorem d_M_readLiteral_226 : decode (cd m_M_readLiteral) 226 = .ok (.aload_n 0, 1) := by decide +kernel
theorem d_M_readLiteral_227 : decode (cd m_M_readLiteral) 227 = .ok (.getfield 222, 3) := by decide +kernel
theorem d_M_readLiteral_230 : decode (cd m_M_readLiteral) 230 = .ok (.iastore, 1) := by decide +kernel
theorem d_M_readLiteral_231 : decode (cd m_M_readLiteral) 231 = .ok (.iconst 0, 1) := by decide +kernel
theorem d_M_readLiteral_232 : decode (cd m_M_readLiteral) 232 = .ok (.istore 4, 2) := by decide +kernel
theorem d_M_readLiteral_234 : decode (cd m_M_readLiteral) 234 = .ok (.iload 4, 2) := by decide +kernel
theorem d_M_readLiteral_236 : decode (cd m_M_readLiteral) 236 = .ok (.aload_n 0, 1) := by decide +kernel
theorem d_M_readLiteral_237 : decode (cd m_M_readLiteral) 237 = .ok (.getfield 222, 3) := by decide +kernel
theorem d_M_readLiteral_240 : decode (cd m_M_readLiteral) 240 = .ok (.if_icmp .ge 45, 3) := by decide +kernel
theorem d_M_readLiteral_243 : decode (cd m_M_readLiteral) 243 = .ok (.aload_n 0, 1) := by decide +kernel
theorem d_M_readLiteral_244 : decode (cd m_M_readLiteral) 244 = .ok (.getfield 68, 3) := by decide +kernel
theorem d_M_readLiteral_247 : decode (cd m_M_readLiteral) 247 = .ok (.iconst 4, 1) := by decide +kernel
theorem d_M_readLiteral_248 : decode (cd m_M_readLiteral) 248 = .ok (.iload_n 1, 1) := by decide +kernel
theorem d_M_readLiteral_249 : decode (cd m_M_readLiteral) 249 = .ok (.imul, 1) := by decide +kernel
theorem d_M_readLiteral_250 : decode (cd m_M_readLiteral) 250 = .ok (.iload 4, 2) := by decide +kernel
theorem d_M_readLiteral_252 : decode (cd m_M_readLiteral) 252 = .ok (.iadd, 1) := by decide +kernel
theorem d_M_readLiteral_253 : decode (cd m_M_readLiteral) 253 = .ok (.aload_n 0, 1) := by decide +kernel
theorem d_M_readLiteral_254 : decode (cd m_M_readLiteral) 254 = .ok (.getfield 93, 3) := by decide +kernel
theorem d_M_readLiteral_257 : decode (cd m_M_readLiteral) 257 = .ok (.iload 4, 2) := by decide +kernel
theorem d_M_readLiteral_259 : decode (cd m_M_readLiteral) 259 = .ok (.iaload, 1) := by decide +kernel
theorem d_M_readLiteral_260 : decode (cd m_M_readLiteral) 260 = .ok (.iastore, 1) := by decide +kernel
theorem d_M_readLiteral_261 : decode (cd m_M_readLiteral) 261 = .ok (.aload_n 0, 1) := by decide +kernel
theorem d_M_readLiteral_262 : decode (cd m_M_readLiteral) 262 = .ok (.getfield 71, 3) := by decide +kernel
theorem d_M_readLiteral_265 : decode (cd m_M_readLiteral) 265 = .ok (.iconst 4, 1) := by decide +kernel
theorem d_M_readLiteral_266 : decode (cd m_M_readLiteral) 266 = .ok (.iload_n 1, 1) := by decide +kernel
theorem d_M_readLiteral_267 : decode (cd m_M_readLiteral) 267 = .ok (.imul, 1) := by decide +kernel
theorem d_M_readLiteral_268 : decode (cd m_M_readLiteral) 268 = .ok (.iload 4, 2) := by decide +kernel
theorem d_M_readLiteral_270 : decode (cd m_M_readLiteral) 270 = .ok (.iadd, 1) := by decide +kernel
theorem d_M_readLiteral_271 : decode (cd m_M_readLiteral) 271 = .ok (.aload_n 0, 1) := by decide +kernel
theorem d_M_readLiteral_272 : decode (cd m_M_readLiteral) 272 = .ok (.getfield 96, 3) := by decide +kernel
theorem d_M_readLiteral_275 : decode (cd m_M_readLiteral) 275 = .ok (.iload 4, 2) := by decide +kernel
theorem d_M_readLiteral_277 : decode (cd m_M_readLiteral) 277 = .ok (.laload, 1) := by decide +kernel
theorem d_M_readLiteral_278 : decode (cd m_M_readLiteral) 278 = .ok (.lastore, 1) := by decide +kernel
theorem d_M_readLiteral_279 : decode (cd m_M_readLiteral) 279 = .ok (.iinc 4 1, 3) := by decide +kernel
theorem d_M_readLiteral_282 : decode (cd m_M_readLiteral) 282 = .ok (.goto (-48), 3) := by decide +kernel
theorem d_M_readLiteral_285 : decode (cd m_M_readLiteral) 285 = .ok (.aload_n 0, 1) := by decide +kernel
theorem d_M_readLiteral_286 : decode (cd m_M_readLiteral) 286 = .ok (.getfield 56, 3) := by decide +kernel
theorem d_M_readLiteral_289 : decode (cd m_M_readLiteral) 289 = .ok (.aload_n 0, 1) := by decide +kernel
theorem d_M_readLiteral_290 : decode (cd m_M_readLiteral) 290 = .ok (.getfield 196, 3) := by decide +kernel
theorem d_M_readLiteral_293 : decode (cd m_M_readLiteral) 293 = .ok (.dup2, 1) := by decide +kernel
theorem d_M_readLiteral_294 : decode (cd m_M_readLiteral) 294 = .ok (.iaload, 1) := by decide +kernel
theorem d_M_readLiteral_295 : decode (cd m_M_readLiteral) 295 = .ok (.iconst 1, 1) := by decide +kernel
theorem d_M_readLiteral_296 : decode (cd m_M_readLiteral) 296 = .ok (.iadd, 1) := by decide +kernel
theorem d_M_readLiteral_297 : decode (cd m_M_readLiteral) 297 = .ok (.iastore, 1) := by decide +kernel
theorem d_M_readLiteral_298 : decode (cd m_M_readLiteral) 298 = .ok (.iconst 1, 1) := by decide +kernel
theorem d_M_readLiteral_299 : decode (cd m_M_readLiteral) 299 = .ok (.ireturn, 1) := by decide +kernel
theorem d_M_readLiteral_300 : decode (cd m_M_readLiteral) 300 = .ok (.aload_n 0, 1) := by decide +kernel
theorem d_M_readLiteral_301 : decode (cd m_M_readLiteral) 301 = .ok (.getfield 13, 3) := by decide +kernel
theorem d_M_readLiteral_304 : decode (cd m_M_readLiteral) 304 = .ok (.aload_n 0, 1) := by decide +kernel
theorem d_M_readLiteral_305 : decode (cd m_M_readLiteral) 305 = .ok (.getfield 180, 3) := by decide +kernel
theorem d_M_readLiteral_308 : decode (cd m_M_readLiteral) 308 = .ok (.iaload, 1) := by decide +kernel
theorem d_M_readLiteral_309 : decode (cd m_M_readLiteral) 309 = .ok (.iconst 2, 1) := by decide +kernel
theorem d_M_readLiteral_310 : decode (cd m_M_readLiteral) 310 = .ok (.if_icmp .ne 7, 3) := by decide +kernel
theorem d_M_readLiteral_313 : decode (cd m_M_readLiteral) 313 = .ok (.iconst 1, 1) := by decide +kernel
theorem d_M_readLiteral_314 : decode (cd m_M_readLiteral) 314 = .ok (.goto 4, 3) := by decide +kernel
theorem d_M_readLiteral_317 : decode (cd m_M_readLiteral) 317 = .ok (.iconst 0, 1) := by decide +kernel
theorem d_M_readLiteral_318 : decode (cd m_M_readLiteral) 318 = .ok (.istore 4, 2) := by decide +kernel
theorem d_M_readLiteral_320 : decode (cd m_M_readLiteral) 320 = .ok (.aload_n 0, 1) := by decide +kernel
theorem d_M_readLiteral_321 : decode (cd m_M_readLiteral) 321 = .ok (.invokevirtual 240, 3) := by decide +kernel
theorem d_M_readLiteral_324 : decode (cd m_M_readLiteral) 324 = .ok (.ifCond .ne 5, 3) := by decide +kernel
theorem d_M_readLiteral_327 : decode (cd m_M_readLiteral) 327 = .ok (.iconst 0, 1) := by decide +kernel
theorem d_M_readLiteral_328 : decode (cd m_M_readLiteral) 328 = .ok (.ireturn, 1) := by decide +kernel
theorem d_M_readLiteral_329 : decode (cd m_M_readLiteral) 329 = .ok (.aload_n 0, 1) := by decide +kernel
theorem d_M_readLiteral_330 : decode (cd m_M_readLiteral) 330 = .ok (.iload_n 1, 1) := by decide +kernel
theorem d_M_readLiteral_331 : decode (cd m_M_readLiteral) 331 = .ok (.iconst 0, 1) := by decide +kernel
theorem d_M_readLiteral_332 : decode (cd m_M_readLiteral) 332 = .ok (.invokevirtual 257, 3) := by decide +kernel
theorem d_M_readLiteral_335 : decode (cd m_M_readLiteral) 335 = .ok (.iload 4, 2) := by decide +kernel
theorem d_M_readLiteral_337 : decode (cd m_M_readLiteral) 337 = .ok (.ifCond .eq 166, 3) := by decide +kernel
theorem d_M_readLiteral_340 : decode (cd m_M_readLiteral) 340 = .ok (.aload_n 0, 1) := by decide +kernel
theorem d_M_readLiteral_341 : decode (cd m_M_readLiteral) 341 = .ok (.getfield 13, 3) := by decide +kernel
theorem d_M_readLiteral_344 : decode (cd m_M_readLiteral) 344 = .ok (.aload_n 0, 1) := by decide +kernel
theorem d_M_readLiteral_345 : decode (cd m_M_readLiteral) 345 = .ok (.getfield 180, 3) := by decide +kernel
theorem d_M_readLiteral_348 : decode (cd m_M_readLiteral) 348 = .ok (.iaload, 1) := by decide +kernel
theorem d_M_readLiteral_349 : decode (cd m_M_readLiteral) 349 = .ok (.iconst 5, 1) := by decide +kernel
theorem d_M_readLiteral_350 : decode (cd m_M_readLiteral) 350 = .ok (.if_icmp .ne 153, 3) := by decide +kernel
theorem d_M_readLiteral_353 : decode (cd m_M_readLiteral) 353 = .ok (.aload_n 0, 1) := by decide +kernel
theorem d_M_readLiteral_354 : decode (cd m_M_readLiteral) 354 = .ok (.getfield 19, 3) := by decide +kernel
theorem d_M_readLiteral_357 : decode (cd m_M_readLiteral) 357 = .ok (.aload_n 0, 1) := by decide +kernel
theorem d_M_readLiteral_358 : decode (cd m_M_readLiteral) 358 = .ok (.getfield 180, 3) := by decide +kernel
theorem d_M_readLiteral_361 : decode (cd m_M_readLiteral) 361 = .ok (.iaload, 1) := by decide +kernel
theorem d_M_readLiteral_362 : decode (cd m_M_readLiteral) 362 = .ok (.iconst 1, 1) := by decide +kernel
theorem d_M_readLiteral_363 : decode (cd m_M_readLiteral) 363 = .ok (.if_icmp .ne 140, 3) := by decide +kernel
theorem d_M_readLiteral_366 : decode (cd m_M_readLiteral) 366 = .ok (.aload_n 0, 1) := by decide +kernel
theorem d_M_readLiteral_367 : decode (cd m_M_readLiteral) 367 = .ok (.dup, 1) := by decide +kernel
theorem d_M_readLiteral_368 : decode (cd m_M_readLiteral) 368 = .ok (.getfield 180, 3) := by decide +kernel
theorem d_M_readLiteral_371 : decode (cd m_M_readLiteral) 371 = .ok (.iconst 1, 1) := by decide +kernel
theorem d_M_readLiteral_372 : decode (cd m_M_readLiteral) 372 = .ok (.iadd, 1) := by decide +kernel
theorem d_M_readLiteral_373 : decode (cd m_M_readLiteral) 373 = .ok (.putfield 180, 3) := by decide +kernel
theorem d_M_readLiteral_376 : decode (cd m_M_readLiteral) 376 = .ok (.aload_n 0, 1) := by decide +kernel
theorem d_M_readLiteral_377 : decode (cd m_M_readLiteral) 377 = .ok (.getfield 62, 3) := by decide +kernel
theorem d_M_readLiteral_380 : decode (cd m_M_readLiteral) 380 = .ok (.iload_n 1, 1) := by decide +kernel
theorem d_M_readLiteral_381 : decode (cd m_M_readLiteral) 381 = .ok (.iconst 3, 1) := by decide +kernel
theorem d_M_readLiteral_382 : decode (cd m_M_readLiteral) 382 = .ok (.iastore, 1) := by decide +kernel
theorem d_M_readLiteral_383 : decode (cd m_M_readLiteral) 383 = .ok (.aload_n 0, 1) := by decide +kernel
theorem d_M_readLiteral_384 : decode (cd m_M_readLiteral) 384 = .ok (.invokevirtual 240, 3) := by decide +kernel
theorem d_M_readLiteral_387 : decode (cd m_M_readLiteral) 387 = .ok (.ifCond .ne 5, 3) := by decide +kernel
theorem d_M_readLiteral_390 : decode (cd m_M_readLiteral) 390 = .ok (.iconst 0, 1) := by decide +kernel
theorem d_M_readLiteral_391 : decode (cd m_M_readLiteral) 391 = .ok (.ireturn, 1) := by decide +kernel
theorem d_M_readLiteral_392 : decode (cd m_M_readLiteral) 392 = .ok (.aload_n 0, 1) := by decide +kernel
theorem d_M_readLiteral_393 : decode (cd m_M_readLiteral) 393 = .ok (.iload_n 1, 1) := by decide +kernel
theorem d_M_readLiteral_394 : decode (cd m_M_readLiteral) 394 = .ok (.iconst 1, 1) := by decide +kernel
theorem d_M_readLiteral_395 : decode (cd m_M_readLiteral) 395 = .ok (.invokevirtual 257, 3) := by decide +kernel
theorem d_M_readLiteral_398 : decode (cd m_M_readLiteral) 398 = .ok (.aload_n 0, 1) := by decide +kernel
theorem d_M_readLiteral_399 : decode (cd m_M_readLiteral) 399 = .ok (.bipush 43, 2) := by decide +kernel
theorem d_M_readLiteral_401 : decode (cd m_M_readLiteral) 401 = .ok (.invokevirtual 186, 3) := by decide +kernel
theorem d_M_readLiteral_404 : decode (cd m_M_readLiteral) 404 = .ok (.ifCond .ne 39, 3) := by decide +kernel
theorem d_M_readLiteral_407 : decode (cd m_M_readLiteral) 407 = .ok (.aload_n 0, 1) := by decide +kernel
theorem d_M_readLiteral_408 : decode (cd m_M_readLiteral) 408 = .ok (.bipush 45, 2) := by decide +kernel
theorem d_M_readLiteral_410 : decode (cd m_M_readLiteral) 410 = .ok (.invokevirtual 186, 3) := by decide +kernel
theorem d_M_readLiteral_413 : decode (cd m_M_readLiteral) 413 = .ok (.ifCond .ne 30, 3) := by decide +kernel
theorem d_M_readLiteral_416 : decode (cd m_M_readLiteral) 416 = .ok (.aload_n 0, 1) := by decide +kernel
theorem d_M_readLiteral_417 : decode (cd m_M_readLiteral) 417 = .ok (.bipush 42, 2) := by decide +kernel
theorem d_M_readLiteral_419 : decode (cd m_M_readLiteral) 419 = .ok (.invokevirtual 186, 3) := by decide +kernel
theorem d_M_readLiteral_422 : decode (cd m_M_readLiteral) 422 = .ok (.ifCond .ne 21, 3) := by decide +kernel
theorem d_M_readLiteral_425 : decode (cd m_M_readLiteral) 425 = .ok (.aload_n 0, 1) := by decide +kernel
theorem d_M_readLiteral_426 : decode (cd m_M_readLiteral) 426 = .ok (.bipush 47, 2) := by decide +kernel
theorem d_M_readLiteral_428 : decode (cd m_M_readLiteral) 428 = .ok (.invokevirtual 186, 3) := by decide +kernel
theorem d_M_readLiteral_431 : decode (cd m_M_readLiteral) 431 = .ok (.ifCond .ne 12, 3) := by decide +kernel
theorem d_M_readLiteral_434 : decode (cd m_M_readLiteral) 434 = .ok (.aload_n 0, 1) := by decide +kernel
theorem d_M_readLiteral_435 : decode (cd m_M_readLiteral) 435 = .ok (.bipush 37, 2) := by decide +kernel
theorem d_M_readLiteral_437 : decode (cd m_M_readLiteral) 437 = .ok (.invokevirtual 186, 3) := by decide +kernel
theorem d_M_readLiteral_440 : decode (cd m_M_readLiteral) 440 = .ok (.ifCond .eq 7, 3) := by decide +kernel
theorem d_M_readLiteral_443 : decode (cd m_M_readLiteral) 443 = .ok (.iconst 1, 1) := by decide +kernel
theorem d_M_readLiteral_444 : decode (cd m_M_readLiteral) 444 = .ok (.goto 4, 3) := by decide +kernel
theorem d_M_readLiteral_447 : decode (cd m_M_readLiteral) 447 = .ok (.iconst 0, 1) := by decide +kernel
theorem d_M_readLiteral_448 : decode (cd m_M_readLiteral) 448 = .ok (.istore 5, 2) := by decide +kernel
theorem d_M_readLiteral_450 : decode (cd m_M_readLiteral) 450 = .ok (.iload 5, 2) := by decide +kernel
theorem d_M_readLiteral_452 : decode (cd m_M_readLiteral) 452 = .ok (.ifCond .ne 8, 3) := by decide +kernel
theorem d_M_readLiteral_455 : decode (cd m_M_readLiteral) 455 = .ok (.aload_n 0, 1) := by decide +kernel
theorem d_M_readLiteral_456 : decode (cd m_M_readLiteral) 456 = .ok (.invokevirtual 192, 3) := by decide +kernel
theorem d_M_readLiteral_459 : decode (cd m_M_readLiteral) 459 = .ok (.ireturn, 1) := by decide +kernel
theorem d_M_readLiteral_460 : decode (cd m_M_readLiteral) 460 = .ok (.aload_n 0, 1) := by decide +kernel
theorem d_M_readLiteral_461 : decode (cd m_M_readLiteral) 461 = .ok (.getfield 65, 3) := by decide +kernel
theorem d_M_readLiteral_464 : decode (cd m_M_readLiteral) 464 = .ok (.iload_n 1, 1) := by decide +kernel
theorem d_M_readLiteral_465 : decode (cd m_M_readLiteral) 465 = .ok (.aload_n 0, 1) := by decide +kernel
theorem d_M_readLiteral_466 : decode (cd m_M_readLiteral) 466 = .ok (.getfield 19, 3) := by decide +kernel
theorem d_M_readLiteral_469 : decode (cd m_M_readLiteral) 469 = .ok (.aload_n 0, 1) := by decide +kernel
theorem d_M_readLiteral_470 : decode (cd m_M_readLiteral) 470 = .ok (.getfield 180, 3) := by decide +kernel
theorem d_M_readLiteral_473 : decode (cd m_M_readLiteral) 473 = .ok (.iaload, 1) := by decide +kernel
theorem d_M_readLiteral_474 : decode (cd m_M_readLiteral) 474 = .ok (.iastore, 1) := by decide +kernel
theorem d_M_readLiteral_475 : decode (cd m_M_readLiteral) 475 = .ok (.aload_n 0, 1) := by decide +kernel
theorem d_M_readLiteral_476 : decode (cd m_M_readLiteral) 476 = .ok (.dup, 1) := by decide +kernel
theorem d_M_readLiteral_477 : decode (cd m_M_readLiteral) 477 = .ok (.getfield 180, 3) := by decide +kernel
theorem d_M_readLiteral_480 : decode (cd m_M_readLiteral) 480 = .ok (.iconst 1, 1) := by decide +kernel
theorem d_M_readLiteral_481 : decode (cd m_M_readLiteral) 481 = .ok (.iadd, 1) := by decide +kernel
theorem d_M_readLiteral_482 : decode (cd m_M_readLiteral) 482 = .ok (.putfield 180, 3) := by decide +kernel
theorem d_M_readLiteral_485 : decode (cd m_M_readLiteral) 485 = .ok (.aload_n 0, 1) := by decide +kernel
theorem d_M_readLiteral_486 : decode (cd m_M_readLiteral) 486 = .ok (.invokevirtual 240, 3) := by decide +kernel
theorem d_M_readLiteral_489 : decode (cd m_M_readLiteral) 489 = .ok (.ifCond .ne 5, 3) := by decide +kernel
theorem d_M_readLiteral_492 : decode (cd m_M_readLiteral) 492 = .ok (.iconst 0, 1) := by decide +kernel
theorem d_M_readLiteral_493 : decode (cd m_M_readLiteral) 493 = .ok (.ireturn, 1) := by decide +kernel
theorem d_M_readLiteral_494 : decode (cd m_M_readLiteral) 494 = .ok (.aload_n 0, 1) := by decide +kernel
theorem d_M_readLiteral_495 : decode (cd m_M_readLiteral) 495 = .ok (.iload_n 1, 1) := by decide +kernel
theorem d_M_readLiteral_496 : decode (cd m_M_readLiteral) 496 = .ok (.iconst 2, 1) := by decide +kernel
theorem d_M_readLiteral_497 : decode (cd m_M_readLiteral) 497 = .ok (.invokevirtual 257, 3) := by decide +kernel
theorem d_M_readLiteral_500 : decode (cd m_M_readLiteral) 500 = .ok (.goto 57, 3) := by decide +kernel
theorem d_M_readLiteral_503 : decode (cd m_M_readLiteral) 503 = .ok (.aload_n 0, 1) := by decide +kernel
theorem d_M_readLiteral_504 : decode (cd m_M_readLiteral) 504 = .ok (.invokevirtual 260, 3) := by decide +kernel
theorem d_M_readLiteral_507 : decode (cd m_M_readLiteral) 507 = .ok (.ifCond .ne 8, 3) := by decide +kernel
theorem d_M_readLiteral_510 : decode (cd m_M_readLiteral) 510 = .ok (.aload_n 0, 1) := by decide +kernel
theorem d_M_readLiteral_511 : decode (cd m_M_readLiteral) 511 = .ok (.invokevirtual 192, 3) := by decide +kernel
theorem d_M_readLiteral_514 : decode (cd m_M_readLiteral) 514 = .ok (.ireturn, 1) := by decide +kernel
theorem d_M_readLiteral_515 : decode (cd m_M_readLiteral) 515 = .ok (.aload_n 0, 1) := by decide +kernel
theorem d_M_readLiteral_516 : decode (cd m_M_readLiteral) 516 = .ok (.getfield 62, 3) := by decide +kernel
theorem d_M_readLiteral_519 : decode (cd m_M_readLiteral) 519 = .ok (.iload_n 1, 1) := by decide +kernel
theorem d_M_readLiteral_520 : decode (cd m_M_readLiteral) 520 = .ok (.iconst 2, 1) := by decide +kernel
theorem d_M_readLiteral_521 : decode (cd m_M_readLiteral) 521 = .ok (.iastore, 1) := by decide +kernel
theorem d_M_readLiteral_522 : decode (cd m_M_readLiteral) 522 = .ok (.aload_n 0, 1) := by decide +kernel
theorem d_M_readLiteral_523 : decode (cd m_M_readLiteral) 523 = .ok (.getfield 65, 3) := by decide +kernel
theorem d_M_readLiteral_526 : decode (cd m_M_readLiteral) 526 = .ok (.iload_n 1, 1) := by decide +kernel
theorem d_M_readLiteral_527 : decode (cd m_M_readLiteral) 527 = .ok (.aload_n 0, 1) := by decide +kernel
theorem d_M_readLiteral_528 : decode (cd m_M_readLiteral) 528 = .ok (.invokevirtual 260, 3) := by decide +kernel
theorem d_M_readLiteral_531 : decode (cd m_M_readLiteral) 531 = .ok (.iastore, 1) := by decide +kernel
theorem d_M_readLiteral_532 : decode (cd m_M_readLiteral) 532 = .ok (.aload_n 0, 1) := by decide +kernel
theorem d_M_readLiteral_533 : decode (cd m_M_readLiteral) 533 = .ok (.dup, 1) := by decide +kernel
theorem d_M_readLiteral_534 : decode (cd m_M_readLiteral) 534 = .ok (.getfield 180, 3) := by decide +kernel
theorem d_M_readLiteral_537 : decode (cd m_M_readLiteral) 537 = .ok (.iconst 1, 1) := by decide +kernel
theorem d_M_readLiteral_538 : decode (cd m_M_readLiteral) 538 = .ok (.iadd, 1) := by decide +kernel
theorem d_M_readLiteral_539 : decode (cd m_M_readLiteral) 539 = .ok (.putfield 180, 3) := by decide +kernel
theorem d_M_readLiteral_542 : decode (cd m_M_readLiteral) 542 = .ok (.aload_n 0, 1) := by decide +kernel
theorem d_M_readLiteral_543 : decode (cd m_M_readLiteral) 543 = .ok (.invokevirtual 240, 3) := by decide +kernel
theorem d_M_readLiteral_546 : decode (cd m_M_readLiteral) 546 = .ok (.ifCond .ne 5, 3) := by decide +kernel
theorem d_M_readLiteral_549 : decode (cd m_M_readLiteral) 549 = .ok (.iconst 0, 1) := by decide +kernel
theorem d_M_readLiteral_550 : decode (cd m_M_readLiteral) 550 = .ok (.ireturn, 1) := by decide +kernel
theorem d_M_readLiteral_551 : decode (cd m_M_readLiteral) 551 = .ok (.aload_n 0, 1) := by decide +kernel
theorem d_M_readLiteral_552 : decode (cd m_M_readLiteral) 552 = .ok (.iload_n 1, 1) := by decide +kernel
theorem d_M_readLiteral_553 : decode (cd m_M_readLiteral) 553 = .ok (.iconst 1, 1) := by decide +kernel
theorem d_M_readLiteral_554 : decode (cd m_M_readLiteral) 554 = .ok (.invokevirtual 257, 3) := by decide +kernel
theorem d_M_readLiteral_557 : decode (cd m_M_readLiteral) 557 = .ok (.aload_n 0, 1) := by decide +kernel
theorem d_M_readLiteral_558 : decode (cd m_M_readLiteral) 558 = .ok (.getfield 56, 3) := by decide +kernel
theorem d_M_readLiteral_561 : decode (cd m_M_readLiteral) 561 = .ok (.aload_n 0, 1) := by decide +kernel
theorem d_M_readLiteral_562 : decode (cd m_M_readLiteral) 562 = .ok (.getfield 196, 3) := by decide +kernel
theorem d_M_readLiteral_565 : decode (cd m_M_readLiteral) 565 = .ok (.dup2, 1) := by decide +kernel
theorem d_M_readLiteral_566 : decode (cd m_M_readLiteral) 566 = .ok (.iaload, 1) := by decide +kernel
theorem d_M_readLiteral_567 : decode (cd m_M_readLiteral) 567 = .ok (.iconst 1, 1) := by decide +kernel
theorem d_M_readLiteral_568 : decode (cd m_M_readLiteral) 568 = .ok (.iadd, 1) := by decide +kernel
theorem d_M_readLiteral_569 : decode (cd m_M_readLiteral) 569 = .ok (.iastore, 1) := by decide +kernel
theorem d_M_readLiteral_570 : decode (cd m_M_readLiteral) 570 = .ok (.iconst 1, 1) := by decide +kernel
theorem d_M_readLiteral_571 : decode (cd m_M_readLiteral) 571 = .ok (.ireturn, 1) := by decide +kernel
theorem d_M_readBody_0 : decode (cd m_M_readBody) 0 = .ok (.aload_n 0, 1) := by decide +kernel
theorem d_M_readBody_1 : decode (cd m_M_readBody) 1 = .ok (.iconst 0, 1) := by decide +kernel
theorem d_M_readBody_2 : decode (cd m_M_readBody) 2 = .ok (.putfield 250, 3) := by decide +kernel
theorem d_M_readBody_5 : decode (cd m_M_readBody) 5 = .ok (.aload_n 0, 1) := by decide +kernel
theorem d_M_readBody_6 : decode (cd m_M_readBody) 6 = .ok (.invokevirtual 264, 3) := by decide +kernel
theorem d_M_readBody_9 : decode (cd m_M_readBody) 9 = .ok (.ifCond .ne 5, 3) := by decide +kernel
theorem d_M_readBody_12 : decode (cd m_M_readBody) 12 = .ok (.iconst 0, 1) := by decide +kernel
theorem d_M_readBody_13 : decode (cd m_M_readBody) 13 = .ok (.ireturn, 1) := by decide +kernel
theorem d_M_readBody_14 : decode (cd m_M_readBody) 14 = .ok (.aload_n 0, 1) := by decide +kernel
theorem d_M_readBody_15 : decode (cd m_M_readBody) 15 = .ok (.bipush 44, 2) := by decide +kernel
theorem d_M_readBody_17 : decode (cd m_M_readBody) 17 = .ok (.invokevirtual 189, 3) := by decide +kernel
theorem d_M_readBody_20 : decode (cd m_M_readBody) 20 = .ok (.ifCond .ne (-15), 3) := by decide +kernel
theorem d_M_readBody_23 : decode (cd m_M_readBody) 23 = .ok (.iconst 1, 1) := by decide +kernel
theorem d_M_readBody_24 : decode (cd m_M_readBody) 24 = .ok (.ireturn, 1) := by decide +kernel
theorem d_M_isBound_0 : decode (cd m_M_isBound) 0 = .ok (.aload_n 0, 1) := by decide +kernel
theorem d_M_isBound_1 : decode (cd m_M_isBound) 1 = .ok (.getfield 68, 3) := by decide +kernel
theorem d_M_isBound_4 : decode (cd m_M_isBound) 4 = .ok (.iconst 4, 1) := by decide +kernel
theorem d_M_isBound_5 : decode (cd m_M_isBound) 5 = .ok (.iload_n 1, 1) := by decide +kernel
theorem d_M_isBound_6 : decode (cd m_M_isBound) 6 = .ok (.imul, 1) := by decide +kernel
theorem d_M_isBound_7 : decode (cd m_M_isBound) 7 = .ok (.iload_n 2, 1) := by decide +kernel
theorem d_M_isBound_8 : decode (cd m_M_isBound) 8 = .ok (.iadd, 1) := by decide +kernel
theorem d_M_isBound_9 : decode (cd m_M_isBound) 9 = .ok (.iaload, 1) := by decide +kernel
theorem d_M_isBound_10 : decode (cd m_M_isBound) 10 = .ok (.ifCond .eq 36, 3) := by decide +kernel
theorem d_M_isBound_13 : decode (cd m_M_isBound) 13 = .ok (.aload_n 0, 1) := by decide +kernel
theorem d_M_isBound_14 : decode (cd m_M_isBound) 14 = .ok (.getfield 68, 3) := by decide +kernel
theorem d_M_isBound_17 : decode (cd m_M_isBound) 17 = .ok (.iconst 4, 1) := by decide +kernel
theorem d_M_isBound_18 : decode (cd m_M_isBound) 18 = .ok (.iload_n 1, 1) := by decide +kernel
theorem d_M_isBound_19 : decode (cd m_M_isBound) 19 = .ok (.imul, 1) := by decide +kernel
theorem d_M_isBound_20 : decode (cd m_M_isBound) 20 = .ok (.iload_n 2, 1) := by decide +kernel
theorem d_M_isBound_21 : decode (cd m_M_isBound) 21 = .ok (.iadd, 1) := by decide +kernel
theorem d_M_isBound_22 : decode (cd m_M_isBound) 22 = .ok (.iaload, 1) := by decide +kernel
theorem d_M_isBound_23 : decode (cd m_M_isBound) 23 = .ok (.iconst 1, 1) := by decide +kernel
theorem d_M_isBound_24 : decode (cd m_M_isBound) 24 = .ok (.if_icmp .ne 26, 3) := by decide +kernel
theorem d_M_isBound_27 : decode (cd m_M_isBound) 27 = .ok (.aload_n 0, 1) := by decide +kernel
theorem d_M_isBound_28 : decode (cd m_M_isBound) 28 = .ok (.getfield 89, 3) := by decide +kernel
theorem d_M_isBound_31 : decode (cd m_M_isBound) 31 = .ok (.aload_n 0, 1) := by decide +kernel
theorem d_M_isBound_32 : decode (cd m_M_isBound) 32 = .ok (.getfield 71, 3) := by decide +kernel
theorem d_M_isBound_35 : decode (cd m_M_isBound) 35 = .ok (.iconst 4, 1) := by decide +kernel
theorem d_M_isBound_36 : decode (cd m_M_isBound) 36 = .ok (.iload_n 1, 1) := by decide +kernel
theorem d_M_isBound_37 : decode (cd m_M_isBound) 37 = .ok (.imul, 1) := by decide +kernel
theorem d_M_isBound_38 : decode (cd m_M_isBound) 38 = .ok (.iload_n 2, 1) := by decide +kernel
theorem d_M_isBound_39 : decode (cd m_M_isBound) 39 = .ok (.iadd, 1) := by decide +kernel
theorem d_M_isBound_40 : decode (cd m_M_isBound) 40 = .ok (.laload, 1) := by decide +kernel
theorem d_M_isBound_41 : decode (cd m_M_isBound) 41 = .ok (.l2i, 1) := by decide +kernel
theorem d_M_isBound_42 : decode (cd m_M_isBound) 42 = .ok (.baload, 1) := by decide +kernel
theorem d_M_isBound_43 : decode (cd m_M_isBound) 43 = .ok (.ifCond .eq 7, 3) := by decide +kernel
theorem d_M_isBound_46 : decode (cd m_M_isBound) 46 = .ok (.iconst 1, 1) := by decide +kernel
theorem d_M_isBound_47 : decode (cd m_M_isBound) 47 = .ok (.goto 4, 3) := by decide +kernel
theorem d_M_isBound_50 : decode (cd m_M_isBound) 50 = .ok (.iconst 0, 1) := by decide +kernel
theorem d_M_isBound_51 : decode (cd m_M_isBound) 51 = .ok (.ireturn, 1) := by decide +kernel
theorem d_M_bind_0 : decode (cd m_M_bind) 0 = .ok (.aload_n 0, 1) := by decide +kernel
theorem d_M_bind_1 : decode (cd m_M_bind) 1 = .ok (.getfield 68, 3) := by decide +kernel
theorem d_M_bind_4 : decode (cd m_M_bind) 4 = .ok (.iconst 4, 1) := by decide +kernel
theorem d_M_bind_5 : decode (cd m_M_bind) 5 = .ok (.iload_n 1, 1) := by decide +kernel
theorem d_M_bind_6 : decode (cd m_M_bind) 6 = .ok (.imul, 1) := by decide +kernel
theorem d_M_bind_7 : decode (cd m_M_bind) 7 = .ok (.iload_n 2, 1) := by decide +kernel
theorem d_M_bind_8 : decode (cd m_M_bind) 8 = .ok (.iadd, 1) := by decide +kernel
theorem d_M_bind_9 : decode (cd m_M_bind) 9 = .ok (.iaload, 1) := by decide +kernel
theorem d_M_bind_10 : decode (cd m_M_bind) 10 = .ok (.iconst 1, 1) := by decide +kernel
theorem d_M_bind_11 : decode (cd m_M_bind) 11 = .ok (.if_icmp .ne 20, 3) := by decide +kernel
theorem d_M_bind_14 : decode (cd m_M_bind) 14 = .ok (.aload_n 0, 1) := by decide +kernel
theorem d_M_bind_15 : decode (cd m_M_bind) 15 = .ok (.getfield 89, 3) := by decide +kernel
theorem d_M_bind_18 : decode (cd m_M_bind) 18 = .ok (.aload_n 0, 1) := by decide +kernel
theorem d_M_bind_19 : decode (cd m_M_bind) 19 = .ok (.getfield 71, 3) := by decide +kernel
theorem d_M_bind_22 : decode (cd m_M_bind) 22 = .ok (.iconst 4, 1) := by decide +kernel
theorem d_M_bind_23 : decode (cd m_M_bind) 23 = .ok (.iload_n 1, 1) := by decide +kernel
theorem d_M_bind_24 : decode (cd m_M_bind) 24 = .ok (.imul, 1) := by decide +kernel
theorem d_M_bind_25 : decode (cd m_M_bind) 25 = .ok (.iload_n 2, 1) := by decide +kernel
theorem d_M_bind_26 : decode (cd m_M_bind) 26 = .ok (.iadd, 1) := by decide +kernel
theorem d_M_bind_27 : decode (cd m_M_bind) 27 = .ok (.laload, 1) := by decide +kernel
theorem d_M_bind_28 : decode (cd m_M_bind) 28 = .ok (.l2i, 1) := by decide +kernel
theorem d_M_bind_29 : decode (cd m_M_bind) 29 = .ok (.iconst 1, 1) := by decide +kernel
theorem d_M_bind_30 : decode (cd m_M_bind) 30 = .ok (.bastore, 1) := by decide +kernel
theorem d_M_bind_31 : decode (cd m_M_bind) 31 = .ok (.return_, 1) := by decide +kernel
theorem d_M_lookBound_0 : decode (cd m_M_lookBound) 0 = .ok (.iconst 0, 1) := by decide +kernel
theorem d_M_lookBound_1 : decode (cd m_M_lookBound) 1 = .ok (.istore_n 1, 1) := by decide +kernel
theorem d_M_lookBound_2 : decode (cd m_M_lookBound) 2 = .ok (.iload_n 1, 1) := by decide +kernel
theorem d_M_lookBound_3 : decode (cd m_M_lookBound) 3 = .ok (.bipush 9, 2) := by decide +kernel
theorem d_M_lookBound_5 : decode (cd m_M_lookBound) 5 = .ok (.if_icmp .ge 16, 3) := by decide +kernel
theorem d_M_lookBound_8 : decode (cd m_M_lookBound) 8 = .ok (.aload_n 0, 1) := by decide +kernel
theorem d_M_lookBound_9 : decode (cd m_M_lookBound) 9 = .ok (.getfield 89, 3) := by decide +kernel
theorem d_M_lookBound_12 : decode (cd m_M_lookBound) 12 = .ok (.iload_n 1, 1) := by decide +kernel
theorem d_M_lookBound_13 : decode (cd m_M_lookBound) 13 = .ok (.iconst 0, 1) := by decide +kernel
theorem d_M_lookBound_14 : decode (cd m_M_lookBound) 14 = .ok (.bastore, 1) := by decide +kernel
theorem d_M_lookBound_15 : decode (cd m_M_lookBound) 15 = .ok (.iinc 1 1, 3) := by decide +kernel
theorem d_M_lookBound_18 : decode (cd m_M_lookBound) 18 = .ok (.goto (-16), 3) := by decide +kernel
theorem d_M_lookBound_21 : decode (cd m_M_lookBound) 21 = .ok (.bipush 6, 2) := by decide +kernel
theorem d_M_lookBound_23 : decode (cd m_M_lookBound) 23 = .ok (.aload_n 0, 1) := by decide +kernel
theorem d_M_lookBound_24 : decode (cd m_M_lookBound) 24 = .ok (.getfield 196, 3) := by decide +kernel
theorem d_M_lookBound_27 : decode (cd m_M_lookBound) 27 = .ok (.imul, 1) := by decide +kernel
theorem d_M_lookBound_28 : decode (cd m_M_lookBound) 28 = .ok (.istore_n 1, 1) := by decide +kernel
theorem d_M_lookBound_29 : decode (cd m_M_lookBound) 29 = .ok (.iload_n 1, 1) := by decide +kernel
theorem d_M_lookBound_30 : decode (cd m_M_lookBound) 30 = .ok (.aload_n 0, 1) := by decide +kernel
theorem d_M_lookBound_31 : decode (cd m_M_lookBound) 31 = .ok (.getfield 56, 3) := by decide +kernel
theorem d_M_lookBound_34 : decode (cd m_M_lookBound) 34 = .ok (.aload_n 0, 1) := by decide +kernel
theorem d_M_lookBound_35 : decode (cd m_M_lookBound) 35 = .ok (.getfield 196, 3) := by decide +kernel
theorem d_M_lookBound_38 : decode (cd m_M_lookBound) 38 = .ok (.iaload, 1) := by decide +kernel
theorem d_M_lookBound_39 : decode (cd m_M_lookBound) 39 = .ok (.iadd, 1) := by decide +kernel
theorem d_M_lookBound_40 : decode (cd m_M_lookBound) 40 = .ok (.istore_n 2, 1) := by decide +kernel
theorem d_M_lookBound_41 : decode (cd m_M_lookBound) 41 = .ok (.iload_n 1, 1) := by decide +kernel
theorem d_M_lookBound_42 : decode (cd m_M_lookBound) 42 = .ok (.istore_n 3, 1) := by decide +kernel
theorem d_M_lookBound_43 : decode (cd m_M_lookBound) 43 = .ok (.iload_n 3, 1) := by decide +kernel
theorem d_M_lookBound_44 : decode (cd m_M_lookBound) 44 = .ok (.iload_n 2, 1) := by decide +kernel
theorem d_M_lookBound_45 : decode (cd m_M_lookBound) 45 = .ok (.if_icmp .ge 44, 3) := by decide +kernel
theorem d_M_lookBound_48 : decode (cd m_M_lookBound) 48 = .ok (.aload_n 0, 1) := by decide +kernel
theorem d_M_lookBound_49 : decode (cd m_M_lookBound) 49 = .ok (.getfield 62, 3) := by decide +kernel
theorem d_M_lookBound_52 : decode (cd m_M_lookBound) 52 = .ok (.iload_n 3, 1) := by decide +kernel
theorem d_M_lookBound_53 : decode (cd m_M_lookBound) 53 = .ok (.iaload, 1) := by decide +kernel
theorem d_M_lookBound_54 : decode (cd m_M_lookBound) 54 = .ok (.ifCond .ne 29, 3) := by decide +kernel
theorem d_M_lookBound_57 : decode (cd m_M_lookBound) 57 = .ok (.iconst 0, 1) := by decide +kernel
theorem d_M_lookBound_58 : decode (cd m_M_lookBound) 58 = .ok (.istore 4, 2) := by decide +kernel
theorem d_M_lookBound_60 : decode (cd m_M_lookBound) 60 = .ok (.iload 4, 2) := by decide +kernel
theorem d_M_lookBound_62 : decode (cd m_M_lookBound) 62 = .ok (.aload_n 0, 1) := by decide +kernel
theorem d_M_lookBound_63 : decode (cd m_M_lookBound) 63 = .ok (.iload_n 3, 1) := by decide +kernel
theorem d_M_lookBound_64 : decode (cd m_M_lookBound) 64 = .ok (.invokevirtual 267, 3) := by decide +kernel
theorem d_M_lookBound_67 : decode (cd m_M_lookBound) 67 = .ok (.if_icmp .ge 16, 3) := by decide +kernel
theorem d_M_lookBound_70 : decode (cd m_M_lookBound) 70 = .ok (.aload_n 0, 1) := by decide +kernel
theorem d_M_lookBound_71 : decode (cd m_M_lookBound) 71 = .ok (.iload_n 3, 1) := by decide +kernel
theorem d_M_lookBound_72 : decode (cd m_M_lookBound) 72 = .ok (.iload 4, 2) := by decide +kernel
theorem d_M_lookBound_74 : decode (cd m_M_lookBound) 74 = .ok (.invokevirtual 270, 3) := by decide +kernel
theorem d_M_lookBound_77 : decode (cd m_M_lookBound) 77 = .ok (.iinc 4 1, 3) := by decide +kernel
theorem d_M_lookBound_80 : decode (cd m_M_lookBound) 80 = .ok (.goto (-20), 3) := by decide +kernel
theorem d_M_lookBound_83 : decode (cd m_M_lookBound) 83 = .ok (.iinc 3 1, 3) := by decide +kernel
theorem d_M_lookBound_86 : decode (cd m_M_lookBound) 86 = .ok (.goto (-43), 3) := by decide +kernel
theorem d_M_lookBound_89 : decode (cd m_M_lookBound) 89 = .ok (.iconst 1, 1) := by decide +kernel
theorem d_M_lookBound_90 : decode (cd m_M_lookBound) 90 = .ok (.istore_n 3, 1) := by decide +kernel
theorem d_M_lookBound_91 : decode (cd m_M_lookBound) 91 = .ok (.iload_n 3, 1) := by decide +kernel
theorem d_M_lookBound_92 : decode (cd m_M_lookBound) 92 = .ok (.ifCond .eq 129, 3) := by decide +kernel
theorem d_M_lookBound_95 : decode (cd m_M_lookBound) 95 = .ok (.iconst 0, 1) := by decide +kernel
theorem d_M_lookBound_96 : decode (cd m_M_lookBound) 96 = .ok (.istore_n 3, 1) := by decide +kernel
theorem d_M_lookBound_97 : decode (cd m_M_lookBound) 97 = .ok (.iload_n 1, 1) := by decide +kernel
theorem d_M_lookBound_98 : decode (cd m_M_lookBound) 98 = .ok (.istore 4, 2) := by decide +kernel
theorem d_M_lookBound_100 : decode (cd m_M_lookBound) 100 = .ok (.iload 4, 2) := by decide +kernel
theorem d_M_lookBound_102 : decode (cd m_M_lookBound) 102 = .ok (.iload_n 2, 1) := by decide +kernel
theorem d_M_lookBound_103 : decode (cd m_M_lookBound) 103 = .ok (.if_icmp .ge 115, 3) := by decide +kernel
theorem d_M_lookBound_106 : decode (cd m_M_lookBound) 106 = .ok (.aload_n 0, 1) := by decide +kernel
theorem d_M_lookBound_107 : decode (cd m_M_lookBound) 107 = .ok (.getfield 62, 3) := by decide +kernel
theorem d_M_lookBound_110 : decode (cd m_M_lookBound) 110 = .ok (.iload 4, 2) := by decide +kernel
theorem d_M_lookBound_112 : decode (cd m_M_lookBound) 112 = .ok (.iaload, 1) := by decide +kernel
theorem d_M_lookBound_113 : decode (cd m_M_lookBound) 113 = .ok (.iconst 3, 1) := by decide +kernel
theorem d_M_lookBound_114 : decode (cd m_M_lookBound) 114 = .ok (.if_icmp .ne 42, 3) := by decide +kernel
theorem d_M_lookBound_117 : decode (cd m_M_lookBound) 117 = .ok (.aload_n 0, 1) := by decide +kernel
theorem d_M_lookBound_118 : decode (cd m_M_lookBound) 118 = .ok (.iload 4, 2) := by decide +kernel
theorem d_M_lookBound_120 : decode (cd m_M_lookBound) 120 = .ok (.iconst 0, 1) := by decide +kernel
theorem d_M_lookBound_121 : decode (cd m_M_lookBound) 121 = .ok (.invokevirtual 273, 3) := by decide +kernel
theorem d_M_lookBound_124 : decode (cd m_M_lookBound) 124 = .ok (.ifCond .ne 32, 3) := by decide +kernel
theorem d_M_lookBound_127 : decode (cd m_M_lookBound) 127 = .ok (.aload_n 0, 1) := by decide +kernel
theorem d_M_lookBound_128 : decode (cd m_M_lookBound) 128 = .ok (.iload 4, 2) := by decide +kernel
theorem d_M_lookBound_130 : decode (cd m_M_lookBound) 130 = .ok (.iconst 1, 1) := by decide +kernel
theorem d_M_lookBound_131 : decode (cd m_M_lookBound) 131 = .ok (.invokevirtual 273, 3) := by decide +kernel
theorem d_M_lookBound_134 : decode (cd m_M_lookBound) 134 = .ok (.ifCond .eq 22, 3) := by decide +kernel
theorem d_M_lookBound_137 : decode (cd m_M_lookBound) 137 = .ok (.aload_n 0, 1) := by decide +kernel
theorem d_M_lookBound_138 : decode (cd m_M_lookBound) 138 = .ok (.iload 4, 2) := by decide +kernel
theorem d_M_lookBound_140 : decode (cd m_M_lookBound) 140 = .ok (.iconst 2, 1) := by decide +kernel
theorem d_M_lookBound_141 : decode (cd m_M_lookBound) 141 = .ok (.invokevirtual 273, 3) := by decide +kernel
theorem d_M_lookBound_144 : decode (cd m_M_lookBound) 144 = .ok (.ifCond .eq 12, 3) := by decide +kernel
theorem d_M_lookBound_147 : decode (cd m_M_lookBound) 147 = .ok (.aload_n 0, 1) := by decide +kernel
theorem d_M_lookBound_148 : decode (cd m_M_lookBound) 148 = .ok (.iload 4, 2) := by decide +kernel
theorem d_M_lookBound_150 : decode (cd m_M_lookBound) 150 = .ok (.iconst 0, 1) := by decide +kernel
theorem d_M_lookBound_151 : decode (cd m_M_lookBound) 151 = .ok (.invokevirtual 270, 3) := by decide +kernel
theorem d_M_lookBound_154 : decode (cd m_M_lookBound) 154 = .ok (.iconst 1, 1) := by decide +kernel
theorem d_M_lookBound_155 : decode (cd m_M_lookBound) 155 = .ok (.istore_n 3, 1) := by decide +kernel
theorem d_M_lookBound_156 : decode (cd m_M_lookBound) 156 = .ok (.aload_n 0, 1) := by decide +kernel
theorem d_M_lookBound_157 : decode (cd m_M_lookBound) 157 = .ok (.getfield 62, 3) := by decide +kernel
theorem d_M_lookBound_160 : decode (cd m_M_lookBound) 160 = .ok (.iload 4, 2) := by decide +kernel
theorem d_M_lookBound_162 : decode (cd m_M_lookBound) 162 = .ok (.iaload, 1) := by decide +kernel
theorem d_M_lookBound_163 : decode (cd m_M_lookBound) 163 = .ok (.iconst 2, 1) := by decide +kernel
theorem d_M_lookBound_164 : decode (cd m_M_lookBound) 164 = .ok (.if_icmp .ne 48, 3) := by decide +kernel
theorem d_M_lookBound_167 : decode (cd m_M_lookBound) 167 = .ok (.aload_n 0, 1) := by decide +kernel
theorem d_M_lookBound_168 : decode (cd m_M_lookBound) 168 = .ok (.getfield 65, 3) := by decide +kernel
theorem d_M_lookBound_171 : decode (cd m_M_lookBound) 171 = .ok (.iload 4, 2) := by decide +kernel
theorem d_M_lookBound_173 : decode (cd m_M_lookBound) 173 = .ok (.iaload, 1) := by decide +kernel
theorem d_M_lookBound_174 : decode (cd m_M_lookBound) 174 = .ok (.bipush 61, 2) := by decide +kernel
theorem d_M_lookBound_176 : decode (cd m_M_lookBound) 176 = .ok (.if_icmp .ne 36, 3) := by decide +kernel
theorem d_M_lookBound_179 : decode (cd m_M_lookBound) 179 = .ok (.aload_n 0, 1) := by decide +kernel
theorem d_M_lookBound_180 : decode (cd m_M_lookBound) 180 = .ok (.iload 4, 2) := by decide +kernel
theorem d_M_lookBound_182 : decode (cd m_M_lookBound) 182 = .ok (.iconst 0, 1) := by decide +kernel
theorem d_M_lookBound_183 : decode (cd m_M_lookBound) 183 = .ok (.invokevirtual 273, 3) := by decide +kernel
theorem d_M_lookBound_186 : decode (cd m_M_lookBound) 186 = .ok (.aload_n 0, 1) := by decide +kernel
theorem d_M_lookBound_187 : decode (cd m_M_lookBound) 187 = .ok (.iload 4, 2) := by decide +kernel
theorem d_M_lookBound_189 : decode (cd m_M_lookBound) 189 = .ok (.iconst 1, 1) := by decide +kernel
theorem d_M_lookBound_190 : decode (cd m_M_lookBound) 190 = .ok (.invokevirtual 273, 3) := by decide +kernel
theorem d_M_lookBound_193 : decode (cd m_M_lookBound) 193 = .ok (.if_icmp .eq 19, 3) := by decide +kernel
theorem d_M_lookBound_196 : decode (cd m_M_lookBound) 196 = .ok (.aload_n 0, 1) := by decide +kernel
theorem d_M_lookBound_197 : decode (cd m_M_lookBound) 197 = .ok (.iload 4, 2) := by decide +kernel
theorem d_M_lookBound_199 : decode (cd m_M_lookBound) 199 = .ok (.iconst 0, 1) := by decide +kernel
theorem d_M_lookBound_200 : decode (cd m_M_lookBound) 200 = .ok (.invokevirtual 270, 3) := by decide +kernel
theorem d_M_lookBound_203 : decode (cd m_M_lookBound) 203 = .ok (.aload_n 0, 1) := by decide +kernel
theorem d_M_lookBound_204 : decode (cd m_M_lookBound) 204 = .ok (.iload 4, 2) := by decide +kernel
theorem d_M_lookBound_206 : decode (cd m_M_lookBound) 206 = .ok (.iconst 1, 1) := by decide +kernel
theorem d_M_lookBound_207 : decode (cd m_M_lookBound) 207 = .ok (.invokevirtual 270, 3) := by decide +kernel
theorem d_M_lookBound_210 : decode (cd m_M_lookBound) 210 = .ok (.iconst 1, 1) := by decide +kernel
theorem d_M_lookBound_211 : decode (cd m_M_lookBound) 211 = .ok (.istore_n 3, 1) := by decide +kernel
theorem d_M_lookBound_212 : decode (cd m_M_lookBound) 212 = .ok (.iinc 4 1, 3) := by decide +kernel
theorem d_M_lookBound_215 : decode (cd m_M_lookBound) 215 = .ok (.goto (-115), 3) := by decide +kernel
theorem d_M_lookBound_218 : decode (cd m_M_lookBound) 218 = .ok (.goto (-127), 3) := by decide +kernel
theorem d_M_lookBound_221 : decode (cd m_M_lookBound) 221 = .ok (.iconst 0, 1) := by decide +kernel
theorem d_M_lookBound_222 : decode (cd m_M_lookBound) 222 = .ok (.istore 4, 2) := by decide +kernel
theorem d_M_lookBound_224 : decode (cd m_M_lookBound) 224 = .ok (.iload 4, 2) := by decide +kernel
theorem d_M_lookBound_226 : decode (cd m_M_lookBound) 226 = .ok (.aload_n 0, 1) := by decide +kernel
theorem d_M_lookBound_227 : decode (cd m_M_lookBound) 227 = .ok (.getfield 59, 3) := by decide +kernel
theorem d_M_lookBound_230 : decode (cd m_M_lookBound) 230 = .ok (.aload_n 0, 1) := by decide +kernel
theorem d_M_lookBound_231 : decode (cd m_M_lookBound) 231 = .ok (.getfield 196, 3) := by decide +kernel
theorem d_M_lookBound_234 : decode (cd m_M_lookBound) 234 = .ok (.iaload, 1) := by decide +kernel
theorem d_M_lookBound_235 : decode (cd m_M_lookBound) 235 = .ok (.if_icmp .ge 31, 3) := by decide +kernel
theorem d_M_lookBound_238 : decode (cd m_M_lookBound) 238 = .ok (.aload_n 0, 1) := by decide +kernel
theorem d_M_lookBound_239 : decode (cd m_M_lookBound) 239 = .ok (.getfield 89, 3) := by decide +kernel
theorem d_M_lookBound_242 : decode (cd m_M_lookBound) 242 = .ok (.iload 4, 2) := by decide +kernel
theorem d_M_lookBound_244 : decode (cd m_M_lookBound) 244 = .ok (.baload, 1) := by decide +kernel
theorem d_M_lookBound_245 : decode (cd m_M_lookBound) 245 = .ok (.ifCond .ne 15, 3) := by decide +kernel
theorem d_M_lookBound_248 : decode (cd m_M_lookBound) 248 = .ok (.aload_n 0, 1) := by decide +kernel
theorem d_M_lookBound_249 : decode (cd m_M_lookBound) 249 = .ok (.iconst 3, 1) := by decide +kernel
theorem d_M_lookBound_250 : decode (cd m_M_lookBound) 250 = .ok (.aload_n 0, 1) := by decide +kernel
theorem d_M_lookBound_251 : decode (cd m_M_lookBound) 251 = .ok (.getfield 86, 3) := by decide +kernel
theorem d_M_lookBound_254 : decode (cd m_M_lookBound) 254 = .ok (.iload 4, 2) := by decide +kernel
theorem d_M_lookBound_256 : decode (cd m_M_lookBound) 256 = .ok (.iaload, 1) := by decide +kernel
theorem d_M_lookBound_257 : decode (cd m_M_lookBound) 257 = .ok (.invokevirtual 214, 3) := by decide +kernel
theorem d_M_lookBound_260 : decode (cd m_M_lookBound) 260 = .ok (.iinc 4 1, 3) := by decide +kernel
theorem d_M_lookBound_263 : decode (cd m_M_lookBound) 263 = .ok (.goto (-39), 3) := by decide +kernel
theorem d_M_lookBound_266 : decode (cd m_M_lookBound) 266 = .ok (.return_, 1) := by decide +kernel
theorem d_M_predicateSizeOf_0 : decode (cd m_M_predicateSizeOf) 0 = .ok (.aload_n 0, 1) := by decide +kernel
theorem d_M_predicateSizeOf_1 : decode (cd m_M_predicateSizeOf) 1 = .ok (.getfield 102, 3) := by decide +kernel
theorem d_M_predicateSizeOf_4 : decode (cd m_M_predicateSizeOf) 4 = .ok (.iload_n 1, 1) := by decide +kernel
theorem d_M_predicateSizeOf_5 : decode (cd m_M_predicateSizeOf) 5 = .ok (.iaload, 1) := by decide +kernel
theorem d_M_predicateSizeOf_6 : decode (cd m_M_predicateSizeOf) 6 = .ok (.ireturn, 1) := by decide +kernel
theorem d_M_beginClause_0 : decode (cd m_M_beginClause) 0 = .ok (.aload_n 0, 1) := by decide +kernel
theorem d_M_beginClause_1 : decode (cd m_M_beginClause) 1 = .ok (.iload_n 1, 1) := by decide +kernel
theorem d_M_beginClause_2 : decode (cd m_M_beginClause) 2 = .ok (.putfield 196, 3) := by decide +kernel
theorem d_M_beginClause_5 : decode (cd m_M_beginClause) 5 = .ok (.aload_n 0, 1) := by decide +kernel
theorem d_M_beginClause_6 : decode (cd m_M_beginClause) 6 = .ok (.getfield 59, 3) := by decide +kernel
theorem d_M_beginClause_9 : decode (cd m_M_beginClause) 9 = .ok (.iload_n 1, 1) := by decide +kernel
theorem d_M_beginClause_10 : decode (cd m_M_beginClause) 10 = .ok (.iconst 0, 1) := by decide +kernel
theorem d_M_beginClause_11 : decode (cd m_M_beginClause) 11 = .ok (.iastore, 1) := by decide +kernel
theorem d_M_beginClause_12 : decode (cd m_M_beginClause) 12 = .ok (.aload_n 0, 1) := by decide +kernel
theorem d_M_beginClause_13 : decode (cd m_M_beginClause) 13 = .ok (.getfield 56, 3) := by decide +kernel
theorem d_M_beginClause_16 : decode (cd m_M_beginClause) 16 = .ok (.iload_n 1, 1) := by decide +kernel
theorem d_M_beginClause_17 : decode (cd m_M_beginClause) 17 = .ok (.iconst 0, 1) := by decide +kernel
theorem d_M_beginClause_18 : decode (cd m_M_beginClause) 18 = .ok (.iastore, 1) := by decide +kernel
theorem d_M_beginClause_19 : decode (cd m_M_beginClause) 19 = .ok (.aload_n 0, 1) := by decide +kernel
theorem d_M_beginClause_20 : decode (cd m_M_beginClause) 20 = .ok (.getfield 50, 3) := by decide +kernel
theorem d_M_beginClause_23 : decode (cd m_M_beginClause) 23 = .ok (.iload_n 1, 1) := by decide +kernel
theorem d_M_beginClause_24 : decode (cd m_M_beginClause) 24 = .ok (.iconst 0, 1) := by decide +kernel
theorem d_M_beginClause_25 : decode (cd m_M_beginClause) 25 = .ok (.iastore, 1) := by decide +kernel
theorem d_M_beginClause_26 : decode (cd m_M_beginClause) 26 = .ok (.aload_n 0, 1) := by decide +kernel
theorem d_M_beginClause_27 : decode (cd m_M_beginClause) 27 = .ok (.iconst 0, 1) := by decide +kernel
theorem d_M_beginClause_28 : decode (cd m_M_beginClause) 28 = .ok (.putfield 228, 3) := by decide +kernel
theorem d_M_beginClause_31 : decode (cd m_M_beginClause) 31 = .ok (.aload_n 0, 1) := by decide +kernel
theorem d_M_beginClause_32 : decode (cd m_M_beginClause) 32 = .ok (.iconst (-1), 1) := by decide +kernel
theorem d_M_beginClause_33 : decode (cd m_M_beginClause) 33 = .ok (.putfield 237, 3) := by decide +kernel
theorem d_M_beginClause_36 : decode (cd m_M_beginClause) 36 = .ok (.return_, 1) := by decide +kernel
theorem d_M_layHead_0 : decode (cd m_M_layHead) 0 = .ok (.aload_n 0, 1) := by decide +kernel
theorem d_M_layHead_1 : decode (cd m_M_layHead) 1 = .ok (.getfield 41, 3) := by decide +kernel
theorem d_M_layHead_4 : decode (cd m_M_layHead) 4 = .ok (.aload_n 0, 1) := by decide +kernel
theorem d_M_layHead_5 : decode (cd m_M_layHead) 5 = .ok (.getfield 196, 3) := by decide +kernel
theorem d_M_layHead_8 : decode (cd m_M_layHead) 8 = .ok (.aload_n 0, 1) := by decide +kernel
theorem d_M_layHead_9 : decode (cd m_M_layHead) 9 = .ok (.getfield 247, 3) := by decide +kernel
theorem d_M_layHead_12 : decode (cd m_M_layHead) 12 = .ok (.iastore, 1) := by decide +kernel
theorem d_M_layHead_13 : decode (cd m_M_layHead) 13 = .ok (.iconst 0, 1) := by decide +kernel
theorem d_M_layHead_14 : decode (cd m_M_layHead) 14 = .ok (.istore_n 1, 1) := by decide +kernel
theorem d_M_layHead_15 : decode (cd m_M_layHead) 15 = .ok (.iload_n 1, 1) := by decide +kernel
theorem d_M_layHead_16 : decode (cd m_M_layHead) 16 = .ok (.aload_n 0, 1) := by decide +kernel
theorem d_M_layHead_17 : decode (cd m_M_layHead) 17 = .ok (.getfield 222, 3) := by decide +kernel
theorem d_M_layHead_20 : decode (cd m_M_layHead) 20 = .ok (.if_icmp .ge 47, 3) := by decide +kernel
theorem d_M_layHead_23 : decode (cd m_M_layHead) 23 = .ok (.aload_n 0, 1) := by decide +kernel
theorem d_M_layHead_24 : decode (cd m_M_layHead) 24 = .ok (.getfield 44, 3) := by decide +kernel
theorem d_M_layHead_27 : decode (cd m_M_layHead) 27 = .ok (.iconst 4, 1) := by decide +kernel
theorem d_M_layHead_28 : decode (cd m_M_layHead) 28 = .ok (.aload_n 0, 1) := by decide +kernel
theorem d_M_layHead_29 : decode (cd m_M_layHead) 29 = .ok (.getfield 196, 3) := by decide +kernel
theorem d_M_layHead_32 : decode (cd m_M_layHead) 32 = .ok (.imul, 1) := by decide +kernel
theorem d_M_layHead_33 : decode (cd m_M_layHead) 33 = .ok (.iload_n 1, 1) := by decide +kernel
theorem d_M_layHead_34 : decode (cd m_M_layHead) 34 = .ok (.iadd, 1) := by decide +kernel
theorem d_M_layHead_35 : decode (cd m_M_layHead) 35 = .ok (.aload_n 0, 1) := by decide +kernel
theorem d_M_layHead_36 : decode (cd m_M_layHead) 36 = .ok (.getfield 93, 3) := by decide +kernel
theorem d_M_layHead_39 : decode (cd m_M_layHead) 39 = .ok (.iload_n 1, 1) := by decide +kernel
theorem d_M_layHead_40 : decode (cd m_M_layHead) 40 = .ok (.iaload, 1) := by decide +kernel
theorem d_M_layHead_41 : decode (cd m_M_layHead) 41 = .ok (.iastore, 1) := by decide +kernel
theorem d_M_layHead_42 : decode (cd m_M_layHead) 42 = .ok (.aload_n 0, 1) := by decide +kernel
theorem d_M_layHead_43 : decode (cd m_M_layHead) 43 = .ok (.getfield 47, 3) := by decide +kernel
theorem d_M_layHead_46 : decode (cd m_M_layHead) 46 = .ok (.iconst 4, 1) := by decide +kernel
theorem d_M_layHead_47 : decode (cd m_M_layHead) 47 = .ok (.aload_n 0, 1) := by decide +kernel
theorem d_M_layHead_48 : decode (cd m_M_layHead) 48 = .ok (.getfield 196, 3) := by decide +kernel
theorem d_M_layHead_51 : decode (cd m_M_layHead) 51 = .ok (.imul, 1) := by decide +kernel
theorem d_M_layHead_52 : decode (cd m_M_layHead) 52 = .ok (.iload_n 1, 1) := by decide +kernel
theorem d_M_layHead_53 : decode (cd m_M_layHead) 53 = .ok (.iadd, 1) := by decide +kernel
theorem d_M_layHead_54 : decode (cd m_M_layHead) 54 = .ok (.aload_n 0, 1) := by decide +kernel
theorem d_M_layHead_55 : decode (cd m_M_layHead) 55 = .ok (.getfield 96, 3) := by decide +kernel
theorem d_M_layHead_58 : decode (cd m_M_layHead) 58 = .ok (.iload_n 1, 1) := by decide +kernel
theorem d_M_layHead_59 : decode (cd m_M_layHead) 59 = .ok (.laload, 1) := by decide +kernel
theorem d_M_layHead_60 : decode (cd m_M_layHead) 60 = .ok (.lastore, 1) := by decide +kernel
theorem d_M_layHead_61 : decode (cd m_M_layHead) 61 = .ok (.iinc 1 1, 3) := by decide +kernel
theorem d_M_layHead_64 : decode (cd m_M_layHead) 64 = .ok (.goto (-49), 3) := by decide +kernel
theorem d_M_layHead_67 : decode (cd m_M_layHead) 67 = .ok (.aload_n 0, 1) := by decide +kernel
theorem d_M_layHead_68 : decode (cd m_M_layHead) 68 = .ok (.getfield 50, 3) := by decide +kernel
theorem d_M_layHead_71 : decode (cd m_M_layHead) 71 = .ok (.aload_n 0, 1) := by decide +kernel
theorem d_M_layHead_72 : decode (cd m_M_layHead) 72 = .ok (.getfield 196, 3) := by decide +kernel
theorem d_M_layHead_75 : decode (cd m_M_layHead) 75 = .ok (.aload_n 0, 1) := by decide +kernel
theorem d_M_layHead_76 : decode (cd m_M_layHead) 76 = .ok (.getfield 228, 3) := by decide +kernel
theorem d_M_layHead_79 : decode (cd m_M_layHead) 79 = .ok (.iastore, 1) := by decide +kernel
theorem d_M_layHead_80 : decode (cd m_M_layHead) 80 = .ok (.aload_n 0, 1) := by decide +kernel
theorem d_M_layHead_81 : decode (cd m_M_layHead) 81 = .ok (.getfield 53, 3) := by decide +kernel
theorem d_M_layHead_84 : decode (cd m_M_layHead) 84 = .ok (.aload_n 0, 1) := by decide +kernel
theorem d_M_layHead_85 : decode (cd m_M_layHead) 85 = .ok (.getfield 196, 3) := by decide +kernel
theorem d_M_layHead_88 : decode (cd m_M_layHead) 88 = .ok (.aload_n 0, 1) := by decide +kernel
theorem d_M_layHead_89 : decode (cd m_M_layHead) 89 = .ok (.getfield 231, 3) := by decide +kernel
theorem d_M_layHead_92 : decode (cd m_M_layHead) 92 = .ok (.iastore, 1) := by decide +kernel
theorem d_M_layHead_93 : decode (cd m_M_layHead) 93 = .ok (.aload_n 0, 1) := by decide +kernel
theorem d_M_layHead_94 : decode (cd m_M_layHead) 94 = .ok (.getfield 105, 3) := by decide +kernel
theorem d_M_layHead_97 : decode (cd m_M_layHead) 97 = .ok (.aload_n 0, 1) := by decide +kernel
theorem d_M_layHead_98 : decode (cd m_M_layHead) 98 = .ok (.getfield 196, 3) := by decide +kernel
theorem d_M_layHead_101 : decode (cd m_M_layHead) 101 = .ok (.aload_n 0, 1) := by decide +kernel
theorem d_M_layHead_102 : decode (cd m_M_layHead) 102 = .ok (.getfield 234, 3) := by decide +kernel
theorem d_M_layHead_105 : decode (cd m_M_layHead) 105 = .ok (.iastore, 1) := by decide +kernel
theorem d_M_layHead_106 : decode (cd m_M_layHead) 106 = .ok (.return_, 1) := by decide +kernel
theorem d_M_findFact_0 : decode (cd m_M_findFact) 0 = .ok (.sipush 200, 3) := by decide +kernel
theorem d_M_findFact_3 : decode (cd m_M_findFact) 3 = .ok (.aload_n 0, 1) := by decide +kernel
theorem d_M_findFact_4 : decode (cd m_M_findFact) 4 = .ok (.getfield 211, 3) := by decide +kernel
theorem d_M_findFact_7 : decode (cd m_M_findFact) 7 = .ok (.imul, 1) := by decide +kernel
theorem d_M_findFact_8 : decode (cd m_M_findFact) 8 = .ok (.istore_n 1, 1) := by decide +kernel
theorem d_M_findFact_9 : decode (cd m_M_findFact) 9 = .ok (.iload_n 1, 1) := by decide +kernel
theorem d_M_findFact_10 : decode (cd m_M_findFact) 10 = .ok (.sipush 200, 3) := by decide +kernel
theorem d_M_findFact_13 : decode (cd m_M_findFact) 13 = .ok (.aload_n 0, 1) := by decide +kernel
theorem d_M_findFact_14 : decode (cd m_M_findFact) 14 = .ok (.getfield 211, 3) := by decide +kernel
theorem d_M_findFact_17 : decode (cd m_M_findFact) 17 = .ok (.imul, 1) := by decide +kernel
theorem d_M_findFact_18 : decode (cd m_M_findFact) 18 = .ok (.aload_n 0, 1) := by decide +kernel
theorem d_M_findFact_19 : decode (cd m_M_findFact) 19 = .ok (.getfield 74, 3) := by decide +kernel
theorem d_M_findFact_22 : decode (cd m_M_findFact) 22 = .ok (.aload_n 0, 1) := by decide +kernel
theorem d_M_findFact_23 : decode (cd m_M_findFact) 23 = .ok (.getfield 211, 3) := by decide +kernel
theorem d_M_findFact_26 : decode (cd m_M_findFact) 26 = .ok (.iaload, 1) := by decide +kernel
theorem d_M_findFact_27 : decode (cd m_M_findFact) 27 = .ok (.iadd, 1) := by decide +kernel
theorem d_M_findFact_28 : decode (cd m_M_findFact) 28 = .ok (.if_icmp .ge 80, 3) := by decide +kernel
theorem d_M_findFact_31 : decode (cd m_M_findFact) 31 = .ok (.aload_n 0, 1) := by decide +kernel
theorem d_M_findFact_32 : decode (cd m_M_findFact) 32 = .ok (.getfield 77, 3) := by decide +kernel
theorem d_M_findFact_35 : decode (cd m_M_findFact) 35 = .ok (.iload_n 1, 1) := by decide +kernel
theorem d_M_findFact_36 : decode (cd m_M_findFact) 36 = .ok (.iaload, 1) := by decide +kernel
theorem d_M_findFact_37 : decode (cd m_M_findFact) 37 = .ok (.aload_n 0, 1) := by decide +kernel
theorem d_M_findFact_38 : decode (cd m_M_findFact) 38 = .ok (.getfield 247, 3) := by decide +kernel
theorem d_M_findFact_41 : decode (cd m_M_findFact) 41 = .ok (.if_icmp .ne 7, 3) := by decide +kernel
theorem d_M_findFact_44 : decode (cd m_M_findFact) 44 = .ok (.iconst 1, 1) := by decide +kernel
theorem d_M_findFact_45 : decode (cd m_M_findFact) 45 = .ok (.goto 4, 3) := by decide +kernel
theorem d_M_findFact_48 : decode (cd m_M_findFact) 48 = .ok (.iconst 0, 1) := by decide +kernel
theorem d_M_findFact_49 : decode (cd m_M_findFact) 49 = .ok (.istore_n 2, 1) := by decide +kernel
theorem d_M_findFact_50 : decode (cd m_M_findFact) 50 = .ok (.iconst 0, 1) := by decide +kernel
theorem d_M_findFact_51 : decode (cd m_M_findFact) 51 = .ok (.istore_n 3, 1) := by decide +kernel
theorem d_M_findFact_52 : decode (cd m_M_findFact) 52 = .ok (.iload_n 2, 1) := by decide +kernel
theorem d_M_findFact_53 : decode (cd m_M_findFact) 53 = .ok (.ifCond .eq 43, 3) := by decide +kernel
theorem d_M_findFact_56 : decode (cd m_M_findFact) 56 = .ok (.iload_n 3, 1) := by decide +kernel
theorem d_M_findFact_57 : decode (cd m_M_findFact) 57 = .ok (.aload_n 0, 1) := by decide +kernel
theorem d_M_findFact_58 : decode (cd m_M_findFact) 58 = .ok (.getfield 222, 3) := by decide +kernel
theorem d_M_findFact_61 : decode (cd m_M_findFact) 61 = .ok (.if_icmp .ge 35, 3) := by decide +kernel
theorem d_M_findFact_64 : decode (cd m_M_findFact) 64 = .ok (.aload_n 0, 1) := by decide +kernel
theorem d_M_findFact_65 : decode (cd m_M_findFact) 65 = .ok (.getfield 80, 3) := by decide +kernel
theorem d_M_findFact_68 : decode (cd m_M_findFact) 68 = .ok (.iconst 4, 1) := by decide +kernel
theorem d_M_findFact_69 : decode (cd m_M_findFact) 69 = .ok (.iload_n 1, 1) := by decide +kernel
theorem d_M_findFact_70 : decode (cd m_M_findFact) 70 = .ok (.imul, 1) := by decide +kernel
theorem d_M_findFact_71 : decode (cd m_M_findFact) 71 = .ok (.iload_n 3, 1) := by decide +kernel
theorem d_M_findFact_72 : decode (cd m_M_findFact) 72 = .ok (.iadd, 1) := by decide +kernel
theorem d_M_findFact_73 : decode (cd m_M_findFact) 73 = .ok (.laload, 1) := by decide +kernel
theorem d_M_findFact_74 : decode (cd m_M_findFact) 74 = .ok (.aload_n 0, 1) := by decide +kernel
theorem d_M_findFact_75 : decode (cd m_M_findFact) 75 = .ok (.getfield 96, 3) := by decide +kernel
theorem d_M_findFact_78 : decode (cd m_M_findFact) 78 = .ok (.iload_n 3, 1) := by decide +kernel
theorem d_M_findFact_79 : decode (cd m_M_findFact) 79 = .ok (.laload, 1) := by decide +kernel
theorem d_M_findFact_80 : decode (cd m_M_findFact) 80 = .ok (.lcmp, 1) := by decide +kernel
theorem d_M_findFact_81 : decode (cd m_M_findFact) 81 = .ok (.ifCond .ne 7, 3) := by decide +kernel
theorem d_M_findFact_84 : decode (cd m_M_findFact) 84 = .ok (.iconst 1, 1) := by decide +kernel
theorem d_M_findFact_85 : decode (cd m_M_findFact) 85 = .ok (.goto 4, 3) := by decide +kernel
theorem d_M_findFact_88 : decode (cd m_M_findFact) 88 = .ok (.iconst 0, 1) := by decide +kernel
theorem d_M_findFact_89 : decode (cd m_M_findFact) 89 = .ok (.istore_n 2, 1) := by decide +kernel
theorem d_M_findFact_90 : decode (cd m_M_findFact) 90 = .ok (.iinc 3 1, 3) := by decide +kernel
theorem d_M_findFact_93 : decode (cd m_M_findFact) 93 = .ok (.goto (-41), 3) := by decide +kernel
theorem d_M_findFact_96 : decode (cd m_M_findFact) 96 = .ok (.iload_n 2, 1) := by decide +kernel
theorem d_M_findFact_97 : decode (cd m_M_findFact) 97 = .ok (.ifCond .eq 5, 3) := by decide +kernel
theorem d_M_findFact_100 : decode (cd m_M_findFact) 100 = .ok (.iload_n 1, 1) := by decide +kernel
theorem d_M_findFact_101 : decode (cd m_M_findFact) 101 = .ok (.ireturn, 1) := by decide +kernel
theorem d_M_findFact_102 : decode (cd m_M_findFact) 102 = .ok (.iinc 1 1, 3) := by decide +kernel
theorem d_M_findFact_105 : decode (cd m_M_findFact) 105 = .ok (.goto (-96), 3) := by decide +kernel
theorem d_M_findFact_108 : decode (cd m_M_findFact) 108 = .ok (.iconst (-1), 1) := by decide +kernel
theorem d_M_findFact_109 : decode (cd m_M_findFact) 109 = .ok (.ireturn, 1) := by decide +kernel
theorem d_M_addFact_0 : decode (cd m_M_addFact) 0 = .ok (.sipush 200, 3) := by decide +kernel
theorem d_M_addFact_3 : decode (cd m_M_addFact) 3 = .ok (.aload_n 0, 1) := by decide +kernel
theorem d_M_addFact_4 : decode (cd m_M_addFact) 4 = .ok (.getfield 211, 3) := by decide +kernel
theorem d_M_addFact_7 : decode (cd m_M_addFact) 7 = .ok (.imul, 1) := by decide +kernel
theorem d_M_addFact_8 : decode (cd m_M_addFact) 8 = .ok (.aload_n 0, 1) := by decide +kernel
theorem d_M_addFact_9 : decode (cd m_M_addFact) 9 = .ok (.getfield 74, 3) := by decide +kernel
theorem d_M_addFact_12 : decode (cd m_M_addFact) 12 = .ok (.aload_n 0, 1) := by decide +kernel
theorem d_M_addFact_13 : decode (cd m_M_addFact) 13 = .ok (.getfield 211, 3) := by decide +kernel
theorem d_M_addFact_16 : decode (cd m_M_addFact) 16 = .ok (.iaload, 1) := by decide +kernel
theorem d_M_addFact_17 : decode (cd m_M_addFact) 17 = .ok (.iadd, 1) := by decide +kernel
theorem d_M_addFact_18 : decode (cd m_M_addFact) 18 = .ok (.istore_n 1, 1) := by decide +kernel
theorem d_M_addFact_19 : decode (cd m_M_addFact) 19 = .ok (.aload_n 0, 1) := by decide +kernel
theorem d_M_addFact_20 : decode (cd m_M_addFact) 20 = .ok (.getfield 77, 3) := by decide +kernel
theorem d_M_addFact_23 : decode (cd m_M_addFact) 23 = .ok (.iload_n 1, 1) := by decide +kernel
theorem d_M_addFact_24 : decode (cd m_M_addFact) 24 = .ok (.aload_n 0, 1) := by decide +kernel
theorem d_M_addFact_25 : decode (cd m_M_addFact) 25 = .ok (.getfield 247, 3) := by decide +kernel
theorem d_M_addFact_28 : decode (cd m_M_addFact) 28 = .ok (.iastore, 1) := by decide +kernel
theorem d_M_addFact_29 : decode (cd m_M_addFact) 29 = .ok (.iconst 0, 1) := by decide +kernel
theorem d_M_addFact_30 : decode (cd m_M_addFact) 30 = .ok (.istore_n 2, 1) := by decide +kernel
theorem d_M_addFact_31 : decode (cd m_M_addFact) 31 = .ok (.iload_n 2, 1) := by decide +kernel
theorem d_M_addFact_32 : decode (cd m_M_addFact) 32 = .ok (.aload_n 0, 1) := by decide +kernel
theorem d_M_addFact_33 : decode (cd m_M_addFact) 33 = .ok (.getfield 222, 3) := by decide +kernel
theorem d_M_addFact_36 : decode (cd m_M_addFact) 36 = .ok (.if_icmp .ge 25, 3) := by decide +kernel
theorem d_M_addFact_39 : decode (cd m_M_addFact) 39 = .ok (.aload_n 0, 1) := by decide +kernel
theorem d_M_addFact_40 : decode (cd m_M_addFact) 40 = .ok (.getfield 80, 3) := by decide +kernel
theorem d_M_addFact_43 : decode (cd m_M_addFact) 43 = .ok (.iconst 4, 1) := by decide +kernel
theorem d_M_addFact_44 : decode (cd m_M_addFact) 44 = .ok (.iload_n 1, 1) := by decide +kernel
theorem d_M_addFact_45 : decode (cd m_M_addFact) 45 = .ok (.imul, 1) := by decide +kernel
theorem d_M_addFact_46 : decode (cd m_M_addFact) 46 = .ok (.iload_n 2, 1) := by decide +kernel
theorem d_M_addFact_47 : decode (cd m_M_addFact) 47 = .ok (.iadd, 1) := by decide +kernel
theorem d_M_addFact_48 : decode (cd m_M_addFact) 48 = .ok (.aload_n 0, 1) := by decide +kernel
theorem d_M_addFact_49 : decode (cd m_M_addFact) 49 = .ok (.getfield 96, 3) := by decide +kernel
theorem d_M_addFact_52 : decode (cd m_M_addFact) 52 = .ok (.iload_n 2, 1) := by decide +kernel
theorem d_M_addFact_53 : decode (cd m_M_addFact) 53 = .ok (.laload, 1) := by decide +kernel
theorem d_M_addFact_54 : decode (cd m_M_addFact) 54 = .ok (.lastore, 1) := by decide +kernel
theorem d_M_addFact_55 : decode (cd m_M_addFact) 55 = .ok (.iinc 2 1, 3) := by decide +kernel
theorem d_M_addFact_58 : decode (cd m_M_addFact) 58 = .ok (.goto (-27), 3) := by decide +kernel
theorem d_M_addFact_61 : decode (cd m_M_addFact) 61 = .ok (.aload_n 0, 1) := by decide +kernel
theorem d_M_addFact_62 : decode (cd m_M_addFact) 62 = .ok (.getfield 74, 3) := by decide +kernel
theorem d_M_addFact_65 : decode (cd m_M_addFact) 65 = .ok (.aload_n 0, 1) := by decide +kernel
theorem d_M_addFact_66 : decode (cd m_M_addFact) 66 = .ok (.getfield 211, 3) := by decide +kernel
theorem d_M_addFact_69 : decode (cd m_M_addFact) 69 = .ok (.dup2, 1) := by decide +kernel
theorem d_M_addFact_70 : decode (cd m_M_addFact) 70 = .ok (.iaload, 1) := by decide +kernel
theorem d_M_addFact_71 : decode (cd m_M_addFact) 71 = .ok (.iconst 1, 1) := by decide +kernel
theorem d_M_addFact_72 : decode (cd m_M_addFact) 72 = .ok (.iadd, 1) := by decide +kernel
theorem d_M_addFact_73 : decode (cd m_M_addFact) 73 = .ok (.iastore, 1) := by decide +kernel
theorem d_M_addFact_74 : decode (cd m_M_addFact) 74 = .ok (.return_, 1) := by decide +kernel
theorem d_M_readClause_0 : decode (cd m_M_readClause) 0 = .ok (.aload_n 0, 1) := by decide +kernel
theorem d_M_readClause_1 : decode (cd m_M_readClause) 1 = .ok (.aload_n 0, 1) := by decide +kernel
theorem d_M_readClause_2 : decode (cd m_M_readClause) 2 = .ok (.getfield 38, 3) := by decide +kernel
theorem d_M_readClause_5 : decode (cd m_M_readClause) 5 = .ok (.aload_n 0, 1) := by decide +kernel
theorem d_M_readClause_6 : decode (cd m_M_readClause) 6 = .ok (.getfield 211, 3) := by decide +kernel
theorem d_M_readClause_9 : decode (cd m_M_readClause) 9 = .ok (.iaload, 1) := by decide +kernel
theorem d_M_readClause_10 : decode (cd m_M_readClause) 10 = .ok (.bipush 30, 2) := by decide +kernel
theorem d_M_readClause_12 : decode (cd m_M_readClause) 12 = .ok (.if_icmp .ne 8, 3) := by decide +kernel
theorem d_M_readClause_15 : decode (cd m_M_readClause) 15 = .ok (.bipush 60, 2) := by decide +kernel
theorem d_M_readClause_17 : decode (cd m_M_readClause) 17 = .ok (.goto 20, 3) := by decide +kernel
theorem d_M_readClause_20 : decode (cd m_M_readClause) 20 = .ok (.bipush 30, 2) := by decide +kernel
theorem d_M_readClause_22 : decode (cd m_M_readClause) 22 = .ok (.aload_n 0, 1) := by decide +kernel
theorem d_M_readClause_23 : decode (cd m_M_readClause) 23 = .ok (.getfield 211, 3) := by decide +kernel
theorem d_M_readClause_26 : decode (cd m_M_readClause) 26 = .ok (.imul, 1) := by decide +kernel
theorem d_M_readClause_27 : decode (cd m_M_readClause) 27 = .ok (.aload_n 0, 1) := by decide +kernel
theorem d_M_readClause_28 : decode (cd m_M_readClause) 28 = .ok (.getfield 38, 3) := by decide +kernel
theorem d_M_readClause_31 : decode (cd m_M_readClause) 31 = .ok (.aload_n 0, 1) := by decide +kernel
theorem d_M_readClause_32 : decode (cd m_M_readClause) 32 = .ok (.getfield 211, 3) := by decide +kernel
theorem d_M_readClause_35 : decode (cd m_M_readClause) 35 = .ok (.iaload, 1) := by decide +kernel
theorem d_M_readClause_36 : decode (cd m_M_readClause) 36 = .ok (.iadd, 1) := by decide +kernel
theorem d_M_readClause_37 : decode (cd m_M_readClause) 37 = .ok (.invokevirtual 277, 3) := by decide +kernel
theorem d_M_readClause_40 : decode (cd m_M_readClause) 40 = .ok (.aload_n 0, 1) := by decide +kernel
theorem d_M_readClause_41 : decode (cd m_M_readClause) 41 = .ok (.getfield 16, 3) := by decide +kernel
theorem d_M_readClause_44 : decode (cd m_M_readClause) 44 = .ok (.aload_n 0, 1) := by decide +kernel
theorem d_M_readClause_45 : decode (cd m_M_readClause) 45 = .ok (.getfield 180, 3) := by decide +kernel
theorem d_M_readClause_48 : decode (cd m_M_readClause) 48 = .ok (.iaload, 1) := by decide +kernel
theorem d_M_readClause_49 : decode (cd m_M_readClause) 49 = .ok (.istore_n 1, 1) := by decide +kernel
theorem d_M_readClause_50 : decode (cd m_M_readClause) 50 = .ok (.aload_n 0, 1) := by decide +kernel
theorem d_M_readClause_51 : decode (cd m_M_readClause) 51 = .ok (.iconst 1, 1) := by decide +kernel
theorem d_M_readClause_52 : decode (cd m_M_readClause) 52 = .ok (.iconst 0, 1) := by decide +kernel
theorem d_M_readClause_53 : decode (cd m_M_readClause) 53 = .ok (.invokevirtual 253, 3) := by decide +kernel
