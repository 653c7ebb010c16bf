theorem dL_law_46 : decode cL_law 46 = .ok (.astore 8, 2) := by decide +kernel
theorem dL_law_48 : decode cL_law 48 = .ok (.bipush 8, 2) := by decide +kernel
theorem dL_law_50 : decode cL_law 50 = .ok (.newarray .int, 2) := by decide +kernel
theorem dL_law_52 : decode cL_law 52 = .ok (.astore 9, 2) := by decide +kernel
theorem dL_law_54 : decode cL_law 54 = .ok (.iconst 0, 1) := by decide +kernel
theorem dL_law_55 : decode cL_law 55 = .ok (.istore 10, 2) := by decide +kernel
theorem dL_law_57 : decode cL_law 57 = .ok (.iload 10, 2) := by decide +kernel
theorem dL_law_59 : decode cL_law 59 = .ok (.iconst 4, 1) := by decide +kernel
theorem dL_law_60 : decode cL_law 60 = .ok (.if_icmp .ge 15, 3) := by decide +kernel
theorem dL_law_63 : decode cL_law 63 = .ok (.aload_n 3, 1) := by decide +kernel
theorem dL_law_64 : decode cL_law 64 = .ok (.iload 10, 2) := by decide +kernel
theorem dL_law_66 : decode cL_law 66 = .ok (.bipush 88, 2) := by decide +kernel
theorem dL_law_68 : decode cL_law 68 = .ok (.iastore, 1) := by decide +kernel
theorem dL_law_69 : decode cL_law 69 = .ok (.iinc 10 1, 3) := by decide +kernel
theorem dL_law_72 : decode cL_law 72 = .ok (.goto (-15), 3) := by decide +kernel
theorem dL_law_75 : decode cL_law 75 = .ok (.aload_n 1, 1) := by decide +kernel
theorem dL_law_76 : decode cL_law 76 = .ok (.iconst 0, 1) := by decide +kernel
theorem dL_law_77 : decode cL_law 77 = .ok (.bipush 64, 2) := by decide +kernel
theorem dL_law_79 : decode cL_law 79 = .ok (.iconst 0, 1) := by decide +kernel
theorem dL_law_80 : decode cL_law 80 = .ok (.iconst 0, 1) := by decide +kernel
theorem dL_law_81 : decode cL_law 81 = .ok (.iconst 0, 1) := by decide +kernel
theorem dL_law_82 : decode cL_law 82 = .ok (.iconst 0, 1) := by decide +kernel
theorem dL_law_83 : decode cL_law 83 = .ok (.invokestatic 155, 3) := by decide +kernel
theorem dL_law_86 : decode cL_law 86 = .ok (.ldc 77, 2) := by decide +kernel
theorem dL_law_88 : decode cL_law 88 = .ok (.if_icmp .ne 97, 3) := by decide +kernel
theorem dL_law_91 : decode cL_law 91 = .ok (.aload_n 1, 1) := by decide +kernel
theorem dL_law_92 : decode cL_law 92 = .ok (.iconst 4, 1) := by decide +kernel
theorem dL_law_93 : decode cL_law 93 = .ok (.sipush 501, 3) := by decide +kernel
theorem dL_law_96 : decode cL_law 96 = .ok (.iconst 0, 1) := by decide +kernel
theorem dL_law_97 : decode cL_law 97 = .ok (.iconst 0, 1) := by decide +kernel
theorem dL_law_98 : decode cL_law 98 = .ok (.iconst 0, 1) := by decide +kernel
theorem dL_law_99 : decode cL_law 99 = .ok (.iconst 0, 1) := by decide +kernel
theorem dL_law_100 : decode cL_law 100 = .ok (.invokestatic 155, 3) := by decide +kernel
theorem dL_law_103 : decode cL_law 103 = .ok (.ldc 80, 2) := by decide +kernel
theorem dL_law_105 : decode cL_law 105 = .ok (.if_icmp .ne 80, 3) := by decide +kernel
theorem dL_law_108 : decode cL_law 108 = .ok (.aload_n 1, 1) := by decide +kernel
theorem dL_law_109 : decode cL_law 109 = .ok (.bipush 6, 2) := by decide +kernel
theorem dL_law_111 : decode cL_law 111 = .ok (.iconst 0, 1) := by decide +kernel
theorem dL_law_112 : decode cL_law 112 = .ok (.iconst 0, 1) := by decide +kernel
theorem dL_law_113 : decode cL_law 113 = .ok (.iconst 0, 1) := by decide +kernel
theorem dL_law_114 : decode cL_law 114 = .ok (.iconst 0, 1) := by decide +kernel
theorem dL_law_115 : decode cL_law 115 = .ok (.iconst 0, 1) := by decide +kernel
theorem dL_law_116 : decode cL_law 116 = .ok (.invokestatic 155, 3) := by decide +kernel
theorem dL_law_119 : decode cL_law 119 = .ok (.ldc 77, 2) := by decide +kernel
theorem dL_law_121 : decode cL_law 121 = .ok (.if_icmp .ne 64, 3) := by decide +kernel
theorem dL_law_124 : decode cL_law 124 = .ok (.aload_n 1, 1) := by decide +kernel
theorem dL_law_125 : decode cL_law 125 = .ok (.bipush 9, 2) := by decide +kernel
theorem dL_law_127 : decode cL_law 127 = .ok (.iconst 0, 1) := by decide +kernel
theorem dL_law_128 : decode cL_law 128 = .ok (.iconst 0, 1) := by decide +kernel
theorem dL_law_129 : decode cL_law 129 = .ok (.iconst 0, 1) := by decide +kernel
theorem dL_law_130 : decode cL_law 130 = .ok (.iconst 0, 1) := by decide +kernel
theorem dL_law_131 : decode cL_law 131 = .ok (.iconst 0, 1) := by decide +kernel
theorem dL_law_132 : decode cL_law 132 = .ok (.invokestatic 155, 3) := by decide +kernel
theorem dL_law_135 : decode cL_law 135 = .ok (.ldc 77, 2) := by decide +kernel
theorem dL_law_137 : decode cL_law 137 = .ok (.if_icmp .ne 48, 3) := by decide +kernel
theorem dL_law_140 : decode cL_law 140 = .ok (.aload_n 1, 1) := by decide +kernel
theorem dL_law_141 : decode cL_law 141 = .ok (.bipush 16, 2) := by decide +kernel
theorem dL_law_143 : decode cL_law 143 = .ok (.iconst 0, 1) := by decide +kernel
theorem dL_law_144 : decode cL_law 144 = .ok (.iconst 0, 1) := by decide +kernel
theorem dL_law_145 : decode cL_law 145 = .ok (.iconst (-1), 1) := by decide +kernel
theorem dL_law_146 : decode cL_law 146 = .ok (.iconst 0, 1) := by decide +kernel
theorem dL_law_147 : decode cL_law 147 = .ok (.iconst 0, 1) := by decide +kernel
theorem dL_law_148 : decode cL_law 148 = .ok (.invokestatic 155, 3) := by decide +kernel
theorem dL_law_151 : decode cL_law 151 = .ok (.ldc 80, 2) := by decide +kernel
theorem dL_law_153 : decode cL_law 153 = .ok (.if_icmp .ne 32, 3) := by decide +kernel
theorem dL_law_156 : decode cL_law 156 = .ok (.aload_n 1, 1) := by decide +kernel
theorem dL_law_157 : decode cL_law 157 = .ok (.bipush 18, 2) := by decide +kernel
theorem dL_law_159 : decode cL_law 159 = .ok (.iconst 0, 1) := by decide +kernel
theorem dL_law_160 : decode cL_law 160 = .ok (.iconst 0, 1) := by decide +kernel
theorem dL_law_161 : decode cL_law 161 = .ok (.iconst 0, 1) := by decide +kernel
theorem dL_law_162 : decode cL_law 162 = .ok (.iconst 0, 1) := by decide +kernel
theorem dL_law_163 : decode cL_law 163 = .ok (.iconst 0, 1) := by decide +kernel
theorem dL_law_164 : decode cL_law 164 = .ok (.invokestatic 155, 3) := by decide +kernel
theorem dL_law_167 : decode cL_law 167 = .ok (.ldc 77, 2) := by decide +kernel
theorem dL_law_169 : decode cL_law 169 = .ok (.if_icmp .ne 16, 3) := by decide +kernel
theorem dL_law_172 : decode cL_law 172 = .ok (.aload_n 1, 1) := by decide +kernel
theorem dL_law_173 : decode cL_law 173 = .ok (.iconst 0, 1) := by decide +kernel
theorem dL_law_174 : decode cL_law 174 = .ok (.invokevirtual 134, 3) := by decide +kernel
theorem dL_law_177 : decode cL_law 177 = .ok (.iconst (-1), 1) := by decide +kernel
theorem dL_law_178 : decode cL_law 178 = .ok (.if_icmp .ne 7, 3) := by decide +kernel
theorem dL_law_181 : decode cL_law 181 = .ok (.iconst 1, 1) := by decide +kernel
theorem dL_law_182 : decode cL_law 182 = .ok (.goto 4, 3) := by decide +kernel
theorem dL_law_185 : decode cL_law 185 = .ok (.iconst 0, 1) := by decide +kernel
theorem dL_law_186 : decode cL_law 186 = .ok (.istore 10, 2) := by decide +kernel
theorem dL_law_188 : decode cL_law 188 = .ok (.iconst 0, 1) := by decide +kernel
theorem dL_law_189 : decode cL_law 189 = .ok (.istore 11, 2) := by decide +kernel
theorem dL_law_191 : decode cL_law 191 = .ok (.iload 11, 2) := by decide +kernel
theorem dL_law_193 : decode cL_law 193 = .ok (.bipush 60, 2) := by decide +kernel
theorem dL_law_195 : decode cL_law 195 = .ok (.if_icmp .ge 373, 3) := by decide +kernel
theorem dL_law_198 : decode cL_law 198 = .ok (.iload 10, 2) := by decide +kernel
theorem dL_law_200 : decode cL_law 200 = .ok (.ifCond .eq 368, 3) := by decide +kernel
theorem dL_law_203 : decode cL_law 203 = .ok (.iload 11, 2) := by decide +kernel
theorem dL_law_205 : decode cL_law 205 = .ok (.iconst 2, 1) := by decide +kernel
theorem dL_law_206 : decode cL_law 206 = .ok (.if_icmp .ge 8, 3) := by decide +kernel
theorem dL_law_209 : decode cL_law 209 = .ok (.bipush 11, 2) := by decide +kernel
theorem dL_law_211 : decode cL_law 211 = .ok (.goto 49, 3) := by decide +kernel
theorem dL_law_214 : decode cL_law 214 = .ok (.iload 11, 2) := by decide +kernel
theorem dL_law_216 : decode cL_law 216 = .ok (.bipush 6, 2) := by decide +kernel
theorem dL_law_218 : decode cL_law 218 = .ok (.if_icmp .ge 8, 3) := by decide +kernel
theorem dL_law_221 : decode cL_law 221 = .ok (.bipush 12, 2) := by decide +kernel
theorem dL_law_223 : decode cL_law 223 = .ok (.goto 37, 3) := by decide +kernel
theorem dL_law_226 : decode cL_law 226 = .ok (.iload 11, 2) := by decide +kernel
theorem dL_law_228 : decode cL_law 228 = .ok (.bipush 7, 2) := by decide +kernel
theorem dL_law_230 : decode cL_law 230 = .ok (.if_icmp .ge 8, 3) := by decide +kernel
theorem dL_law_233 : decode cL_law 233 = .ok (.bipush 36, 2) := by decide +kernel
theorem dL_law_235 : decode cL_law 235 = .ok (.goto 25, 3) := by decide +kernel
theorem dL_law_238 : decode cL_law 238 = .ok (.iload 11, 2) := by decide +kernel
theorem dL_law_240 : decode cL_law 240 = .ok (.bipush 8, 2) := by decide +kernel
theorem dL_law_242 : decode cL_law 242 = .ok (.if_icmp .ge 8, 3) := by decide +kernel
theorem dL_law_245 : decode cL_law 245 = .ok (.bipush 8, 2) := by decide +kernel
theorem dL_law_247 : decode cL_law 247 = .ok (.goto 13, 3) := by decide +kernel
theorem dL_law_250 : decode cL_law 250 = .ok (.aload_n 0, 1) := by decide +kernel
theorem dL_law_251 : decode cL_law 251 = .ok (.iconst 3, 1) := by decide +kernel
theorem dL_law_252 : decode cL_law 252 = .ok (.iload 11, 2) := by decide +kernel
theorem dL_law_254 : decode cL_law 254 = .ok (.imul, 1) := by decide +kernel
theorem dL_law_255 : decode cL_law 255 = .ok (.bipush 52, 2) := by decide +kernel
theorem dL_law_257 : decode cL_law 257 = .ok (.invokestatic 177, 3) := by decide +kernel
theorem dL_law_260 : decode cL_law 260 = .ok (.istore 12, 2) := by decide +kernel
theorem dL_law_262 : decode cL_law 262 = .ok (.aload_n 0, 1) := by decide +kernel
theorem dL_law_263 : decode cL_law 263 = .ok (.iconst 3, 1) := by decide +kernel
theorem dL_law_264 : decode cL_law 264 = .ok (.iload 11, 2) := by decide +kernel
theorem dL_law_266 : decode cL_law 266 = .ok (.imul, 1) := by decide +kernel
theorem dL_law_267 : decode cL_law 267 = .ok (.iconst 1, 1) := by decide +kernel
theorem dL_law_268 : decode cL_law 268 = .ok (.iadd, 1) := by decide +kernel
theorem dL_law_269 : decode cL_law 269 = .ok (.ldc 181, 2) := by decide +kernel
theorem dL_law_271 : decode cL_law 271 = .ok (.invokestatic 177, 3) := by decide +kernel
theorem dL_law_274 : decode cL_law 274 = .ok (.istore 13, 2) := by decide +kernel
theorem dL_law_276 : decode cL_law 276 = .ok (.aload_n 0, 1) := by decide +kernel
theorem dL_law_277 : decode cL_law 277 = .ok (.iconst 3, 1) := by decide +kernel
theorem dL_law_278 : decode cL_law 278 = .ok (.iload 11, 2) := by decide +kernel
theorem dL_law_280 : decode cL_law 280 = .ok (.imul, 1) := by decide +kernel
theorem dL_law_281 : decode cL_law 281 = .ok (.iconst 2, 1) := by decide +kernel
theorem dL_law_282 : decode cL_law 282 = .ok (.iadd, 1) := by decide +kernel
theorem dL_law_283 : decode cL_law 283 = .ok (.ldc 181, 2) := by decide +kernel
theorem dL_law_285 : decode cL_law 285 = .ok (.invokestatic 177, 3) := by decide +kernel
theorem dL_law_288 : decode cL_law 288 = .ok (.istore 14, 2) := by decide +kernel
theorem dL_law_290 : decode cL_law 290 = .ok (.iload 12, 2) := by decide +kernel
theorem dL_law_292 : decode cL_law 292 = .ok (.bipush 12, 2) := by decide +kernel
theorem dL_law_294 : decode cL_law 294 = .ok (.if_icmp .ge 89, 3) := by decide +kernel
theorem dL_law_297 : decode cL_law 297 = .ok (.aload_n 1, 1) := by decide +kernel
theorem dL_law_298 : decode cL_law 298 = .ok (.aload_n 2, 1) := by decide +kernel
theorem dL_law_299 : decode cL_law 299 = .ok (.aload_n 3, 1) := by decide +kernel
theorem dL_law_300 : decode cL_law 300 = .ok (.aload 4, 2) := by decide +kernel
theorem dL_law_302 : decode cL_law 302 = .ok (.aload 5, 2) := by decide +kernel
theorem dL_law_304 : decode cL_law 304 = .ok (.aload 9, 2) := by decide +kernel
theorem dL_law_306 : decode cL_law 306 = .ok (.iload 12, 2) := by decide +kernel
theorem dL_law_308 : decode cL_law 308 = .ok (.iconst 2, 1) := by decide +kernel
theorem dL_law_309 : decode cL_law 309 = .ok (.if_icmp .ge 7, 3) := by decide +kernel
theorem dL_law_312 : decode cL_law 312 = .ok (.iconst 0, 1) := by decide +kernel
theorem dL_law_313 : decode cL_law 313 = .ok (.goto 58, 3) := by decide +kernel
theorem dL_law_316 : decode cL_law 316 = .ok (.iload 12, 2) := by decide +kernel
theorem dL_law_318 : decode cL_law 318 = .ok (.iconst 3, 1) := by decide +kernel
theorem dL_law_319 : decode cL_law 319 = .ok (.if_icmp .ge 7, 3) := by decide +kernel
theorem dL_law_322 : decode cL_law 322 = .ok (.iconst 1, 1) := by decide +kernel
theorem dL_law_323 : decode cL_law 323 = .ok (.goto 48, 3) := by decide +kernel
theorem dL_law_326 : decode cL_law 326 = .ok (.iload 12, 2) := by decide +kernel
theorem dL_law_328 : decode cL_law 328 = .ok (.iconst 5, 1) := by decide +kernel
theorem dL_law_329 : decode cL_law 329 = .ok (.if_icmp .ge 7, 3) := by decide +kernel
theorem dL_law_332 : decode cL_law 332 = .ok (.iconst 2, 1) := by decide +kernel
theorem dL_law_333 : decode cL_law 333 = .ok (.goto 38, 3) := by decide +kernel
theorem dL_law_336 : decode cL_law 336 = .ok (.iload 12, 2) := by decide +kernel
theorem dL_law_338 : decode cL_law 338 = .ok (.bipush 6, 2) := by decide +kernel
theorem dL_law_340 : decode cL_law 340 = .ok (.if_icmp .ge 7, 3) := by decide +kernel
theorem dL_law_343 : decode cL_law 343 = .ok (.iconst 3, 1) := by decide +kernel
theorem dL_law_344 : decode cL_law 344 = .ok (.goto 27, 3) := by decide +kernel
theorem dL_law_347 : decode cL_law 347 = .ok (.iload 12, 2) := by decide +kernel
theorem dL_law_349 : decode cL_law 349 = .ok (.bipush 7, 2) := by decide +kernel
theorem dL_law_351 : decode cL_law 351 = .ok (.if_icmp .ge 7, 3) := by decide +kernel
theorem dL_law_354 : decode cL_law 354 = .ok (.iconst 4, 1) := by decide +kernel
theorem dL_law_355 : decode cL_law 355 = .ok (.goto 16, 3) := by decide +kernel
theorem dL_law_358 : decode cL_law 358 = .ok (.iload 12, 2) := by decide +kernel
theorem dL_law_360 : decode cL_law 360 = .ok (.bipush 11, 2) := by decide +kernel
theorem dL_law_362 : decode cL_law 362 = .ok (.if_icmp .ge 7, 3) := by decide +kernel
theorem dL_law_365 : decode cL_law 365 = .ok (.iconst 5, 1) := by decide +kernel
theorem dL_law_366 : decode cL_law 366 = .ok (.goto 5, 3) := by decide +kernel
theorem dL_law_369 : decode cL_law 369 = .ok (.bipush 6, 2) := by decide +kernel
theorem dL_law_371 : decode cL_law 371 = .ok (.iload 13, 2) := by decide +kernel
theorem dL_law_373 : decode cL_law 373 = .ok (.iload 14, 2) := by decide +kernel
theorem dL_law_375 : decode cL_law 375 = .ok (.invokestatic 182, 3) := by decide +kernel
theorem dL_law_378 : decode cL_law 378 = .ok (.istore 10, 2) := by decide +kernel
theorem dL_law_380 : decode cL_law 380 = .ok (.goto 145, 3) := by decide +kernel
theorem dL_law_383 : decode cL_law 383 = .ok (.iload 12, 2) := by decide +kernel
theorem dL_law_385 : decode cL_law 385 = .ok (.bipush 36, 2) := by decide +kernel
theorem dL_law_387 : decode cL_law 387 = .ok (.if_icmp .ge 82, 3) := by decide +kernel
theorem dL_law_390 : decode cL_law 390 = .ok (.aload_n 1, 1) := by decide +kernel
theorem dL_law_391 : decode cL_law 391 = .ok (.aload_n 2, 1) := by decide +kernel
theorem dL_law_392 : decode cL_law 392 = .ok (.aload_n 3, 1) := by decide +kernel
theorem dL_law_393 : decode cL_law 393 = .ok (.aload 4, 2) := by decide +kernel
theorem dL_law_395 : decode cL_law 395 = .ok (.aload 5, 2) := by decide +kernel
theorem dL_law_397 : decode cL_law 397 = .ok (.aload 6, 2) := by decide +kernel
theorem dL_law_399 : decode cL_law 399 = .ok (.aload 9, 2) := by decide +kernel
theorem dL_law_401 : decode cL_law 401 = .ok (.iload 12, 2) := by decide +kernel
theorem dL_law_403 : decode cL_law 403 = .ok (.bipush 18, 2) := by decide +kernel
theorem dL_law_405 : decode cL_law 405 = .ok (.if_icmp .ge 7, 3) := by decide +kernel
theorem dL_law_408 : decode cL_law 408 = .ok (.iconst 0, 1) := by decide +kernel
theorem dL_law_409 : decode cL_law 409 = .ok (.goto 48, 3) := by decide +kernel
theorem dL_law_412 : decode cL_law 412 = .ok (.iload 12, 2) := by decide +kernel
theorem dL_law_414 : decode cL_law 414 = .ok (.bipush 21, 2) := by decide +kernel
theorem dL_law_416 : decode cL_law 416 = .ok (.if_icmp .ge 7, 3) := by decide +kernel
theorem dL_law_419 : decode cL_law 419 = .ok (.iconst 1, 1) := by decide +kernel
theorem dL_law_420 : decode cL_law 420 = .ok (.goto 37, 3) := by decide +kernel
theorem dL_law_423 : decode cL_law 423 = .ok (.iload 12, 2) := by decide +kernel
theorem dL_law_425 : decode cL_law 425 = .ok (.bipush 22, 2) := by decide +kernel
theorem dL_law_427 : decode cL_law 427 = .ok (.if_icmp .ge 7, 3) := by decide +kernel
theorem dL_law_430 : decode cL_law 430 = .ok (.iconst 2, 1) := by decide +kernel
theorem dL_law_431 : decode cL_law 431 = .ok (.goto 26, 3) := by decide +kernel
theorem dL_law_434 : decode cL_law 434 = .ok (.iload 12, 2) := by decide +kernel
theorem dL_law_436 : decode cL_law 436 = .ok (.bipush 24, 2) := by decide +kernel
theorem dL_law_438 : decode cL_law 438 = .ok (.if_icmp .ge 7, 3) := by decide +kernel
theorem dL_law_441 : decode cL_law 441 = .ok (.iconst 3, 1) := by decide +kernel
theorem dL_law_442 : decode cL_law 442 = .ok (.goto 15, 3) := by decide +kernel
theorem dL_law_445 : decode cL_law 445 = .ok (.iload 12, 2) := by decide +kernel
theorem dL_law_447 : decode cL_law 447 = .ok (.bipush 32, 2) := by decide +kernel
theorem dL_law_449 : decode cL_law 449 = .ok (.if_icmp .ge 7, 3) := by decide +kernel
theorem dL_law_452 : decode cL_law 452 = .ok (.iconst 4, 1) := by decide +kernel
theorem dL_law_453 : decode cL_law 453 = .ok (.goto 4, 3) := by decide +kernel
theorem dL_law_456 : decode cL_law 456 = .ok (.iconst 5, 1) := by decide +kernel
theorem dL_law_457 : decode cL_law 457 = .ok (.iload 13, 2) := by decide +kernel
theorem dL_law_459 : decode cL_law 459 = .ok (.iload 14, 2) := by decide +kernel
theorem dL_law_461 : decode cL_law 461 = .ok (.invokestatic 186, 3) := by decide +kernel
theorem dL_law_464 : decode cL_law 464 = .ok (.istore 10, 2) := by decide +kernel
theorem dL_law_466 : decode cL_law 466 = .ok (.goto 59, 3) := by decide +kernel
theorem dL_law_469 : decode cL_law 469 = .ok (.aload_n 1, 1) := by decide +kernel
theorem dL_law_470 : decode cL_law 470 = .ok (.aload_n 2, 1) := by decide +kernel
theorem dL_law_471 : decode cL_law 471 = .ok (.aload_n 3, 1) := by decide +kernel
theorem dL_law_472 : decode cL_law 472 = .ok (.aload 4, 2) := by decide +kernel
theorem dL_law_474 : decode cL_law 474 = .ok (.aload 5, 2) := by decide +kernel
theorem dL_law_476 : decode cL_law 476 = .ok (.aload 7, 2) := by decide +kernel
theorem dL_law_478 : decode cL_law 478 = .ok (.aload 8, 2) := by decide +kernel
theorem dL_law_480 : decode cL_law 480 = .ok (.aload 9, 2) := by decide +kernel
theorem dL_law_482 : decode cL_law 482 = .ok (.iload 12, 2) := by decide +kernel
theorem dL_law_484 : decode cL_law 484 = .ok (.bipush 38, 2) := by decide +kernel
theorem dL_law_486 : decode cL_law 486 = .ok (.if_icmp .ge 7, 3) := by decide +kernel
theorem dL_law_489 : decode cL_law 489 = .ok (.iconst 0, 1) := by decide +kernel
theorem dL_law_490 : decode cL_law 490 = .ok (.goto 26, 3) := by decide +kernel
theorem dL_law_493 : decode cL_law 493 = .ok (.iload 12, 2) := by decide +kernel
theorem dL_law_495 : decode cL_law 495 = .ok (.bipush 46, 2) := by decide +kernel
theorem dL_law_497 : decode cL_law 497 = .ok (.if_icmp .ge 7, 3) := by decide +kernel
theorem dL_law_500 : decode cL_law 500 = .ok (.iconst 1, 1) := by decide +kernel
theorem dL_law_501 : decode cL_law 501 = .ok (.goto 15, 3) := by decide +kernel
theorem dL_law_504 : decode cL_law 504 = .ok (.iload 12, 2) := by decide +kernel
theorem dL_law_506 : decode cL_law 506 = .ok (.bipush 47, 2) := by decide +kernel
theorem dL_law_508 : decode cL_law 508 = .ok (.if_icmp .ge 7, 3) := by decide +kernel
theorem dL_law_511 : decode cL_law 511 = .ok (.iconst 2, 1) := by decide +kernel
theorem dL_law_512 : decode cL_law 512 = .ok (.goto 4, 3) := by decide +kernel
theorem dL_law_515 : decode cL_law 515 = .ok (.iconst 3, 1) := by decide +kernel
theorem dL_law_516 : decode cL_law 516 = .ok (.iload 13, 2) := by decide +kernel
theorem dL_law_518 : decode cL_law 518 = .ok (.iload 14, 2) := by decide +kernel
theorem dL_law_520 : decode cL_law 520 = .ok (.invokestatic 190, 3) := by decide +kernel
theorem dL_law_523 : decode cL_law 523 = .ok (.istore 10, 2) := by decide +kernel
theorem dL_law_525 : decode cL_law 525 = .ok (.iload 10, 2) := by decide +kernel
theorem dL_law_527 : decode cL_law 527 = .ok (.ifCond .eq 32, 3) := by decide +kernel
theorem dL_law_530 : decode cL_law 530 = .ok (.aload_n 1, 1) := by decide +kernel
theorem dL_law_531 : decode cL_law 531 = .ok (.aload_n 2, 1) := by decide +kernel
theorem dL_law_532 : decode cL_law 532 = .ok (.aload_n 3, 1) := by decide +kernel
theorem dL_law_533 : decode cL_law 533 = .ok (.aload 4, 2) := by decide +kernel
theorem dL_law_535 : decode cL_law 535 = .ok (.aload 5, 2) := by decide +kernel
theorem dL_law_537 : decode cL_law 537 = .ok (.aload 6, 2) := by decide +kernel
theorem dL_law_539 : decode cL_law 539 = .ok (.aload 7, 2) := by decide +kernel
theorem dL_law_541 : decode cL_law 541 = .ok (.aload 8, 2) := by decide +kernel
theorem dL_law_543 : decode cL_law 543 = .ok (.aload 9, 2) := by decide +kernel
theorem dL_law_545 : decode cL_law 545 = .ok (.iload 13, 2) := by decide +kernel
theorem dL_law_547 : decode cL_law 547 = .ok (.iload 14, 2) := by decide +kernel
theorem dL_law_549 : decode cL_law 549 = .ok (.invokestatic 194, 3) := by decide +kernel
theorem dL_law_552 : decode cL_law 552 = .ok (.ifCond .eq 7, 3) := by decide +kernel
theorem dL_law_555 : decode cL_law 555 = .ok (.iconst 1, 1) := by decide +kernel
theorem dL_law_556 : decode cL_law 556 = .ok (.goto 4, 3) := by decide +kernel
theorem dL_law_559 : decode cL_law 559 = .ok (.iconst 0, 1) := by decide +kernel
theorem dL_law_560 : decode cL_law 560 = .ok (.istore 10, 2) := by decide +kernel
theorem dL_law_562 : decode cL_law 562 = .ok (.iinc 11 1, 3) := by decide +kernel
theorem dL_law_565 : decode cL_law 565 = .ok (.goto (-374), 3) := by decide +kernel
theorem dL_law_568 : decode cL_law 568 = .ok (.iload 10, 2) := by decide +kernel
theorem dL_law_570 : decode cL_law 570 = .ok (.ireturn, 1) := by decide +kernel
