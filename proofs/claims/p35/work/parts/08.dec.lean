theorem dL_isLit_167 : decode cL_isLit 167 = .ok (.istore 16, 2) := by decide +kernel
theorem dL_isLit_169 : decode cL_isLit 169 = .ok (.iload 15, 2) := by decide +kernel
theorem dL_isLit_171 : decode cL_isLit 171 = .ok (.ifCond .eq 92, 3) := by decide +kernel
theorem dL_isLit_174 : decode cL_isLit 174 = .ok (.iload 16, 2) := by decide +kernel
theorem dL_isLit_176 : decode cL_isLit 176 = .ok (.ifCond .eq 87, 3) := by decide +kernel
theorem dL_isLit_179 : decode cL_isLit 179 = .ok (.aload 4, 2) := by decide +kernel
theorem dL_isLit_181 : decode cL_isLit 181 = .ok (.bipush 6, 2) := by decide +kernel
theorem dL_isLit_183 : decode cL_isLit 183 = .ok (.aload 6, 2) := by decide +kernel
theorem dL_isLit_185 : decode cL_isLit 185 = .ok (.iconst 3, 1) := by decide +kernel
theorem dL_isLit_186 : decode cL_isLit 186 = .ok (.iaload, 1) := by decide +kernel
theorem dL_isLit_187 : decode cL_isLit 187 = .ok (.imul, 1) := by decide +kernel
theorem dL_isLit_188 : decode cL_isLit 188 = .ok (.iload 11, 2) := by decide +kernel
theorem dL_isLit_190 : decode cL_isLit 190 = .ok (.bipush 64, 2) := by decide +kernel
theorem dL_isLit_192 : decode cL_isLit 192 = .ok (.iload 10, 2) := by decide +kernel
theorem dL_isLit_194 : decode cL_isLit 194 = .ok (.imul, 1) := by decide +kernel
theorem dL_isLit_195 : decode cL_isLit 195 = .ok (.iadd, 1) := by decide +kernel
theorem dL_isLit_196 : decode cL_isLit 196 = .ok (.iastore, 1) := by decide +kernel
theorem dL_isLit_197 : decode cL_isLit 197 = .ok (.aload 4, 2) := by decide +kernel
theorem dL_isLit_199 : decode cL_isLit 199 = .ok (.bipush 6, 2) := by decide +kernel
theorem dL_isLit_201 : decode cL_isLit 201 = .ok (.aload 6, 2) := by decide +kernel
theorem dL_isLit_203 : decode cL_isLit 203 = .ok (.iconst 3, 1) := by decide +kernel
theorem dL_isLit_204 : decode cL_isLit 204 = .ok (.iaload, 1) := by decide +kernel
theorem dL_isLit_205 : decode cL_isLit 205 = .ok (.imul, 1) := by decide +kernel
theorem dL_isLit_206 : decode cL_isLit 206 = .ok (.iconst 1, 1) := by decide +kernel
theorem dL_isLit_207 : decode cL_isLit 207 = .ok (.iadd, 1) := by decide +kernel
theorem dL_isLit_208 : decode cL_isLit 208 = .ok (.iload 12, 2) := by decide +kernel
theorem dL_isLit_210 : decode cL_isLit 210 = .ok (.iastore, 1) := by decide +kernel
theorem dL_isLit_211 : decode cL_isLit 211 = .ok (.aload 4, 2) := by decide +kernel
theorem dL_isLit_213 : decode cL_isLit 213 = .ok (.bipush 6, 2) := by decide +kernel
theorem dL_isLit_215 : decode cL_isLit 215 = .ok (.aload 6, 2) := by decide +kernel
theorem dL_isLit_217 : decode cL_isLit 217 = .ok (.iconst 3, 1) := by decide +kernel
theorem dL_isLit_218 : decode cL_isLit 218 = .ok (.iaload, 1) := by decide +kernel
theorem dL_isLit_219 : decode cL_isLit 219 = .ok (.imul, 1) := by decide +kernel
theorem dL_isLit_220 : decode cL_isLit 220 = .ok (.iconst 2, 1) := by decide +kernel
theorem dL_isLit_221 : decode cL_isLit 221 = .ok (.iadd, 1) := by decide +kernel
theorem dL_isLit_222 : decode cL_isLit 222 = .ok (.iload 13, 2) := by decide +kernel
theorem dL_isLit_224 : decode cL_isLit 224 = .ok (.iconst 4, 1) := by decide +kernel
theorem dL_isLit_225 : decode cL_isLit 225 = .ok (.iload 14, 2) := by decide +kernel
theorem dL_isLit_227 : decode cL_isLit 227 = .ok (.imul, 1) := by decide +kernel
theorem dL_isLit_228 : decode cL_isLit 228 = .ok (.iadd, 1) := by decide +kernel
theorem dL_isLit_229 : decode cL_isLit 229 = .ok (.iastore, 1) := by decide +kernel
theorem dL_isLit_230 : decode cL_isLit 230 = .ok (.aload 4, 2) := by decide +kernel
theorem dL_isLit_232 : decode cL_isLit 232 = .ok (.bipush 6, 2) := by decide +kernel
theorem dL_isLit_234 : decode cL_isLit 234 = .ok (.aload 6, 2) := by decide +kernel
theorem dL_isLit_236 : decode cL_isLit 236 = .ok (.iconst 3, 1) := by decide +kernel
theorem dL_isLit_237 : decode cL_isLit 237 = .ok (.iaload, 1) := by decide +kernel
theorem dL_isLit_238 : decode cL_isLit 238 = .ok (.imul, 1) := by decide +kernel
theorem dL_isLit_239 : decode cL_isLit 239 = .ok (.iconst 3, 1) := by decide +kernel
theorem dL_isLit_240 : decode cL_isLit 240 = .ok (.iadd, 1) := by decide +kernel
theorem dL_isLit_241 : decode cL_isLit 241 = .ok (.sipush 210, 3) := by decide +kernel
theorem dL_isLit_244 : decode cL_isLit 244 = .ok (.iastore, 1) := by decide +kernel
theorem dL_isLit_245 : decode cL_isLit 245 = .ok (.aload 5, 2) := by decide +kernel
theorem dL_isLit_247 : decode cL_isLit 247 = .ok (.aload 6, 2) := by decide +kernel
theorem dL_isLit_249 : decode cL_isLit 249 = .ok (.iconst 3, 1) := by decide +kernel
theorem dL_isLit_250 : decode cL_isLit 250 = .ok (.iaload, 1) := by decide +kernel
theorem dL_isLit_251 : decode cL_isLit 251 = .ok (.sipush (-720), 3) := by decide +kernel
theorem dL_isLit_254 : decode cL_isLit 254 = .ok (.iastore, 1) := by decide +kernel
theorem dL_isLit_255 : decode cL_isLit 255 = .ok (.aload 6, 2) := by decide +kernel
theorem dL_isLit_257 : decode cL_isLit 257 = .ok (.iconst 3, 1) := by decide +kernel
theorem dL_isLit_258 : decode cL_isLit 258 = .ok (.dup2, 1) := by decide +kernel
theorem dL_isLit_259 : decode cL_isLit 259 = .ok (.iaload, 1) := by decide +kernel
theorem dL_isLit_260 : decode cL_isLit 260 = .ok (.iconst 1, 1) := by decide +kernel
theorem dL_isLit_261 : decode cL_isLit 261 = .ok (.iadd, 1) := by decide +kernel
theorem dL_isLit_262 : decode cL_isLit 262 = .ok (.iastore, 1) := by decide +kernel
theorem dL_isLit_263 : decode cL_isLit 263 = .ok (.aload_n 0, 1) := by decide +kernel
theorem dL_isLit_264 : decode cL_isLit 264 = .ok (.bipush 6, 2) := by decide +kernel
theorem dL_isLit_266 : decode cL_isLit 266 = .ok (.iload 10, 2) := by decide +kernel
theorem dL_isLit_268 : decode cL_isLit 268 = .ok (.iload 11, 2) := by decide +kernel
theorem dL_isLit_270 : decode cL_isLit 270 = .ok (.iload 12, 2) := by decide +kernel
theorem dL_isLit_272 : decode cL_isLit 272 = .ok (.iload 13, 2) := by decide +kernel
theorem dL_isLit_274 : decode cL_isLit 274 = .ok (.iload 14, 2) := by decide +kernel
theorem dL_isLit_276 : decode cL_isLit 276 = .ok (.invokestatic 155, 3) := by decide +kernel
theorem dL_isLit_279 : decode cL_isLit 279 = .ok (.iload 15, 2) := by decide +kernel
theorem dL_isLit_281 : decode cL_isLit 281 = .ok (.ifCond .ne 8, 3) := by decide +kernel
theorem dL_isLit_284 : decode cL_isLit 284 = .ok (.ldc 77, 2) := by decide +kernel
theorem dL_isLit_286 : decode cL_isLit 286 = .ok (.goto 19, 3) := by decide +kernel
theorem dL_isLit_289 : decode cL_isLit 289 = .ok (.iload 16, 2) := by decide +kernel
theorem dL_isLit_291 : decode cL_isLit 291 = .ok (.ifCond .eq 12, 3) := by decide +kernel
theorem dL_isLit_294 : decode cL_isLit 294 = .ok (.aload 6, 2) := by decide +kernel
theorem dL_isLit_296 : decode cL_isLit 296 = .ok (.iconst 3, 1) := by decide +kernel
theorem dL_isLit_297 : decode cL_isLit 297 = .ok (.iaload, 1) := by decide +kernel
theorem dL_isLit_298 : decode cL_isLit 298 = .ok (.iconst 1, 1) := by decide +kernel
theorem dL_isLit_299 : decode cL_isLit 299 = .ok (.isub, 1) := by decide +kernel
theorem dL_isLit_300 : decode cL_isLit 300 = .ok (.goto 5, 3) := by decide +kernel
theorem dL_isLit_303 : decode cL_isLit 303 = .ok (.ldc 80, 2) := by decide +kernel
theorem dL_isLit_305 : decode cL_isLit 305 = .ok (.if_icmp .ne 7, 3) := by decide +kernel
theorem dL_isLit_308 : decode cL_isLit 308 = .ok (.iconst 1, 1) := by decide +kernel
theorem dL_isLit_309 : decode cL_isLit 309 = .ok (.goto 4, 3) := by decide +kernel
theorem dL_isLit_312 : decode cL_isLit 312 = .ok (.iconst 0, 1) := by decide +kernel
theorem dL_isLit_313 : decode cL_isLit 313 = .ok (.ireturn, 1) := by decide +kernel
theorem dL_isLit_314 : decode cL_isLit 314 = .ok (.iload 8, 2) := by decide +kernel
theorem dL_isLit_316 : decode cL_isLit 316 = .ok (.aload 6, 2) := by decide +kernel
theorem dL_isLit_318 : decode cL_isLit 318 = .ok (.iconst 3, 1) := by decide +kernel
theorem dL_isLit_319 : decode cL_isLit 319 = .ok (.iaload, 1) := by decide +kernel
theorem dL_isLit_320 : decode cL_isLit 320 = .ok (.iconst 1, 1) := by decide +kernel
theorem dL_isLit_321 : decode cL_isLit 321 = .ok (.iadd, 1) := by decide +kernel
theorem dL_isLit_322 : decode cL_isLit 322 = .ok (.irem, 1) := by decide +kernel
theorem dL_isLit_323 : decode cL_isLit 323 = .ok (.istore 10, 2) := by decide +kernel
theorem dL_isLit_325 : decode cL_isLit 325 = .ok (.iload 10, 2) := by decide +kernel
theorem dL_isLit_327 : decode cL_isLit 327 = .ok (.aload 6, 2) := by decide +kernel
theorem dL_isLit_329 : decode cL_isLit 329 = .ok (.iconst 3, 1) := by decide +kernel
theorem dL_isLit_330 : decode cL_isLit 330 = .ok (.iaload, 1) := by decide +kernel
theorem dL_isLit_331 : decode cL_isLit 331 = .ok (.if_icmp .ge 7, 3) := by decide +kernel
theorem dL_isLit_334 : decode cL_isLit 334 = .ok (.iconst 1, 1) := by decide +kernel
theorem dL_isLit_335 : decode cL_isLit 335 = .ok (.goto 4, 3) := by decide +kernel
theorem dL_isLit_338 : decode cL_isLit 338 = .ok (.iconst 0, 1) := by decide +kernel
theorem dL_isLit_339 : decode cL_isLit 339 = .ok (.istore 11, 2) := by decide +kernel
theorem dL_isLit_341 : decode cL_isLit 341 = .ok (.iload 11, 2) := by decide +kernel
theorem dL_isLit_343 : decode cL_isLit 343 = .ok (.ifCond .eq 24, 3) := by decide +kernel
theorem dL_isLit_346 : decode cL_isLit 346 = .ok (.aload 4, 2) := by decide +kernel
theorem dL_isLit_348 : decode cL_isLit 348 = .ok (.bipush 6, 2) := by decide +kernel
theorem dL_isLit_350 : decode cL_isLit 350 = .ok (.iload 10, 2) := by decide +kernel
theorem dL_isLit_352 : decode cL_isLit 352 = .ok (.imul, 1) := by decide +kernel
theorem dL_isLit_353 : decode cL_isLit 353 = .ok (.iconst 5, 1) := by decide +kernel
theorem dL_isLit_354 : decode cL_isLit 354 = .ok (.iadd, 1) := by decide +kernel
theorem dL_isLit_355 : decode cL_isLit 355 = .ok (.iaload, 1) := by decide +kernel
theorem dL_isLit_356 : decode cL_isLit 356 = .ok (.aload 6, 2) := by decide +kernel
theorem dL_isLit_358 : decode cL_isLit 358 = .ok (.iconst 0, 1) := by decide +kernel
theorem dL_isLit_359 : decode cL_isLit 359 = .ok (.iaload, 1) := by decide +kernel
theorem dL_isLit_360 : decode cL_isLit 360 = .ok (.if_icmp .le 7, 3) := by decide +kernel
theorem dL_isLit_363 : decode cL_isLit 363 = .ok (.iconst 1, 1) := by decide +kernel
theorem dL_isLit_364 : decode cL_isLit 364 = .ok (.goto 4, 3) := by decide +kernel
theorem dL_isLit_367 : decode cL_isLit 367 = .ok (.iconst 0, 1) := by decide +kernel
theorem dL_isLit_368 : decode cL_isLit 368 = .ok (.istore 12, 2) := by decide +kernel
theorem dL_isLit_370 : decode cL_isLit 370 = .ok (.iload 7, 2) := by decide +kernel
theorem dL_isLit_372 : decode cL_isLit 372 = .ok (.iconst 1, 1) := by decide +kernel
theorem dL_isLit_373 : decode cL_isLit 373 = .ok (.if_icmp .ne 126, 3) := by decide +kernel
theorem dL_isLit_376 : decode cL_isLit 376 = .ok (.iload 9, 2) := by decide +kernel
theorem dL_isLit_378 : decode cL_isLit 378 = .ok (.bipush 29, 2) := by decide +kernel
theorem dL_isLit_380 : decode cL_isLit 380 = .ok (.irem, 1) := by decide +kernel
theorem dL_isLit_381 : decode cL_isLit 381 = .ok (.bipush 28, 2) := by decide +kernel
theorem dL_isLit_383 : decode cL_isLit 383 = .ok (.if_icmp .ne 8, 3) := by decide +kernel
theorem dL_isLit_386 : decode cL_isLit 386 = .ok (.bipush 24, 2) := by decide +kernel
theorem dL_isLit_388 : decode cL_isLit 388 = .ok (.goto 8, 3) := by decide +kernel
theorem dL_isLit_391 : decode cL_isLit 391 = .ok (.iload 9, 2) := by decide +kernel
theorem dL_isLit_393 : decode cL_isLit 393 = .ok (.bipush 24, 2) := by decide +kernel
theorem dL_isLit_395 : decode cL_isLit 395 = .ok (.irem, 1) := by decide +kernel
theorem dL_isLit_396 : decode cL_isLit 396 = .ok (.istore 13, 2) := by decide +kernel
theorem dL_isLit_398 : decode cL_isLit 398 = .ok (.iload 9, 2) := by decide +kernel
theorem dL_isLit_400 : decode cL_isLit 400 = .ok (.bipush 29, 2) := by decide +kernel
theorem dL_isLit_402 : decode cL_isLit 402 = .ok (.idiv, 1) := by decide +kernel
theorem dL_isLit_403 : decode cL_isLit 403 = .ok (.bipush 24, 2) := by decide +kernel
theorem dL_isLit_405 : decode cL_isLit 405 = .ok (.irem, 1) := by decide +kernel
theorem dL_isLit_406 : decode cL_isLit 406 = .ok (.istore 14, 2) := by decide +kernel
theorem dL_isLit_408 : decode cL_isLit 408 = .ok (.iload 11, 2) := by decide +kernel
theorem dL_isLit_410 : decode cL_isLit 410 = .ok (.ifCond .eq 33, 3) := by decide +kernel
theorem dL_isLit_413 : decode cL_isLit 413 = .ok (.iload 13, 2) := by decide +kernel
theorem dL_isLit_415 : decode cL_isLit 415 = .ok (.bipush 24, 2) := by decide +kernel
theorem dL_isLit_417 : decode cL_isLit 417 = .ok (.if_icmp .ge 26, 3) := by decide +kernel
theorem dL_isLit_420 : decode cL_isLit 420 = .ok (.iload 12, 2) := by decide +kernel
theorem dL_isLit_422 : decode cL_isLit 422 = .ok (.ifCond .ne 21, 3) := by decide +kernel
theorem dL_isLit_425 : decode cL_isLit 425 = .ok (.aload 4, 2) := by decide +kernel
theorem dL_isLit_427 : decode cL_isLit 427 = .ok (.bipush 6, 2) := by decide +kernel
theorem dL_isLit_429 : decode cL_isLit 429 = .ok (.iload 10, 2) := by decide +kernel
theorem dL_isLit_431 : decode cL_isLit 431 = .ok (.imul, 1) := by decide +kernel
theorem dL_isLit_432 : decode cL_isLit 432 = .ok (.iconst 3, 1) := by decide +kernel
theorem dL_isLit_433 : decode cL_isLit 433 = .ok (.iadd, 1) := by decide +kernel
theorem dL_isLit_434 : decode cL_isLit 434 = .ok (.iload 13, 2) := by decide +kernel
theorem dL_isLit_436 : decode cL_isLit 436 = .ok (.bipush 32, 2) := by decide +kernel
theorem dL_isLit_438 : decode cL_isLit 438 = .ok (.iload 14, 2) := by decide +kernel
theorem dL_isLit_440 : decode cL_isLit 440 = .ok (.imul, 1) := by decide +kernel
theorem dL_isLit_441 : decode cL_isLit 441 = .ok (.iadd, 1) := by decide +kernel
theorem dL_isLit_442 : decode cL_isLit 442 = .ok (.iastore, 1) := by decide +kernel
theorem dL_isLit_443 : decode cL_isLit 443 = .ok (.aload_n 0, 1) := by decide +kernel
theorem dL_isLit_444 : decode cL_isLit 444 = .ok (.bipush 7, 2) := by decide +kernel
theorem dL_isLit_446 : decode cL_isLit 446 = .ok (.iload 10, 2) := by decide +kernel
theorem dL_isLit_448 : decode cL_isLit 448 = .ok (.iload 13, 2) := by decide +kernel
theorem dL_isLit_450 : decode cL_isLit 450 = .ok (.iload 14, 2) := by decide +kernel
theorem dL_isLit_452 : decode cL_isLit 452 = .ok (.iconst 0, 1) := by decide +kernel
theorem dL_isLit_453 : decode cL_isLit 453 = .ok (.iconst 0, 1) := by decide +kernel
theorem dL_isLit_454 : decode cL_isLit 454 = .ok (.invokestatic 155, 3) := by decide +kernel
theorem dL_isLit_457 : decode cL_isLit 457 = .ok (.iload 11, 2) := by decide +kernel
theorem dL_isLit_459 : decode cL_isLit 459 = .ok (.ifCond .ne 8, 3) := by decide +kernel
theorem dL_isLit_462 : decode cL_isLit 462 = .ok (.ldc 77, 2) := by decide +kernel
theorem dL_isLit_464 : decode cL_isLit 464 = .ok (.goto 26, 3) := by decide +kernel
theorem dL_isLit_467 : decode cL_isLit 467 = .ok (.iload 13, 2) := by decide +kernel
theorem dL_isLit_469 : decode cL_isLit 469 = .ok (.bipush 24, 2) := by decide +kernel
theorem dL_isLit_471 : decode cL_isLit 471 = .ok (.if_icmp .ne 8, 3) := by decide +kernel
theorem dL_isLit_474 : decode cL_isLit 474 = .ok (.ldc 80, 2) := by decide +kernel
theorem dL_isLit_476 : decode cL_isLit 476 = .ok (.goto 14, 3) := by decide +kernel
theorem dL_isLit_479 : decode cL_isLit 479 = .ok (.iload 12, 2) := by decide +kernel
theorem dL_isLit_481 : decode cL_isLit 481 = .ok (.ifCond .eq 8, 3) := by decide +kernel
theorem dL_isLit_484 : decode cL_isLit 484 = .ok (.ldc 83, 2) := by decide +kernel
theorem dL_isLit_486 : decode cL_isLit 486 = .ok (.goto 4, 3) := by decide +kernel
theorem dL_isLit_489 : decode cL_isLit 489 = .ok (.iconst 0, 1) := by decide +kernel
theorem dL_isLit_490 : decode cL_isLit 490 = .ok (.if_icmp .ne 7, 3) := by decide +kernel
theorem dL_isLit_493 : decode cL_isLit 493 = .ok (.iconst 1, 1) := by decide +kernel
theorem dL_isLit_494 : decode cL_isLit 494 = .ok (.goto 4, 3) := by decide +kernel
theorem dL_isLit_497 : decode cL_isLit 497 = .ok (.iconst 0, 1) := by decide +kernel
theorem dL_isLit_498 : decode cL_isLit 498 = .ok (.ireturn, 1) := by decide +kernel
theorem dL_isLit_499 : decode cL_isLit 499 = .ok (.iload 7, 2) := by decide +kernel
theorem dL_isLit_501 : decode cL_isLit 501 = .ok (.iconst 2, 1) := by decide +kernel
theorem dL_isLit_502 : decode cL_isLit 502 = .ok (.if_icmp .ne 94, 3) := by decide +kernel
theorem dL_isLit_505 : decode cL_isLit 505 = .ok (.iload 11, 2) := by decide +kernel
theorem dL_isLit_507 : decode cL_isLit 507 = .ok (.ifCond .ne 5, 3) := by decide +kernel
theorem dL_isLit_510 : decode cL_isLit 510 = .ok (.iconst 1, 1) := by decide +kernel
theorem dL_isLit_511 : decode cL_isLit 511 = .ok (.ireturn, 1) := by decide +kernel
theorem dL_isLit_512 : decode cL_isLit 512 = .ok (.aload 4, 2) := by decide +kernel
theorem dL_isLit_514 : decode cL_isLit 514 = .ok (.bipush 6, 2) := by decide +kernel
theorem dL_isLit_516 : decode cL_isLit 516 = .ok (.iload 10, 2) := by decide +kernel
theorem dL_isLit_518 : decode cL_isLit 518 = .ok (.imul, 1) := by decide +kernel
theorem dL_isLit_519 : decode cL_isLit 519 = .ok (.iaload, 1) := by decide +kernel
theorem dL_isLit_520 : decode cL_isLit 520 = .ok (.bipush 127, 2) := by decide +kernel
theorem dL_isLit_522 : decode cL_isLit 522 = .ok (.if_icmp .le 7, 3) := by decide +kernel
theorem dL_isLit_525 : decode cL_isLit 525 = .ok (.iconst 1, 1) := by decide +kernel
theorem dL_isLit_526 : decode cL_isLit 526 = .ok (.goto 4, 3) := by decide +kernel
theorem dL_isLit_529 : decode cL_isLit 529 = .ok (.iconst 0, 1) := by decide +kernel
theorem dL_isLit_530 : decode cL_isLit 530 = .ok (.istore 13, 2) := by decide +kernel
theorem dL_isLit_532 : decode cL_isLit 532 = .ok (.aload 4, 2) := by decide +kernel
theorem dL_isLit_534 : decode cL_isLit 534 = .ok (.bipush 6, 2) := by decide +kernel
theorem dL_isLit_536 : decode cL_isLit 536 = .ok (.iload 10, 2) := by decide +kernel
theorem dL_isLit_538 : decode cL_isLit 538 = .ok (.imul, 1) := by decide +kernel
theorem dL_isLit_539 : decode cL_isLit 539 = .ok (.aload 4, 2) := by decide +kernel
theorem dL_isLit_541 : decode cL_isLit 541 = .ok (.bipush 6, 2) := by decide +kernel
theorem dL_isLit_543 : decode cL_isLit 543 = .ok (.iload 10, 2) := by decide +kernel
theorem dL_isLit_545 : decode cL_isLit 545 = .ok (.imul, 1) := by decide +kernel
theorem dL_isLit_546 : decode cL_isLit 546 = .ok (.iaload, 1) := by decide +kernel
theorem dL_isLit_547 : decode cL_isLit 547 = .ok (.sipush 128, 3) := by decide +kernel
theorem dL_isLit_550 : decode cL_isLit 550 = .ok (.irem, 1) := by decide +kernel
theorem dL_isLit_551 : decode cL_isLit 551 = .ok (.iload 9, 2) := by decide +kernel
theorem dL_isLit_553 : decode cL_isLit 553 = .ok (.iconst 2, 1) := by decide +kernel
theorem dL_isLit_554 : decode cL_isLit 554 = .ok (.irem, 1) := by decide +kernel
theorem dL_isLit_555 : decode cL_isLit 555 = .ok (.ifCond .ne 9, 3) := by decide +kernel
theorem dL_isLit_558 : decode cL_isLit 558 = .ok (.sipush 128, 3) := by decide +kernel
theorem dL_isLit_561 : decode cL_isLit 561 = .ok (.goto 4, 3) := by decide +kernel
theorem dL_isLit_564 : decode cL_isLit 564 = .ok (.iconst 0, 1) := by decide +kernel
theorem dL_isLit_565 : decode cL_isLit 565 = .ok (.iadd, 1) := by decide +kernel
theorem dL_isLit_566 : decode cL_isLit 566 = .ok (.iastore, 1) := by decide +kernel
theorem dL_isLit_567 : decode cL_isLit 567 = .ok (.aload_n 0, 1) := by decide +kernel
theorem dL_isLit_568 : decode cL_isLit 568 = .ok (.iload 10, 2) := by decide +kernel
theorem dL_isLit_570 : decode cL_isLit 570 = .ok (.iload 9, 2) := by decide +kernel
theorem dL_isLit_572 : decode cL_isLit 572 = .ok (.iconst 2, 1) := by decide +kernel
theorem dL_isLit_573 : decode cL_isLit 573 = .ok (.irem, 1) := by decide +kernel
theorem dL_isLit_574 : decode cL_isLit 574 = .ok (.ifCond .ne 7, 3) := by decide +kernel
theorem dL_isLit_577 : decode cL_isLit 577 = .ok (.iconst 1, 1) := by decide +kernel
theorem dL_isLit_578 : decode cL_isLit 578 = .ok (.goto 4, 3) := by decide +kernel
theorem dL_isLit_581 : decode cL_isLit 581 = .ok (.iconst 0, 1) := by decide +kernel
theorem dL_isLit_582 : decode cL_isLit 582 = .ok (.invokevirtual 169, 3) := by decide +kernel
theorem dL_isLit_585 : decode cL_isLit 585 = .ok (.iload 13, 2) := by decide +kernel
theorem dL_isLit_587 : decode cL_isLit 587 = .ok (.if_icmp .ne 7, 3) := by decide +kernel
theorem dL_isLit_590 : decode cL_isLit 590 = .ok (.iconst 1, 1) := by decide +kernel
theorem dL_isLit_591 : decode cL_isLit 591 = .ok (.goto 4, 3) := by decide +kernel
theorem dL_isLit_594 : decode cL_isLit 594 = .ok (.iconst 0, 1) := by decide +kernel
theorem dL_isLit_595 : decode cL_isLit 595 = .ok (.ireturn, 1) := by decide +kernel
theorem dL_isLit_596 : decode cL_isLit 596 = .ok (.iload 7, 2) := by decide +kernel
theorem dL_isLit_598 : decode cL_isLit 598 = .ok (.iconst 3, 1) := by decide +kernel
theorem dL_isLit_599 : decode cL_isLit 599 = .ok (.if_icmp .ne 165, 3) := by decide +kernel
theorem dL_isLit_602 : decode cL_isLit 602 = .ok (.iload 8, 2) := by decide +kernel
theorem dL_isLit_604 : decode cL_isLit 604 = .ok (.aload 6, 2) := by decide +kernel
theorem dL_isLit_606 : decode cL_isLit 606 = .ok (.iconst 2, 1) := by decide +kernel
theorem dL_isLit_607 : decode cL_isLit 607 = .ok (.iaload, 1) := by decide +kernel
theorem dL_isLit_608 : decode cL_isLit 608 = .ok (.iconst 1, 1) := by decide +kernel
theorem dL_isLit_609 : decode cL_isLit 609 = .ok (.iadd, 1) := by decide +kernel
theorem dL_isLit_610 : decode cL_isLit 610 = .ok (.irem, 1) := by decide +kernel
theorem dL_isLit_611 : decode cL_isLit 611 = .ok (.istore 13, 2) := by decide +kernel
theorem dL_isLit_613 : decode cL_isLit 613 = .ok (.iload 9, 2) := by decide +kernel
theorem dL_isLit_615 : decode cL_isLit 615 = .ok (.bipush 9, 2) := by decide +kernel
theorem dL_isLit_617 : decode cL_isLit 617 = .ok (.irem, 1) := by decide +kernel
theorem dL_isLit_618 : decode cL_isLit 618 = .ok (.ifCond .ne 9, 3) := by decide +kernel
theorem dL_isLit_621 : decode cL_isLit 621 = .ok (.sipush 501, 3) := by decide +kernel
theorem dL_isLit_624 : decode cL_isLit 624 = .ok (.goto 8, 3) := by decide +kernel
theorem dL_isLit_627 : decode cL_isLit 627 = .ok (.iload 9, 2) := by decide +kernel
theorem dL_isLit_629 : decode cL_isLit 629 = .ok (.bipush 40, 2) := by decide +kernel
theorem dL_isLit_631 : decode cL_isLit 631 = .ok (.irem, 1) := by decide +kernel
theorem dL_isLit_632 : decode cL_isLit 632 = .ok (.istore 14, 2) := by decide +kernel
theorem dL_isLit_634 : decode cL_isLit 634 = .ok (.iload 13, 2) := by decide +kernel
theorem dL_isLit_636 : decode cL_isLit 636 = .ok (.aload 6, 2) := by decide +kernel
theorem dL_isLit_638 : decode cL_isLit 638 = .ok (.iconst 2, 1) := by decide +kernel
theorem dL_isLit_639 : decode cL_isLit 639 = .ok (.iaload, 1) := by decide +kernel
theorem dL_isLit_640 : decode cL_isLit 640 = .ok (.if_icmp .ge 7, 3) := by decide +kernel
theorem dL_isLit_643 : decode cL_isLit 643 = .ok (.iconst 1, 1) := by decide +kernel
theorem dL_isLit_644 : decode cL_isLit 644 = .ok (.goto 4, 3) := by decide +kernel
theorem dL_isLit_647 : decode cL_isLit 647 = .ok (.iconst 0, 1) := by decide +kernel
theorem dL_isLit_648 : decode cL_isLit 648 = .ok (.istore 15, 2) := by decide +kernel
theorem dL_isLit_650 : decode cL_isLit 650 = .ok (.iload 15, 2) := by decide +kernel
theorem dL_isLit_652 : decode cL_isLit 652 = .ok (.ifCond .eq 34, 3) := by decide +kernel
theorem dL_isLit_655 : decode cL_isLit 655 = .ok (.aload_n 3, 1) := by decide +kernel
theorem dL_isLit_656 : decode cL_isLit 656 = .ok (.iconst 4, 1) := by decide +kernel
theorem dL_isLit_657 : decode cL_isLit 657 = .ok (.iload 13, 2) := by decide +kernel
theorem dL_isLit_659 : decode cL_isLit 659 = .ok (.imul, 1) := by decide +kernel
theorem dL_isLit_660 : decode cL_isLit 660 = .ok (.iconst 3, 1) := by decide +kernel
theorem dL_isLit_661 : decode cL_isLit 661 = .ok (.iadd, 1) := by decide +kernel
theorem dL_isLit_662 : decode cL_isLit 662 = .ok (.iaload, 1) := by decide +kernel
theorem dL_isLit_663 : decode cL_isLit 663 = .ok (.aload 6, 2) := by decide +kernel
theorem dL_isLit_665 : decode cL_isLit 665 = .ok (.iconst 0, 1) := by decide +kernel
theorem dL_isLit_666 : decode cL_isLit 666 = .ok (.iaload, 1) := by decide +kernel
theorem dL_isLit_667 : decode cL_isLit 667 = .ok (.if_icmp .le 19, 3) := by decide +kernel
theorem dL_isLit_670 : decode cL_isLit 670 = .ok (.aload_n 3, 1) := by decide +kernel
theorem dL_isLit_671 : decode cL_isLit 671 = .ok (.iconst 4, 1) := by decide +kernel
theorem dL_isLit_672 : decode cL_isLit 672 = .ok (.iload 13, 2) := by decide +kernel
theorem dL_isLit_674 : decode cL_isLit 674 = .ok (.imul, 1) := by decide +kernel
theorem dL_isLit_675 : decode cL_isLit 675 = .ok (.iconst 3, 1) := by decide +kernel
theorem dL_isLit_676 : decode cL_isLit 676 = .ok (.iadd, 1) := by decide +kernel
theorem dL_isLit_677 : decode cL_isLit 677 = .ok (.iaload, 1) := by decide +kernel
theorem dL_isLit_678 : decode cL_isLit 678 = .ok (.aload 6, 2) := by decide +kernel
theorem dL_isLit_680 : decode cL_isLit 680 = .ok (.iconst 0, 1) := by decide +kernel
theorem dL_isLit_681 : decode cL_isLit 681 = .ok (.iaload, 1) := by decide +kernel
theorem dL_isLit_682 : decode cL_isLit 682 = .ok (.isub, 1) := by decide +kernel
theorem dL_isLit_683 : decode cL_isLit 683 = .ok (.goto 4, 3) := by decide +kernel
theorem dL_isLit_686 : decode cL_isLit 686 = .ok (.iconst 0, 1) := by decide +kernel
theorem dL_isLit_687 : decode cL_isLit 687 = .ok (.istore 16, 2) := by decide +kernel
theorem dL_isLit_689 : decode cL_isLit 689 = .ok (.iload 15, 2) := by decide +kernel
theorem dL_isLit_691 : decode cL_isLit 691 = .ok (.ifCond .eq 26, 3) := by decide +kernel
theorem dL_isLit_694 : decode cL_isLit 694 = .ok (.iload 14, 2) := by decide +kernel
theorem dL_isLit_696 : decode cL_isLit 696 = .ok (.sipush 501, 3) := by decide +kernel
theorem dL_isLit_699 : decode cL_isLit 699 = .ok (.if_icmp .ge 18, 3) := by decide +kernel
theorem dL_isLit_702 : decode cL_isLit 702 = .ok (.aload_n 3, 1) := by decide +kernel
theorem dL_isLit_703 : decode cL_isLit 703 = .ok (.iconst 4, 1) := by decide +kernel
theorem dL_isLit_704 : decode cL_isLit 704 = .ok (.iload 13, 2) := by decide +kernel
theorem dL_isLit_706 : decode cL_isLit 706 = .ok (.imul, 1) := by decide +kernel
theorem dL_isLit_707 : decode cL_isLit 707 = .ok (.iconst 3, 1) := by decide +kernel
theorem dL_isLit_708 : decode cL_isLit 708 = .ok (.iadd, 1) := by decide +kernel
theorem dL_isLit_709 : decode cL_isLit 709 = .ok (.aload 6, 2) := by decide +kernel
theorem dL_isLit_711 : decode cL_isLit 711 = .ok (.iconst 0, 1) := by decide +kernel
theorem dL_isLit_712 : decode cL_isLit 712 = .ok (.iaload, 1) := by decide +kernel
theorem dL_isLit_713 : decode cL_isLit 713 = .ok (.iload 14, 2) := by decide +kernel
theorem dL_isLit_715 : decode cL_isLit 715 = .ok (.iadd, 1) := by decide +kernel
theorem dL_isLit_716 : decode cL_isLit 716 = .ok (.iastore, 1) := by decide +kernel
theorem dL_isLit_717 : decode cL_isLit 717 = .ok (.aload_n 0, 1) := by decide +kernel
theorem dL_isLit_718 : decode cL_isLit 718 = .ok (.bipush 8, 2) := by decide +kernel
theorem dL_isLit_720 : decode cL_isLit 720 = .ok (.iload 13, 2) := by decide +kernel
theorem dL_isLit_722 : decode cL_isLit 722 = .ok (.iload 14, 2) := by decide +kernel
theorem dL_isLit_724 : decode cL_isLit 724 = .ok (.iconst 0, 1) := by decide +kernel
theorem dL_isLit_725 : decode cL_isLit 725 = .ok (.iconst 0, 1) := by decide +kernel
theorem dL_isLit_726 : decode cL_isLit 726 = .ok (.iconst 0, 1) := by decide +kernel
theorem dL_isLit_727 : decode cL_isLit 727 = .ok (.invokestatic 155, 3) := by decide +kernel
theorem dL_isLit_730 : decode cL_isLit 730 = .ok (.iload 15, 2) := by decide +kernel
theorem dL_isLit_732 : decode cL_isLit 732 = .ok (.ifCond .ne 8, 3) := by decide +kernel
theorem dL_isLit_735 : decode cL_isLit 735 = .ok (.ldc 77, 2) := by decide +kernel
theorem dL_isLit_737 : decode cL_isLit 737 = .ok (.goto 18, 3) := by decide +kernel
theorem dL_isLit_740 : decode cL_isLit 740 = .ok (.iload 14, 2) := by decide +kernel
theorem dL_isLit_742 : decode cL_isLit 742 = .ok (.sipush 501, 3) := by decide +kernel
theorem dL_isLit_745 : decode cL_isLit 745 = .ok (.if_icmp .ge 8, 3) := by decide +kernel
theorem dL_isLit_748 : decode cL_isLit 748 = .ok (.iload 16, 2) := by decide +kernel
theorem dL_isLit_750 : decode cL_isLit 750 = .ok (.goto 5, 3) := by decide +kernel
theorem dL_isLit_753 : decode cL_isLit 753 = .ok (.ldc 80, 2) := by decide +kernel
theorem dL_isLit_755 : decode cL_isLit 755 = .ok (.if_icmp .ne 7, 3) := by decide +kernel
theorem dL_isLit_758 : decode cL_isLit 758 = .ok (.iconst 1, 1) := by decide +kernel
theorem dL_isLit_759 : decode cL_isLit 759 = .ok (.goto 4, 3) := by decide +kernel
theorem dL_isLit_762 : decode cL_isLit 762 = .ok (.iconst 0, 1) := by decide +kernel
theorem dL_isLit_763 : decode cL_isLit 763 = .ok (.ireturn, 1) := by decide +kernel
theorem dL_isLit_764 : decode cL_isLit 764 = .ok (.iload 7, 2) := by decide +kernel
theorem dL_isLit_766 : decode cL_isLit 766 = .ok (.iconst 4, 1) := by decide +kernel
theorem dL_isLit_767 : decode cL_isLit 767 = .ok (.if_icmp .ne 419, 3) := by decide +kernel
theorem dL_isLit_770 : decode cL_isLit 770 = .ok (.iload 11, 2) := by decide +kernel
theorem dL_isLit_772 : decode cL_isLit 772 = .ok (.ifCond .eq 21, 3) := by decide +kernel
theorem dL_isLit_775 : decode cL_isLit 775 = .ok (.aload 4, 2) := by decide +kernel
theorem dL_isLit_777 : decode cL_isLit 777 = .ok (.bipush 6, 2) := by decide +kernel
theorem dL_isLit_779 : decode cL_isLit 779 = .ok (.iload 10, 2) := by decide +kernel
theorem dL_isLit_781 : decode cL_isLit 781 = .ok (.imul, 1) := by decide +kernel
theorem dL_isLit_782 : decode cL_isLit 782 = .ok (.iconst 2, 1) := by decide +kernel
theorem dL_isLit_783 : decode cL_isLit 783 = .ok (.iadd, 1) := by decide +kernel
theorem dL_isLit_784 : decode cL_isLit 784 = .ok (.iaload, 1) := by decide +kernel
theorem dL_isLit_785 : decode cL_isLit 785 = .ok (.iconst 4, 1) := by decide +kernel
theorem dL_isLit_786 : decode cL_isLit 786 = .ok (.idiv, 1) := by decide +kernel
theorem dL_isLit_787 : decode cL_isLit 787 = .ok (.bipush 16, 2) := by decide +kernel
theorem dL_isLit_789 : decode cL_isLit 789 = .ok (.irem, 1) := by decide +kernel
theorem dL_isLit_790 : decode cL_isLit 790 = .ok (.goto 4, 3) := by decide +kernel
theorem dL_isLit_793 : decode cL_isLit 793 = .ok (.iconst 0, 1) := by decide +kernel
theorem dL_isLit_794 : decode cL_isLit 794 = .ok (.istore 13, 2) := by decide +kernel
theorem dL_isLit_796 : decode cL_isLit 796 = .ok (.iload 11, 2) := by decide +kernel
theorem dL_isLit_798 : decode cL_isLit 798 = .ok (.ifCond .eq 19, 3) := by decide +kernel
theorem dL_isLit_801 : decode cL_isLit 801 = .ok (.aload 4, 2) := by decide +kernel
theorem dL_isLit_803 : decode cL_isLit 803 = .ok (.bipush 6, 2) := by decide +kernel
theorem dL_isLit_805 : decode cL_isLit 805 = .ok (.iload 10, 2) := by decide +kernel
theorem dL_isLit_807 : decode cL_isLit 807 = .ok (.imul, 1) := by decide +kernel
theorem dL_isLit_808 : decode cL_isLit 808 = .ok (.iconst 2, 1) := by decide +kernel
theorem dL_isLit_809 : decode cL_isLit 809 = .ok (.iadd, 1) := by decide +kernel
theorem dL_isLit_810 : decode cL_isLit 810 = .ok (.iaload, 1) := by decide +kernel
theorem dL_isLit_811 : decode cL_isLit 811 = .ok (.bipush 64, 2) := by decide +kernel
theorem dL_isLit_813 : decode cL_isLit 813 = .ok (.idiv, 1) := by decide +kernel
theorem dL_isLit_814 : decode cL_isLit 814 = .ok (.goto 4, 3) := by decide +kernel
theorem dL_isLit_817 : decode cL_isLit 817 = .ok (.iconst 0, 1) := by decide +kernel
theorem dL_isLit_818 : decode cL_isLit 818 = .ok (.istore 14, 2) := by decide +kernel
theorem dL_isLit_820 : decode cL_isLit 820 = .ok (.iload 11, 2) := by decide +kernel
theorem dL_isLit_822 : decode cL_isLit 822 = .ok (.ifCond .eq 19, 3) := by decide +kernel
theorem dL_isLit_825 : decode cL_isLit 825 = .ok (.aload 4, 2) := by decide +kernel
theorem dL_isLit_827 : decode cL_isLit 827 = .ok (.bipush 6, 2) := by decide +kernel
theorem dL_isLit_829 : decode cL_isLit 829 = .ok (.iload 10, 2) := by decide +kernel
theorem dL_isLit_831 : decode cL_isLit 831 = .ok (.imul, 1) := by decide +kernel
theorem dL_isLit_832 : decode cL_isLit 832 = .ok (.iaload, 1) := by decide +kernel
theorem dL_isLit_833 : decode cL_isLit 833 = .ok (.bipush 64, 2) := by decide +kernel
theorem dL_isLit_835 : decode cL_isLit 835 = .ok (.idiv, 1) := by decide +kernel
theorem dL_isLit_836 : decode cL_isLit 836 = .ok (.iconst 2, 1) := by decide +kernel
theorem dL_isLit_837 : decode cL_isLit 837 = .ok (.irem, 1) := by decide +kernel
theorem dL_isLit_838 : decode cL_isLit 838 = .ok (.goto 4, 3) := by decide +kernel
theorem dL_isLit_841 : decode cL_isLit 841 = .ok (.iconst 0, 1) := by decide +kernel
theorem dL_isLit_842 : decode cL_isLit 842 = .ok (.istore 15, 2) := by decide +kernel
theorem dL_isLit_844 : decode cL_isLit 844 = .ok (.iload 13, 2) := by decide +kernel
theorem dL_isLit_846 : decode cL_isLit 846 = .ok (.iconst 1, 1) := by decide +kernel
theorem dL_isLit_847 : decode cL_isLit 847 = .ok (.isub, 1) := by decide +kernel
theorem dL_isLit_848 : decode cL_isLit 848 = .ok (.iload 9, 2) := by decide +kernel
theorem dL_isLit_850 : decode cL_isLit 850 = .ok (.iconst 5, 1) := by decide +kernel
theorem dL_isLit_851 : decode cL_isLit 851 = .ok (.irem, 1) := by decide +kernel
theorem dL_isLit_852 : decode cL_isLit 852 = .ok (.iadd, 1) := by decide +kernel
theorem dL_isLit_853 : decode cL_isLit 853 = .ok (.istore 16, 2) := by decide +kernel
theorem dL_isLit_855 : decode cL_isLit 855 = .ok (.iload 14, 2) := by decide +kernel
theorem dL_isLit_857 : decode cL_isLit 857 = .ok (.iconst 1, 1) := by decide +kernel
theorem dL_isLit_858 : decode cL_isLit 858 = .ok (.isub, 1) := by decide +kernel
theorem dL_isLit_859 : decode cL_isLit 859 = .ok (.iload 9, 2) := by decide +kernel
theorem dL_isLit_861 : decode cL_isLit 861 = .ok (.iconst 5, 1) := by decide +kernel
theorem dL_isLit_862 : decode cL_isLit 862 = .ok (.idiv, 1) := by decide +kernel
theorem dL_isLit_863 : decode cL_isLit 863 = .ok (.iconst 4, 1) := by decide +kernel
theorem dL_isLit_864 : decode cL_isLit 864 = .ok (.irem, 1) := by decide +kernel
theorem dL_isLit_865 : decode cL_isLit 865 = .ok (.iadd, 1) := by decide +kernel
theorem dL_isLit_866 : decode cL_isLit 866 = .ok (.istore 17, 2) := by decide +kernel
theorem dL_isLit_868 : decode cL_isLit 868 = .ok (.iload 9, 2) := by decide +kernel
theorem dL_isLit_870 : decode cL_isLit 870 = .ok (.bipush 20, 2) := by decide +kernel
theorem dL_isLit_872 : decode cL_isLit 872 = .ok (.idiv, 1) := by decide +kernel
theorem dL_isLit_873 : decode cL_isLit 873 = .ok (.bipush 20, 2) := by decide +kernel
theorem dL_isLit_875 : decode cL_isLit 875 = .ok (.irem, 1) := by decide +kernel
theorem dL_isLit_876 : decode cL_isLit 876 = .ok (.istore 18, 2) := by decide +kernel
theorem dL_isLit_878 : decode cL_isLit 878 = .ok (.iload 9, 2) := by decide +kernel
theorem dL_isLit_880 : decode cL_isLit 880 = .ok (.sipush 400, 3) := by decide +kernel
theorem dL_isLit_883 : decode cL_isLit 883 = .ok (.idiv, 1) := by decide +kernel
theorem dL_isLit_884 : decode cL_isLit 884 = .ok (.bipush 12, 2) := by decide +kernel
theorem dL_isLit_886 : decode cL_isLit 886 = .ok (.irem, 1) := by decide +kernel
theorem dL_isLit_887 : decode cL_isLit 887 = .ok (.istore 19, 2) := by decide +kernel
theorem dL_isLit_889 : decode cL_isLit 889 = .ok (.iload 16, 2) := by decide +kernel
theorem dL_isLit_891 : decode cL_isLit 891 = .ok (.iload 13, 2) := by decide +kernel
theorem dL_isLit_893 : decode cL_isLit 893 = .ok (.if_icmp .lt 42, 3) := by decide +kernel
theorem dL_isLit_896 : decode cL_isLit 896 = .ok (.iload 16, 2) := by decide +kernel
theorem dL_isLit_898 : decode cL_isLit 898 = .ok (.bipush 11, 2) := by decide +kernel
theorem dL_isLit_900 : decode cL_isLit 900 = .ok (.if_icmp .ge 35, 3) := by decide +kernel
theorem dL_isLit_903 : decode cL_isLit 903 = .ok (.iload 17, 2) := by decide +kernel
theorem dL_isLit_905 : decode cL_isLit 905 = .ok (.iload 14, 2) := by decide +kernel
theorem dL_isLit_907 : decode cL_isLit 907 = .ok (.if_icmp .lt 28, 3) := by decide +kernel
theorem dL_isLit_910 : decode cL_isLit 910 = .ok (.iload 17, 2) := by decide +kernel
theorem dL_isLit_912 : decode cL_isLit 912 = .ok (.bipush 11, 2) := by decide +kernel
theorem dL_isLit_914 : decode cL_isLit 914 = .ok (.if_icmp .ge 21, 3) := by decide +kernel
theorem dL_isLit_917 : decode cL_isLit 917 = .ok (.iload 18, 2) := by decide +kernel
theorem dL_isLit_919 : decode cL_isLit 919 = .ok (.iload 19, 2) := by decide +kernel
theorem dL_isLit_921 : decode cL_isLit 921 = .ok (.iadd, 1) := by decide +kernel
theorem dL_isLit_922 : decode cL_isLit 922 = .ok (.aload_n 3, 1) := by decide +kernel
theorem dL_isLit_923 : decode cL_isLit 923 = .ok (.iconst 4, 1) := by decide +kernel
theorem dL_isLit_924 : decode cL_isLit 924 = .ok (.iload 15, 2) := by decide +kernel
theorem dL_isLit_926 : decode cL_isLit 926 = .ok (.imul, 1) := by decide +kernel
theorem dL_isLit_927 : decode cL_isLit 927 = .ok (.iaload, 1) := by decide +kernel
theorem dL_isLit_928 : decode cL_isLit 928 = .ok (.if_icmp .gt 7, 3) := by decide +kernel
theorem dL_isLit_931 : decode cL_isLit 931 = .ok (.iconst 1, 1) := by decide +kernel
theorem dL_isLit_932 : decode cL_isLit 932 = .ok (.goto 4, 3) := by decide +kernel
theorem dL_isLit_935 : decode cL_isLit 935 = .ok (.iconst 0, 1) := by decide +kernel
theorem dL_isLit_936 : decode cL_isLit 936 = .ok (.istore 20, 2) := by decide +kernel
theorem dL_isLit_938 : decode cL_isLit 938 = .ok (.iload 11, 2) := by decide +kernel
theorem dL_isLit_940 : decode cL_isLit 940 = .ok (.ifCond .eq 31, 3) := by decide +kernel
theorem dL_isLit_943 : decode cL_isLit 943 = .ok (.iload 20, 2) := by decide +kernel
theorem dL_isLit_945 : decode cL_isLit 945 = .ok (.ifCond .eq 26, 3) := by decide +kernel
theorem dL_isLit_948 : decode cL_isLit 948 = .ok (.iload 12, 2) := by decide +kernel
theorem dL_isLit_950 : decode cL_isLit 950 = .ok (.ifCond .ne 21, 3) := by decide +kernel
theorem dL_isLit_953 : decode cL_isLit 953 = .ok (.iload 16, 2) := by decide +kernel
theorem dL_isLit_955 : decode cL_isLit 955 = .ok (.iload 13, 2) := by decide +kernel
theorem dL_isLit_957 : decode cL_isLit 957 = .ok (.if_icmp .gt 10, 3) := by decide +kernel
theorem dL_isLit_960 : decode cL_isLit 960 = .ok (.iload 17, 2) := by decide +kernel
theorem dL_isLit_962 : decode cL_isLit 962 = .ok (.iload 14, 2) := by decide +kernel
theorem dL_isLit_964 : decode cL_isLit 964 = .ok (.if_icmp .le 7, 3) := by decide +kernel
theorem dL_isLit_967 : decode cL_isLit 967 = .ok (.iconst 1, 1) := by decide +kernel
theorem dL_isLit_968 : decode cL_isLit 968 = .ok (.goto 4, 3) := by decide +kernel
theorem dL_isLit_971 : decode cL_isLit 971 = .ok (.iconst 0, 1) := by decide +kernel
theorem dL_isLit_972 : decode cL_isLit 972 = .ok (.istore 21, 2) := by decide +kernel
theorem dL_isLit_974 : decode cL_isLit 974 = .ok (.iconst 2, 1) := by decide +kernel
theorem dL_isLit_975 : decode cL_isLit 975 = .ok (.iload 16, 2) := by decide +kernel
theorem dL_isLit_977 : decode cL_isLit 977 = .ok (.iload 13, 2) := by decide +kernel
theorem dL_isLit_979 : decode cL_isLit 979 = .ok (.isub, 1) := by decide +kernel
theorem dL_isLit_980 : decode cL_isLit 980 = .ok (.imul, 1) := by decide +kernel
theorem dL_isLit_981 : decode cL_isLit 981 = .ok (.iconst 3, 1) := by decide +kernel
theorem dL_isLit_982 : decode cL_isLit 982 = .ok (.iload 17, 2) := by decide +kernel
theorem dL_isLit_984 : decode cL_isLit 984 = .ok (.iload 14, 2) := by decide +kernel
theorem dL_isLit_986 : decode cL_isLit 986 = .ok (.isub, 1) := by decide +kernel
theorem dL_isLit_987 : decode cL_isLit 987 = .ok (.imul, 1) := by decide +kernel
theorem dL_isLit_988 : decode cL_isLit 988 = .ok (.iadd, 1) := by decide +kernel
theorem dL_isLit_989 : decode cL_isLit 989 = .ok (.istore 22, 2) := by decide +kernel
theorem dL_isLit_991 : decode cL_isLit 991 = .ok (.iload 22, 2) := by decide +kernel
theorem dL_isLit_993 : decode cL_isLit 993 = .ok (.iconst 1, 1) := by decide +kernel
theorem dL_isLit_994 : decode cL_isLit 994 = .ok (.iadd, 1) := by decide +kernel
theorem dL_isLit_995 : decode cL_isLit 995 = .ok (.iconst 2, 1) := by decide +kernel
theorem dL_isLit_996 : decode cL_isLit 996 = .ok (.idiv, 1) := by decide +kernel
theorem dL_isLit_997 : decode cL_isLit 997 = .ok (.istore 23, 2) := by decide +kernel
theorem dL_isLit_999 : decode cL_isLit 999 = .ok (.iload 21, 2) := by decide +kernel
theorem dL_isLit_1001 : decode cL_isLit 1001 = .ok (.ifCond .eq 47, 3) := by decide +kernel
theorem dL_isLit_1004 : decode cL_isLit 1004 = .ok (.iload 18, 2) := by decide +kernel
theorem dL_isLit_1006 : decode cL_isLit 1006 = .ok (.iload 19, 2) := by decide +kernel
theorem dL_isLit_1008 : decode cL_isLit 1008 = .ok (.if_icmp .le 40, 3) := by decide +kernel
theorem dL_isLit_1011 : decode cL_isLit 1011 = .ok (.iload 18, 2) := by decide +kernel
theorem dL_isLit_1013 : decode cL_isLit 1013 = .ok (.iload 19, 2) := by decide +kernel
theorem dL_isLit_1015 : decode cL_isLit 1015 = .ok (.iadd, 1) := by decide +kernel
theorem dL_isLit_1016 : decode cL_isLit 1016 = .ok (.iload 18, 2) := by decide +kernel
theorem dL_isLit_1018 : decode cL_isLit 1018 = .ok (.iadd, 1) := by decide +kernel
theorem dL_isLit_1019 : decode cL_isLit 1019 = .ok (.iload 19, 2) := by decide +kernel
theorem dL_isLit_1021 : decode cL_isLit 1021 = .ok (.iadd, 1) := by decide +kernel
theorem dL_isLit_1022 : decode cL_isLit 1022 = .ok (.aload_n 3, 1) := by decide +kernel
theorem dL_isLit_1023 : decode cL_isLit 1023 = .ok (.iconst 4, 1) := by decide +kernel
theorem dL_isLit_1024 : decode cL_isLit 1024 = .ok (.iload 15, 2) := by decide +kernel
theorem dL_isLit_1026 : decode cL_isLit 1026 = .ok (.imul, 1) := by decide +kernel
theorem dL_isLit_1027 : decode cL_isLit 1027 = .ok (.iaload, 1) := by decide +kernel
theorem dL_isLit_1028 : decode cL_isLit 1028 = .ok (.if_icmp .lt 20, 3) := by decide +kernel
theorem dL_isLit_1031 : decode cL_isLit 1031 = .ok (.aload_n 3, 1) := by decide +kernel
theorem dL_isLit_1032 : decode cL_isLit 1032 = .ok (.iconst 4, 1) := by decide +kernel
theorem dL_isLit_1033 : decode cL_isLit 1033 = .ok (.iload 15, 2) := by decide +kernel
theorem dL_isLit_1035 : decode cL_isLit 1035 = .ok (.imul, 1) := by decide +kernel
theorem dL_isLit_1036 : decode cL_isLit 1036 = .ok (.iconst 1, 1) := by decide +kernel
theorem dL_isLit_1037 : decode cL_isLit 1037 = .ok (.iadd, 1) := by decide +kernel
theorem dL_isLit_1038 : decode cL_isLit 1038 = .ok (.iaload, 1) := by decide +kernel
theorem dL_isLit_1039 : decode cL_isLit 1039 = .ok (.iload 23, 2) := by decide +kernel
theorem dL_isLit_1041 : decode cL_isLit 1041 = .ok (.if_icmp .lt 7, 3) := by decide +kernel
theorem dL_isLit_1044 : decode cL_isLit 1044 = .ok (.iconst 1, 1) := by decide +kernel
theorem dL_isLit_1045 : decode cL_isLit 1045 = .ok (.goto 4, 3) := by decide +kernel
theorem dL_isLit_1048 : decode cL_isLit 1048 = .ok (.iconst 0, 1) := by decide +kernel
theorem dL_isLit_1049 : decode cL_isLit 1049 = .ok (.istore 24, 2) := by decide +kernel
theorem dL_isLit_1051 : decode cL_isLit 1051 = .ok (.iload 24, 2) := by decide +kernel
theorem dL_isLit_1053 : decode cL_isLit 1053 = .ok (.ifCond .eq 67, 3) := by decide +kernel
theorem dL_isLit_1056 : decode cL_isLit 1056 = .ok (.aload 4, 2) := by decide +kernel
theorem dL_isLit_1058 : decode cL_isLit 1058 = .ok (.bipush 6, 2) := by decide +kernel
theorem dL_isLit_1060 : decode cL_isLit 1060 = .ok (.iload 10, 2) := by decide +kernel
theorem dL_isLit_1062 : decode cL_isLit 1062 = .ok (.imul, 1) := by decide +kernel
theorem dL_isLit_1063 : decode cL_isLit 1063 = .ok (.iconst 2, 1) := by decide +kernel
theorem dL_isLit_1064 : decode cL_isLit 1064 = .ok (.iadd, 1) := by decide +kernel
theorem dL_isLit_1065 : decode cL_isLit 1065 = .ok (.aload 4, 2) := by decide +kernel
theorem dL_isLit_1067 : decode cL_isLit 1067 = .ok (.bipush 6, 2) := by decide +kernel
theorem dL_isLit_1069 : decode cL_isLit 1069 = .ok (.iload 10, 2) := by decide +kernel
theorem dL_isLit_1071 : decode cL_isLit 1071 = .ok (.imul, 1) := by decide +kernel
theorem dL_isLit_1072 : decode cL_isLit 1072 = .ok (.iconst 2, 1) := by decide +kernel
theorem dL_isLit_1073 : decode cL_isLit 1073 = .ok (.iadd, 1) := by decide +kernel
theorem dL_isLit_1074 : decode cL_isLit 1074 = .ok (.iaload, 1) := by decide +kernel
theorem dL_isLit_1075 : decode cL_isLit 1075 = .ok (.iconst 4, 1) := by decide +kernel
theorem dL_isLit_1076 : decode cL_isLit 1076 = .ok (.irem, 1) := by decide +kernel
theorem dL_isLit_1077 : decode cL_isLit 1077 = .ok (.iconst 4, 1) := by decide +kernel
theorem dL_isLit_1078 : decode cL_isLit 1078 = .ok (.iload 16, 2) := by decide +kernel
theorem dL_isLit_1080 : decode cL_isLit 1080 = .ok (.imul, 1) := by decide +kernel
theorem dL_isLit_1081 : decode cL_isLit 1081 = .ok (.iadd, 1) := by decide +kernel
theorem dL_isLit_1082 : decode cL_isLit 1082 = .ok (.bipush 64, 2) := by decide +kernel
theorem dL_isLit_1084 : decode cL_isLit 1084 = .ok (.iload 17, 2) := by decide +kernel
theorem dL_isLit_1086 : decode cL_isLit 1086 = .ok (.imul, 1) := by decide +kernel
theorem dL_isLit_1087 : decode cL_isLit 1087 = .ok (.iadd, 1) := by decide +kernel
theorem dL_isLit_1088 : decode cL_isLit 1088 = .ok (.iastore, 1) := by decide +kernel
theorem dL_isLit_1089 : decode cL_isLit 1089 = .ok (.aload 4, 2) := by decide +kernel
theorem dL_isLit_1091 : decode cL_isLit 1091 = .ok (.bipush 6, 2) := by decide +kernel
theorem dL_isLit_1093 : decode cL_isLit 1093 = .ok (.iload 10, 2) := by decide +kernel
theorem dL_isLit_1095 : decode cL_isLit 1095 = .ok (.imul, 1) := by decide +kernel
theorem dL_isLit_1096 : decode cL_isLit 1096 = .ok (.iconst 5, 1) := by decide +kernel
theorem dL_isLit_1097 : decode cL_isLit 1097 = .ok (.iadd, 1) := by decide +kernel
theorem dL_isLit_1098 : decode cL_isLit 1098 = .ok (.aload 6, 2) := by decide +kernel
theorem dL_isLit_1100 : decode cL_isLit 1100 = .ok (.iconst 0, 1) := by decide +kernel
theorem dL_isLit_1101 : decode cL_isLit 1101 = .ok (.iaload, 1) := by decide +kernel
theorem dL_isLit_1102 : decode cL_isLit 1102 = .ok (.sipush 8760, 3) := by decide +kernel
theorem dL_isLit_1105 : decode cL_isLit 1105 = .ok (.iadd, 1) := by decide +kernel
theorem dL_isLit_1106 : decode cL_isLit 1106 = .ok (.iastore, 1) := by decide +kernel
theorem dL_isLit_1107 : decode cL_isLit 1107 = .ok (.aload_n 3, 1) := by decide +kernel
theorem dL_isLit_1108 : decode cL_isLit 1108 = .ok (.iconst 4, 1) := by decide +kernel
theorem dL_isLit_1109 : decode cL_isLit 1109 = .ok (.iload 15, 2) := by decide +kernel
theorem dL_isLit_1111 : decode cL_isLit 1111 = .ok (.imul, 1) := by decide +kernel
theorem dL_isLit_1112 : decode cL_isLit 1112 = .ok (.iconst 1, 1) := by decide +kernel
theorem dL_isLit_1113 : decode cL_isLit 1113 = .ok (.iadd, 1) := by decide +kernel
theorem dL_isLit_1114 : decode cL_isLit 1114 = .ok (.dup2, 1) := by decide +kernel
theorem dL_isLit_1115 : decode cL_isLit 1115 = .ok (.iaload, 1) := by decide +kernel
theorem dL_isLit_1116 : decode cL_isLit 1116 = .ok (.iload 23, 2) := by decide +kernel
theorem dL_isLit_1118 : decode cL_isLit 1118 = .ok (.isub, 1) := by decide +kernel
theorem dL_isLit_1119 : decode cL_isLit 1119 = .ok (.iastore, 1) := by decide +kernel
theorem dL_isLit_1120 : decode cL_isLit 1120 = .ok (.aload_n 0, 1) := by decide +kernel
theorem dL_isLit_1121 : decode cL_isLit 1121 = .ok (.bipush 9, 2) := by decide +kernel
theorem dL_isLit_1123 : decode cL_isLit 1123 = .ok (.iload 10, 2) := by decide +kernel
theorem dL_isLit_1125 : decode cL_isLit 1125 = .ok (.iload 16, 2) := by decide +kernel
theorem dL_isLit_1127 : decode cL_isLit 1127 = .ok (.iload 17, 2) := by decide +kernel
theorem dL_isLit_1129 : decode cL_isLit 1129 = .ok (.iload 18, 2) := by decide +kernel
theorem dL_isLit_1131 : decode cL_isLit 1131 = .ok (.iload 19, 2) := by decide +kernel
theorem dL_isLit_1133 : decode cL_isLit 1133 = .ok (.invokestatic 155, 3) := by decide +kernel
theorem dL_isLit_1136 : decode cL_isLit 1136 = .ok (.iload 11, 2) := by decide +kernel
theorem dL_isLit_1138 : decode cL_isLit 1138 = .ok (.ifCond .ne 8, 3) := by decide +kernel
theorem dL_isLit_1141 : decode cL_isLit 1141 = .ok (.ldc 77, 2) := by decide +kernel
theorem dL_isLit_1143 : decode cL_isLit 1143 = .ok (.goto 34, 3) := by decide +kernel
theorem dL_isLit_1146 : decode cL_isLit 1146 = .ok (.iload 20, 2) := by decide +kernel
theorem dL_isLit_1148 : decode cL_isLit 1148 = .ok (.ifCond .ne 8, 3) := by decide +kernel
theorem dL_isLit_1151 : decode cL_isLit 1151 = .ok (.ldc 80, 2) := by decide +kernel
theorem dL_isLit_1153 : decode cL_isLit 1153 = .ok (.goto 24, 3) := by decide +kernel
theorem dL_isLit_1156 : decode cL_isLit 1156 = .ok (.iload 21, 2) := by decide +kernel
theorem dL_isLit_1158 : decode cL_isLit 1158 = .ok (.ifCond .ne 8, 3) := by decide +kernel
theorem dL_isLit_1161 : decode cL_isLit 1161 = .ok (.ldc 83, 2) := by decide +kernel
theorem dL_isLit_1163 : decode cL_isLit 1163 = .ok (.goto 14, 3) := by decide +kernel
theorem dL_isLit_1166 : decode cL_isLit 1166 = .ok (.iload 24, 2) := by decide +kernel
theorem dL_isLit_1168 : decode cL_isLit 1168 = .ok (.ifCond .eq 8, 3) := by decide +kernel
theorem dL_isLit_1171 : decode cL_isLit 1171 = .ok (.iload 23, 2) := by decide +kernel
theorem dL_isLit_1173 : decode cL_isLit 1173 = .ok (.goto 4, 3) := by decide +kernel
theorem dL_isLit_1176 : decode cL_isLit 1176 = .ok (.iconst (-1), 1) := by decide +kernel
theorem dL_isLit_1177 : decode cL_isLit 1177 = .ok (.if_icmp .ne 7, 3) := by decide +kernel
theorem dL_isLit_1180 : decode cL_isLit 1180 = .ok (.iconst 1, 1) := by decide +kernel
theorem dL_isLit_1181 : decode cL_isLit 1181 = .ok (.goto 4, 3) := by decide +kernel
theorem dL_isLit_1184 : decode cL_isLit 1184 = .ok (.iconst 0, 1) := by decide +kernel
theorem dL_isLit_1185 : decode cL_isLit 1185 = .ok (.ireturn, 1) := by decide +kernel
theorem dL_isLit_1186 : decode cL_isLit 1186 = .ok (.iload 8, 2) := by decide +kernel
theorem dL_isLit_1188 : decode cL_isLit 1188 = .ok (.iconst 5, 1) := by decide +kernel
theorem dL_isLit_1189 : decode cL_isLit 1189 = .ok (.irem, 1) := by decide +kernel
theorem dL_isLit_1190 : decode cL_isLit 1190 = .ok (.istore 13, 2) := by decide +kernel
theorem dL_isLit_1192 : decode cL_isLit 1192 = .ok (.iconst 0, 1) := by decide +kernel
theorem dL_isLit_1193 : decode cL_isLit 1193 = .ok (.istore 14, 2) := by decide +kernel
theorem dL_isLit_1195 : decode cL_isLit 1195 = .ok (.iconst 0, 1) := by decide +kernel
theorem dL_isLit_1196 : decode cL_isLit 1196 = .ok (.istore 15, 2) := by decide +kernel
theorem dL_isLit_1198 : decode cL_isLit 1198 = .ok (.iload 15, 2) := by decide +kernel
theorem dL_isLit_1200 : decode cL_isLit 1200 = .ok (.aload 6, 2) := by decide +kernel
theorem dL_isLit_1202 : decode cL_isLit 1202 = .ok (.iconst 3, 1) := by decide +kernel
theorem dL_isLit_1203 : decode cL_isLit 1203 = .ok (.iaload, 1) := by decide +kernel
theorem dL_isLit_1204 : decode cL_isLit 1204 = .ok (.if_icmp .ge 123, 3) := by decide +kernel
theorem dL_isLit_1207 : decode cL_isLit 1207 = .ok (.iload 13, 2) := by decide +kernel
theorem dL_isLit_1209 : decode cL_isLit 1209 = .ok (.iconst 4, 1) := by decide +kernel
theorem dL_isLit_1210 : decode cL_isLit 1210 = .ok (.if_icmp .ge 117, 3) := by decide +kernel
theorem dL_isLit_1213 : decode cL_isLit 1213 = .ok (.aload_n 1, 1) := by decide +kernel
theorem dL_isLit_1214 : decode cL_isLit 1214 = .ok (.aload 4, 2) := by decide +kernel
theorem dL_isLit_1216 : decode cL_isLit 1216 = .ok (.bipush 6, 2) := by decide +kernel
theorem dL_isLit_1218 : decode cL_isLit 1218 = .ok (.iload 15, 2) := by decide +kernel
theorem dL_isLit_1220 : decode cL_isLit 1220 = .ok (.imul, 1) := by decide +kernel
theorem dL_isLit_1221 : decode cL_isLit 1221 = .ok (.iaload, 1) := by decide +kernel
theorem dL_isLit_1222 : decode cL_isLit 1222 = .ok (.bipush 64, 2) := by decide +kernel
theorem dL_isLit_1224 : decode cL_isLit 1224 = .ok (.irem, 1) := by decide +kernel
theorem dL_isLit_1225 : decode cL_isLit 1225 = .ok (.iaload, 1) := by decide +kernel
theorem dL_isLit_1226 : decode cL_isLit 1226 = .ok (.iconst 4, 1) := by decide +kernel
theorem dL_isLit_1227 : decode cL_isLit 1227 = .ok (.irem, 1) := by decide +kernel
theorem dL_isLit_1228 : decode cL_isLit 1228 = .ok (.iload 13, 2) := by decide +kernel
theorem dL_isLit_1230 : decode cL_isLit 1230 = .ok (.if_icmp .ne 91, 3) := by decide +kernel
theorem dL_isLit_1233 : decode cL_isLit 1233 = .ok (.aload_n 1, 1) := by decide +kernel
theorem dL_isLit_1234 : decode cL_isLit 1234 = .ok (.aload_n 2, 1) := by decide +kernel
theorem dL_isLit_1235 : decode cL_isLit 1235 = .ok (.aload 4, 2) := by decide +kernel
theorem dL_isLit_1237 : decode cL_isLit 1237 = .ok (.iload 15, 2) := by decide +kernel
theorem dL_isLit_1239 : decode cL_isLit 1239 = .ok (.invokestatic 128, 3) := by decide +kernel
theorem dL_isLit_1242 : decode cL_isLit 1242 = .ok (.ifCond .eq 79, 3) := by decide +kernel
theorem dL_isLit_1245 : decode cL_isLit 1245 = .ok (.aload 6, 2) := by decide +kernel
theorem dL_isLit_1247 : decode cL_isLit 1247 = .ok (.iconst 0, 1) := by decide +kernel
theorem dL_isLit_1248 : decode cL_isLit 1248 = .ok (.iaload, 1) := by decide +kernel
theorem dL_isLit_1249 : decode cL_isLit 1249 = .ok (.aload 5, 2) := by decide +kernel
theorem dL_isLit_1251 : decode cL_isLit 1251 = .ok (.iload 15, 2) := by decide +kernel
theorem dL_isLit_1253 : decode cL_isLit 1253 = .ok (.iaload, 1) := by decide +kernel
theorem dL_isLit_1254 : decode cL_isLit 1254 = .ok (.isub, 1) := by decide +kernel
theorem dL_isLit_1255 : decode cL_isLit 1255 = .ok (.sipush 719, 3) := by decide +kernel
theorem dL_isLit_1258 : decode cL_isLit 1258 = .ok (.if_icmp .le 63, 3) := by decide +kernel
theorem dL_isLit_1261 : decode cL_isLit 1261 = .ok (.aload 5, 2) := by decide +kernel
theorem dL_isLit_1263 : decode cL_isLit 1263 = .ok (.iload 15, 2) := by decide +kernel
theorem dL_isLit_1265 : decode cL_isLit 1265 = .ok (.aload 6, 2) := by decide +kernel
theorem dL_isLit_1267 : decode cL_isLit 1267 = .ok (.iconst 0, 1) := by decide +kernel
theorem dL_isLit_1268 : decode cL_isLit 1268 = .ok (.iaload, 1) := by decide +kernel
theorem dL_isLit_1269 : decode cL_isLit 1269 = .ok (.iastore, 1) := by decide +kernel
theorem dL_isLit_1270 : decode cL_isLit 1270 = .ok (.aload_n 3, 1) := by decide +kernel
theorem dL_isLit_1271 : decode cL_isLit 1271 = .ok (.iconst 4, 1) := by decide +kernel
theorem dL_isLit_1272 : decode cL_isLit 1272 = .ok (.aload 4, 2) := by decide +kernel
theorem dL_isLit_1274 : decode cL_isLit 1274 = .ok (.bipush 6, 2) := by decide +kernel
theorem dL_isLit_1276 : decode cL_isLit 1276 = .ok (.iload 15, 2) := by decide +kernel
theorem dL_isLit_1278 : decode cL_isLit 1278 = .ok (.imul, 1) := by decide +kernel
theorem dL_isLit_1279 : decode cL_isLit 1279 = .ok (.iaload, 1) := by decide +kernel
theorem dL_isLit_1280 : decode cL_isLit 1280 = .ok (.bipush 64, 2) := by decide +kernel
theorem dL_isLit_1282 : decode cL_isLit 1282 = .ok (.idiv, 1) := by decide +kernel
theorem dL_isLit_1283 : decode cL_isLit 1283 = .ok (.iconst 2, 1) := by decide +kernel
theorem dL_isLit_1284 : decode cL_isLit 1284 = .ok (.irem, 1) := by decide +kernel
theorem dL_isLit_1285 : decode cL_isLit 1285 = .ok (.imul, 1) := by decide +kernel
theorem dL_isLit_1286 : decode cL_isLit 1286 = .ok (.iconst 1, 1) := by decide +kernel
theorem dL_isLit_1287 : decode cL_isLit 1287 = .ok (.iadd, 1) := by decide +kernel
theorem dL_isLit_1288 : decode cL_isLit 1288 = .ok (.dup2, 1) := by decide +kernel
theorem dL_isLit_1289 : decode cL_isLit 1289 = .ok (.iaload, 1) := by decide +kernel
theorem dL_isLit_1290 : decode cL_isLit 1290 = .ok (.bipush 10, 2) := by decide +kernel
theorem dL_isLit_1292 : decode cL_isLit 1292 = .ok (.isub, 1) := by decide +kernel
theorem dL_isLit_1293 : decode cL_isLit 1293 = .ok (.iastore, 1) := by decide +kernel
theorem dL_isLit_1294 : decode cL_isLit 1294 = .ok (.aload_n 3, 1) := by decide +kernel
theorem dL_isLit_1295 : decode cL_isLit 1295 = .ok (.iconst 4, 1) := by decide +kernel
theorem dL_isLit_1296 : decode cL_isLit 1296 = .ok (.aload 4, 2) := by decide +kernel
theorem dL_isLit_1298 : decode cL_isLit 1298 = .ok (.bipush 6, 2) := by decide +kernel
theorem dL_isLit_1300 : decode cL_isLit 1300 = .ok (.iload 15, 2) := by decide +kernel
theorem dL_isLit_1302 : decode cL_isLit 1302 = .ok (.imul, 1) := by decide +kernel
theorem dL_isLit_1303 : decode cL_isLit 1303 = .ok (.iaload, 1) := by decide +kernel
theorem dL_isLit_1304 : decode cL_isLit 1304 = .ok (.bipush 64, 2) := by decide +kernel
theorem dL_isLit_1306 : decode cL_isLit 1306 = .ok (.idiv, 1) := by decide +kernel
theorem dL_isLit_1307 : decode cL_isLit 1307 = .ok (.iconst 2, 1) := by decide +kernel
theorem dL_isLit_1308 : decode cL_isLit 1308 = .ok (.irem, 1) := by decide +kernel
theorem dL_isLit_1309 : decode cL_isLit 1309 = .ok (.imul, 1) := by decide +kernel
theorem dL_isLit_1310 : decode cL_isLit 1310 = .ok (.iconst 2, 1) := by decide +kernel
theorem dL_isLit_1311 : decode cL_isLit 1311 = .ok (.iadd, 1) := by decide +kernel
theorem dL_isLit_1312 : decode cL_isLit 1312 = .ok (.dup2, 1) := by decide +kernel
theorem dL_isLit_1313 : decode cL_isLit 1313 = .ok (.iaload, 1) := by decide +kernel
theorem dL_isLit_1314 : decode cL_isLit 1314 = .ok (.bipush 10, 2) := by decide +kernel
theorem dL_isLit_1316 : decode cL_isLit 1316 = .ok (.iadd, 1) := by decide +kernel
theorem dL_isLit_1317 : decode cL_isLit 1317 = .ok (.iastore, 1) := by decide +kernel
theorem dL_isLit_1318 : decode cL_isLit 1318 = .ok (.iinc 14 1, 3) := by decide +kernel
theorem dL_isLit_1321 : decode cL_isLit 1321 = .ok (.iinc 15 1, 3) := by decide +kernel
theorem dL_isLit_1324 : decode cL_isLit 1324 = .ok (.goto (-126), 3) := by decide +kernel
theorem dL_isLit_1327 : decode cL_isLit 1327 = .ok (.aload_n 0, 1) := by decide +kernel
theorem dL_isLit_1328 : decode cL_isLit 1328 = .ok (.bipush 10, 2) := by decide +kernel
theorem dL_isLit_1330 : decode cL_isLit 1330 = .ok (.iload 13, 2) := by decide +kernel
theorem dL_isLit_1332 : decode cL_isLit 1332 = .ok (.iconst 0, 1) := by decide +kernel
theorem dL_isLit_1333 : decode cL_isLit 1333 = .ok (.iconst 0, 1) := by decide +kernel
theorem dL_isLit_1334 : decode cL_isLit 1334 = .ok (.iconst 0, 1) := by decide +kernel
theorem dL_isLit_1335 : decode cL_isLit 1335 = .ok (.iconst 0, 1) := by decide +kernel
theorem dL_isLit_1336 : decode cL_isLit 1336 = .ok (.invokestatic 155, 3) := by decide +kernel
theorem dL_isLit_1339 : decode cL_isLit 1339 = .ok (.iload 13, 2) := by decide +kernel
theorem dL_isLit_1341 : decode cL_isLit 1341 = .ok (.iconst 4, 1) := by decide +kernel
theorem dL_isLit_1342 : decode cL_isLit 1342 = .ok (.if_icmp .ne 8, 3) := by decide +kernel
theorem dL_isLit_1345 : decode cL_isLit 1345 = .ok (.ldc 77, 2) := by decide +kernel
theorem dL_isLit_1347 : decode cL_isLit 1347 = .ok (.goto 5, 3) := by decide +kernel
theorem dL_isLit_1350 : decode cL_isLit 1350 = .ok (.iload 14, 2) := by decide +kernel
theorem dL_isLit_1352 : decode cL_isLit 1352 = .ok (.if_icmp .ne 7, 3) := by decide +kernel
theorem dL_isLit_1355 : decode cL_isLit 1355 = .ok (.iconst 1, 1) := by decide +kernel
theorem dL_isLit_1356 : decode cL_isLit 1356 = .ok (.goto 4, 3) := by decide +kernel
theorem dL_isLit_1359 : decode cL_isLit 1359 = .ok (.iconst 0, 1) := by decide +kernel
theorem dL_isLit_1360 : decode cL_isLit 1360 = .ok (.ireturn, 1) := by decide +kernel
theorem dL_isRead_0 : decode cL_isRead 0 = .ok (.iload 8, 2) := by decide +kernel
theorem dL_isRead_2 : decode cL_isRead 2 = .ok (.ifCond .ne 195, 3) := by decide +kernel
theorem dL_isRead_5 : decode cL_isRead 5 = .ok (.aload 7, 2) := by decide +kernel
theorem dL_isRead_7 : decode cL_isRead 7 = .ok (.iconst 4, 1) := by decide +kernel
theorem dL_isRead_8 : decode cL_isRead 8 = .ok (.iaload, 1) := by decide +kernel
theorem dL_isRead_9 : decode cL_isRead 9 = .ok (.iconst 2, 1) := by decide +kernel
theorem dL_isRead_10 : decode cL_isRead 10 = .ok (.if_icmp .ne 5, 3) := by decide +kernel
theorem dL_isRead_13 : decode cL_isRead 13 = .ok (.iconst 1, 1) := by decide +kernel
theorem dL_isRead_14 : decode cL_isRead 14 = .ok (.ireturn, 1) := by decide +kernel
theorem dL_isRead_15 : decode cL_isRead 15 = .ok (.iload 9, 2) := by decide +kernel
theorem dL_isRead_17 : decode cL_isRead 17 = .ok (.bipush 17, 2) := by decide +kernel
theorem dL_isRead_19 : decode cL_isRead 19 = .ok (.irem, 1) := by decide +kernel
theorem dL_isRead_20 : decode cL_isRead 20 = .ok (.bipush 16, 2) := by decide +kernel
theorem dL_isRead_22 : decode cL_isRead 22 = .ok (.if_icmp .ne 8, 3) := by decide +kernel
theorem dL_isRead_25 : decode cL_isRead 25 = .ok (.bipush 64, 2) := by decide +kernel
theorem dL_isRead_27 : decode cL_isRead 27 = .ok (.goto 11, 3) := by decide +kernel
theorem dL_isRead_30 : decode cL_isRead 30 = .ok (.bipush 16, 2) := by decide +kernel
theorem dL_isRead_32 : decode cL_isRead 32 = .ok (.iload 9, 2) := by decide +kernel
theorem dL_isRead_34 : decode cL_isRead 34 = .ok (.bipush 24, 2) := by decide +kernel
theorem dL_isRead_36 : decode cL_isRead 36 = .ok (.irem, 1) := by decide +kernel
theorem dL_isRead_37 : decode cL_isRead 37 = .ok (.iadd, 1) := by decide +kernel
theorem dL_isRead_38 : decode cL_isRead 38 = .ok (.istore 11, 2) := by decide +kernel
theorem dL_isRead_40 : decode cL_isRead 40 = .ok (.iload 10, 2) := by decide +kernel
theorem dL_isRead_42 : decode cL_isRead 42 = .ok (.bipush 13, 2) := by decide +kernel
theorem dL_isRead_44 : decode cL_isRead 44 = .ok (.irem, 1) := by decide +kernel
theorem dL_isRead_45 : decode cL_isRead 45 = .ok (.bipush 12, 2) := by decide +kernel
theorem dL_isRead_47 : decode cL_isRead 47 = .ok (.if_icmp .ne 8, 3) := by decide +kernel
theorem dL_isRead_50 : decode cL_isRead 50 = .ok (.bipush 51, 2) := by decide +kernel
theorem dL_isRead_52 : decode cL_isRead 52 = .ok (.goto 11, 3) := by decide +kernel
theorem dL_isRead_55 : decode cL_isRead 55 = .ok (.iload 10, 2) := by decide +kernel
theorem dL_isRead_57 : decode cL_isRead 57 = .ok (.bipush 101, 2) := by decide +kernel
theorem dL_isRead_59 : decode cL_isRead 59 = .ok (.irem, 1) := by decide +kernel
theorem dL_isRead_60 : decode cL_isRead 60 = .ok (.bipush 50, 2) := by decide +kernel
theorem dL_isRead_62 : decode cL_isRead 62 = .ok (.isub, 1) := by decide +kernel
theorem dL_isRead_63 : decode cL_isRead 63 = .ok (.istore 12, 2) := by decide +kernel
theorem dL_isRead_65 : decode cL_isRead 65 = .ok (.iload 10, 2) := by decide +kernel
theorem dL_isRead_67 : decode cL_isRead 67 = .ok (.bipush 101, 2) := by decide +kernel
theorem dL_isRead_69 : decode cL_isRead 69 = .ok (.idiv, 1) := by decide +kernel
theorem dL_isRead_70 : decode cL_isRead 70 = .ok (.bipush 8, 2) := by decide +kernel
theorem dL_isRead_72 : decode cL_isRead 72 = .ok (.irem, 1) := by decide +kernel
theorem dL_isRead_73 : decode cL_isRead 73 = .ok (.iconst 3, 1) := by decide +kernel
theorem dL_isRead_74 : decode cL_isRead 74 = .ok (.isub, 1) := by decide +kernel
theorem dL_isRead_75 : decode cL_isRead 75 = .ok (.istore 13, 2) := by decide +kernel
theorem dL_isRead_77 : decode cL_isRead 77 = .ok (.iload 12, 2) := by decide +kernel
theorem dL_isRead_79 : decode cL_isRead 79 = .ok (.bipush 51, 2) := by decide +kernel
theorem dL_isRead_81 : decode cL_isRead 81 = .ok (.if_icmp .ge 13, 3) := by decide +kernel
theorem dL_isRead_84 : decode cL_isRead 84 = .ok (.iload 13, 2) := by decide +kernel
theorem dL_isRead_86 : decode cL_isRead 86 = .ok (.iconst 4, 1) := by decide +kernel
theorem dL_isRead_87 : decode cL_isRead 87 = .ok (.if_icmp .ge 7, 3) := by decide +kernel
theorem dL_isRead_90 : decode cL_isRead 90 = .ok (.iconst 1, 1) := by decide +kernel
theorem dL_isRead_91 : decode cL_isRead 91 = .ok (.goto 4, 3) := by decide +kernel
theorem dL_isRead_94 : decode cL_isRead 94 = .ok (.iconst 0, 1) := by decide +kernel
theorem dL_isRead_95 : decode cL_isRead 95 = .ok (.istore 14, 2) := by decide +kernel
theorem dL_isRead_97 : decode cL_isRead 97 = .ok (.iload 11, 2) := by decide +kernel
theorem dL_isRead_99 : decode cL_isRead 99 = .ok (.bipush 64, 2) := by decide +kernel
theorem dL_isRead_101 : decode cL_isRead 101 = .ok (.if_icmp .ge 45, 3) := by decide +kernel
theorem dL_isRead_104 : decode cL_isRead 104 = .ok (.iload 14, 2) := by decide +kernel
theorem dL_isRead_106 : decode cL_isRead 106 = .ok (.ifCond .eq 40, 3) := by decide +kernel
theorem dL_isRead_109 : decode cL_isRead 109 = .ok (.aload 5, 2) := by decide +kernel
theorem dL_isRead_111 : decode cL_isRead 111 = .ok (.iconst 3, 1) := by decide +kernel
theorem dL_isRead_112 : decode cL_isRead 112 = .ok (.aload 7, 2) := by decide +kernel
theorem dL_isRead_114 : decode cL_isRead 114 = .ok (.iconst 4, 1) := by decide +kernel
theorem dL_isRead_115 : decode cL_isRead 115 = .ok (.iaload, 1) := by decide +kernel
theorem dL_isRead_116 : decode cL_isRead 116 = .ok (.imul, 1) := by decide +kernel
theorem dL_isRead_117 : decode cL_isRead 117 = .ok (.iload 11, 2) := by decide +kernel
theorem dL_isRead_119 : decode cL_isRead 119 = .ok (.bipush 64, 2) := by decide +kernel
theorem dL_isRead_121 : decode cL_isRead 121 = .ok (.iload 12, 2) := by decide +kernel
theorem dL_isRead_123 : decode cL_isRead 123 = .ok (.bipush 50, 2) := by decide +kernel
theorem dL_isRead_125 : decode cL_isRead 125 = .ok (.iadd, 1) := by decide +kernel
theorem dL_isRead_126 : decode cL_isRead 126 = .ok (.imul, 1) := by decide +kernel
theorem dL_isRead_127 : decode cL_isRead 127 = .ok (.iadd, 1) := by decide +kernel
theorem dL_isRead_128 : decode cL_isRead 128 = .ok (.sipush 8192, 3) := by decide +kernel
theorem dL_isRead_131 : decode cL_isRead 131 = .ok (.iload 13, 2) := by decide +kernel
theorem dL_isRead_133 : decode cL_isRead 133 = .ok (.iconst 3, 1) := by decide +kernel
theorem dL_isRead_134 : decode cL_isRead 134 = .ok (.iadd, 1) := by decide +kernel
theorem dL_isRead_135 : decode cL_isRead 135 = .ok (.imul, 1) := by decide +kernel
theorem dL_isRead_136 : decode cL_isRead 136 = .ok (.iadd, 1) := by decide +kernel
theorem dL_isRead_137 : decode cL_isRead 137 = .ok (.iastore, 1) := by decide +kernel
theorem dL_isRead_138 : decode cL_isRead 138 = .ok (.aload 7, 2) := by decide +kernel
theorem dL_isRead_140 : decode cL_isRead 140 = .ok (.iconst 4, 1) := by decide +kernel
theorem dL_isRead_141 : decode cL_isRead 141 = .ok (.dup2, 1) := by decide +kernel
theorem dL_isRead_142 : decode cL_isRead 142 = .ok (.iaload, 1) := by decide +kernel
theorem dL_isRead_143 : decode cL_isRead 143 = .ok (.iconst 1, 1) := by decide +kernel
theorem dL_isRead_144 : decode cL_isRead 144 = .ok (.iadd, 1) := by decide +kernel
theorem dL_isRead_145 : decode cL_isRead 145 = .ok (.iastore, 1) := by decide +kernel
theorem dL_isRead_146 : decode cL_isRead 146 = .ok (.aload_n 0, 1) := by decide +kernel
theorem dL_isRead_147 : decode cL_isRead 147 = .ok (.bipush 11, 2) := by decide +kernel
theorem dL_isRead_149 : decode cL_isRead 149 = .ok (.iload 11, 2) := by decide +kernel
theorem dL_isRead_151 : decode cL_isRead 151 = .ok (.iload 12, 2) := by decide +kernel
theorem dL_isRead_153 : decode cL_isRead 153 = .ok (.iload 13, 2) := by decide +kernel
theorem dL_isRead_155 : decode cL_isRead 155 = .ok (.iconst 0, 1) := by decide +kernel
theorem dL_isRead_156 : decode cL_isRead 156 = .ok (.iconst 0, 1) := by decide +kernel
theorem dL_isRead_157 : decode cL_isRead 157 = .ok (.invokestatic 155, 3) := by decide +kernel
theorem dL_isRead_160 : decode cL_isRead 160 = .ok (.iload 11, 2) := by decide +kernel
theorem dL_isRead_162 : decode cL_isRead 162 = .ok (.bipush 64, 2) := by decide +kernel
theorem dL_isRead_164 : decode cL_isRead 164 = .ok (.if_icmp .ne 8, 3) := by decide +kernel
theorem dL_isRead_167 : decode cL_isRead 167 = .ok (.ldc 77, 2) := by decide +kernel
theorem dL_isRead_169 : decode cL_isRead 169 = .ok (.goto 19, 3) := by decide +kernel
theorem dL_isRead_172 : decode cL_isRead 172 = .ok (.iload 14, 2) := by decide +kernel
theorem dL_isRead_174 : decode cL_isRead 174 = .ok (.ifCond .eq 12, 3) := by decide +kernel
theorem dL_isRead_177 : decode cL_isRead 177 = .ok (.aload 7, 2) := by decide +kernel
theorem dL_isRead_179 : decode cL_isRead 179 = .ok (.iconst 4, 1) := by decide +kernel
theorem dL_isRead_180 : decode cL_isRead 180 = .ok (.iaload, 1) := by decide +kernel
theorem dL_isRead_181 : decode cL_isRead 181 = .ok (.iconst 1, 1) := by decide +kernel
theorem dL_isRead_182 : decode cL_isRead 182 = .ok (.isub, 1) := by decide +kernel
theorem dL_isRead_183 : decode cL_isRead 183 = .ok (.goto 5, 3) := by decide +kernel
theorem dL_isRead_186 : decode cL_isRead 186 = .ok (.ldc 80, 2) := by decide +kernel
theorem dL_isRead_188 : decode cL_isRead 188 = .ok (.if_icmp .ne 7, 3) := by decide +kernel
theorem dL_isRead_191 : decode cL_isRead 191 = .ok (.iconst 1, 1) := by decide +kernel
theorem dL_isRead_192 : decode cL_isRead 192 = .ok (.goto 4, 3) := by decide +kernel
theorem dL_isRead_195 : decode cL_isRead 195 = .ok (.iconst 0, 1) := by decide +kernel
theorem dL_isRead_196 : decode cL_isRead 196 = .ok (.ireturn, 1) := by decide +kernel
theorem dL_isRead_197 : decode cL_isRead 197 = .ok (.iload 9, 2) := by decide +kernel
theorem dL_isRead_199 : decode cL_isRead 199 = .ok (.aload 7, 2) := by decide +kernel
theorem dL_isRead_201 : decode cL_isRead 201 = .ok (.iconst 4, 1) := by decide +kernel
theorem dL_isRead_202 : decode cL_isRead 202 = .ok (.iaload, 1) := by decide +kernel
theorem dL_isRead_203 : decode cL_isRead 203 = .ok (.iconst 1, 1) := by decide +kernel
theorem dL_isRead_204 : decode cL_isRead 204 = .ok (.iadd, 1) := by decide +kernel
theorem dL_isRead_205 : decode cL_isRead 205 = .ok (.irem, 1) := by decide +kernel
theorem dL_isRead_206 : decode cL_isRead 206 = .ok (.istore 11, 2) := by decide +kernel
theorem dL_isRead_208 : decode cL_isRead 208 = .ok (.iload 11, 2) := by decide +kernel
theorem dL_isRead_210 : decode cL_isRead 210 = .ok (.aload 7, 2) := by decide +kernel
theorem dL_isRead_212 : decode cL_isRead 212 = .ok (.iconst 4, 1) := by decide +kernel
theorem dL_isRead_213 : decode cL_isRead 213 = .ok (.iaload, 1) := by decide +kernel
theorem dL_isRead_214 : decode cL_isRead 214 = .ok (.if_icmp .ge 7, 3) := by decide +kernel
theorem dL_isRead_217 : decode cL_isRead 217 = .ok (.iconst 1, 1) := by decide +kernel
theorem dL_isRead_218 : decode cL_isRead 218 = .ok (.goto 4, 3) := by decide +kernel
theorem dL_isRead_221 : decode cL_isRead 221 = .ok (.iconst 0, 1) := by decide +kernel
theorem dL_isRead_222 : decode cL_isRead 222 = .ok (.istore 12, 2) := by decide +kernel
theorem dL_isRead_224 : decode cL_isRead 224 = .ok (.iload 8, 2) := by decide +kernel
theorem dL_isRead_226 : decode cL_isRead 226 = .ok (.iconst 1, 1) := by decide +kernel
theorem dL_isRead_227 : decode cL_isRead 227 = .ok (.if_icmp .ne 249, 3) := by decide +kernel
theorem dL_isRead_230 : decode cL_isRead 230 = .ok (.iconst 0, 1) := by decide +kernel
theorem dL_isRead_231 : decode cL_isRead 231 = .ok (.istore 13, 2) := by decide +kernel
theorem dL_isRead_233 : decode cL_isRead 233 = .ok (.iload 12, 2) := by decide +kernel
theorem dL_isRead_235 : decode cL_isRead 235 = .ok (.ifCond .eq 208, 3) := by decide +kernel
theorem dL_isRead_238 : decode cL_isRead 238 = .ok (.aload 5, 2) := by decide +kernel
theorem dL_isRead_240 : decode cL_isRead 240 = .ok (.iconst 3, 1) := by decide +kernel
theorem dL_isRead_241 : decode cL_isRead 241 = .ok (.iload 11, 2) := by decide +kernel
theorem dL_isRead_243 : decode cL_isRead 243 = .ok (.imul, 1) := by decide +kernel
theorem dL_isRead_244 : decode cL_isRead 244 = .ok (.iaload, 1) := by decide +kernel
theorem dL_isRead_245 : decode cL_isRead 245 = .ok (.istore 14, 2) := by decide +kernel
theorem dL_isRead_247 : decode cL_isRead 247 = .ok (.aload_n 1, 1) := by decide +kernel
theorem dL_isRead_248 : decode cL_isRead 248 = .ok (.aload_n 2, 1) := by decide +kernel
theorem dL_isRead_249 : decode cL_isRead 249 = .ok (.aload_n 3, 1) := by decide +kernel
theorem dL_isRead_250 : decode cL_isRead 250 = .ok (.aload 4, 2) := by decide +kernel
theorem dL_isRead_252 : decode cL_isRead 252 = .ok (.aload 7, 2) := by decide +kernel
theorem dL_isRead_254 : decode cL_isRead 254 = .ok (.iload 14, 2) := by decide +kernel
theorem dL_isRead_256 : decode cL_isRead 256 = .ok (.bipush 64, 2) := by decide +kernel
theorem dL_isRead_258 : decode cL_isRead 258 = .ok (.irem, 1) := by decide +kernel
theorem dL_isRead_259 : decode cL_isRead 259 = .ok (.iconst 5, 1) := by decide +kernel
theorem dL_isRead_260 : decode cL_isRead 260 = .ok (.invokestatic 140, 3) := by decide +kernel
theorem dL_isRead_263 : decode cL_isRead 263 = .ok (.aload 7, 2) := by decide +kernel
theorem dL_isRead_265 : decode cL_isRead 265 = .ok (.iconst 0, 1) := by decide +kernel
theorem dL_isRead_266 : decode cL_isRead 266 = .ok (.iaload, 1) := by decide +kernel
theorem dL_isRead_267 : decode cL_isRead 267 = .ok (.invokestatic 152, 3) := by decide +kernel
theorem dL_isRead_270 : decode cL_isRead 270 = .ok (.iadd, 1) := by decide +kernel
theorem dL_isRead_271 : decode cL_isRead 271 = .ok (.bipush 20, 2) := by decide +kernel
theorem dL_isRead_273 : decode cL_isRead 273 = .ok (.iadd, 1) := by decide +kernel
theorem dL_isRead_274 : decode cL_isRead 274 = .ok (.iload 14, 2) := by decide +kernel
theorem dL_isRead_276 : decode cL_isRead 276 = .ok (.bipush 64, 2) := by decide +kernel
theorem dL_isRead_278 : decode cL_isRead 278 = .ok (.idiv, 1) := by decide +kernel
theorem dL_isRead_279 : decode cL_isRead 279 = .ok (.sipush 128, 3) := by decide +kernel
theorem dL_isRead_282 : decode cL_isRead 282 = .ok (.irem, 1) := by decide +kernel
theorem dL_isRead_283 : decode cL_isRead 283 = .ok (.iadd, 1) := by decide +kernel
theorem dL_isRead_284 : decode cL_isRead 284 = .ok (.bipush 50, 2) := by decide +kernel
theorem dL_isRead_286 : decode cL_isRead 286 = .ok (.isub, 1) := by decide +kernel
theorem dL_isRead_287 : decode cL_isRead 287 = .ok (.iload 14, 2) := by decide +kernel
theorem dL_isRead_289 : decode cL_isRead 289 = .ok (.sipush 8192, 3) := by decide +kernel
theorem dL_isRead_292 : decode cL_isRead 292 = .ok (.idiv, 1) := by decide +kernel
theorem dL_isRead_293 : decode cL_isRead 293 = .ok (.iconst 3, 1) := by decide +kernel
theorem dL_isRead_294 : decode cL_isRead 294 = .ok (.isub, 1) := by decide +kernel
theorem dL_isRead_295 : decode cL_isRead 295 = .ok (.aload 7, 2) := by decide +kernel
theorem dL_isRead_297 : decode cL_isRead 297 = .ok (.iconst 0, 1) := by decide +kernel
theorem dL_isRead_298 : decode cL_isRead 298 = .ok (.iaload, 1) := by decide +kernel
theorem dL_isRead_299 : decode cL_isRead 299 = .ok (.bipush 24, 2) := by decide +kernel
theorem dL_isRead_301 : decode cL_isRead 301 = .ok (.idiv, 1) := by decide +kernel
theorem dL_isRead_302 : decode cL_isRead 302 = .ok (.imul, 1) := by decide +kernel
theorem dL_isRead_303 : decode cL_isRead 303 = .ok (.iadd, 1) := by decide +kernel
theorem dL_isRead_304 : decode cL_isRead 304 = .ok (.istore 13, 2) := by decide +kernel
theorem dL_isRead_306 : decode cL_isRead 306 = .ok (.aload 5, 2) := by decide +kernel
theorem dL_isRead_308 : decode cL_isRead 308 = .ok (.iconst 3, 1) := by decide +kernel
theorem dL_isRead_309 : decode cL_isRead 309 = .ok (.iload 11, 2) := by decide +kernel
theorem dL_isRead_311 : decode cL_isRead 311 = .ok (.imul, 1) := by decide +kernel
theorem dL_isRead_312 : decode cL_isRead 312 = .ok (.iconst 2, 1) := by decide +kernel
theorem dL_isRead_313 : decode cL_isRead 313 = .ok (.iadd, 1) := by decide +kernel
theorem dL_isRead_314 : decode cL_isRead 314 = .ok (.iaload, 1) := by decide +kernel
theorem dL_isRead_315 : decode cL_isRead 315 = .ok (.bipush 10, 2) := by decide +kernel
theorem dL_isRead_317 : decode cL_isRead 317 = .ok (.if_icmp .ne 68, 3) := by decide +kernel
theorem dL_isRead_320 : decode cL_isRead 320 = .ok (.bipush 10, 2) := by decide +kernel
theorem dL_isRead_322 : decode cL_isRead 322 = .ok (.iload 11, 2) := by decide +kernel
theorem dL_isRead_324 : decode cL_isRead 324 = .ok (.imul, 1) := by decide +kernel
theorem dL_isRead_325 : decode cL_isRead 325 = .ok (.istore 15, 2) := by decide +kernel
theorem dL_isRead_327 : decode cL_isRead 327 = .ok (.iload 15, 2) := by decide +kernel
theorem dL_isRead_329 : decode cL_isRead 329 = .ok (.bipush 10, 2) := by decide +kernel
theorem dL_isRead_331 : decode cL_isRead 331 = .ok (.iload 11, 2) := by decide +kernel
theorem dL_isRead_333 : decode cL_isRead 333 = .ok (.imul, 1) := by decide +kernel
theorem dL_isRead_334 : decode cL_isRead 334 = .ok (.bipush 9, 2) := by decide +kernel
theorem dL_isRead_336 : decode cL_isRead 336 = .ok (.iadd, 1) := by decide +kernel
theorem dL_isRead_337 : decode cL_isRead 337 = .ok (.if_icmp .ge 37, 3) := by decide +kernel
theorem dL_isRead_340 : decode cL_isRead 340 = .ok (.aload 6, 2) := by decide +kernel
theorem dL_isRead_342 : decode cL_isRead 342 = .ok (.iload 15, 2) := by decide +kernel
theorem dL_isRead_344 : decode cL_isRead 344 = .ok (.aload 6, 2) := by decide +kernel
theorem dL_isRead_346 : decode cL_isRead 346 = .ok (.iload 15, 2) := by decide +kernel
theorem dL_isRead_348 : decode cL_isRead 348 = .ok (.iconst 1, 1) := by decide +kernel
theorem dL_isRead_349 : decode cL_isRead 349 = .ok (.iadd, 1) := by decide +kernel
theorem dL_isRead_350 : decode cL_isRead 350 = .ok (.iaload, 1) := by decide +kernel
theorem dL_isRead_351 : decode cL_isRead 351 = .ok (.iastore, 1) := by decide +kernel
theorem dL_isRead_352 : decode cL_isRead 352 = .ok (.aload 6, 2) := by decide +kernel
theorem dL_isRead_354 : decode cL_isRead 354 = .ok (.bipush 20, 2) := by decide +kernel
theorem dL_isRead_356 : decode cL_isRead 356 = .ok (.iload 15, 2) := by decide +kernel
theorem dL_isRead_358 : decode cL_isRead 358 = .ok (.iadd, 1) := by decide +kernel
theorem dL_isRead_359 : decode cL_isRead 359 = .ok (.aload 6, 2) := by decide +kernel
theorem dL_isRead_361 : decode cL_isRead 361 = .ok (.bipush 21, 2) := by decide +kernel
theorem dL_isRead_363 : decode cL_isRead 363 = .ok (.iload 15, 2) := by decide +kernel
theorem dL_isRead_365 : decode cL_isRead 365 = .ok (.iadd, 1) := by decide +kernel
theorem dL_isRead_366 : decode cL_isRead 366 = .ok (.iaload, 1) := by decide +kernel
theorem dL_isRead_367 : decode cL_isRead 367 = .ok (.iastore, 1) := by decide +kernel
theorem dL_isRead_368 : decode cL_isRead 368 = .ok (.iinc 15 1, 3) := by decide +kernel
theorem dL_isRead_371 : decode cL_isRead 371 = .ok (.goto (-44), 3) := by decide +kernel
theorem dL_isRead_374 : decode cL_isRead 374 = .ok (.aload 5, 2) := by decide +kernel
theorem dL_isRead_376 : decode cL_isRead 376 = .ok (.iconst 3, 1) := by decide +kernel
theorem dL_isRead_377 : decode cL_isRead 377 = .ok (.iload 11, 2) := by decide +kernel
theorem dL_isRead_379 : decode cL_isRead 379 = .ok (.imul, 1) := by decide +kernel
theorem dL_isRead_380 : decode cL_isRead 380 = .ok (.iconst 2, 1) := by decide +kernel
theorem dL_isRead_381 : decode cL_isRead 381 = .ok (.iadd, 1) := by decide +kernel
theorem dL_isRead_382 : decode cL_isRead 382 = .ok (.bipush 9, 2) := by decide +kernel
theorem dL_isRead_384 : decode cL_isRead 384 = .ok (.iastore, 1) := by decide +kernel
theorem dL_isRead_385 : decode cL_isRead 385 = .ok (.aload 6, 2) := by decide +kernel
theorem dL_isRead_387 : decode cL_isRead 387 = .ok (.bipush 10, 2) := by decide +kernel
theorem dL_isRead_389 : decode cL_isRead 389 = .ok (.iload 11, 2) := by decide +kernel
theorem dL_isRead_391 : decode cL_isRead 391 = .ok (.imul, 1) := by decide +kernel
theorem dL_isRead_392 : decode cL_isRead 392 = .ok (.aload 5, 2) := by decide +kernel
theorem dL_isRead_394 : decode cL_isRead 394 = .ok (.iconst 3, 1) := by decide +kernel
theorem dL_isRead_395 : decode cL_isRead 395 = .ok (.iload 11, 2) := by decide +kernel
theorem dL_isRead_397 : decode cL_isRead 397 = .ok (.imul, 1) := by decide +kernel
theorem dL_isRead_398 : decode cL_isRead 398 = .ok (.iconst 2, 1) := by decide +kernel
theorem dL_isRead_399 : decode cL_isRead 399 = .ok (.iadd, 1) := by decide +kernel
theorem dL_isRead_400 : decode cL_isRead 400 = .ok (.iaload, 1) := by decide +kernel
theorem dL_isRead_401 : decode cL_isRead 401 = .ok (.iadd, 1) := by decide +kernel
theorem dL_isRead_402 : decode cL_isRead 402 = .ok (.aload 7, 2) := by decide +kernel
theorem dL_isRead_404 : decode cL_isRead 404 = .ok (.iconst 0, 1) := by decide +kernel
theorem dL_isRead_405 : decode cL_isRead 405 = .ok (.iaload, 1) := by decide +kernel
theorem dL_isRead_406 : decode cL_isRead 406 = .ok (.iastore, 1) := by decide +kernel
theorem dL_isRead_407 : decode cL_isRead 407 = .ok (.aload 6, 2) := by decide +kernel
theorem dL_isRead_409 : decode cL_isRead 409 = .ok (.bipush 20, 2) := by decide +kernel
theorem dL_isRead_411 : decode cL_isRead 411 = .ok (.bipush 10, 2) := by decide +kernel
theorem dL_isRead_413 : decode cL_isRead 413 = .ok (.iload 11, 2) := by decide +kernel
theorem dL_isRead_415 : decode cL_isRead 415 = .ok (.imul, 1) := by decide +kernel
theorem dL_isRead_416 : decode cL_isRead 416 = .ok (.iadd, 1) := by decide +kernel
theorem dL_isRead_417 : decode cL_isRead 417 = .ok (.aload 5, 2) := by decide +kernel
theorem dL_isRead_419 : decode cL_isRead 419 = .ok (.iconst 3, 1) := by decide +kernel
theorem dL_isRead_420 : decode cL_isRead 420 = .ok (.iload 11, 2) := by decide +kernel
theorem dL_isRead_422 : decode cL_isRead 422 = .ok (.imul, 1) := by decide +kernel
theorem dL_isRead_423 : decode cL_isRead 423 = .ok (.iconst 2, 1) := by decide +kernel
theorem dL_isRead_424 : decode cL_isRead 424 = .ok (.iadd, 1) := by decide +kernel
theorem dL_isRead_425 : decode cL_isRead 425 = .ok (.iaload, 1) := by decide +kernel
theorem dL_isRead_426 : decode cL_isRead 426 = .ok (.iadd, 1) := by decide +kernel
theorem dL_isRead_427 : decode cL_isRead 427 = .ok (.iload 13, 2) := by decide +kernel
theorem dL_isRead_429 : decode cL_isRead 429 = .ok (.iastore, 1) := by decide +kernel
theorem dL_isRead_430 : decode cL_isRead 430 = .ok (.aload 5, 2) := by decide +kernel
theorem dL_isRead_432 : decode cL_isRead 432 = .ok (.iconst 3, 1) := by decide +kernel
theorem dL_isRead_433 : decode cL_isRead 433 = .ok (.iload 11, 2) := by decide +kernel
theorem dL_isRead_435 : decode cL_isRead 435 = .ok (.imul, 1) := by decide +kernel
theorem dL_isRead_436 : decode cL_isRead 436 = .ok (.iconst 2, 1) := by decide +kernel
theorem dL_isRead_437 : decode cL_isRead 437 = .ok (.iadd, 1) := by decide +kernel
theorem dL_isRead_438 : decode cL_isRead 438 = .ok (.dup2, 1) := by decide +kernel
theorem dL_isRead_439 : decode cL_isRead 439 = .ok (.iaload, 1) := by decide +kernel
theorem dL_isRead_440 : decode cL_isRead 440 = .ok (.iconst 1, 1) := by decide +kernel
theorem dL_isRead_441 : decode cL_isRead 441 = .ok (.iadd, 1) := by decide +kernel
theorem dL_isRead_442 : decode cL_isRead 442 = .ok (.iastore, 1) := by decide +kernel
theorem dL_isRead_443 : decode cL_isRead 443 = .ok (.aload_n 0, 1) := by decide +kernel
theorem dL_isRead_444 : decode cL_isRead 444 = .ok (.bipush 12, 2) := by decide +kernel
theorem dL_isRead_446 : decode cL_isRead 446 = .ok (.iload 11, 2) := by decide +kernel
theorem dL_isRead_448 : decode cL_isRead 448 = .ok (.iconst 0, 1) := by decide +kernel
theorem dL_isRead_449 : decode cL_isRead 449 = .ok (.iconst 0, 1) := by decide +kernel
theorem dL_isRead_450 : decode cL_isRead 450 = .ok (.iconst 0, 1) := by decide +kernel
theorem dL_isRead_451 : decode cL_isRead 451 = .ok (.iconst 0, 1) := by decide +kernel
theorem dL_isRead_452 : decode cL_isRead 452 = .ok (.invokestatic 155, 3) := by decide +kernel
theorem dL_isRead_455 : decode cL_isRead 455 = .ok (.iload 12, 2) := by decide +kernel
theorem dL_isRead_457 : decode cL_isRead 457 = .ok (.ifCond .eq 8, 3) := by decide +kernel
theorem dL_isRead_460 : decode cL_isRead 460 = .ok (.iload 13, 2) := by decide +kernel
theorem dL_isRead_462 : decode cL_isRead 462 = .ok (.goto 5, 3) := by decide +kernel
theorem dL_isRead_465 : decode cL_isRead 465 = .ok (.ldc 77, 2) := by decide +kernel
theorem dL_isRead_467 : decode cL_isRead 467 = .ok (.if_icmp .ne 7, 3) := by decide +kernel
theorem dL_isRead_470 : decode cL_isRead 470 = .ok (.iconst 1, 1) := by decide +kernel
theorem dL_isRead_471 : decode cL_isRead 471 = .ok (.goto 4, 3) := by decide +kernel
theorem dL_isRead_474 : decode cL_isRead 474 = .ok (.iconst 0, 1) := by decide +kernel
theorem dL_isRead_475 : decode cL_isRead 475 = .ok (.ireturn, 1) := by decide +kernel
theorem dL_isRead_476 : decode cL_isRead 476 = .ok (.iload 8, 2) := by decide +kernel
theorem dL_isRead_478 : decode cL_isRead 478 = .ok (.iconst 2, 1) := by decide +kernel
theorem dL_isRead_479 : decode cL_isRead 479 = .ok (.if_icmp .ne 122, 3) := by decide +kernel
theorem dL_isRead_482 : decode cL_isRead 482 = .ok (.iload 10, 2) := by decide +kernel
theorem dL_isRead_484 : decode cL_isRead 484 = .ok (.bipush 13, 2) := by decide +kernel
theorem dL_isRead_486 : decode cL_isRead 486 = .ok (.irem, 1) := by decide +kernel
theorem dL_isRead_487 : decode cL_isRead 487 = .ok (.bipush 12, 2) := by decide +kernel
theorem dL_isRead_489 : decode cL_isRead 489 = .ok (.if_icmp .ne 9, 3) := by decide +kernel
theorem dL_isRead_492 : decode cL_isRead 492 = .ok (.sipush 5001, 3) := by decide +kernel
theorem dL_isRead_495 : decode cL_isRead 495 = .ok (.goto 13, 3) := by decide +kernel
theorem dL_isRead_498 : decode cL_isRead 498 = .ok (.iload 10, 2) := by decide +kernel
theorem dL_isRead_500 : decode cL_isRead 500 = .ok (.sipush 400, 3) := by decide +kernel
theorem dL_isRead_503 : decode cL_isRead 503 = .ok (.irem, 1) := by decide +kernel
theorem dL_isRead_504 : decode cL_isRead 504 = .ok (.sipush 200, 3) := by decide +kernel
theorem dL_isRead_507 : decode cL_isRead 507 = .ok (.isub, 1) := by decide +kernel
theorem dL_isRead_508 : decode cL_isRead 508 = .ok (.istore 13, 2) := by decide +kernel
theorem dL_isRead_510 : decode cL_isRead 510 = .ok (.iload 12, 2) := by decide +kernel
theorem dL_isRead_512 : decode cL_isRead 512 = .ok (.ifCond .eq 15, 3) := by decide +kernel
theorem dL_isRead_515 : decode cL_isRead 515 = .ok (.aload 5, 2) := by decide +kernel
theorem dL_isRead_517 : decode cL_isRead 517 = .ok (.iconst 3, 1) := by decide +kernel
theorem dL_isRead_518 : decode cL_isRead 518 = .ok (.iload 11, 2) := by decide +kernel
theorem dL_isRead_520 : decode cL_isRead 520 = .ok (.imul, 1) := by decide +kernel
theorem dL_isRead_521 : decode cL_isRead 521 = .ok (.iconst 1, 1) := by decide +kernel
theorem dL_isRead_522 : decode cL_isRead 522 = .ok (.iadd, 1) := by decide +kernel
theorem dL_isRead_523 : decode cL_isRead 523 = .ok (.iaload, 1) := by decide +kernel
theorem dL_isRead_524 : decode cL_isRead 524 = .ok (.goto 4, 3) := by decide +kernel
theorem dL_isRead_527 : decode cL_isRead 527 = .ok (.iconst 0, 1) := by decide +kernel
theorem dL_isRead_528 : decode cL_isRead 528 = .ok (.istore 14, 2) := by decide +kernel
theorem dL_isRead_530 : decode cL_isRead 530 = .ok (.iload 12, 2) := by decide +kernel
theorem dL_isRead_532 : decode cL_isRead 532 = .ok (.ifCond .eq 22, 3) := by decide +kernel
theorem dL_isRead_535 : decode cL_isRead 535 = .ok (.iload 13, 2) := by decide +kernel
theorem dL_isRead_537 : decode cL_isRead 537 = .ok (.sipush 5001, 3) := by decide +kernel
theorem dL_isRead_540 : decode cL_isRead 540 = .ok (.if_icmp .ge 14, 3) := by decide +kernel
theorem dL_isRead_543 : decode cL_isRead 543 = .ok (.aload 5, 2) := by decide +kernel
theorem dL_isRead_545 : decode cL_isRead 545 = .ok (.iconst 3, 1) := by decide +kernel
theorem dL_isRead_546 : decode cL_isRead 546 = .ok (.iload 11, 2) := by decide +kernel
theorem dL_isRead_548 : decode cL_isRead 548 = .ok (.imul, 1) := by decide +kernel
theorem dL_isRead_549 : decode cL_isRead 549 = .ok (.iconst 1, 1) := by decide +kernel
theorem dL_isRead_550 : decode cL_isRead 550 = .ok (.iadd, 1) := by decide +kernel
theorem dL_isRead_551 : decode cL_isRead 551 = .ok (.iload 13, 2) := by decide +kernel
theorem dL_isRead_553 : decode cL_isRead 553 = .ok (.iastore, 1) := by decide +kernel
theorem dL_isRead_554 : decode cL_isRead 554 = .ok (.aload_n 0, 1) := by decide +kernel
theorem dL_isRead_555 : decode cL_isRead 555 = .ok (.bipush 13, 2) := by decide +kernel
theorem dL_isRead_557 : decode cL_isRead 557 = .ok (.iload 11, 2) := by decide +kernel
theorem dL_isRead_559 : decode cL_isRead 559 = .ok (.iload 13, 2) := by decide +kernel
theorem dL_isRead_561 : decode cL_isRead 561 = .ok (.iconst 0, 1) := by decide +kernel
theorem dL_isRead_562 : decode cL_isRead 562 = .ok (.iconst 0, 1) := by decide +kernel
theorem dL_isRead_563 : decode cL_isRead 563 = .ok (.iconst 0, 1) := by decide +kernel
theorem dL_isRead_564 : decode cL_isRead 564 = .ok (.invokestatic 155, 3) := by decide +kernel
theorem dL_isRead_567 : decode cL_isRead 567 = .ok (.iload 12, 2) := by decide +kernel
theorem dL_isRead_569 : decode cL_isRead 569 = .ok (.ifCond .ne 8, 3) := by decide +kernel
theorem dL_isRead_572 : decode cL_isRead 572 = .ok (.ldc 77, 2) := by decide +kernel
theorem dL_isRead_574 : decode cL_isRead 574 = .ok (.goto 18, 3) := by decide +kernel
theorem dL_isRead_577 : decode cL_isRead 577 = .ok (.iload 13, 2) := by decide +kernel
theorem dL_isRead_579 : decode cL_isRead 579 = .ok (.sipush 5001, 3) := by decide +kernel
theorem dL_isRead_582 : decode cL_isRead 582 = .ok (.if_icmp .ge 8, 3) := by decide +kernel
theorem dL_isRead_585 : decode cL_isRead 585 = .ok (.iload 14, 2) := by decide +kernel
theorem dL_isRead_587 : decode cL_isRead 587 = .ok (.goto 5, 3) := by decide +kernel
theorem dL_isRead_590 : decode cL_isRead 590 = .ok (.ldc 80, 2) := by decide +kernel
theorem dL_isRead_592 : decode cL_isRead 592 = .ok (.if_icmp .ne 7, 3) := by decide +kernel
theorem dL_isRead_595 : decode cL_isRead 595 = .ok (.iconst 1, 1) := by decide +kernel
theorem dL_isRead_596 : decode cL_isRead 596 = .ok (.goto 4, 3) := by decide +kernel
theorem dL_isRead_599 : decode cL_isRead 599 = .ok (.iconst 0, 1) := by decide +kernel
theorem dL_isRead_600 : decode cL_isRead 600 = .ok (.ireturn, 1) := by decide +kernel
theorem dL_isRead_601 : decode cL_isRead 601 = .ok (.iload 10, 2) := by decide +kernel
theorem dL_isRead_603 : decode cL_isRead 603 = .ok (.iconst 3, 1) := by decide +kernel
theorem dL_isRead_604 : decode cL_isRead 604 = .ok (.irem, 1) := by decide +kernel
theorem dL_isRead_605 : decode cL_isRead 605 = .ok (.ifCond .ne 12, 3) := by decide +kernel
theorem dL_isRead_608 : decode cL_isRead 608 = .ok (.iload 10, 2) := by decide +kernel
theorem dL_isRead_610 : decode cL_isRead 610 = .ok (.sipush 4000, 3) := by decide +kernel
theorem dL_isRead_613 : decode cL_isRead 613 = .ok (.irem, 1) := by decide +kernel
theorem dL_isRead_614 : decode cL_isRead 614 = .ok (.goto 8, 3) := by decide +kernel
theorem dL_isRead_617 : decode cL_isRead 617 = .ok (.iload 10, 2) := by decide +kernel
theorem dL_isRead_619 : decode cL_isRead 619 = .ok (.bipush 60, 2) := by decide +kernel
theorem dL_isRead_621 : decode cL_isRead 621 = .ok (.irem, 1) := by decide +kernel
theorem dL_isRead_622 : decode cL_isRead 622 = .ok (.istore 13, 2) := by decide +kernel
theorem dL_isRead_624 : decode cL_isRead 624 = .ok (.iconst 1, 1) := by decide +kernel
theorem dL_isRead_625 : decode cL_isRead 625 = .ok (.istore 14, 2) := by decide +kernel
theorem dL_isRead_627 : decode cL_isRead 627 = .ok (.iconst 0, 1) := by decide +kernel
theorem dL_isRead_628 : decode cL_isRead 628 = .ok (.istore 15, 2) := by decide +kernel
theorem dL_isRead_630 : decode cL_isRead 630 = .ok (.iload 15, 2) := by decide +kernel
theorem dL_isRead_632 : decode cL_isRead 632 = .ok (.aload 7, 2) := by decide +kernel
theorem dL_isRead_634 : decode cL_isRead 634 = .ok (.iconst 4, 1) := by decide +kernel
theorem dL_isRead_635 : decode cL_isRead 635 = .ok (.iaload, 1) := by decide +kernel
theorem dL_isRead_636 : decode cL_isRead 636 = .ok (.if_icmp .ge 93, 3) := by decide +kernel
theorem dL_isRead_639 : decode cL_isRead 639 = .ok (.aload 5, 2) := by decide +kernel
theorem dL_isRead_641 : decode cL_isRead 641 = .ok (.iconst 3, 1) := by decide +kernel
theorem dL_isRead_642 : decode cL_isRead 642 = .ok (.iload 15, 2) := by decide +kernel
theorem dL_isRead_644 : decode cL_isRead 644 = .ok (.imul, 1) := by decide +kernel
theorem dL_isRead_645 : decode cL_isRead 645 = .ok (.iconst 2, 1) := by decide +kernel
theorem dL_isRead_646 : decode cL_isRead 646 = .ok (.iadd, 1) := by decide +kernel
theorem dL_isRead_647 : decode cL_isRead 647 = .ok (.iaload, 1) := by decide +kernel
theorem dL_isRead_648 : decode cL_isRead 648 = .ok (.iconst 1, 1) := by decide +kernel
theorem dL_isRead_649 : decode cL_isRead 649 = .ok (.isub, 1) := by decide +kernel
theorem dL_isRead_650 : decode cL_isRead 650 = .ok (.istore 16, 2) := by decide +kernel
theorem dL_isRead_652 : decode cL_isRead 652 = .ok (.iload 16, 2) := by decide +kernel
theorem dL_isRead_654 : decode cL_isRead 654 = .ok (.ifCond .ge 7, 3) := by decide +kernel
theorem dL_isRead_657 : decode cL_isRead 657 = .ok (.iconst 0, 1) := by decide +kernel
theorem dL_isRead_658 : decode cL_isRead 658 = .ok (.goto 11, 3) := by decide +kernel
theorem dL_isRead_661 : decode cL_isRead 661 = .ok (.bipush 10, 2) := by decide +kernel
theorem dL_isRead_663 : decode cL_isRead 663 = .ok (.iload 15, 2) := by decide +kernel
theorem dL_isRead_665 : decode cL_isRead 665 = .ok (.imul, 1) := by decide +kernel
theorem dL_isRead_666 : decode cL_isRead 666 = .ok (.iload 16, 2) := by decide +kernel
theorem dL_isRead_668 : decode cL_isRead 668 = .ok (.iadd, 1) := by decide +kernel
theorem dL_isRead_669 : decode cL_isRead 669 = .ok (.istore 17, 2) := by decide +kernel
theorem dL_isRead_671 : decode cL_isRead 671 = .ok (.iload 14, 2) := by decide +kernel
theorem dL_isRead_673 : decode cL_isRead 673 = .ok (.ifCond .eq 47, 3) := by decide +kernel
theorem dL_isRead_676 : decode cL_isRead 676 = .ok (.iload 16, 2) := by decide +kernel
theorem dL_isRead_678 : decode cL_isRead 678 = .ok (.ifCond .lt 38, 3) := by decide +kernel
theorem dL_isRead_681 : decode cL_isRead 681 = .ok (.aload 6, 2) := by decide +kernel
theorem dL_isRead_683 : decode cL_isRead 683 = .ok (.bipush 20, 2) := by decide +kernel
theorem dL_isRead_685 : decode cL_isRead 685 = .ok (.iload 17, 2) := by decide +kernel
theorem dL_isRead_687 : decode cL_isRead 687 = .ok (.iadd, 1) := by decide +kernel
theorem dL_isRead_688 : decode cL_isRead 688 = .ok (.iaload, 1) := by decide +kernel
theorem dL_isRead_689 : decode cL_isRead 689 = .ok (.aload 6, 2) := by decide +kernel
theorem dL_isRead_691 : decode cL_isRead 691 = .ok (.iload 17, 2) := by decide +kernel
theorem dL_isRead_693 : decode cL_isRead 693 = .ok (.iaload, 1) := by decide +kernel
theorem dL_isRead_694 : decode cL_isRead 694 = .ok (.invokestatic 152, 3) := by decide +kernel
theorem dL_isRead_697 : decode cL_isRead 697 = .ok (.isub, 1) := by decide +kernel
theorem dL_isRead_698 : decode cL_isRead 698 = .ok (.bipush 20, 2) := by decide +kernel
theorem dL_isRead_700 : decode cL_isRead 700 = .ok (.isub, 1) := by decide +kernel
theorem dL_isRead_701 : decode cL_isRead 701 = .ok (.aload 5, 2) := by decide +kernel
theorem dL_isRead_703 : decode cL_isRead 703 = .ok (.iconst 3, 1) := by decide +kernel
theorem dL_isRead_704 : decode cL_isRead 704 = .ok (.iload 15, 2) := by decide +kernel
theorem dL_isRead_706 : decode cL_isRead 706 = .ok (.imul, 1) := by decide +kernel
theorem dL_isRead_707 : decode cL_isRead 707 = .ok (.iconst 1, 1) := by decide +kernel
theorem dL_isRead_708 : decode cL_isRead 708 = .ok (.iadd, 1) := by decide +kernel
theorem dL_isRead_709 : decode cL_isRead 709 = .ok (.iaload, 1) := by decide +kernel
theorem dL_isRead_710 : decode cL_isRead 710 = .ok (.isub, 1) := by decide +kernel
theorem dL_isRead_711 : decode cL_isRead 711 = .ok (.iload 13, 2) := by decide +kernel
theorem dL_isRead_713 : decode cL_isRead 713 = .ok (.if_icmp .gt 7, 3) := by decide +kernel
theorem dL_isRead_716 : decode cL_isRead 716 = .ok (.iconst 1, 1) := by decide +kernel
theorem dL_isRead_717 : decode cL_isRead 717 = .ok (.goto 4, 3) := by decide +kernel
theorem dL_isRead_720 : decode cL_isRead 720 = .ok (.iconst 0, 1) := by decide +kernel
theorem dL_isRead_721 : decode cL_isRead 721 = .ok (.istore 14, 2) := by decide +kernel
theorem dL_isRead_723 : decode cL_isRead 723 = .ok (.iinc 15 1, 3) := by decide +kernel
theorem dL_isRead_726 : decode cL_isRead 726 = .ok (.goto (-96), 3) := by decide +kernel
theorem dL_isRead_729 : decode cL_isRead 729 = .ok (.aload 7, 2) := by decide +kernel
theorem dL_isRead_731 : decode cL_isRead 731 = .ok (.iconst 5, 1) := by decide +kernel
theorem dL_isRead_732 : decode cL_isRead 732 = .ok (.iload 14, 2) := by decide +kernel
theorem dL_isRead_734 : decode cL_isRead 734 = .ok (.ifCond .eq 7, 3) := by decide +kernel
theorem dL_isRead_737 : decode cL_isRead 737 = .ok (.iconst 0, 1) := by decide +kernel
theorem dL_isRead_738 : decode cL_isRead 738 = .ok (.goto 9, 3) := by decide +kernel
theorem dL_isRead_741 : decode cL_isRead 741 = .ok (.aload 7, 2) := by decide +kernel
theorem dL_isRead_743 : decode cL_isRead 743 = .ok (.iconst 5, 1) := by decide +kernel
theorem dL_isRead_744 : decode cL_isRead 744 = .ok (.iaload, 1) := by decide +kernel
theorem dL_isRead_745 : decode cL_isRead 745 = .ok (.iconst 1, 1) := by decide +kernel
theorem dL_isRead_746 : decode cL_isRead 746 = .ok (.iadd, 1) := by decide +kernel
theorem dL_isRead_747 : decode cL_isRead 747 = .ok (.iastore, 1) := by decide +kernel
theorem dL_isRead_748 : decode cL_isRead 748 = .ok (.aload 7, 2) := by decide +kernel
theorem dL_isRead_750 : decode cL_isRead 750 = .ok (.bipush 6, 2) := by decide +kernel
theorem dL_isRead_752 : decode cL_isRead 752 = .ok (.iload 14, 2) := by decide +kernel
theorem dL_isRead_754 : decode cL_isRead 754 = .ok (.ifCond .eq 13, 3) := by decide +kernel
theorem dL_isRead_757 : decode cL_isRead 757 = .ok (.aload 7, 2) := by decide +kernel
theorem dL_isRead_759 : decode cL_isRead 759 = .ok (.bipush 6, 2) := by decide +kernel
theorem dL_isRead_761 : decode cL_isRead 761 = .ok (.iaload, 1) := by decide +kernel
theorem dL_isRead_762 : decode cL_isRead 762 = .ok (.iconst 1, 1) := by decide +kernel
theorem dL_isRead_763 : decode cL_isRead 763 = .ok (.iadd, 1) := by decide +kernel
theorem dL_isRead_764 : decode cL_isRead 764 = .ok (.goto 4, 3) := by decide +kernel
theorem dL_isRead_767 : decode cL_isRead 767 = .ok (.iconst 0, 1) := by decide +kernel
theorem dL_isRead_768 : decode cL_isRead 768 = .ok (.iastore, 1) := by decide +kernel
theorem dL_isRead_769 : decode cL_isRead 769 = .ok (.aload 7, 2) := by decide +kernel
theorem dL_isRead_771 : decode cL_isRead 771 = .ok (.bipush 7, 2) := by decide +kernel
theorem dL_isRead_773 : decode cL_isRead 773 = .ok (.aload 7, 2) := by decide +kernel
theorem dL_isRead_775 : decode cL_isRead 775 = .ok (.iconst 5, 1) := by decide +kernel
theorem dL_isRead_776 : decode cL_isRead 776 = .ok (.iaload, 1) := by decide +kernel
theorem dL_isRead_777 : decode cL_isRead 777 = .ok (.iconst 1, 1) := by decide +kernel
theorem dL_isRead_778 : decode cL_isRead 778 = .ok (.if_icmp .le 7, 3) := by decide +kernel
theorem dL_isRead_781 : decode cL_isRead 781 = .ok (.iconst 1, 1) := by decide +kernel
theorem dL_isRead_782 : decode cL_isRead 782 = .ok (.goto 21, 3) := by decide +kernel
theorem dL_isRead_785 : decode cL_isRead 785 = .ok (.aload 7, 2) := by decide +kernel
theorem dL_isRead_787 : decode cL_isRead 787 = .ok (.bipush 6, 2) := by decide +kernel
theorem dL_isRead_789 : decode cL_isRead 789 = .ok (.iaload, 1) := by decide +kernel
theorem dL_isRead_790 : decode cL_isRead 790 = .ok (.iconst 2, 1) := by decide +kernel
theorem dL_isRead_791 : decode cL_isRead 791 = .ok (.if_icmp .le 7, 3) := by decide +kernel
theorem dL_isRead_794 : decode cL_isRead 794 = .ok (.iconst 0, 1) := by decide +kernel
theorem dL_isRead_795 : decode cL_isRead 795 = .ok (.goto 8, 3) := by decide +kernel
theorem dL_isRead_798 : decode cL_isRead 798 = .ok (.aload 7, 2) := by decide +kernel
theorem dL_isRead_800 : decode cL_isRead 800 = .ok (.bipush 7, 2) := by decide +kernel
theorem dL_isRead_802 : decode cL_isRead 802 = .ok (.iaload, 1) := by decide +kernel
theorem dL_isRead_803 : decode cL_isRead 803 = .ok (.iastore, 1) := by decide +kernel
theorem dL_isRead_804 : decode cL_isRead 804 = .ok (.aload_n 0, 1) := by decide +kernel
theorem dL_isRead_805 : decode cL_isRead 805 = .ok (.iload 13, 2) := by decide +kernel
theorem dL_isRead_807 : decode cL_isRead 807 = .ok (.invokevirtual 172, 3) := by decide +kernel
theorem dL_isRead_810 : decode cL_isRead 810 = .ok (.iload 14, 2) := by decide +kernel
theorem dL_isRead_812 : decode cL_isRead 812 = .ok (.if_icmp .ne 7, 3) := by decide +kernel
theorem dL_isRead_815 : decode cL_isRead 815 = .ok (.iconst 1, 1) := by decide +kernel
theorem dL_isRead_816 : decode cL_isRead 816 = .ok (.goto 4, 3) := by decide +kernel
theorem dL_isRead_819 : decode cL_isRead 819 = .ok (.iconst 0, 1) := by decide +kernel
theorem dL_isRead_820 : decode cL_isRead 820 = .ok (.ireturn, 1) := by decide +kernel
theorem dL_law_0 : decode cL_law 0 = .ok (.new 9, 3) := by decide +kernel
theorem dL_law_3 : decode cL_law 3 = .ok (.dup, 1) := by decide +kernel
theorem dL_law_4 : decode cL_law 4 = .ok (.invokespecial 176, 3) := by decide +kernel
theorem dL_law_7 : decode cL_law 7 = .ok (.astore_n 1, 1) := by decide +kernel
theorem dL_law_8 : decode cL_law 8 = .ok (.bipush 64, 2) := by decide +kernel
theorem dL_law_10 : decode cL_law 10 = .ok (.newarray .int, 2) := by decide +kernel
theorem dL_law_12 : decode cL_law 12 = .ok (.astore_n 2, 1) := by decide +kernel
theorem dL_law_13 : decode cL_law 13 = .ok (.bipush 8, 2) := by decide +kernel
theorem dL_law_15 : decode cL_law 15 = .ok (.newarray .int, 2) := by decide +kernel
theorem dL_law_17 : decode cL_law 17 = .ok (.astore_n 3, 1) := by decide +kernel
theorem dL_law_18 : decode cL_law 18 = .ok (.bipush 8, 2) := by decide +kernel
theorem dL_law_20 : decode cL_law 20 = .ok (.newarray .int, 2) := by decide +kernel
theorem dL_law_22 : decode cL_law 22 = .ok (.astore 4, 2) := by decide +kernel
theorem dL_law_24 : decode cL_law 24 = .ok (.bipush 60, 2) := by decide +kernel
theorem dL_law_26 : decode cL_law 26 = .ok (.newarray .int, 2) := by decide +kernel
theorem dL_law_28 : decode cL_law 28 = .ok (.astore 5, 2) := by decide +kernel
theorem dL_law_30 : decode cL_law 30 = .ok (.bipush 10, 2) := by decide +kernel
theorem dL_law_32 : decode cL_law 32 = .ok (.newarray .int, 2) := by decide +kernel
theorem dL_law_34 : decode cL_law 34 = .ok (.astore 6, 2) := by decide +kernel
theorem dL_law_36 : decode cL_law 36 = .ok (.bipush 6, 2) := by decide +kernel
theorem dL_law_38 : decode cL_law 38 = .ok (.newarray .int, 2) := by decide +kernel
theorem dL_law_40 : decode cL_law 40 = .ok (.astore 7, 2) := by decide +kernel
theorem dL_law_42 : decode cL_law 42 = .ok (.bipush 40, 2) := by decide +kernel
theorem dL_law_44 : decode cL_law 44 = .ok (.newarray .int, 2) := by decide +kernel
