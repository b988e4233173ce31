theorem dL_law_0 : decode cL_law 0 = .ok (.new 8, 3) := by decide +kernel
theorem dL_law_3 : decode cL_law 3 = .ok (.dup, 1) := by decide +kernel
theorem dL_law_4 : decode cL_law 4 = .ok (.invokespecial 109, 3) := by decide +kernel
theorem dL_law_7 : decode cL_law 7 = .ok (.astore_n 1, 1) := by decide +kernel
theorem dL_law_8 : decode cL_law 8 = .ok (.new 110, 3) := by decide +kernel
theorem dL_law_11 : decode cL_law 11 = .ok (.dup, 1) := by decide +kernel
theorem dL_law_12 : decode cL_law 12 = .ok (.invokespecial 112, 3) := by decide +kernel
theorem dL_law_15 : decode cL_law 15 = .ok (.astore_n 2, 1) := by decide +kernel
theorem dL_law_16 : decode cL_law 16 = .ok (.iconst 1, 1) := by decide +kernel
theorem dL_law_17 : decode cL_law 17 = .ok (.newarray .long, 2) := by decide +kernel
theorem dL_law_19 : decode cL_law 19 = .ok (.astore_n 3, 1) := by decide +kernel
theorem dL_law_20 : decode cL_law 20 = .ok (.iconst 1, 1) := by decide +kernel
theorem dL_law_21 : decode cL_law 21 = .ok (.newarray .double, 2) := by decide +kernel
theorem dL_law_23 : decode cL_law 23 = .ok (.astore 4, 2) := by decide +kernel
theorem dL_law_25 : decode cL_law 25 = .ok (.iconst 0, 1) := by decide +kernel
theorem dL_law_26 : decode cL_law 26 = .ok (.istore 5, 2) := by decide +kernel
theorem dL_law_28 : decode cL_law 28 = .ok (.iload 5, 2) := by decide +kernel
theorem dL_law_30 : decode cL_law 30 = .ok (.aload_n 0, 1) := by decide +kernel
theorem dL_law_31 : decode cL_law 31 = .ok (.arraylength, 1) := by decide +kernel
theorem dL_law_32 : decode cL_law 32 = .ok (.iconst 5, 1) := by decide +kernel
theorem dL_law_33 : decode cL_law 33 = .ok (.isub, 1) := by decide +kernel
theorem dL_law_34 : decode cL_law 34 = .ok (.if_icmp .gt 1905, 3) := by decide +kernel
theorem dL_law_37 : decode cL_law 37 = .ok (.aload_n 0, 1) := by decide +kernel
theorem dL_law_38 : decode cL_law 38 = .ok (.iload 5, 2) := by decide +kernel
theorem dL_law_40 : decode cL_law 40 = .ok (.iaload, 1) := by decide +kernel
theorem dL_law_41 : decode cL_law 41 = .ok (.bipush 31, 2) := by decide +kernel
theorem dL_law_43 : decode cL_law 43 = .ok (.iand, 1) := by decide +kernel
theorem dL_law_44 : decode cL_law 44 = .ok (.tableswitch 1889 0 30 #[140, 196, 287, 300, 356, 431, 487, 567, 659, 672, 740, 808, 888, 944, 1031, 1087, 1100, 1144, 1188, 1244, 1300, 1356, 1412, 1468, 1536, 1604, 1659, 1724, 1787, 1831, 1875], 140) := by decide +kernel
theorem dL_law_184 : decode cL_law 184 = .ok (.aload_n 1, 1) := by decide +kernel
theorem dL_law_185 : decode cL_law 185 = .ok (.aload_n 0, 1) := by decide +kernel
theorem dL_law_186 : decode cL_law 186 = .ok (.iload 5, 2) := by decide +kernel
theorem dL_law_188 : decode cL_law 188 = .ok (.iconst 1, 1) := by decide +kernel
theorem dL_law_189 : decode cL_law 189 = .ok (.iadd, 1) := by decide +kernel
theorem dL_law_190 : decode cL_law 190 = .ok (.iaload, 1) := by decide +kernel
theorem dL_law_191 : decode cL_law 191 = .ok (.aload_n 3, 1) := by decide +kernel
theorem dL_law_192 : decode cL_law 192 = .ok (.invokestatic 113, 3) := by decide +kernel
theorem dL_law_195 : decode cL_law 195 = .ok (.istore 6, 2) := by decide +kernel
theorem dL_law_197 : decode cL_law 197 = .ok (.aload_n 2, 1) := by decide +kernel
theorem dL_law_198 : decode cL_law 198 = .ok (.aload_n 0, 1) := by decide +kernel
theorem dL_law_199 : decode cL_law 199 = .ok (.iload 5, 2) := by decide +kernel
theorem dL_law_201 : decode cL_law 201 = .ok (.iconst 1, 1) := by decide +kernel
theorem dL_law_202 : decode cL_law 202 = .ok (.iadd, 1) := by decide +kernel
theorem dL_law_203 : decode cL_law 203 = .ok (.iaload, 1) := by decide +kernel
theorem dL_law_204 : decode cL_law 204 = .ok (.invokevirtual 118, 3) := by decide +kernel
theorem dL_law_207 : decode cL_law 207 = .ok (.istore 7, 2) := by decide +kernel
theorem dL_law_209 : decode cL_law 209 = .ok (.aload_n 2, 1) := by decide +kernel
theorem dL_law_210 : decode cL_law 210 = .ok (.invokevirtual 119, 3) := by decide +kernel
theorem dL_law_213 : decode cL_law 213 = .ok (.iload 6, 2) := by decide +kernel
theorem dL_law_215 : decode cL_law 215 = .ok (.if_icmp .eq 5, 3) := by decide +kernel
theorem dL_law_218 : decode cL_law 218 = .ok (.iconst 0, 1) := by decide +kernel
theorem dL_law_219 : decode cL_law 219 = .ok (.ireturn, 1) := by decide +kernel
theorem dL_law_220 : decode cL_law 220 = .ok (.iload 6, 2) := by decide +kernel
theorem dL_law_222 : decode cL_law 222 = .ok (.ifCond .ne 15, 3) := by decide +kernel
theorem dL_law_225 : decode cL_law 225 = .ok (.aload_n 3, 1) := by decide +kernel
theorem dL_law_226 : decode cL_law 226 = .ok (.iconst 0, 1) := by decide +kernel
theorem dL_law_227 : decode cL_law 227 = .ok (.laload, 1) := by decide +kernel
theorem dL_law_228 : decode cL_law 228 = .ok (.iload 7, 2) := by decide +kernel
theorem dL_law_230 : decode cL_law 230 = .ok (.i2l, 1) := by decide +kernel
theorem dL_law_231 : decode cL_law 231 = .ok (.lcmp, 1) := by decide +kernel
theorem dL_law_232 : decode cL_law 232 = .ok (.ifCond .eq 5, 3) := by decide +kernel
theorem dL_law_235 : decode cL_law 235 = .ok (.iconst 0, 1) := by decide +kernel
theorem dL_law_236 : decode cL_law 236 = .ok (.ireturn, 1) := by decide +kernel
theorem dL_law_237 : decode cL_law 237 = .ok (.goto 1696, 3) := by decide +kernel
theorem dL_law_240 : decode cL_law 240 = .ok (.aload_n 1, 1) := by decide +kernel
theorem dL_law_241 : decode cL_law 241 = .ok (.aload_n 0, 1) := by decide +kernel
theorem dL_law_242 : decode cL_law 242 = .ok (.iload 5, 2) := by decide +kernel
theorem dL_law_244 : decode cL_law 244 = .ok (.iconst 1, 1) := by decide +kernel
theorem dL_law_245 : decode cL_law 245 = .ok (.iadd, 1) := by decide +kernel
theorem dL_law_246 : decode cL_law 246 = .ok (.iaload, 1) := by decide +kernel
theorem dL_law_247 : decode cL_law 247 = .ok (.aload_n 0, 1) := by decide +kernel
theorem dL_law_248 : decode cL_law 248 = .ok (.iload 5, 2) := by decide +kernel
theorem dL_law_250 : decode cL_law 250 = .ok (.iconst 2, 1) := by decide +kernel
theorem dL_law_251 : decode cL_law 251 = .ok (.iadd, 1) := by decide +kernel
theorem dL_law_252 : decode cL_law 252 = .ok (.iaload, 1) := by decide +kernel
theorem dL_law_253 : decode cL_law 253 = .ok (.ifCond .eq 7, 3) := by decide +kernel
theorem dL_law_256 : decode cL_law 256 = .ok (.iconst 1, 1) := by decide +kernel
theorem dL_law_257 : decode cL_law 257 = .ok (.goto 4, 3) := by decide +kernel
theorem dL_law_260 : decode cL_law 260 = .ok (.iconst 0, 1) := by decide +kernel
theorem dL_law_261 : decode cL_law 261 = .ok (.aload_n 3, 1) := by decide +kernel
theorem dL_law_262 : decode cL_law 262 = .ok (.invokestatic 122, 3) := by decide +kernel
theorem dL_law_265 : decode cL_law 265 = .ok (.istore 6, 2) := by decide +kernel
theorem dL_law_267 : decode cL_law 267 = .ok (.aload_n 2, 1) := by decide +kernel
theorem dL_law_268 : decode cL_law 268 = .ok (.aload_n 0, 1) := by decide +kernel
theorem dL_law_269 : decode cL_law 269 = .ok (.iload 5, 2) := by decide +kernel
theorem dL_law_271 : decode cL_law 271 = .ok (.iconst 1, 1) := by decide +kernel
theorem dL_law_272 : decode cL_law 272 = .ok (.iadd, 1) := by decide +kernel
theorem dL_law_273 : decode cL_law 273 = .ok (.iaload, 1) := by decide +kernel
theorem dL_law_274 : decode cL_law 274 = .ok (.aload_n 0, 1) := by decide +kernel
theorem dL_law_275 : decode cL_law 275 = .ok (.iload 5, 2) := by decide +kernel
theorem dL_law_277 : decode cL_law 277 = .ok (.iconst 2, 1) := by decide +kernel
theorem dL_law_278 : decode cL_law 278 = .ok (.iadd, 1) := by decide +kernel
theorem dL_law_279 : decode cL_law 279 = .ok (.iaload, 1) := by decide +kernel
theorem dL_law_280 : decode cL_law 280 = .ok (.ifCond .eq 7, 3) := by decide +kernel
theorem dL_law_283 : decode cL_law 283 = .ok (.iconst 1, 1) := by decide +kernel
theorem dL_law_284 : decode cL_law 284 = .ok (.goto 4, 3) := by decide +kernel
theorem dL_law_287 : decode cL_law 287 = .ok (.iconst 0, 1) := by decide +kernel
theorem dL_law_288 : decode cL_law 288 = .ok (.invokevirtual 125, 3) := by decide +kernel
theorem dL_law_291 : decode cL_law 291 = .ok (.istore 7, 2) := by decide +kernel
theorem dL_law_293 : decode cL_law 293 = .ok (.aload_n 2, 1) := by decide +kernel
theorem dL_law_294 : decode cL_law 294 = .ok (.invokevirtual 119, 3) := by decide +kernel
theorem dL_law_297 : decode cL_law 297 = .ok (.iload 6, 2) := by decide +kernel
theorem dL_law_299 : decode cL_law 299 = .ok (.if_icmp .eq 5, 3) := by decide +kernel
theorem dL_law_302 : decode cL_law 302 = .ok (.iconst 0, 1) := by decide +kernel
theorem dL_law_303 : decode cL_law 303 = .ok (.ireturn, 1) := by decide +kernel
theorem dL_law_304 : decode cL_law 304 = .ok (.iload 6, 2) := by decide +kernel
theorem dL_law_306 : decode cL_law 306 = .ok (.ifCond .ne 22, 3) := by decide +kernel
theorem dL_law_309 : decode cL_law 309 = .ok (.aload_n 3, 1) := by decide +kernel
theorem dL_law_310 : decode cL_law 310 = .ok (.iconst 0, 1) := by decide +kernel
theorem dL_law_311 : decode cL_law 311 = .ok (.laload, 1) := by decide +kernel
theorem dL_law_312 : decode cL_law 312 = .ok (.iload 7, 2) := by decide +kernel
theorem dL_law_314 : decode cL_law 314 = .ok (.ifCond .eq 7, 3) := by decide +kernel
theorem dL_law_317 : decode cL_law 317 = .ok (.lconst 1, 1) := by decide +kernel
theorem dL_law_318 : decode cL_law 318 = .ok (.goto 4, 3) := by decide +kernel
theorem dL_law_321 : decode cL_law 321 = .ok (.lconst 0, 1) := by decide +kernel
theorem dL_law_322 : decode cL_law 322 = .ok (.lcmp, 1) := by decide +kernel
theorem dL_law_323 : decode cL_law 323 = .ok (.ifCond .eq 5, 3) := by decide +kernel
theorem dL_law_326 : decode cL_law 326 = .ok (.iconst 0, 1) := by decide +kernel
theorem dL_law_327 : decode cL_law 327 = .ok (.ireturn, 1) := by decide +kernel
theorem dL_law_328 : decode cL_law 328 = .ok (.goto 1605, 3) := by decide +kernel
theorem dL_law_331 : decode cL_law 331 = .ok (.aload_n 1, 1) := by decide +kernel
theorem dL_law_332 : decode cL_law 332 = .ok (.invokevirtual 126, 3) := by decide +kernel
theorem dL_law_335 : decode cL_law 335 = .ok (.aload_n 2, 1) := by decide +kernel
theorem dL_law_336 : decode cL_law 336 = .ok (.invokevirtual 129, 3) := by decide +kernel
theorem dL_law_339 : decode cL_law 339 = .ok (.if_icmp .eq 1594, 3) := by decide +kernel
theorem dL_law_342 : decode cL_law 342 = .ok (.iconst 0, 1) := by decide +kernel
theorem dL_law_343 : decode cL_law 343 = .ok (.ireturn, 1) := by decide +kernel
theorem dL_law_344 : decode cL_law 344 = .ok (.aload_n 1, 1) := by decide +kernel
theorem dL_law_345 : decode cL_law 345 = .ok (.aload_n 0, 1) := by decide +kernel
theorem dL_law_346 : decode cL_law 346 = .ok (.iload 5, 2) := by decide +kernel
theorem dL_law_348 : decode cL_law 348 = .ok (.iconst 1, 1) := by decide +kernel
theorem dL_law_349 : decode cL_law 349 = .ok (.iadd, 1) := by decide +kernel
theorem dL_law_350 : decode cL_law 350 = .ok (.iaload, 1) := by decide +kernel
theorem dL_law_351 : decode cL_law 351 = .ok (.aload_n 3, 1) := by decide +kernel
theorem dL_law_352 : decode cL_law 352 = .ok (.invokestatic 130, 3) := by decide +kernel
theorem dL_law_355 : decode cL_law 355 = .ok (.istore 6, 2) := by decide +kernel
theorem dL_law_357 : decode cL_law 357 = .ok (.aload_n 2, 1) := by decide +kernel
theorem dL_law_358 : decode cL_law 358 = .ok (.aload_n 0, 1) := by decide +kernel
theorem dL_law_359 : decode cL_law 359 = .ok (.iload 5, 2) := by decide +kernel
theorem dL_law_361 : decode cL_law 361 = .ok (.iconst 1, 1) := by decide +kernel
theorem dL_law_362 : decode cL_law 362 = .ok (.iadd, 1) := by decide +kernel
theorem dL_law_363 : decode cL_law 363 = .ok (.iaload, 1) := by decide +kernel
theorem dL_law_364 : decode cL_law 364 = .ok (.invokevirtual 132, 3) := by decide +kernel
theorem dL_law_367 : decode cL_law 367 = .ok (.istore 7, 2) := by decide +kernel
theorem dL_law_369 : decode cL_law 369 = .ok (.aload_n 2, 1) := by decide +kernel
theorem dL_law_370 : decode cL_law 370 = .ok (.invokevirtual 119, 3) := by decide +kernel
theorem dL_law_373 : decode cL_law 373 = .ok (.iload 6, 2) := by decide +kernel
theorem dL_law_375 : decode cL_law 375 = .ok (.if_icmp .eq 5, 3) := by decide +kernel
theorem dL_law_378 : decode cL_law 378 = .ok (.iconst 0, 1) := by decide +kernel
theorem dL_law_379 : decode cL_law 379 = .ok (.ireturn, 1) := by decide +kernel
theorem dL_law_380 : decode cL_law 380 = .ok (.iload 6, 2) := by decide +kernel
theorem dL_law_382 : decode cL_law 382 = .ok (.ifCond .ne 15, 3) := by decide +kernel
theorem dL_law_385 : decode cL_law 385 = .ok (.aload_n 3, 1) := by decide +kernel
theorem dL_law_386 : decode cL_law 386 = .ok (.iconst 0, 1) := by decide +kernel
theorem dL_law_387 : decode cL_law 387 = .ok (.laload, 1) := by decide +kernel
theorem dL_law_388 : decode cL_law 388 = .ok (.iload 7, 2) := by decide +kernel
theorem dL_law_390 : decode cL_law 390 = .ok (.i2l, 1) := by decide +kernel
theorem dL_law_391 : decode cL_law 391 = .ok (.lcmp, 1) := by decide +kernel
theorem dL_law_392 : decode cL_law 392 = .ok (.ifCond .eq 5, 3) := by decide +kernel
theorem dL_law_395 : decode cL_law 395 = .ok (.iconst 0, 1) := by decide +kernel
theorem dL_law_396 : decode cL_law 396 = .ok (.ireturn, 1) := by decide +kernel
theorem dL_law_397 : decode cL_law 397 = .ok (.goto 1536, 3) := by decide +kernel
theorem dL_law_400 : decode cL_law 400 = .ok (.aload_n 1, 1) := by decide +kernel
theorem dL_law_401 : decode cL_law 401 = .ok (.aload_n 0, 1) := by decide +kernel
theorem dL_law_402 : decode cL_law 402 = .ok (.iload 5, 2) := by decide +kernel
theorem dL_law_404 : decode cL_law 404 = .ok (.iconst 1, 1) := by decide +kernel
theorem dL_law_405 : decode cL_law 405 = .ok (.iadd, 1) := by decide +kernel
theorem dL_law_406 : decode cL_law 406 = .ok (.iaload, 1) := by decide +kernel
theorem dL_law_407 : decode cL_law 407 = .ok (.aload_n 0, 1) := by decide +kernel
theorem dL_law_408 : decode cL_law 408 = .ok (.iload 5, 2) := by decide +kernel
theorem dL_law_410 : decode cL_law 410 = .ok (.iconst 2, 1) := by decide +kernel
theorem dL_law_411 : decode cL_law 411 = .ok (.iadd, 1) := by decide +kernel
theorem dL_law_412 : decode cL_law 412 = .ok (.iaload, 1) := by decide +kernel
theorem dL_law_413 : decode cL_law 413 = .ok (.aload_n 3, 1) := by decide +kernel
theorem dL_law_414 : decode cL_law 414 = .ok (.invokestatic 133, 3) := by decide +kernel
theorem dL_law_417 : decode cL_law 417 = .ok (.istore 6, 2) := by decide +kernel
theorem dL_law_419 : decode cL_law 419 = .ok (.aload_n 2, 1) := by decide +kernel
theorem dL_law_420 : decode cL_law 420 = .ok (.aload_n 0, 1) := by decide +kernel
theorem dL_law_421 : decode cL_law 421 = .ok (.iload 5, 2) := by decide +kernel
theorem dL_law_423 : decode cL_law 423 = .ok (.iconst 1, 1) := by decide +kernel
theorem dL_law_424 : decode cL_law 424 = .ok (.iadd, 1) := by decide +kernel
theorem dL_law_425 : decode cL_law 425 = .ok (.iaload, 1) := by decide +kernel
theorem dL_law_426 : decode cL_law 426 = .ok (.aload_n 0, 1) := by decide +kernel
theorem dL_law_427 : decode cL_law 427 = .ok (.iload 5, 2) := by decide +kernel
theorem dL_law_429 : decode cL_law 429 = .ok (.iconst 2, 1) := by decide +kernel
theorem dL_law_430 : decode cL_law 430 = .ok (.iadd, 1) := by decide +kernel
theorem dL_law_431 : decode cL_law 431 = .ok (.iaload, 1) := by decide +kernel
theorem dL_law_432 : decode cL_law 432 = .ok (.invokevirtual 136, 3) := by decide +kernel
theorem dL_law_435 : decode cL_law 435 = .ok (.istore 7, 2) := by decide +kernel
theorem dL_law_437 : decode cL_law 437 = .ok (.aload_n 2, 1) := by decide +kernel
theorem dL_law_438 : decode cL_law 438 = .ok (.invokevirtual 119, 3) := by decide +kernel
theorem dL_law_441 : decode cL_law 441 = .ok (.iload 6, 2) := by decide +kernel
theorem dL_law_443 : decode cL_law 443 = .ok (.if_icmp .eq 5, 3) := by decide +kernel
theorem dL_law_446 : decode cL_law 446 = .ok (.iconst 0, 1) := by decide +kernel
theorem dL_law_447 : decode cL_law 447 = .ok (.ireturn, 1) := by decide +kernel
theorem dL_law_448 : decode cL_law 448 = .ok (.iload 6, 2) := by decide +kernel
theorem dL_law_450 : decode cL_law 450 = .ok (.ifCond .ne 22, 3) := by decide +kernel
theorem dL_law_453 : decode cL_law 453 = .ok (.aload_n 3, 1) := by decide +kernel
theorem dL_law_454 : decode cL_law 454 = .ok (.iconst 0, 1) := by decide +kernel
theorem dL_law_455 : decode cL_law 455 = .ok (.laload, 1) := by decide +kernel
theorem dL_law_456 : decode cL_law 456 = .ok (.iload 7, 2) := by decide +kernel
theorem dL_law_458 : decode cL_law 458 = .ok (.ifCond .eq 7, 3) := by decide +kernel
theorem dL_law_461 : decode cL_law 461 = .ok (.lconst 1, 1) := by decide +kernel
theorem dL_law_462 : decode cL_law 462 = .ok (.goto 4, 3) := by decide +kernel
theorem dL_law_465 : decode cL_law 465 = .ok (.lconst 0, 1) := by decide +kernel
theorem dL_law_466 : decode cL_law 466 = .ok (.lcmp, 1) := by decide +kernel
theorem dL_law_467 : decode cL_law 467 = .ok (.ifCond .eq 5, 3) := by decide +kernel
theorem dL_law_470 : decode cL_law 470 = .ok (.iconst 0, 1) := by decide +kernel
theorem dL_law_471 : decode cL_law 471 = .ok (.ireturn, 1) := by decide +kernel
theorem dL_law_472 : decode cL_law 472 = .ok (.goto 1461, 3) := by decide +kernel
theorem dL_law_475 : decode cL_law 475 = .ok (.aload_n 1, 1) := by decide +kernel
theorem dL_law_476 : decode cL_law 476 = .ok (.aload_n 0, 1) := by decide +kernel
theorem dL_law_477 : decode cL_law 477 = .ok (.iload 5, 2) := by decide +kernel
theorem dL_law_479 : decode cL_law 479 = .ok (.iconst 1, 1) := by decide +kernel
theorem dL_law_480 : decode cL_law 480 = .ok (.iadd, 1) := by decide +kernel
theorem dL_law_481 : decode cL_law 481 = .ok (.iaload, 1) := by decide +kernel
theorem dL_law_482 : decode cL_law 482 = .ok (.aload_n 3, 1) := by decide +kernel
theorem dL_law_483 : decode cL_law 483 = .ok (.invokestatic 137, 3) := by decide +kernel
theorem dL_law_486 : decode cL_law 486 = .ok (.istore 6, 2) := by decide +kernel
theorem dL_law_488 : decode cL_law 488 = .ok (.aload_n 2, 1) := by decide +kernel
theorem dL_law_489 : decode cL_law 489 = .ok (.aload_n 0, 1) := by decide +kernel
theorem dL_law_490 : decode cL_law 490 = .ok (.iload 5, 2) := by decide +kernel
theorem dL_law_492 : decode cL_law 492 = .ok (.iconst 1, 1) := by decide +kernel
theorem dL_law_493 : decode cL_law 493 = .ok (.iadd, 1) := by decide +kernel
theorem dL_law_494 : decode cL_law 494 = .ok (.iaload, 1) := by decide +kernel
theorem dL_law_495 : decode cL_law 495 = .ok (.invokevirtual 139, 3) := by decide +kernel
theorem dL_law_498 : decode cL_law 498 = .ok (.istore 7, 2) := by decide +kernel
theorem dL_law_500 : decode cL_law 500 = .ok (.aload_n 2, 1) := by decide +kernel
theorem dL_law_501 : decode cL_law 501 = .ok (.invokevirtual 119, 3) := by decide +kernel
theorem dL_law_504 : decode cL_law 504 = .ok (.iload 6, 2) := by decide +kernel
theorem dL_law_506 : decode cL_law 506 = .ok (.if_icmp .eq 5, 3) := by decide +kernel
theorem dL_law_509 : decode cL_law 509 = .ok (.iconst 0, 1) := by decide +kernel
theorem dL_law_510 : decode cL_law 510 = .ok (.ireturn, 1) := by decide +kernel
theorem dL_law_511 : decode cL_law 511 = .ok (.iload 6, 2) := by decide +kernel
theorem dL_law_513 : decode cL_law 513 = .ok (.ifCond .ne 15, 3) := by decide +kernel
theorem dL_law_516 : decode cL_law 516 = .ok (.aload_n 3, 1) := by decide +kernel
theorem dL_law_517 : decode cL_law 517 = .ok (.iconst 0, 1) := by decide +kernel
theorem dL_law_518 : decode cL_law 518 = .ok (.laload, 1) := by decide +kernel
theorem dL_law_519 : decode cL_law 519 = .ok (.iload 7, 2) := by decide +kernel
theorem dL_law_521 : decode cL_law 521 = .ok (.i2l, 1) := by decide +kernel
theorem dL_law_522 : decode cL_law 522 = .ok (.lcmp, 1) := by decide +kernel
theorem dL_law_523 : decode cL_law 523 = .ok (.ifCond .eq 5, 3) := by decide +kernel
theorem dL_law_526 : decode cL_law 526 = .ok (.iconst 0, 1) := by decide +kernel
theorem dL_law_527 : decode cL_law 527 = .ok (.ireturn, 1) := by decide +kernel
theorem dL_law_528 : decode cL_law 528 = .ok (.goto 1405, 3) := by decide +kernel
theorem dL_law_531 : decode cL_law 531 = .ok (.aload_n 1, 1) := by decide +kernel
theorem dL_law_532 : decode cL_law 532 = .ok (.aload_n 0, 1) := by decide +kernel
theorem dL_law_533 : decode cL_law 533 = .ok (.iload 5, 2) := by decide +kernel
theorem dL_law_535 : decode cL_law 535 = .ok (.iconst 1, 1) := by decide +kernel
theorem dL_law_536 : decode cL_law 536 = .ok (.iadd, 1) := by decide +kernel
theorem dL_law_537 : decode cL_law 537 = .ok (.iaload, 1) := by decide +kernel
theorem dL_law_538 : decode cL_law 538 = .ok (.aload_n 0, 1) := by decide +kernel
theorem dL_law_539 : decode cL_law 539 = .ok (.iload 5, 2) := by decide +kernel
theorem dL_law_541 : decode cL_law 541 = .ok (.iconst 2, 1) := by decide +kernel
theorem dL_law_542 : decode cL_law 542 = .ok (.iadd, 1) := by decide +kernel
theorem dL_law_543 : decode cL_law 543 = .ok (.iaload, 1) := by decide +kernel
theorem dL_law_544 : decode cL_law 544 = .ok (.aload_n 0, 1) := by decide +kernel
theorem dL_law_545 : decode cL_law 545 = .ok (.iload 5, 2) := by decide +kernel
theorem dL_law_547 : decode cL_law 547 = .ok (.iconst 3, 1) := by decide +kernel
theorem dL_law_548 : decode cL_law 548 = .ok (.iadd, 1) := by decide +kernel
theorem dL_law_549 : decode cL_law 549 = .ok (.iaload, 1) := by decide +kernel
theorem dL_law_550 : decode cL_law 550 = .ok (.aload_n 3, 1) := by decide +kernel
theorem dL_law_551 : decode cL_law 551 = .ok (.invokestatic 140, 3) := by decide +kernel
theorem dL_law_554 : decode cL_law 554 = .ok (.istore 6, 2) := by decide +kernel
theorem dL_law_556 : decode cL_law 556 = .ok (.aload_n 2, 1) := by decide +kernel
theorem dL_law_557 : decode cL_law 557 = .ok (.aload_n 0, 1) := by decide +kernel
theorem dL_law_558 : decode cL_law 558 = .ok (.iload 5, 2) := by decide +kernel
theorem dL_law_560 : decode cL_law 560 = .ok (.iconst 1, 1) := by decide +kernel
theorem dL_law_561 : decode cL_law 561 = .ok (.iadd, 1) := by decide +kernel
theorem dL_law_562 : decode cL_law 562 = .ok (.iaload, 1) := by decide +kernel
theorem dL_law_563 : decode cL_law 563 = .ok (.aload_n 0, 1) := by decide +kernel
theorem dL_law_564 : decode cL_law 564 = .ok (.iload 5, 2) := by decide +kernel
theorem dL_law_566 : decode cL_law 566 = .ok (.iconst 2, 1) := by decide +kernel
theorem dL_law_567 : decode cL_law 567 = .ok (.iadd, 1) := by decide +kernel
theorem dL_law_568 : decode cL_law 568 = .ok (.iaload, 1) := by decide +kernel
theorem dL_law_569 : decode cL_law 569 = .ok (.aload_n 0, 1) := by decide +kernel
theorem dL_law_570 : decode cL_law 570 = .ok (.iload 5, 2) := by decide +kernel
theorem dL_law_572 : decode cL_law 572 = .ok (.iconst 3, 1) := by decide +kernel
theorem dL_law_573 : decode cL_law 573 = .ok (.iadd, 1) := by decide +kernel
theorem dL_law_574 : decode cL_law 574 = .ok (.iaload, 1) := by decide +kernel
theorem dL_law_575 : decode cL_law 575 = .ok (.invokevirtual 143, 3) := by decide +kernel
theorem dL_law_578 : decode cL_law 578 = .ok (.istore 7, 2) := by decide +kernel
theorem dL_law_580 : decode cL_law 580 = .ok (.aload_n 2, 1) := by decide +kernel
theorem dL_law_581 : decode cL_law 581 = .ok (.invokevirtual 119, 3) := by decide +kernel
theorem dL_law_584 : decode cL_law 584 = .ok (.iload 6, 2) := by decide +kernel
theorem dL_law_586 : decode cL_law 586 = .ok (.if_icmp .eq 5, 3) := by decide +kernel
theorem dL_law_589 : decode cL_law 589 = .ok (.iconst 0, 1) := by decide +kernel
theorem dL_law_590 : decode cL_law 590 = .ok (.ireturn, 1) := by decide +kernel
theorem dL_law_591 : decode cL_law 591 = .ok (.iload 6, 2) := by decide +kernel
theorem dL_law_593 : decode cL_law 593 = .ok (.ifCond .ne 15, 3) := by decide +kernel
theorem dL_law_596 : decode cL_law 596 = .ok (.aload_n 3, 1) := by decide +kernel
theorem dL_law_597 : decode cL_law 597 = .ok (.iconst 0, 1) := by decide +kernel
theorem dL_law_598 : decode cL_law 598 = .ok (.laload, 1) := by decide +kernel
theorem dL_law_599 : decode cL_law 599 = .ok (.iload 7, 2) := by decide +kernel
theorem dL_law_601 : decode cL_law 601 = .ok (.i2l, 1) := by decide +kernel
theorem dL_law_602 : decode cL_law 602 = .ok (.lcmp, 1) := by decide +kernel
theorem dL_law_603 : decode cL_law 603 = .ok (.ifCond .eq 5, 3) := by decide +kernel
theorem dL_law_606 : decode cL_law 606 = .ok (.iconst 0, 1) := by decide +kernel
theorem dL_law_607 : decode cL_law 607 = .ok (.ireturn, 1) := by decide +kernel
theorem dL_law_608 : decode cL_law 608 = .ok (.goto 1325, 3) := by decide +kernel
theorem dL_law_611 : decode cL_law 611 = .ok (.aload_n 1, 1) := by decide +kernel
theorem dL_law_612 : decode cL_law 612 = .ok (.aload_n 0, 1) := by decide +kernel
theorem dL_law_613 : decode cL_law 613 = .ok (.iload 5, 2) := by decide +kernel
theorem dL_law_615 : decode cL_law 615 = .ok (.iconst 1, 1) := by decide +kernel
theorem dL_law_616 : decode cL_law 616 = .ok (.iadd, 1) := by decide +kernel
theorem dL_law_617 : decode cL_law 617 = .ok (.iaload, 1) := by decide +kernel
theorem dL_law_618 : decode cL_law 618 = .ok (.aload_n 0, 1) := by decide +kernel
theorem dL_law_619 : decode cL_law 619 = .ok (.iload 5, 2) := by decide +kernel
theorem dL_law_621 : decode cL_law 621 = .ok (.iconst 2, 1) := by decide +kernel
theorem dL_law_622 : decode cL_law 622 = .ok (.iadd, 1) := by decide +kernel
theorem dL_law_623 : decode cL_law 623 = .ok (.iaload, 1) := by decide +kernel
theorem dL_law_624 : decode cL_law 624 = .ok (.aload_n 0, 1) := by decide +kernel
theorem dL_law_625 : decode cL_law 625 = .ok (.iload 5, 2) := by decide +kernel
theorem dL_law_627 : decode cL_law 627 = .ok (.iconst 3, 1) := by decide +kernel
theorem dL_law_628 : decode cL_law 628 = .ok (.iadd, 1) := by decide +kernel
theorem dL_law_629 : decode cL_law 629 = .ok (.iaload, 1) := by decide +kernel
theorem dL_law_630 : decode cL_law 630 = .ok (.aload_n 0, 1) := by decide +kernel
theorem dL_law_631 : decode cL_law 631 = .ok (.iload 5, 2) := by decide +kernel
theorem dL_law_633 : decode cL_law 633 = .ok (.iconst 4, 1) := by decide +kernel
theorem dL_law_634 : decode cL_law 634 = .ok (.iadd, 1) := by decide +kernel
theorem dL_law_635 : decode cL_law 635 = .ok (.iaload, 1) := by decide +kernel
theorem dL_law_636 : decode cL_law 636 = .ok (.aload_n 3, 1) := by decide +kernel
theorem dL_law_637 : decode cL_law 637 = .ok (.invokestatic 144, 3) := by decide +kernel
theorem dL_law_640 : decode cL_law 640 = .ok (.istore 6, 2) := by decide +kernel
theorem dL_law_642 : decode cL_law 642 = .ok (.aload_n 2, 1) := by decide +kernel
theorem dL_law_643 : decode cL_law 643 = .ok (.aload_n 0, 1) := by decide +kernel
theorem dL_law_644 : decode cL_law 644 = .ok (.iload 5, 2) := by decide +kernel
theorem dL_law_646 : decode cL_law 646 = .ok (.iconst 1, 1) := by decide +kernel
theorem dL_law_647 : decode cL_law 647 = .ok (.iadd, 1) := by decide +kernel
theorem dL_law_648 : decode cL_law 648 = .ok (.iaload, 1) := by decide +kernel
theorem dL_law_649 : decode cL_law 649 = .ok (.aload_n 0, 1) := by decide +kernel
theorem dL_law_650 : decode cL_law 650 = .ok (.iload 5, 2) := by decide +kernel
theorem dL_law_652 : decode cL_law 652 = .ok (.iconst 2, 1) := by decide +kernel
theorem dL_law_653 : decode cL_law 653 = .ok (.iadd, 1) := by decide +kernel
theorem dL_law_654 : decode cL_law 654 = .ok (.iaload, 1) := by decide +kernel
theorem dL_law_655 : decode cL_law 655 = .ok (.aload_n 0, 1) := by decide +kernel
theorem dL_law_656 : decode cL_law 656 = .ok (.iload 5, 2) := by decide +kernel
theorem dL_law_658 : decode cL_law 658 = .ok (.iconst 3, 1) := by decide +kernel
theorem dL_law_659 : decode cL_law 659 = .ok (.iadd, 1) := by decide +kernel
theorem dL_law_660 : decode cL_law 660 = .ok (.iaload, 1) := by decide +kernel
theorem dL_law_661 : decode cL_law 661 = .ok (.aload_n 0, 1) := by decide +kernel
theorem dL_law_662 : decode cL_law 662 = .ok (.iload 5, 2) := by decide +kernel
theorem dL_law_664 : decode cL_law 664 = .ok (.iconst 4, 1) := by decide +kernel
theorem dL_law_665 : decode cL_law 665 = .ok (.iadd, 1) := by decide +kernel
theorem dL_law_666 : decode cL_law 666 = .ok (.iaload, 1) := by decide +kernel
theorem dL_law_667 : decode cL_law 667 = .ok (.invokevirtual 147, 3) := by decide +kernel
theorem dL_law_670 : decode cL_law 670 = .ok (.istore 7, 2) := by decide +kernel
theorem dL_law_672 : decode cL_law 672 = .ok (.aload_n 2, 1) := by decide +kernel
theorem dL_law_673 : decode cL_law 673 = .ok (.invokevirtual 119, 3) := by decide +kernel
theorem dL_law_676 : decode cL_law 676 = .ok (.iload 6, 2) := by decide +kernel
theorem dL_law_678 : decode cL_law 678 = .ok (.if_icmp .eq 5, 3) := by decide +kernel
theorem dL_law_681 : decode cL_law 681 = .ok (.iconst 0, 1) := by decide +kernel
theorem dL_law_682 : decode cL_law 682 = .ok (.ireturn, 1) := by decide +kernel
theorem dL_law_683 : decode cL_law 683 = .ok (.iload 6, 2) := by decide +kernel
theorem dL_law_685 : decode cL_law 685 = .ok (.ifCond .ne 15, 3) := by decide +kernel
theorem dL_law_688 : decode cL_law 688 = .ok (.aload_n 3, 1) := by decide +kernel
theorem dL_law_689 : decode cL_law 689 = .ok (.iconst 0, 1) := by decide +kernel
theorem dL_law_690 : decode cL_law 690 = .ok (.laload, 1) := by decide +kernel
theorem dL_law_691 : decode cL_law 691 = .ok (.iload 7, 2) := by decide +kernel
theorem dL_law_693 : decode cL_law 693 = .ok (.i2l, 1) := by decide +kernel
theorem dL_law_694 : decode cL_law 694 = .ok (.lcmp, 1) := by decide +kernel
theorem dL_law_695 : decode cL_law 695 = .ok (.ifCond .eq 5, 3) := by decide +kernel
theorem dL_law_698 : decode cL_law 698 = .ok (.iconst 0, 1) := by decide +kernel
theorem dL_law_699 : decode cL_law 699 = .ok (.ireturn, 1) := by decide +kernel
theorem dL_law_700 : decode cL_law 700 = .ok (.goto 1233, 3) := by decide +kernel
theorem dL_law_703 : decode cL_law 703 = .ok (.aload_n 1, 1) := by decide +kernel
theorem dL_law_704 : decode cL_law 704 = .ok (.invokevirtual 148, 3) := by decide +kernel
theorem dL_law_707 : decode cL_law 707 = .ok (.aload_n 2, 1) := by decide +kernel
theorem dL_law_708 : decode cL_law 708 = .ok (.invokevirtual 151, 3) := by decide +kernel
theorem dL_law_711 : decode cL_law 711 = .ok (.if_icmp .eq 1222, 3) := by decide +kernel
theorem dL_law_714 : decode cL_law 714 = .ok (.iconst 0, 1) := by decide +kernel
theorem dL_law_715 : decode cL_law 715 = .ok (.ireturn, 1) := by decide +kernel
theorem dL_law_716 : decode cL_law 716 = .ok (.aload_n 1, 1) := by decide +kernel
theorem dL_law_717 : decode cL_law 717 = .ok (.aload_n 0, 1) := by decide +kernel
theorem dL_law_718 : decode cL_law 718 = .ok (.iload 5, 2) := by decide +kernel
theorem dL_law_720 : decode cL_law 720 = .ok (.iconst 1, 1) := by decide +kernel
theorem dL_law_721 : decode cL_law 721 = .ok (.iadd, 1) := by decide +kernel
theorem dL_law_722 : decode cL_law 722 = .ok (.iaload, 1) := by decide +kernel
theorem dL_law_723 : decode cL_law 723 = .ok (.aload_n 0, 1) := by decide +kernel
theorem dL_law_724 : decode cL_law 724 = .ok (.iload 5, 2) := by decide +kernel
theorem dL_law_726 : decode cL_law 726 = .ok (.iconst 2, 1) := by decide +kernel
theorem dL_law_727 : decode cL_law 727 = .ok (.iadd, 1) := by decide +kernel
theorem dL_law_728 : decode cL_law 728 = .ok (.iaload, 1) := by decide +kernel
theorem dL_law_729 : decode cL_law 729 = .ok (.aload_n 3, 1) := by decide +kernel
theorem dL_law_730 : decode cL_law 730 = .ok (.invokestatic 152, 3) := by decide +kernel
theorem dL_law_733 : decode cL_law 733 = .ok (.istore 6, 2) := by decide +kernel
theorem dL_law_735 : decode cL_law 735 = .ok (.aload_n 2, 1) := by decide +kernel
theorem dL_law_736 : decode cL_law 736 = .ok (.aload_n 0, 1) := by decide +kernel
theorem dL_law_737 : decode cL_law 737 = .ok (.iload 5, 2) := by decide +kernel
theorem dL_law_739 : decode cL_law 739 = .ok (.iconst 1, 1) := by decide +kernel
theorem dL_law_740 : decode cL_law 740 = .ok (.iadd, 1) := by decide +kernel
theorem dL_law_741 : decode cL_law 741 = .ok (.iaload, 1) := by decide +kernel
theorem dL_law_742 : decode cL_law 742 = .ok (.aload_n 0, 1) := by decide +kernel
theorem dL_law_743 : decode cL_law 743 = .ok (.iload 5, 2) := by decide +kernel
theorem dL_law_745 : decode cL_law 745 = .ok (.iconst 2, 1) := by decide +kernel
theorem dL_law_746 : decode cL_law 746 = .ok (.iadd, 1) := by decide +kernel
theorem dL_law_747 : decode cL_law 747 = .ok (.iaload, 1) := by decide +kernel
theorem dL_law_748 : decode cL_law 748 = .ok (.invokevirtual 154, 3) := by decide +kernel
theorem dL_law_751 : decode cL_law 751 = .ok (.istore 7, 2) := by decide +kernel
theorem dL_law_753 : decode cL_law 753 = .ok (.aload_n 2, 1) := by decide +kernel
theorem dL_law_754 : decode cL_law 754 = .ok (.invokevirtual 119, 3) := by decide +kernel
theorem dL_law_757 : decode cL_law 757 = .ok (.iload 6, 2) := by decide +kernel
theorem dL_law_759 : decode cL_law 759 = .ok (.if_icmp .eq 5, 3) := by decide +kernel
theorem dL_law_762 : decode cL_law 762 = .ok (.iconst 0, 1) := by decide +kernel
theorem dL_law_763 : decode cL_law 763 = .ok (.ireturn, 1) := by decide +kernel
theorem dL_law_764 : decode cL_law 764 = .ok (.iload 6, 2) := by decide +kernel
theorem dL_law_766 : decode cL_law 766 = .ok (.ifCond .ne 15, 3) := by decide +kernel
theorem dL_law_769 : decode cL_law 769 = .ok (.aload_n 3, 1) := by decide +kernel
theorem dL_law_770 : decode cL_law 770 = .ok (.iconst 0, 1) := by decide +kernel
theorem dL_law_771 : decode cL_law 771 = .ok (.laload, 1) := by decide +kernel
theorem dL_law_772 : decode cL_law 772 = .ok (.iload 7, 2) := by decide +kernel
theorem dL_law_774 : decode cL_law 774 = .ok (.i2l, 1) := by decide +kernel
theorem dL_law_775 : decode cL_law 775 = .ok (.lcmp, 1) := by decide +kernel
theorem dL_law_776 : decode cL_law 776 = .ok (.ifCond .eq 5, 3) := by decide +kernel
theorem dL_law_779 : decode cL_law 779 = .ok (.iconst 0, 1) := by decide +kernel
theorem dL_law_780 : decode cL_law 780 = .ok (.ireturn, 1) := by decide +kernel
theorem dL_law_781 : decode cL_law 781 = .ok (.goto 1152, 3) := by decide +kernel
theorem dL_law_784 : decode cL_law 784 = .ok (.aload_n 1, 1) := by decide +kernel
theorem dL_law_785 : decode cL_law 785 = .ok (.aload_n 0, 1) := by decide +kernel
theorem dL_law_786 : decode cL_law 786 = .ok (.iload 5, 2) := by decide +kernel
theorem dL_law_788 : decode cL_law 788 = .ok (.iconst 1, 1) := by decide +kernel
theorem dL_law_789 : decode cL_law 789 = .ok (.iadd, 1) := by decide +kernel
theorem dL_law_790 : decode cL_law 790 = .ok (.iaload, 1) := by decide +kernel
theorem dL_law_791 : decode cL_law 791 = .ok (.aload_n 0, 1) := by decide +kernel
theorem dL_law_792 : decode cL_law 792 = .ok (.iload 5, 2) := by decide +kernel
theorem dL_law_794 : decode cL_law 794 = .ok (.iconst 2, 1) := by decide +kernel
theorem dL_law_795 : decode cL_law 795 = .ok (.iadd, 1) := by decide +kernel
theorem dL_law_796 : decode cL_law 796 = .ok (.iaload, 1) := by decide +kernel
theorem dL_law_797 : decode cL_law 797 = .ok (.aload_n 3, 1) := by decide +kernel
theorem dL_law_798 : decode cL_law 798 = .ok (.invokestatic 155, 3) := by decide +kernel
theorem dL_law_801 : decode cL_law 801 = .ok (.istore 6, 2) := by decide +kernel
theorem dL_law_803 : decode cL_law 803 = .ok (.aload_n 2, 1) := by decide +kernel
theorem dL_law_804 : decode cL_law 804 = .ok (.aload_n 0, 1) := by decide +kernel
theorem dL_law_805 : decode cL_law 805 = .ok (.iload 5, 2) := by decide +kernel
theorem dL_law_807 : decode cL_law 807 = .ok (.iconst 1, 1) := by decide +kernel
theorem dL_law_808 : decode cL_law 808 = .ok (.iadd, 1) := by decide +kernel
theorem dL_law_809 : decode cL_law 809 = .ok (.iaload, 1) := by decide +kernel
theorem dL_law_810 : decode cL_law 810 = .ok (.aload_n 0, 1) := by decide +kernel
theorem dL_law_811 : decode cL_law 811 = .ok (.iload 5, 2) := by decide +kernel
theorem dL_law_813 : decode cL_law 813 = .ok (.iconst 2, 1) := by decide +kernel
theorem dL_law_814 : decode cL_law 814 = .ok (.iadd, 1) := by decide +kernel
theorem dL_law_815 : decode cL_law 815 = .ok (.iaload, 1) := by decide +kernel
theorem dL_law_816 : decode cL_law 816 = .ok (.invokevirtual 157, 3) := by decide +kernel
theorem dL_law_819 : decode cL_law 819 = .ok (.istore 7, 2) := by decide +kernel
theorem dL_law_821 : decode cL_law 821 = .ok (.aload_n 2, 1) := by decide +kernel
theorem dL_law_822 : decode cL_law 822 = .ok (.invokevirtual 119, 3) := by decide +kernel
theorem dL_law_825 : decode cL_law 825 = .ok (.iload 6, 2) := by decide +kernel
theorem dL_law_827 : decode cL_law 827 = .ok (.if_icmp .eq 5, 3) := by decide +kernel
theorem dL_law_830 : decode cL_law 830 = .ok (.iconst 0, 1) := by decide +kernel
theorem dL_law_831 : decode cL_law 831 = .ok (.ireturn, 1) := by decide +kernel
theorem dL_law_832 : decode cL_law 832 = .ok (.iload 6, 2) := by decide +kernel
theorem dL_law_834 : decode cL_law 834 = .ok (.ifCond .ne 15, 3) := by decide +kernel
theorem dL_law_837 : decode cL_law 837 = .ok (.aload_n 3, 1) := by decide +kernel
theorem dL_law_838 : decode cL_law 838 = .ok (.iconst 0, 1) := by decide +kernel
theorem dL_law_839 : decode cL_law 839 = .ok (.laload, 1) := by decide +kernel
theorem dL_law_840 : decode cL_law 840 = .ok (.iload 7, 2) := by decide +kernel
theorem dL_law_842 : decode cL_law 842 = .ok (.i2l, 1) := by decide +kernel
theorem dL_law_843 : decode cL_law 843 = .ok (.lcmp, 1) := by decide +kernel
theorem dL_law_844 : decode cL_law 844 = .ok (.ifCond .eq 5, 3) := by decide +kernel
theorem dL_law_847 : decode cL_law 847 = .ok (.iconst 0, 1) := by decide +kernel
theorem dL_law_848 : decode cL_law 848 = .ok (.ireturn, 1) := by decide +kernel
theorem dL_law_849 : decode cL_law 849 = .ok (.goto 1084, 3) := by decide +kernel
theorem dL_law_852 : decode cL_law 852 = .ok (.aload_n 1, 1) := by decide +kernel
theorem dL_law_853 : decode cL_law 853 = .ok (.aload_n 0, 1) := by decide +kernel
theorem dL_law_854 : decode cL_law 854 = .ok (.iload 5, 2) := by decide +kernel
theorem dL_law_856 : decode cL_law 856 = .ok (.iconst 1, 1) := by decide +kernel
theorem dL_law_857 : decode cL_law 857 = .ok (.iadd, 1) := by decide +kernel
theorem dL_law_858 : decode cL_law 858 = .ok (.iaload, 1) := by decide +kernel
theorem dL_law_859 : decode cL_law 859 = .ok (.aload_n 0, 1) := by decide +kernel
theorem dL_law_860 : decode cL_law 860 = .ok (.iload 5, 2) := by decide +kernel
theorem dL_law_862 : decode cL_law 862 = .ok (.iconst 2, 1) := by decide +kernel
theorem dL_law_863 : decode cL_law 863 = .ok (.iadd, 1) := by decide +kernel
theorem dL_law_864 : decode cL_law 864 = .ok (.iaload, 1) := by decide +kernel
theorem dL_law_865 : decode cL_law 865 = .ok (.aload_n 0, 1) := by decide +kernel
theorem dL_law_866 : decode cL_law 866 = .ok (.iload 5, 2) := by decide +kernel
theorem dL_law_868 : decode cL_law 868 = .ok (.iconst 3, 1) := by decide +kernel
theorem dL_law_869 : decode cL_law 869 = .ok (.iadd, 1) := by decide +kernel
theorem dL_law_870 : decode cL_law 870 = .ok (.iaload, 1) := by decide +kernel
theorem dL_law_871 : decode cL_law 871 = .ok (.aload_n 3, 1) := by decide +kernel
theorem dL_law_872 : decode cL_law 872 = .ok (.invokestatic 158, 3) := by decide +kernel
theorem dL_law_875 : decode cL_law 875 = .ok (.istore 6, 2) := by decide +kernel
theorem dL_law_877 : decode cL_law 877 = .ok (.aload_n 2, 1) := by decide +kernel
theorem dL_law_878 : decode cL_law 878 = .ok (.aload_n 0, 1) := by decide +kernel
theorem dL_law_879 : decode cL_law 879 = .ok (.iload 5, 2) := by decide +kernel
theorem dL_law_881 : decode cL_law 881 = .ok (.iconst 1, 1) := by decide +kernel
theorem dL_law_882 : decode cL_law 882 = .ok (.iadd, 1) := by decide +kernel
theorem dL_law_883 : decode cL_law 883 = .ok (.iaload, 1) := by decide +kernel
theorem dL_law_884 : decode cL_law 884 = .ok (.aload_n 0, 1) := by decide +kernel
theorem dL_law_885 : decode cL_law 885 = .ok (.iload 5, 2) := by decide +kernel
theorem dL_law_887 : decode cL_law 887 = .ok (.iconst 2, 1) := by decide +kernel
theorem dL_law_888 : decode cL_law 888 = .ok (.iadd, 1) := by decide +kernel
theorem dL_law_889 : decode cL_law 889 = .ok (.iaload, 1) := by decide +kernel
theorem dL_law_890 : decode cL_law 890 = .ok (.aload_n 0, 1) := by decide +kernel
theorem dL_law_891 : decode cL_law 891 = .ok (.iload 5, 2) := by decide +kernel
theorem dL_law_893 : decode cL_law 893 = .ok (.iconst 3, 1) := by decide +kernel
theorem dL_law_894 : decode cL_law 894 = .ok (.iadd, 1) := by decide +kernel
theorem dL_law_895 : decode cL_law 895 = .ok (.iaload, 1) := by decide +kernel
theorem dL_law_896 : decode cL_law 896 = .ok (.invokevirtual 160, 3) := by decide +kernel
theorem dL_law_899 : decode cL_law 899 = .ok (.istore 7, 2) := by decide +kernel
theorem dL_law_901 : decode cL_law 901 = .ok (.aload_n 2, 1) := by decide +kernel
theorem dL_law_902 : decode cL_law 902 = .ok (.invokevirtual 119, 3) := by decide +kernel
theorem dL_law_905 : decode cL_law 905 = .ok (.iload 6, 2) := by decide +kernel
theorem dL_law_907 : decode cL_law 907 = .ok (.if_icmp .eq 5, 3) := by decide +kernel
theorem dL_law_910 : decode cL_law 910 = .ok (.iconst 0, 1) := by decide +kernel
theorem dL_law_911 : decode cL_law 911 = .ok (.ireturn, 1) := by decide +kernel
theorem dL_law_912 : decode cL_law 912 = .ok (.iload 6, 2) := by decide +kernel
theorem dL_law_914 : decode cL_law 914 = .ok (.ifCond .ne 15, 3) := by decide +kernel
theorem dL_law_917 : decode cL_law 917 = .ok (.aload_n 3, 1) := by decide +kernel
theorem dL_law_918 : decode cL_law 918 = .ok (.iconst 0, 1) := by decide +kernel
theorem dL_law_919 : decode cL_law 919 = .ok (.laload, 1) := by decide +kernel
theorem dL_law_920 : decode cL_law 920 = .ok (.iload 7, 2) := by decide +kernel
theorem dL_law_922 : decode cL_law 922 = .ok (.i2l, 1) := by decide +kernel
theorem dL_law_923 : decode cL_law 923 = .ok (.lcmp, 1) := by decide +kernel
theorem dL_law_924 : decode cL_law 924 = .ok (.ifCond .eq 5, 3) := by decide +kernel
theorem dL_law_927 : decode cL_law 927 = .ok (.iconst 0, 1) := by decide +kernel
theorem dL_law_928 : decode cL_law 928 = .ok (.ireturn, 1) := by decide +kernel
theorem dL_law_929 : decode cL_law 929 = .ok (.goto 1004, 3) := by decide +kernel
theorem dL_law_932 : decode cL_law 932 = .ok (.aload_n 1, 1) := by decide +kernel
theorem dL_law_933 : decode cL_law 933 = .ok (.aload_n 0, 1) := by decide +kernel
theorem dL_law_934 : decode cL_law 934 = .ok (.iload 5, 2) := by decide +kernel
theorem dL_law_936 : decode cL_law 936 = .ok (.iconst 1, 1) := by decide +kernel
theorem dL_law_937 : decode cL_law 937 = .ok (.iadd, 1) := by decide +kernel
theorem dL_law_938 : decode cL_law 938 = .ok (.iaload, 1) := by decide +kernel
theorem dL_law_939 : decode cL_law 939 = .ok (.aload_n 3, 1) := by decide +kernel
theorem dL_law_940 : decode cL_law 940 = .ok (.invokestatic 161, 3) := by decide +kernel
theorem dL_law_943 : decode cL_law 943 = .ok (.istore 6, 2) := by decide +kernel
theorem dL_law_945 : decode cL_law 945 = .ok (.aload_n 2, 1) := by decide +kernel
theorem dL_law_946 : decode cL_law 946 = .ok (.aload_n 0, 1) := by decide +kernel
theorem dL_law_947 : decode cL_law 947 = .ok (.iload 5, 2) := by decide +kernel
theorem dL_law_949 : decode cL_law 949 = .ok (.iconst 1, 1) := by decide +kernel
theorem dL_law_950 : decode cL_law 950 = .ok (.iadd, 1) := by decide +kernel
theorem dL_law_951 : decode cL_law 951 = .ok (.iaload, 1) := by decide +kernel
theorem dL_law_952 : decode cL_law 952 = .ok (.invokevirtual 163, 3) := by decide +kernel
theorem dL_law_955 : decode cL_law 955 = .ok (.istore 7, 2) := by decide +kernel
theorem dL_law_957 : decode cL_law 957 = .ok (.aload_n 2, 1) := by decide +kernel
theorem dL_law_958 : decode cL_law 958 = .ok (.invokevirtual 119, 3) := by decide +kernel
theorem dL_law_961 : decode cL_law 961 = .ok (.iload 6, 2) := by decide +kernel
theorem dL_law_963 : decode cL_law 963 = .ok (.if_icmp .eq 5, 3) := by decide +kernel
theorem dL_law_966 : decode cL_law 966 = .ok (.iconst 0, 1) := by decide +kernel
theorem dL_law_967 : decode cL_law 967 = .ok (.ireturn, 1) := by decide +kernel
theorem dL_law_968 : decode cL_law 968 = .ok (.iload 6, 2) := by decide +kernel
theorem dL_law_970 : decode cL_law 970 = .ok (.ifCond .ne 15, 3) := by decide +kernel
theorem dL_law_973 : decode cL_law 973 = .ok (.aload_n 3, 1) := by decide +kernel
theorem dL_law_974 : decode cL_law 974 = .ok (.iconst 0, 1) := by decide +kernel
theorem dL_law_975 : decode cL_law 975 = .ok (.laload, 1) := by decide +kernel
theorem dL_law_976 : decode cL_law 976 = .ok (.iload 7, 2) := by decide +kernel
theorem dL_law_978 : decode cL_law 978 = .ok (.i2l, 1) := by decide +kernel
theorem dL_law_979 : decode cL_law 979 = .ok (.lcmp, 1) := by decide +kernel
theorem dL_law_980 : decode cL_law 980 = .ok (.ifCond .eq 5, 3) := by decide +kernel
theorem dL_law_983 : decode cL_law 983 = .ok (.iconst 0, 1) := by decide +kernel
theorem dL_law_984 : decode cL_law 984 = .ok (.ireturn, 1) := by decide +kernel
theorem dL_law_985 : decode cL_law 985 = .ok (.goto 948, 3) := by decide +kernel
theorem dL_law_988 : decode cL_law 988 = .ok (.aload_n 1, 1) := by decide +kernel
theorem dL_law_989 : decode cL_law 989 = .ok (.aload_n 0, 1) := by decide +kernel
theorem dL_law_990 : decode cL_law 990 = .ok (.iload 5, 2) := by decide +kernel
theorem dL_law_992 : decode cL_law 992 = .ok (.iconst 1, 1) := by decide +kernel
theorem dL_law_993 : decode cL_law 993 = .ok (.iadd, 1) := by decide +kernel
theorem dL_law_994 : decode cL_law 994 = .ok (.iaload, 1) := by decide +kernel
theorem dL_law_995 : decode cL_law 995 = .ok (.aload_n 0, 1) := by decide +kernel
theorem dL_law_996 : decode cL_law 996 = .ok (.iload 5, 2) := by decide +kernel
theorem dL_law_998 : decode cL_law 998 = .ok (.iconst 2, 1) := by decide +kernel
theorem dL_law_999 : decode cL_law 999 = .ok (.iadd, 1) := by decide +kernel
theorem dL_law_1000 : decode cL_law 1000 = .ok (.iaload, 1) := by decide +kernel
theorem dL_law_1001 : decode cL_law 1001 = .ok (.aload_n 0, 1) := by decide +kernel
theorem dL_law_1002 : decode cL_law 1002 = .ok (.iload 5, 2) := by decide +kernel
theorem dL_law_1004 : decode cL_law 1004 = .ok (.iconst 3, 1) := by decide +kernel
theorem dL_law_1005 : decode cL_law 1005 = .ok (.iadd, 1) := by decide +kernel
theorem dL_law_1006 : decode cL_law 1006 = .ok (.iaload, 1) := by decide +kernel
theorem dL_law_1007 : decode cL_law 1007 = .ok (.aload_n 3, 1) := by decide +kernel
theorem dL_law_1008 : decode cL_law 1008 = .ok (.invokestatic 164, 3) := by decide +kernel
theorem dL_law_1011 : decode cL_law 1011 = .ok (.istore 6, 2) := by decide +kernel
theorem dL_law_1013 : decode cL_law 1013 = .ok (.aload_n 2, 1) := by decide +kernel
theorem dL_law_1014 : decode cL_law 1014 = .ok (.aload_n 0, 1) := by decide +kernel
theorem dL_law_1015 : decode cL_law 1015 = .ok (.iload 5, 2) := by decide +kernel
theorem dL_law_1017 : decode cL_law 1017 = .ok (.iconst 1, 1) := by decide +kernel
theorem dL_law_1018 : decode cL_law 1018 = .ok (.iadd, 1) := by decide +kernel
theorem dL_law_1019 : decode cL_law 1019 = .ok (.iaload, 1) := by decide +kernel
theorem dL_law_1020 : decode cL_law 1020 = .ok (.aload_n 0, 1) := by decide +kernel
theorem dL_law_1021 : decode cL_law 1021 = .ok (.iload 5, 2) := by decide +kernel
theorem dL_law_1023 : decode cL_law 1023 = .ok (.iconst 2, 1) := by decide +kernel
theorem dL_law_1024 : decode cL_law 1024 = .ok (.iadd, 1) := by decide +kernel
theorem dL_law_1025 : decode cL_law 1025 = .ok (.iaload, 1) := by decide +kernel
theorem dL_law_1026 : decode cL_law 1026 = .ok (.aload_n 0, 1) := by decide +kernel
theorem dL_law_1027 : decode cL_law 1027 = .ok (.iload 5, 2) := by decide +kernel
theorem dL_law_1029 : decode cL_law 1029 = .ok (.iconst 3, 1) := by decide +kernel
theorem dL_law_1030 : decode cL_law 1030 = .ok (.iadd, 1) := by decide +kernel
theorem dL_law_1031 : decode cL_law 1031 = .ok (.iaload, 1) := by decide +kernel
theorem dL_law_1032 : decode cL_law 1032 = .ok (.invokevirtual 166, 3) := by decide +kernel
theorem dL_law_1035 : decode cL_law 1035 = .ok (.istore 7, 2) := by decide +kernel
theorem dL_law_1037 : decode cL_law 1037 = .ok (.aload_n 2, 1) := by decide +kernel
theorem dL_law_1038 : decode cL_law 1038 = .ok (.invokevirtual 119, 3) := by decide +kernel
theorem dL_law_1041 : decode cL_law 1041 = .ok (.iload 6, 2) := by decide +kernel
theorem dL_law_1043 : decode cL_law 1043 = .ok (.if_icmp .eq 5, 3) := by decide +kernel
theorem dL_law_1046 : decode cL_law 1046 = .ok (.iconst 0, 1) := by decide +kernel
theorem dL_law_1047 : decode cL_law 1047 = .ok (.ireturn, 1) := by decide +kernel
theorem dL_law_1048 : decode cL_law 1048 = .ok (.iload 6, 2) := by decide +kernel
theorem dL_law_1050 : decode cL_law 1050 = .ok (.ifCond .ne 22, 3) := by decide +kernel
theorem dL_law_1053 : decode cL_law 1053 = .ok (.aload_n 3, 1) := by decide +kernel
theorem dL_law_1054 : decode cL_law 1054 = .ok (.iconst 0, 1) := by decide +kernel
theorem dL_law_1055 : decode cL_law 1055 = .ok (.laload, 1) := by decide +kernel
theorem dL_law_1056 : decode cL_law 1056 = .ok (.iload 7, 2) := by decide +kernel
theorem dL_law_1058 : decode cL_law 1058 = .ok (.ifCond .eq 7, 3) := by decide +kernel
theorem dL_law_1061 : decode cL_law 1061 = .ok (.lconst 1, 1) := by decide +kernel
theorem dL_law_1062 : decode cL_law 1062 = .ok (.goto 4, 3) := by decide +kernel
theorem dL_law_1065 : decode cL_law 1065 = .ok (.lconst 0, 1) := by decide +kernel
theorem dL_law_1066 : decode cL_law 1066 = .ok (.lcmp, 1) := by decide +kernel
theorem dL_law_1067 : decode cL_law 1067 = .ok (.ifCond .eq 5, 3) := by decide +kernel
theorem dL_law_1070 : decode cL_law 1070 = .ok (.iconst 0, 1) := by decide +kernel
theorem dL_law_1071 : decode cL_law 1071 = .ok (.ireturn, 1) := by decide +kernel
theorem dL_law_1072 : decode cL_law 1072 = .ok (.goto 861, 3) := by decide +kernel
theorem dL_law_1075 : decode cL_law 1075 = .ok (.aload_n 1, 1) := by decide +kernel
theorem dL_law_1076 : decode cL_law 1076 = .ok (.aload_n 0, 1) := by decide +kernel
theorem dL_law_1077 : decode cL_law 1077 = .ok (.iload 5, 2) := by decide +kernel
theorem dL_law_1079 : decode cL_law 1079 = .ok (.iconst 1, 1) := by decide +kernel
theorem dL_law_1080 : decode cL_law 1080 = .ok (.iadd, 1) := by decide +kernel
theorem dL_law_1081 : decode cL_law 1081 = .ok (.iaload, 1) := by decide +kernel
theorem dL_law_1082 : decode cL_law 1082 = .ok (.aload_n 3, 1) := by decide +kernel
theorem dL_law_1083 : decode cL_law 1083 = .ok (.invokestatic 167, 3) := by decide +kernel
theorem dL_law_1086 : decode cL_law 1086 = .ok (.istore 6, 2) := by decide +kernel
theorem dL_law_1088 : decode cL_law 1088 = .ok (.aload_n 2, 1) := by decide +kernel
theorem dL_law_1089 : decode cL_law 1089 = .ok (.aload_n 0, 1) := by decide +kernel
theorem dL_law_1090 : decode cL_law 1090 = .ok (.iload 5, 2) := by decide +kernel
theorem dL_law_1092 : decode cL_law 1092 = .ok (.iconst 1, 1) := by decide +kernel
theorem dL_law_1093 : decode cL_law 1093 = .ok (.iadd, 1) := by decide +kernel
theorem dL_law_1094 : decode cL_law 1094 = .ok (.iaload, 1) := by decide +kernel
theorem dL_law_1095 : decode cL_law 1095 = .ok (.invokevirtual 169, 3) := by decide +kernel
theorem dL_law_1098 : decode cL_law 1098 = .ok (.istore 7, 2) := by decide +kernel
theorem dL_law_1100 : decode cL_law 1100 = .ok (.aload_n 2, 1) := by decide +kernel
theorem dL_law_1101 : decode cL_law 1101 = .ok (.invokevirtual 119, 3) := by decide +kernel
theorem dL_law_1104 : decode cL_law 1104 = .ok (.iload 6, 2) := by decide +kernel
theorem dL_law_1106 : decode cL_law 1106 = .ok (.if_icmp .eq 5, 3) := by decide +kernel
theorem dL_law_1109 : decode cL_law 1109 = .ok (.iconst 0, 1) := by decide +kernel
theorem dL_law_1110 : decode cL_law 1110 = .ok (.ireturn, 1) := by decide +kernel
theorem dL_law_1111 : decode cL_law 1111 = .ok (.iload 6, 2) := by decide +kernel
theorem dL_law_1113 : decode cL_law 1113 = .ok (.ifCond .ne 15, 3) := by decide +kernel
theorem dL_law_1116 : decode cL_law 1116 = .ok (.aload_n 3, 1) := by decide +kernel
theorem dL_law_1117 : decode cL_law 1117 = .ok (.iconst 0, 1) := by decide +kernel
theorem dL_law_1118 : decode cL_law 1118 = .ok (.laload, 1) := by decide +kernel
theorem dL_law_1119 : decode cL_law 1119 = .ok (.iload 7, 2) := by decide +kernel
theorem dL_law_1121 : decode cL_law 1121 = .ok (.i2l, 1) := by decide +kernel
theorem dL_law_1122 : decode cL_law 1122 = .ok (.lcmp, 1) := by decide +kernel
theorem dL_law_1123 : decode cL_law 1123 = .ok (.ifCond .eq 5, 3) := by decide +kernel
theorem dL_law_1126 : decode cL_law 1126 = .ok (.iconst 0, 1) := by decide +kernel
theorem dL_law_1127 : decode cL_law 1127 = .ok (.ireturn, 1) := by decide +kernel
theorem dL_law_1128 : decode cL_law 1128 = .ok (.goto 805, 3) := by decide +kernel
theorem dL_law_1131 : decode cL_law 1131 = .ok (.aload_n 1, 1) := by decide +kernel
theorem dL_law_1132 : decode cL_law 1132 = .ok (.invokevirtual 170, 3) := by decide +kernel
theorem dL_law_1135 : decode cL_law 1135 = .ok (.aload_n 2, 1) := by decide +kernel
theorem dL_law_1136 : decode cL_law 1136 = .ok (.invokevirtual 174, 3) := by decide +kernel
theorem dL_law_1139 : decode cL_law 1139 = .ok (.if_icmp .eq 794, 3) := by decide +kernel
theorem dL_law_1142 : decode cL_law 1142 = .ok (.iconst 0, 1) := by decide +kernel
theorem dL_law_1143 : decode cL_law 1143 = .ok (.ireturn, 1) := by decide +kernel
theorem dL_law_1144 : decode cL_law 1144 = .ok (.aload_n 1, 1) := by decide +kernel
theorem dL_law_1145 : decode cL_law 1145 = .ok (.aload_n 3, 1) := by decide +kernel
theorem dL_law_1146 : decode cL_law 1146 = .ok (.invokestatic 175, 3) := by decide +kernel
theorem dL_law_1149 : decode cL_law 1149 = .ok (.istore 6, 2) := by decide +kernel
theorem dL_law_1151 : decode cL_law 1151 = .ok (.aload_n 2, 1) := by decide +kernel
theorem dL_law_1152 : decode cL_law 1152 = .ok (.invokevirtual 178, 3) := by decide +kernel
theorem dL_law_1155 : decode cL_law 1155 = .ok (.istore 7, 2) := by decide +kernel
theorem dL_law_1157 : decode cL_law 1157 = .ok (.aload_n 2, 1) := by decide +kernel
theorem dL_law_1158 : decode cL_law 1158 = .ok (.invokevirtual 119, 3) := by decide +kernel
theorem dL_law_1161 : decode cL_law 1161 = .ok (.iload 6, 2) := by decide +kernel
theorem dL_law_1163 : decode cL_law 1163 = .ok (.if_icmp .eq 5, 3) := by decide +kernel
theorem dL_law_1166 : decode cL_law 1166 = .ok (.iconst 0, 1) := by decide +kernel
theorem dL_law_1167 : decode cL_law 1167 = .ok (.ireturn, 1) := by decide +kernel
theorem dL_law_1168 : decode cL_law 1168 = .ok (.iload 6, 2) := by decide +kernel
theorem dL_law_1170 : decode cL_law 1170 = .ok (.ifCond .ne 15, 3) := by decide +kernel
theorem dL_law_1173 : decode cL_law 1173 = .ok (.aload_n 3, 1) := by decide +kernel
theorem dL_law_1174 : decode cL_law 1174 = .ok (.iconst 0, 1) := by decide +kernel
theorem dL_law_1175 : decode cL_law 1175 = .ok (.laload, 1) := by decide +kernel
theorem dL_law_1176 : decode cL_law 1176 = .ok (.iload 7, 2) := by decide +kernel
theorem dL_law_1178 : decode cL_law 1178 = .ok (.i2l, 1) := by decide +kernel
theorem dL_law_1179 : decode cL_law 1179 = .ok (.lcmp, 1) := by decide +kernel
theorem dL_law_1180 : decode cL_law 1180 = .ok (.ifCond .eq 5, 3) := by decide +kernel
theorem dL_law_1183 : decode cL_law 1183 = .ok (.iconst 0, 1) := by decide +kernel
theorem dL_law_1184 : decode cL_law 1184 = .ok (.ireturn, 1) := by decide +kernel
theorem dL_law_1185 : decode cL_law 1185 = .ok (.goto 748, 3) := by decide +kernel
theorem dL_law_1188 : decode cL_law 1188 = .ok (.aload_n 1, 1) := by decide +kernel
theorem dL_law_1189 : decode cL_law 1189 = .ok (.aload_n 3, 1) := by decide +kernel
theorem dL_law_1190 : decode cL_law 1190 = .ok (.invokestatic 179, 3) := by decide +kernel
theorem dL_law_1193 : decode cL_law 1193 = .ok (.istore 6, 2) := by decide +kernel
theorem dL_law_1195 : decode cL_law 1195 = .ok (.aload_n 2, 1) := by decide +kernel
theorem dL_law_1196 : decode cL_law 1196 = .ok (.invokevirtual 181, 3) := by decide +kernel
theorem dL_law_1199 : decode cL_law 1199 = .ok (.istore 7, 2) := by decide +kernel
theorem dL_law_1201 : decode cL_law 1201 = .ok (.aload_n 2, 1) := by decide +kernel
theorem dL_law_1202 : decode cL_law 1202 = .ok (.invokevirtual 119, 3) := by decide +kernel
theorem dL_law_1205 : decode cL_law 1205 = .ok (.iload 6, 2) := by decide +kernel
theorem dL_law_1207 : decode cL_law 1207 = .ok (.if_icmp .eq 5, 3) := by decide +kernel
theorem dL_law_1210 : decode cL_law 1210 = .ok (.iconst 0, 1) := by decide +kernel
theorem dL_law_1211 : decode cL_law 1211 = .ok (.ireturn, 1) := by decide +kernel
theorem dL_law_1212 : decode cL_law 1212 = .ok (.iload 6, 2) := by decide +kernel
theorem dL_law_1214 : decode cL_law 1214 = .ok (.ifCond .ne 15, 3) := by decide +kernel
theorem dL_law_1217 : decode cL_law 1217 = .ok (.aload_n 3, 1) := by decide +kernel
theorem dL_law_1218 : decode cL_law 1218 = .ok (.iconst 0, 1) := by decide +kernel
theorem dL_law_1219 : decode cL_law 1219 = .ok (.laload, 1) := by decide +kernel
theorem dL_law_1220 : decode cL_law 1220 = .ok (.iload 7, 2) := by decide +kernel
theorem dL_law_1222 : decode cL_law 1222 = .ok (.i2l, 1) := by decide +kernel
theorem dL_law_1223 : decode cL_law 1223 = .ok (.lcmp, 1) := by decide +kernel
theorem dL_law_1224 : decode cL_law 1224 = .ok (.ifCond .eq 5, 3) := by decide +kernel
theorem dL_law_1227 : decode cL_law 1227 = .ok (.iconst 0, 1) := by decide +kernel
theorem dL_law_1228 : decode cL_law 1228 = .ok (.ireturn, 1) := by decide +kernel
theorem dL_law_1229 : decode cL_law 1229 = .ok (.goto 704, 3) := by decide +kernel
theorem dL_law_1232 : decode cL_law 1232 = .ok (.aload_n 1, 1) := by decide +kernel
theorem dL_law_1233 : decode cL_law 1233 = .ok (.aload_n 0, 1) := by decide +kernel
theorem dL_law_1234 : decode cL_law 1234 = .ok (.iload 5, 2) := by decide +kernel
theorem dL_law_1236 : decode cL_law 1236 = .ok (.iconst 1, 1) := by decide +kernel
theorem dL_law_1237 : decode cL_law 1237 = .ok (.iadd, 1) := by decide +kernel
theorem dL_law_1238 : decode cL_law 1238 = .ok (.iaload, 1) := by decide +kernel
theorem dL_law_1239 : decode cL_law 1239 = .ok (.aload_n 3, 1) := by decide +kernel
theorem dL_law_1240 : decode cL_law 1240 = .ok (.invokestatic 182, 3) := by decide +kernel
theorem dL_law_1243 : decode cL_law 1243 = .ok (.istore 6, 2) := by decide +kernel
theorem dL_law_1245 : decode cL_law 1245 = .ok (.aload_n 2, 1) := by decide +kernel
theorem dL_law_1246 : decode cL_law 1246 = .ok (.aload_n 0, 1) := by decide +kernel
theorem dL_law_1247 : decode cL_law 1247 = .ok (.iload 5, 2) := by decide +kernel
theorem dL_law_1249 : decode cL_law 1249 = .ok (.iconst 1, 1) := by decide +kernel
theorem dL_law_1250 : decode cL_law 1250 = .ok (.iadd, 1) := by decide +kernel
theorem dL_law_1251 : decode cL_law 1251 = .ok (.iaload, 1) := by decide +kernel
theorem dL_law_1252 : decode cL_law 1252 = .ok (.invokevirtual 184, 3) := by decide +kernel
theorem dL_law_1255 : decode cL_law 1255 = .ok (.istore 7, 2) := by decide +kernel
theorem dL_law_1257 : decode cL_law 1257 = .ok (.aload_n 2, 1) := by decide +kernel
theorem dL_law_1258 : decode cL_law 1258 = .ok (.invokevirtual 119, 3) := by decide +kernel
theorem dL_law_1261 : decode cL_law 1261 = .ok (.iload 6, 2) := by decide +kernel
theorem dL_law_1263 : decode cL_law 1263 = .ok (.if_icmp .eq 5, 3) := by decide +kernel
theorem dL_law_1266 : decode cL_law 1266 = .ok (.iconst 0, 1) := by decide +kernel
theorem dL_law_1267 : decode cL_law 1267 = .ok (.ireturn, 1) := by decide +kernel
theorem dL_law_1268 : decode cL_law 1268 = .ok (.iload 6, 2) := by decide +kernel
theorem dL_law_1270 : decode cL_law 1270 = .ok (.ifCond .ne 15, 3) := by decide +kernel
theorem dL_law_1273 : decode cL_law 1273 = .ok (.aload_n 3, 1) := by decide +kernel
theorem dL_law_1274 : decode cL_law 1274 = .ok (.iconst 0, 1) := by decide +kernel
theorem dL_law_1275 : decode cL_law 1275 = .ok (.laload, 1) := by decide +kernel
theorem dL_law_1276 : decode cL_law 1276 = .ok (.iload 7, 2) := by decide +kernel
theorem dL_law_1278 : decode cL_law 1278 = .ok (.i2l, 1) := by decide +kernel
theorem dL_law_1279 : decode cL_law 1279 = .ok (.lcmp, 1) := by decide +kernel
theorem dL_law_1280 : decode cL_law 1280 = .ok (.ifCond .eq 5, 3) := by decide +kernel
theorem dL_law_1283 : decode cL_law 1283 = .ok (.iconst 0, 1) := by decide +kernel
theorem dL_law_1284 : decode cL_law 1284 = .ok (.ireturn, 1) := by decide +kernel
theorem dL_law_1285 : decode cL_law 1285 = .ok (.goto 648, 3) := by decide +kernel
theorem dL_law_1288 : decode cL_law 1288 = .ok (.aload_n 1, 1) := by decide +kernel
theorem dL_law_1289 : decode cL_law 1289 = .ok (.aload_n 0, 1) := by decide +kernel
theorem dL_law_1290 : decode cL_law 1290 = .ok (.iload 5, 2) := by decide +kernel
theorem dL_law_1292 : decode cL_law 1292 = .ok (.iconst 1, 1) := by decide +kernel
theorem dL_law_1293 : decode cL_law 1293 = .ok (.iadd, 1) := by decide +kernel
theorem dL_law_1294 : decode cL_law 1294 = .ok (.iaload, 1) := by decide +kernel
theorem dL_law_1295 : decode cL_law 1295 = .ok (.aload_n 3, 1) := by decide +kernel
theorem dL_law_1296 : decode cL_law 1296 = .ok (.invokestatic 185, 3) := by decide +kernel
theorem dL_law_1299 : decode cL_law 1299 = .ok (.istore 6, 2) := by decide +kernel
theorem dL_law_1301 : decode cL_law 1301 = .ok (.aload_n 2, 1) := by decide +kernel
theorem dL_law_1302 : decode cL_law 1302 = .ok (.aload_n 0, 1) := by decide +kernel
theorem dL_law_1303 : decode cL_law 1303 = .ok (.iload 5, 2) := by decide +kernel
theorem dL_law_1305 : decode cL_law 1305 = .ok (.iconst 1, 1) := by decide +kernel
theorem dL_law_1306 : decode cL_law 1306 = .ok (.iadd, 1) := by decide +kernel
theorem dL_law_1307 : decode cL_law 1307 = .ok (.iaload, 1) := by decide +kernel
theorem dL_law_1308 : decode cL_law 1308 = .ok (.invokevirtual 187, 3) := by decide +kernel
theorem dL_law_1311 : decode cL_law 1311 = .ok (.istore 7, 2) := by decide +kernel
theorem dL_law_1313 : decode cL_law 1313 = .ok (.aload_n 2, 1) := by decide +kernel
theorem dL_law_1314 : decode cL_law 1314 = .ok (.invokevirtual 119, 3) := by decide +kernel
theorem dL_law_1317 : decode cL_law 1317 = .ok (.iload 6, 2) := by decide +kernel
theorem dL_law_1319 : decode cL_law 1319 = .ok (.if_icmp .eq 5, 3) := by decide +kernel
theorem dL_law_1322 : decode cL_law 1322 = .ok (.iconst 0, 1) := by decide +kernel
theorem dL_law_1323 : decode cL_law 1323 = .ok (.ireturn, 1) := by decide +kernel
theorem dL_law_1324 : decode cL_law 1324 = .ok (.iload 6, 2) := by decide +kernel
theorem dL_law_1326 : decode cL_law 1326 = .ok (.ifCond .ne 15, 3) := by decide +kernel
theorem dL_law_1329 : decode cL_law 1329 = .ok (.aload_n 3, 1) := by decide +kernel
theorem dL_law_1330 : decode cL_law 1330 = .ok (.iconst 0, 1) := by decide +kernel
theorem dL_law_1331 : decode cL_law 1331 = .ok (.laload, 1) := by decide +kernel
theorem dL_law_1332 : decode cL_law 1332 = .ok (.iload 7, 2) := by decide +kernel
theorem dL_law_1334 : decode cL_law 1334 = .ok (.i2l, 1) := by decide +kernel
theorem dL_law_1335 : decode cL_law 1335 = .ok (.lcmp, 1) := by decide +kernel
theorem dL_law_1336 : decode cL_law 1336 = .ok (.ifCond .eq 5, 3) := by decide +kernel
theorem dL_law_1339 : decode cL_law 1339 = .ok (.iconst 0, 1) := by decide +kernel
theorem dL_law_1340 : decode cL_law 1340 = .ok (.ireturn, 1) := by decide +kernel
theorem dL_law_1341 : decode cL_law 1341 = .ok (.goto 592, 3) := by decide +kernel
theorem dL_law_1344 : decode cL_law 1344 = .ok (.aload_n 1, 1) := by decide +kernel
theorem dL_law_1345 : decode cL_law 1345 = .ok (.aload_n 0, 1) := by decide +kernel
theorem dL_law_1346 : decode cL_law 1346 = .ok (.iload 5, 2) := by decide +kernel
theorem dL_law_1348 : decode cL_law 1348 = .ok (.iconst 1, 1) := by decide +kernel
theorem dL_law_1349 : decode cL_law 1349 = .ok (.iadd, 1) := by decide +kernel
theorem dL_law_1350 : decode cL_law 1350 = .ok (.iaload, 1) := by decide +kernel
theorem dL_law_1351 : decode cL_law 1351 = .ok (.aload_n 3, 1) := by decide +kernel
theorem dL_law_1352 : decode cL_law 1352 = .ok (.invokestatic 188, 3) := by decide +kernel
theorem dL_law_1355 : decode cL_law 1355 = .ok (.istore 6, 2) := by decide +kernel
theorem dL_law_1357 : decode cL_law 1357 = .ok (.aload_n 2, 1) := by decide +kernel
theorem dL_law_1358 : decode cL_law 1358 = .ok (.aload_n 0, 1) := by decide +kernel
theorem dL_law_1359 : decode cL_law 1359 = .ok (.iload 5, 2) := by decide +kernel
theorem dL_law_1361 : decode cL_law 1361 = .ok (.iconst 1, 1) := by decide +kernel
theorem dL_law_1362 : decode cL_law 1362 = .ok (.iadd, 1) := by decide +kernel
theorem dL_law_1363 : decode cL_law 1363 = .ok (.iaload, 1) := by decide +kernel
theorem dL_law_1364 : decode cL_law 1364 = .ok (.invokevirtual 190, 3) := by decide +kernel
theorem dL_law_1367 : decode cL_law 1367 = .ok (.istore 7, 2) := by decide +kernel
theorem dL_law_1369 : decode cL_law 1369 = .ok (.aload_n 2, 1) := by decide +kernel
theorem dL_law_1370 : decode cL_law 1370 = .ok (.invokevirtual 119, 3) := by decide +kernel
theorem dL_law_1373 : decode cL_law 1373 = .ok (.iload 6, 2) := by decide +kernel
theorem dL_law_1375 : decode cL_law 1375 = .ok (.if_icmp .eq 5, 3) := by decide +kernel
theorem dL_law_1378 : decode cL_law 1378 = .ok (.iconst 0, 1) := by decide +kernel
theorem dL_law_1379 : decode cL_law 1379 = .ok (.ireturn, 1) := by decide +kernel
theorem dL_law_1380 : decode cL_law 1380 = .ok (.iload 6, 2) := by decide +kernel
theorem dL_law_1382 : decode cL_law 1382 = .ok (.ifCond .ne 15, 3) := by decide +kernel
theorem dL_law_1385 : decode cL_law 1385 = .ok (.aload_n 3, 1) := by decide +kernel
theorem dL_law_1386 : decode cL_law 1386 = .ok (.iconst 0, 1) := by decide +kernel
theorem dL_law_1387 : decode cL_law 1387 = .ok (.laload, 1) := by decide +kernel
theorem dL_law_1388 : decode cL_law 1388 = .ok (.iload 7, 2) := by decide +kernel
theorem dL_law_1390 : decode cL_law 1390 = .ok (.i2l, 1) := by decide +kernel
theorem dL_law_1391 : decode cL_law 1391 = .ok (.lcmp, 1) := by decide +kernel
theorem dL_law_1392 : decode cL_law 1392 = .ok (.ifCond .eq 5, 3) := by decide +kernel
theorem dL_law_1395 : decode cL_law 1395 = .ok (.iconst 0, 1) := by decide +kernel
theorem dL_law_1396 : decode cL_law 1396 = .ok (.ireturn, 1) := by decide +kernel
theorem dL_law_1397 : decode cL_law 1397 = .ok (.goto 536, 3) := by decide +kernel
theorem dL_law_1400 : decode cL_law 1400 = .ok (.aload_n 1, 1) := by decide +kernel
theorem dL_law_1401 : decode cL_law 1401 = .ok (.aload_n 0, 1) := by decide +kernel
theorem dL_law_1402 : decode cL_law 1402 = .ok (.iload 5, 2) := by decide +kernel
theorem dL_law_1404 : decode cL_law 1404 = .ok (.iconst 1, 1) := by decide +kernel
theorem dL_law_1405 : decode cL_law 1405 = .ok (.iadd, 1) := by decide +kernel
theorem dL_law_1406 : decode cL_law 1406 = .ok (.iaload, 1) := by decide +kernel
theorem dL_law_1407 : decode cL_law 1407 = .ok (.aload_n 3, 1) := by decide +kernel
theorem dL_law_1408 : decode cL_law 1408 = .ok (.invokestatic 191, 3) := by decide +kernel
theorem dL_law_1411 : decode cL_law 1411 = .ok (.istore 6, 2) := by decide +kernel
theorem dL_law_1413 : decode cL_law 1413 = .ok (.aload_n 2, 1) := by decide +kernel
theorem dL_law_1414 : decode cL_law 1414 = .ok (.aload_n 0, 1) := by decide +kernel
theorem dL_law_1415 : decode cL_law 1415 = .ok (.iload 5, 2) := by decide +kernel
theorem dL_law_1417 : decode cL_law 1417 = .ok (.iconst 1, 1) := by decide +kernel
theorem dL_law_1418 : decode cL_law 1418 = .ok (.iadd, 1) := by decide +kernel
theorem dL_law_1419 : decode cL_law 1419 = .ok (.iaload, 1) := by decide +kernel
theorem dL_law_1420 : decode cL_law 1420 = .ok (.invokevirtual 193, 3) := by decide +kernel
theorem dL_law_1423 : decode cL_law 1423 = .ok (.istore 7, 2) := by decide +kernel
theorem dL_law_1425 : decode cL_law 1425 = .ok (.aload_n 2, 1) := by decide +kernel
theorem dL_law_1426 : decode cL_law 1426 = .ok (.invokevirtual 119, 3) := by decide +kernel
theorem dL_law_1429 : decode cL_law 1429 = .ok (.iload 6, 2) := by decide +kernel
theorem dL_law_1431 : decode cL_law 1431 = .ok (.if_icmp .eq 5, 3) := by decide +kernel
theorem dL_law_1434 : decode cL_law 1434 = .ok (.iconst 0, 1) := by decide +kernel
theorem dL_law_1435 : decode cL_law 1435 = .ok (.ireturn, 1) := by decide +kernel
theorem dL_law_1436 : decode cL_law 1436 = .ok (.iload 6, 2) := by decide +kernel
theorem dL_law_1438 : decode cL_law 1438 = .ok (.ifCond .ne 15, 3) := by decide +kernel
theorem dL_law_1441 : decode cL_law 1441 = .ok (.aload_n 3, 1) := by decide +kernel
theorem dL_law_1442 : decode cL_law 1442 = .ok (.iconst 0, 1) := by decide +kernel
theorem dL_law_1443 : decode cL_law 1443 = .ok (.laload, 1) := by decide +kernel
theorem dL_law_1444 : decode cL_law 1444 = .ok (.iload 7, 2) := by decide +kernel
theorem dL_law_1446 : decode cL_law 1446 = .ok (.i2l, 1) := by decide +kernel
theorem dL_law_1447 : decode cL_law 1447 = .ok (.lcmp, 1) := by decide +kernel
theorem dL_law_1448 : decode cL_law 1448 = .ok (.ifCond .eq 5, 3) := by decide +kernel
theorem dL_law_1451 : decode cL_law 1451 = .ok (.iconst 0, 1) := by decide +kernel
theorem dL_law_1452 : decode cL_law 1452 = .ok (.ireturn, 1) := by decide +kernel
theorem dL_law_1453 : decode cL_law 1453 = .ok (.goto 480, 3) := by decide +kernel
theorem dL_law_1456 : decode cL_law 1456 = .ok (.aload_n 1, 1) := by decide +kernel
theorem dL_law_1457 : decode cL_law 1457 = .ok (.aload_n 0, 1) := by decide +kernel
theorem dL_law_1458 : decode cL_law 1458 = .ok (.iload 5, 2) := by decide +kernel
theorem dL_law_1460 : decode cL_law 1460 = .ok (.iconst 1, 1) := by decide +kernel
theorem dL_law_1461 : decode cL_law 1461 = .ok (.iadd, 1) := by decide +kernel
theorem dL_law_1462 : decode cL_law 1462 = .ok (.iaload, 1) := by decide +kernel
theorem dL_law_1463 : decode cL_law 1463 = .ok (.aload_n 3, 1) := by decide +kernel
theorem dL_law_1464 : decode cL_law 1464 = .ok (.invokestatic 194, 3) := by decide +kernel
theorem dL_law_1467 : decode cL_law 1467 = .ok (.istore 6, 2) := by decide +kernel
theorem dL_law_1469 : decode cL_law 1469 = .ok (.aload_n 2, 1) := by decide +kernel
theorem dL_law_1470 : decode cL_law 1470 = .ok (.aload_n 0, 1) := by decide +kernel
theorem dL_law_1471 : decode cL_law 1471 = .ok (.iload 5, 2) := by decide +kernel
theorem dL_law_1473 : decode cL_law 1473 = .ok (.iconst 1, 1) := by decide +kernel
theorem dL_law_1474 : decode cL_law 1474 = .ok (.iadd, 1) := by decide +kernel
theorem dL_law_1475 : decode cL_law 1475 = .ok (.iaload, 1) := by decide +kernel
theorem dL_law_1476 : decode cL_law 1476 = .ok (.invokevirtual 196, 3) := by decide +kernel
theorem dL_law_1479 : decode cL_law 1479 = .ok (.istore 7, 2) := by decide +kernel
theorem dL_law_1481 : decode cL_law 1481 = .ok (.aload_n 2, 1) := by decide +kernel
theorem dL_law_1482 : decode cL_law 1482 = .ok (.invokevirtual 119, 3) := by decide +kernel
theorem dL_law_1485 : decode cL_law 1485 = .ok (.iload 6, 2) := by decide +kernel
theorem dL_law_1487 : decode cL_law 1487 = .ok (.if_icmp .eq 5, 3) := by decide +kernel
theorem dL_law_1490 : decode cL_law 1490 = .ok (.iconst 0, 1) := by decide +kernel
theorem dL_law_1491 : decode cL_law 1491 = .ok (.ireturn, 1) := by decide +kernel
theorem dL_law_1492 : decode cL_law 1492 = .ok (.iload 6, 2) := by decide +kernel
theorem dL_law_1494 : decode cL_law 1494 = .ok (.ifCond .ne 15, 3) := by decide +kernel
theorem dL_law_1497 : decode cL_law 1497 = .ok (.aload_n 3, 1) := by decide +kernel
theorem dL_law_1498 : decode cL_law 1498 = .ok (.iconst 0, 1) := by decide +kernel
theorem dL_law_1499 : decode cL_law 1499 = .ok (.laload, 1) := by decide +kernel
theorem dL_law_1500 : decode cL_law 1500 = .ok (.iload 7, 2) := by decide +kernel
theorem dL_law_1502 : decode cL_law 1502 = .ok (.i2l, 1) := by decide +kernel
theorem dL_law_1503 : decode cL_law 1503 = .ok (.lcmp, 1) := by decide +kernel
theorem dL_law_1504 : decode cL_law 1504 = .ok (.ifCond .eq 5, 3) := by decide +kernel
theorem dL_law_1507 : decode cL_law 1507 = .ok (.iconst 0, 1) := by decide +kernel
theorem dL_law_1508 : decode cL_law 1508 = .ok (.ireturn, 1) := by decide +kernel
theorem dL_law_1509 : decode cL_law 1509 = .ok (.goto 424, 3) := by decide +kernel
theorem dL_law_1512 : decode cL_law 1512 = .ok (.aload_n 1, 1) := by decide +kernel
theorem dL_law_1513 : decode cL_law 1513 = .ok (.aload_n 0, 1) := by decide +kernel
theorem dL_law_1514 : decode cL_law 1514 = .ok (.iload 5, 2) := by decide +kernel
theorem dL_law_1516 : decode cL_law 1516 = .ok (.iconst 1, 1) := by decide +kernel
theorem dL_law_1517 : decode cL_law 1517 = .ok (.iadd, 1) := by decide +kernel
theorem dL_law_1518 : decode cL_law 1518 = .ok (.iaload, 1) := by decide +kernel
theorem dL_law_1519 : decode cL_law 1519 = .ok (.aload_n 0, 1) := by decide +kernel
theorem dL_law_1520 : decode cL_law 1520 = .ok (.iload 5, 2) := by decide +kernel
theorem dL_law_1522 : decode cL_law 1522 = .ok (.iconst 2, 1) := by decide +kernel
theorem dL_law_1523 : decode cL_law 1523 = .ok (.iadd, 1) := by decide +kernel
theorem dL_law_1524 : decode cL_law 1524 = .ok (.iaload, 1) := by decide +kernel
theorem dL_law_1525 : decode cL_law 1525 = .ok (.aload_n 3, 1) := by decide +kernel
theorem dL_law_1526 : decode cL_law 1526 = .ok (.invokestatic 197, 3) := by decide +kernel
theorem dL_law_1529 : decode cL_law 1529 = .ok (.istore 6, 2) := by decide +kernel
theorem dL_law_1531 : decode cL_law 1531 = .ok (.aload_n 2, 1) := by decide +kernel
theorem dL_law_1532 : decode cL_law 1532 = .ok (.aload_n 0, 1) := by decide +kernel
theorem dL_law_1533 : decode cL_law 1533 = .ok (.iload 5, 2) := by decide +kernel
theorem dL_law_1535 : decode cL_law 1535 = .ok (.iconst 1, 1) := by decide +kernel
theorem dL_law_1536 : decode cL_law 1536 = .ok (.iadd, 1) := by decide +kernel
theorem dL_law_1537 : decode cL_law 1537 = .ok (.iaload, 1) := by decide +kernel
theorem dL_law_1538 : decode cL_law 1538 = .ok (.aload_n 0, 1) := by decide +kernel
theorem dL_law_1539 : decode cL_law 1539 = .ok (.iload 5, 2) := by decide +kernel
theorem dL_law_1541 : decode cL_law 1541 = .ok (.iconst 2, 1) := by decide +kernel
theorem dL_law_1542 : decode cL_law 1542 = .ok (.iadd, 1) := by decide +kernel
theorem dL_law_1543 : decode cL_law 1543 = .ok (.iaload, 1) := by decide +kernel
theorem dL_law_1544 : decode cL_law 1544 = .ok (.invokevirtual 199, 3) := by decide +kernel
theorem dL_law_1547 : decode cL_law 1547 = .ok (.istore 7, 2) := by decide +kernel
theorem dL_law_1549 : decode cL_law 1549 = .ok (.aload_n 2, 1) := by decide +kernel
theorem dL_law_1550 : decode cL_law 1550 = .ok (.invokevirtual 119, 3) := by decide +kernel
theorem dL_law_1553 : decode cL_law 1553 = .ok (.iload 6, 2) := by decide +kernel
theorem dL_law_1555 : decode cL_law 1555 = .ok (.if_icmp .eq 5, 3) := by decide +kernel
theorem dL_law_1558 : decode cL_law 1558 = .ok (.iconst 0, 1) := by decide +kernel
theorem dL_law_1559 : decode cL_law 1559 = .ok (.ireturn, 1) := by decide +kernel
theorem dL_law_1560 : decode cL_law 1560 = .ok (.iload 6, 2) := by decide +kernel
theorem dL_law_1562 : decode cL_law 1562 = .ok (.ifCond .ne 15, 3) := by decide +kernel
theorem dL_law_1565 : decode cL_law 1565 = .ok (.aload_n 3, 1) := by decide +kernel
theorem dL_law_1566 : decode cL_law 1566 = .ok (.iconst 0, 1) := by decide +kernel
theorem dL_law_1567 : decode cL_law 1567 = .ok (.laload, 1) := by decide +kernel
theorem dL_law_1568 : decode cL_law 1568 = .ok (.iload 7, 2) := by decide +kernel
theorem dL_law_1570 : decode cL_law 1570 = .ok (.i2l, 1) := by decide +kernel
theorem dL_law_1571 : decode cL_law 1571 = .ok (.lcmp, 1) := by decide +kernel
theorem dL_law_1572 : decode cL_law 1572 = .ok (.ifCond .eq 5, 3) := by decide +kernel
theorem dL_law_1575 : decode cL_law 1575 = .ok (.iconst 0, 1) := by decide +kernel
theorem dL_law_1576 : decode cL_law 1576 = .ok (.ireturn, 1) := by decide +kernel
theorem dL_law_1577 : decode cL_law 1577 = .ok (.goto 356, 3) := by decide +kernel
theorem dL_law_1580 : decode cL_law 1580 = .ok (.aload_n 1, 1) := by decide +kernel
theorem dL_law_1581 : decode cL_law 1581 = .ok (.aload_n 0, 1) := by decide +kernel
theorem dL_law_1582 : decode cL_law 1582 = .ok (.iload 5, 2) := by decide +kernel
theorem dL_law_1584 : decode cL_law 1584 = .ok (.iconst 1, 1) := by decide +kernel
theorem dL_law_1585 : decode cL_law 1585 = .ok (.iadd, 1) := by decide +kernel
theorem dL_law_1586 : decode cL_law 1586 = .ok (.iaload, 1) := by decide +kernel
theorem dL_law_1587 : decode cL_law 1587 = .ok (.aload_n 0, 1) := by decide +kernel
theorem dL_law_1588 : decode cL_law 1588 = .ok (.iload 5, 2) := by decide +kernel
theorem dL_law_1590 : decode cL_law 1590 = .ok (.iconst 2, 1) := by decide +kernel
theorem dL_law_1591 : decode cL_law 1591 = .ok (.iadd, 1) := by decide +kernel
theorem dL_law_1592 : decode cL_law 1592 = .ok (.iaload, 1) := by decide +kernel
theorem dL_law_1593 : decode cL_law 1593 = .ok (.aload_n 3, 1) := by decide +kernel
theorem dL_law_1594 : decode cL_law 1594 = .ok (.invokestatic 200, 3) := by decide +kernel
theorem dL_law_1597 : decode cL_law 1597 = .ok (.istore 6, 2) := by decide +kernel
theorem dL_law_1599 : decode cL_law 1599 = .ok (.aload_n 2, 1) := by decide +kernel
theorem dL_law_1600 : decode cL_law 1600 = .ok (.aload_n 0, 1) := by decide +kernel
theorem dL_law_1601 : decode cL_law 1601 = .ok (.iload 5, 2) := by decide +kernel
theorem dL_law_1603 : decode cL_law 1603 = .ok (.iconst 1, 1) := by decide +kernel
theorem dL_law_1604 : decode cL_law 1604 = .ok (.iadd, 1) := by decide +kernel
theorem dL_law_1605 : decode cL_law 1605 = .ok (.iaload, 1) := by decide +kernel
theorem dL_law_1606 : decode cL_law 1606 = .ok (.aload_n 0, 1) := by decide +kernel
theorem dL_law_1607 : decode cL_law 1607 = .ok (.iload 5, 2) := by decide +kernel
theorem dL_law_1609 : decode cL_law 1609 = .ok (.iconst 2, 1) := by decide +kernel
theorem dL_law_1610 : decode cL_law 1610 = .ok (.iadd, 1) := by decide +kernel
theorem dL_law_1611 : decode cL_law 1611 = .ok (.iaload, 1) := by decide +kernel
theorem dL_law_1612 : decode cL_law 1612 = .ok (.invokevirtual 202, 3) := by decide +kernel
theorem dL_law_1615 : decode cL_law 1615 = .ok (.istore 7, 2) := by decide +kernel
theorem dL_law_1617 : decode cL_law 1617 = .ok (.aload_n 2, 1) := by decide +kernel
theorem dL_law_1618 : decode cL_law 1618 = .ok (.invokevirtual 119, 3) := by decide +kernel
theorem dL_law_1621 : decode cL_law 1621 = .ok (.iload 6, 2) := by decide +kernel
theorem dL_law_1623 : decode cL_law 1623 = .ok (.if_icmp .eq 5, 3) := by decide +kernel
theorem dL_law_1626 : decode cL_law 1626 = .ok (.iconst 0, 1) := by decide +kernel
theorem dL_law_1627 : decode cL_law 1627 = .ok (.ireturn, 1) := by decide +kernel
theorem dL_law_1628 : decode cL_law 1628 = .ok (.iload 6, 2) := by decide +kernel
theorem dL_law_1630 : decode cL_law 1630 = .ok (.ifCond .ne 15, 3) := by decide +kernel
theorem dL_law_1633 : decode cL_law 1633 = .ok (.aload_n 3, 1) := by decide +kernel
theorem dL_law_1634 : decode cL_law 1634 = .ok (.iconst 0, 1) := by decide +kernel
theorem dL_law_1635 : decode cL_law 1635 = .ok (.laload, 1) := by decide +kernel
theorem dL_law_1636 : decode cL_law 1636 = .ok (.iload 7, 2) := by decide +kernel
theorem dL_law_1638 : decode cL_law 1638 = .ok (.i2l, 1) := by decide +kernel
theorem dL_law_1639 : decode cL_law 1639 = .ok (.lcmp, 1) := by decide +kernel
theorem dL_law_1640 : decode cL_law 1640 = .ok (.ifCond .eq 5, 3) := by decide +kernel
theorem dL_law_1643 : decode cL_law 1643 = .ok (.iconst 0, 1) := by decide +kernel
theorem dL_law_1644 : decode cL_law 1644 = .ok (.ireturn, 1) := by decide +kernel
theorem dL_law_1645 : decode cL_law 1645 = .ok (.goto 288, 3) := by decide +kernel
theorem dL_law_1648 : decode cL_law 1648 = .ok (.aload_n 1, 1) := by decide +kernel
theorem dL_law_1649 : decode cL_law 1649 = .ok (.aload_n 0, 1) := by decide +kernel
theorem dL_law_1650 : decode cL_law 1650 = .ok (.iload 5, 2) := by decide +kernel
theorem dL_law_1652 : decode cL_law 1652 = .ok (.iconst 1, 1) := by decide +kernel
theorem dL_law_1653 : decode cL_law 1653 = .ok (.iadd, 1) := by decide +kernel
theorem dL_law_1654 : decode cL_law 1654 = .ok (.iaload, 1) := by decide +kernel
theorem dL_law_1655 : decode cL_law 1655 = .ok (.aload_n 3, 1) := by decide +kernel
theorem dL_law_1656 : decode cL_law 1656 = .ok (.invokestatic 203, 3) := by decide +kernel
theorem dL_law_1659 : decode cL_law 1659 = .ok (.istore 6, 2) := by decide +kernel
theorem dL_law_1661 : decode cL_law 1661 = .ok (.aload_n 2, 1) := by decide +kernel
theorem dL_law_1662 : decode cL_law 1662 = .ok (.aload_n 0, 1) := by decide +kernel
theorem dL_law_1663 : decode cL_law 1663 = .ok (.iload 5, 2) := by decide +kernel
theorem dL_law_1665 : decode cL_law 1665 = .ok (.iconst 1, 1) := by decide +kernel
theorem dL_law_1666 : decode cL_law 1666 = .ok (.iadd, 1) := by decide +kernel
theorem dL_law_1667 : decode cL_law 1667 = .ok (.iaload, 1) := by decide +kernel
theorem dL_law_1668 : decode cL_law 1668 = .ok (.invokevirtual 205, 3) := by decide +kernel
theorem dL_law_1671 : decode cL_law 1671 = .ok (.lstore 7, 2) := by decide +kernel
theorem dL_law_1673 : decode cL_law 1673 = .ok (.aload_n 2, 1) := by decide +kernel
theorem dL_law_1674 : decode cL_law 1674 = .ok (.invokevirtual 119, 3) := by decide +kernel
theorem dL_law_1677 : decode cL_law 1677 = .ok (.iload 6, 2) := by decide +kernel
theorem dL_law_1679 : decode cL_law 1679 = .ok (.if_icmp .eq 5, 3) := by decide +kernel
theorem dL_law_1682 : decode cL_law 1682 = .ok (.iconst 0, 1) := by decide +kernel
theorem dL_law_1683 : decode cL_law 1683 = .ok (.ireturn, 1) := by decide +kernel
theorem dL_law_1684 : decode cL_law 1684 = .ok (.iload 6, 2) := by decide +kernel
theorem dL_law_1686 : decode cL_law 1686 = .ok (.ifCond .ne 14, 3) := by decide +kernel
theorem dL_law_1689 : decode cL_law 1689 = .ok (.aload_n 3, 1) := by decide +kernel
theorem dL_law_1690 : decode cL_law 1690 = .ok (.iconst 0, 1) := by decide +kernel
theorem dL_law_1691 : decode cL_law 1691 = .ok (.laload, 1) := by decide +kernel
theorem dL_law_1692 : decode cL_law 1692 = .ok (.lload 7, 2) := by decide +kernel
theorem dL_law_1694 : decode cL_law 1694 = .ok (.lcmp, 1) := by decide +kernel
theorem dL_law_1695 : decode cL_law 1695 = .ok (.ifCond .eq 5, 3) := by decide +kernel
theorem dL_law_1698 : decode cL_law 1698 = .ok (.iconst 0, 1) := by decide +kernel
theorem dL_law_1699 : decode cL_law 1699 = .ok (.ireturn, 1) := by decide +kernel
theorem dL_law_1700 : decode cL_law 1700 = .ok (.goto 233, 3) := by decide +kernel
theorem dL_law_1703 : decode cL_law 1703 = .ok (.aload_n 1, 1) := by decide +kernel
theorem dL_law_1704 : decode cL_law 1704 = .ok (.aload 4, 2) := by decide +kernel
theorem dL_law_1706 : decode cL_law 1706 = .ok (.invokestatic 206, 3) := by decide +kernel
theorem dL_law_1709 : decode cL_law 1709 = .ok (.istore 6, 2) := by decide +kernel
theorem dL_law_1711 : decode cL_law 1711 = .ok (.aload_n 2, 1) := by decide +kernel
theorem dL_law_1712 : decode cL_law 1712 = .ok (.invokevirtual 209, 3) := by decide +kernel
theorem dL_law_1715 : decode cL_law 1715 = .ok (.dstore 7, 2) := by decide +kernel
theorem dL_law_1717 : decode cL_law 1717 = .ok (.aload_n 2, 1) := by decide +kernel
theorem dL_law_1718 : decode cL_law 1718 = .ok (.invokevirtual 119, 3) := by decide +kernel
theorem dL_law_1721 : decode cL_law 1721 = .ok (.iload 6, 2) := by decide +kernel
theorem dL_law_1723 : decode cL_law 1723 = .ok (.if_icmp .eq 5, 3) := by decide +kernel
theorem dL_law_1726 : decode cL_law 1726 = .ok (.iconst 0, 1) := by decide +kernel
theorem dL_law_1727 : decode cL_law 1727 = .ok (.ireturn, 1) := by decide +kernel
theorem dL_law_1728 : decode cL_law 1728 = .ok (.iload 6, 2) := by decide +kernel
theorem dL_law_1730 : decode cL_law 1730 = .ok (.ifCond .ne 35, 3) := by decide +kernel
theorem dL_law_1733 : decode cL_law 1733 = .ok (.aload 4, 2) := by decide +kernel
theorem dL_law_1735 : decode cL_law 1735 = .ok (.iconst 0, 1) := by decide +kernel
theorem dL_law_1736 : decode cL_law 1736 = .ok (.daload, 1) := by decide +kernel
theorem dL_law_1737 : decode cL_law 1737 = .ok (.dload 7, 2) := by decide +kernel
theorem dL_law_1739 : decode cL_law 1739 = .ok (.dcmp .l, 1) := by decide +kernel
theorem dL_law_1740 : decode cL_law 1740 = .ok (.ifCond .eq 25, 3) := by decide +kernel
theorem dL_law_1743 : decode cL_law 1743 = .ok (.aload 4, 2) := by decide +kernel
theorem dL_law_1745 : decode cL_law 1745 = .ok (.iconst 0, 1) := by decide +kernel
theorem dL_law_1746 : decode cL_law 1746 = .ok (.daload, 1) := by decide +kernel
theorem dL_law_1747 : decode cL_law 1747 = .ok (.aload 4, 2) := by decide +kernel
theorem dL_law_1749 : decode cL_law 1749 = .ok (.iconst 0, 1) := by decide +kernel
theorem dL_law_1750 : decode cL_law 1750 = .ok (.daload, 1) := by decide +kernel
theorem dL_law_1751 : decode cL_law 1751 = .ok (.dcmp .l, 1) := by decide +kernel
theorem dL_law_1752 : decode cL_law 1752 = .ok (.ifCond .eq 11, 3) := by decide +kernel
theorem dL_law_1755 : decode cL_law 1755 = .ok (.dload 7, 2) := by decide +kernel
theorem dL_law_1757 : decode cL_law 1757 = .ok (.dload 7, 2) := by decide +kernel
theorem dL_law_1759 : decode cL_law 1759 = .ok (.dcmp .l, 1) := by decide +kernel
theorem dL_law_1760 : decode cL_law 1760 = .ok (.ifCond .ne 5, 3) := by decide +kernel
theorem dL_law_1763 : decode cL_law 1763 = .ok (.iconst 0, 1) := by decide +kernel
theorem dL_law_1764 : decode cL_law 1764 = .ok (.ireturn, 1) := by decide +kernel
theorem dL_law_1765 : decode cL_law 1765 = .ok (.goto 168, 3) := by decide +kernel
theorem dL_law_1768 : decode cL_law 1768 = .ok (.aload_n 1, 1) := by decide +kernel
theorem dL_law_1769 : decode cL_law 1769 = .ok (.aload_n 0, 1) := by decide +kernel
theorem dL_law_1770 : decode cL_law 1770 = .ok (.iload 5, 2) := by decide +kernel
theorem dL_law_1772 : decode cL_law 1772 = .ok (.iconst 1, 1) := by decide +kernel
theorem dL_law_1773 : decode cL_law 1773 = .ok (.iadd, 1) := by decide +kernel
theorem dL_law_1774 : decode cL_law 1774 = .ok (.iaload, 1) := by decide +kernel
theorem dL_law_1775 : decode cL_law 1775 = .ok (.aload_n 3, 1) := by decide +kernel
theorem dL_law_1776 : decode cL_law 1776 = .ok (.invokestatic 210, 3) := by decide +kernel
theorem dL_law_1779 : decode cL_law 1779 = .ok (.istore 6, 2) := by decide +kernel
theorem dL_law_1781 : decode cL_law 1781 = .ok (.aload_n 2, 1) := by decide +kernel
theorem dL_law_1782 : decode cL_law 1782 = .ok (.aload_n 0, 1) := by decide +kernel
theorem dL_law_1783 : decode cL_law 1783 = .ok (.iload 5, 2) := by decide +kernel
theorem dL_law_1785 : decode cL_law 1785 = .ok (.iconst 1, 1) := by decide +kernel
theorem dL_law_1786 : decode cL_law 1786 = .ok (.iadd, 1) := by decide +kernel
theorem dL_law_1787 : decode cL_law 1787 = .ok (.iaload, 1) := by decide +kernel
theorem dL_law_1788 : decode cL_law 1788 = .ok (.invokevirtual 212, 3) := by decide +kernel
theorem dL_law_1791 : decode cL_law 1791 = .ok (.istore 7, 2) := by decide +kernel
theorem dL_law_1793 : decode cL_law 1793 = .ok (.aload_n 2, 1) := by decide +kernel
theorem dL_law_1794 : decode cL_law 1794 = .ok (.invokevirtual 119, 3) := by decide +kernel
theorem dL_law_1797 : decode cL_law 1797 = .ok (.iload 6, 2) := by decide +kernel
theorem dL_law_1799 : decode cL_law 1799 = .ok (.if_icmp .eq 5, 3) := by decide +kernel
theorem dL_law_1802 : decode cL_law 1802 = .ok (.iconst 0, 1) := by decide +kernel
theorem dL_law_1803 : decode cL_law 1803 = .ok (.ireturn, 1) := by decide +kernel
theorem dL_law_1804 : decode cL_law 1804 = .ok (.iload 6, 2) := by decide +kernel
theorem dL_law_1806 : decode cL_law 1806 = .ok (.ifCond .ne 22, 3) := by decide +kernel
theorem dL_law_1809 : decode cL_law 1809 = .ok (.aload_n 3, 1) := by decide +kernel
theorem dL_law_1810 : decode cL_law 1810 = .ok (.iconst 0, 1) := by decide +kernel
theorem dL_law_1811 : decode cL_law 1811 = .ok (.laload, 1) := by decide +kernel
theorem dL_law_1812 : decode cL_law 1812 = .ok (.iload 7, 2) := by decide +kernel
theorem dL_law_1814 : decode cL_law 1814 = .ok (.ifCond .eq 7, 3) := by decide +kernel
theorem dL_law_1817 : decode cL_law 1817 = .ok (.lconst 1, 1) := by decide +kernel
theorem dL_law_1818 : decode cL_law 1818 = .ok (.goto 4, 3) := by decide +kernel
theorem dL_law_1821 : decode cL_law 1821 = .ok (.lconst 0, 1) := by decide +kernel
theorem dL_law_1822 : decode cL_law 1822 = .ok (.lcmp, 1) := by decide +kernel
theorem dL_law_1823 : decode cL_law 1823 = .ok (.ifCond .eq 5, 3) := by decide +kernel
theorem dL_law_1826 : decode cL_law 1826 = .ok (.iconst 0, 1) := by decide +kernel
theorem dL_law_1827 : decode cL_law 1827 = .ok (.ireturn, 1) := by decide +kernel
theorem dL_law_1828 : decode cL_law 1828 = .ok (.goto 105, 3) := by decide +kernel
theorem dL_law_1831 : decode cL_law 1831 = .ok (.aload_n 1, 1) := by decide +kernel
theorem dL_law_1832 : decode cL_law 1832 = .ok (.aload_n 3, 1) := by decide +kernel
theorem dL_law_1833 : decode cL_law 1833 = .ok (.invokestatic 213, 3) := by decide +kernel
theorem dL_law_1836 : decode cL_law 1836 = .ok (.istore 6, 2) := by decide +kernel
theorem dL_law_1838 : decode cL_law 1838 = .ok (.aload_n 2, 1) := by decide +kernel
theorem dL_law_1839 : decode cL_law 1839 = .ok (.invokevirtual 215, 3) := by decide +kernel
theorem dL_law_1842 : decode cL_law 1842 = .ok (.istore 7, 2) := by decide +kernel
theorem dL_law_1844 : decode cL_law 1844 = .ok (.aload_n 2, 1) := by decide +kernel
theorem dL_law_1845 : decode cL_law 1845 = .ok (.invokevirtual 119, 3) := by decide +kernel
theorem dL_law_1848 : decode cL_law 1848 = .ok (.iload 6, 2) := by decide +kernel
theorem dL_law_1850 : decode cL_law 1850 = .ok (.if_icmp .eq 5, 3) := by decide +kernel
theorem dL_law_1853 : decode cL_law 1853 = .ok (.iconst 0, 1) := by decide +kernel
theorem dL_law_1854 : decode cL_law 1854 = .ok (.ireturn, 1) := by decide +kernel
theorem dL_law_1855 : decode cL_law 1855 = .ok (.iload 6, 2) := by decide +kernel
theorem dL_law_1857 : decode cL_law 1857 = .ok (.ifCond .ne 15, 3) := by decide +kernel
theorem dL_law_1860 : decode cL_law 1860 = .ok (.aload_n 3, 1) := by decide +kernel
theorem dL_law_1861 : decode cL_law 1861 = .ok (.iconst 0, 1) := by decide +kernel
theorem dL_law_1862 : decode cL_law 1862 = .ok (.laload, 1) := by decide +kernel
theorem dL_law_1863 : decode cL_law 1863 = .ok (.iload 7, 2) := by decide +kernel
theorem dL_law_1865 : decode cL_law 1865 = .ok (.i2l, 1) := by decide +kernel
theorem dL_law_1866 : decode cL_law 1866 = .ok (.lcmp, 1) := by decide +kernel
theorem dL_law_1867 : decode cL_law 1867 = .ok (.ifCond .eq 5, 3) := by decide +kernel
theorem dL_law_1870 : decode cL_law 1870 = .ok (.iconst 0, 1) := by decide +kernel
theorem dL_law_1871 : decode cL_law 1871 = .ok (.ireturn, 1) := by decide +kernel
theorem dL_law_1872 : decode cL_law 1872 = .ok (.goto 61, 3) := by decide +kernel
theorem dL_law_1875 : decode cL_law 1875 = .ok (.aload_n 1, 1) := by decide +kernel
theorem dL_law_1876 : decode cL_law 1876 = .ok (.aload_n 3, 1) := by decide +kernel
theorem dL_law_1877 : decode cL_law 1877 = .ok (.invokestatic 216, 3) := by decide +kernel
theorem dL_law_1880 : decode cL_law 1880 = .ok (.istore 6, 2) := by decide +kernel
theorem dL_law_1882 : decode cL_law 1882 = .ok (.aload_n 2, 1) := by decide +kernel
theorem dL_law_1883 : decode cL_law 1883 = .ok (.invokevirtual 218, 3) := by decide +kernel
theorem dL_law_1886 : decode cL_law 1886 = .ok (.istore 7, 2) := by decide +kernel
theorem dL_law_1888 : decode cL_law 1888 = .ok (.aload_n 2, 1) := by decide +kernel
theorem dL_law_1889 : decode cL_law 1889 = .ok (.invokevirtual 119, 3) := by decide +kernel
theorem dL_law_1892 : decode cL_law 1892 = .ok (.iload 6, 2) := by decide +kernel
theorem dL_law_1894 : decode cL_law 1894 = .ok (.if_icmp .eq 5, 3) := by decide +kernel
theorem dL_law_1897 : decode cL_law 1897 = .ok (.iconst 0, 1) := by decide +kernel
theorem dL_law_1898 : decode cL_law 1898 = .ok (.ireturn, 1) := by decide +kernel
theorem dL_law_1899 : decode cL_law 1899 = .ok (.iload 6, 2) := by decide +kernel
theorem dL_law_1901 : decode cL_law 1901 = .ok (.ifCond .ne 15, 3) := by decide +kernel
theorem dL_law_1904 : decode cL_law 1904 = .ok (.aload_n 3, 1) := by decide +kernel
theorem dL_law_1905 : decode cL_law 1905 = .ok (.iconst 0, 1) := by decide +kernel
theorem dL_law_1906 : decode cL_law 1906 = .ok (.laload, 1) := by decide +kernel
theorem dL_law_1907 : decode cL_law 1907 = .ok (.iload 7, 2) := by decide +kernel
theorem dL_law_1909 : decode cL_law 1909 = .ok (.i2l, 1) := by decide +kernel
theorem dL_law_1910 : decode cL_law 1910 = .ok (.lcmp, 1) := by decide +kernel
theorem dL_law_1911 : decode cL_law 1911 = .ok (.ifCond .eq 5, 3) := by decide +kernel
theorem dL_law_1914 : decode cL_law 1914 = .ok (.iconst 0, 1) := by decide +kernel
theorem dL_law_1915 : decode cL_law 1915 = .ok (.ireturn, 1) := by decide +kernel
theorem dL_law_1916 : decode cL_law 1916 = .ok (.goto 17, 3) := by decide +kernel
theorem dL_law_1919 : decode cL_law 1919 = .ok (.aload_n 1, 1) := by decide +kernel
theorem dL_law_1920 : decode cL_law 1920 = .ok (.invokevirtual 219, 3) := by decide +kernel
theorem dL_law_1923 : decode cL_law 1923 = .ok (.aload_n 2, 1) := by decide +kernel
theorem dL_law_1924 : decode cL_law 1924 = .ok (.invokevirtual 223, 3) := by decide +kernel
theorem dL_law_1927 : decode cL_law 1927 = .ok (.lcmp, 1) := by decide +kernel
theorem dL_law_1928 : decode cL_law 1928 = .ok (.ifCond .eq 5, 3) := by decide +kernel
theorem dL_law_1931 : decode cL_law 1931 = .ok (.iconst 0, 1) := by decide +kernel
theorem dL_law_1932 : decode cL_law 1932 = .ok (.ireturn, 1) := by decide +kernel
theorem dL_law_1933 : decode cL_law 1933 = .ok (.iinc 5 5, 3) := by decide +kernel
theorem dL_law_1936 : decode cL_law 1936 = .ok (.goto (-1908), 3) := by decide +kernel
theorem dL_law_1939 : decode cL_law 1939 = .ok (.iconst 1, 1) := by decide +kernel
theorem dL_law_1940 : decode cL_law 1940 = .ok (.ireturn, 1) := by decide +kernel
