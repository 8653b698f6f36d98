/-! rows of the law -/
section
variable {d : Nat} {Q : XO → Hp → Prop} {S : SH} {I : MI} {L : ML} {R : MR} {G : MG} {A : Hp} {st : List Value} {x y z x0 x1 x2 x3 x4 x5 x6 x7 x8 x9 : Int32} {lx ly l0 l1 l2 l3 l4 l5 l6 : Int64} {t kk jj a b a0 a1 a2 a3 a4 a5 a6 a7 a8 a9 : Nat} {o o0 o1 o2 o3 o4 : Option Nat} {v0 v1 v2 v3 v4 v5 v6 v7 v8 v9 v10 v11 v12 v13 v14 v15 v16 v17 v18 v19 v20 : Option Value}
theorem i_268_0 : t_ins 268 0 = some (.new 8) := by decide +kernel
theorem i_268_3 : t_ins 268 3 = some (.dup) := by decide +kernel
theorem i_268_4 : t_ins 268 4 = some (.invokespecial 102) := by decide +kernel
theorem i_268_7 : t_ins 268 7 = some (.astore_n 1) := by decide +kernel
theorem i_268_8 : t_ins 268 8 = some (.new 103) := by decide +kernel
theorem i_268_11 : t_ins 268 11 = some (.dup) := by decide +kernel
theorem i_268_12 : t_ins 268 12 = some (.invokespecial 105) := by decide +kernel
theorem i_268_15 : t_ins 268 15 = some (.astore_n 2) := by decide +kernel
theorem i_268_16 : t_ins 268 16 = some (.iconst 1) := by decide +kernel
theorem i_268_17 : t_ins 268 17 = some (.newarray .long) := by decide +kernel
theorem i_268_19 : t_ins 268 19 = some (.astore_n 3) := by decide +kernel
theorem i_268_20 : t_ins 268 20 = some (.iconst 0) := by decide +kernel
theorem i_268_21 : t_ins 268 21 = some (.istore 4) := by decide +kernel
theorem i_268_23 : t_ins 268 23 = some (.iload 4) := by decide +kernel
theorem i_268_25 : t_ins 268 25 = some (.aload_n 0) := by decide +kernel
theorem i_268_26 : t_ins 268 26 = some (.arraylength) := by decide +kernel
theorem i_268_27 : t_ins 268 27 = some (.bipush 6) := by decide +kernel
theorem i_268_29 : t_ins 268 29 = some (.isub) := by decide +kernel
theorem i_268_30 : t_ins 268 30 = some (.if_icmp .gt 2264) := by decide +kernel
theorem i_268_33 : t_ins 268 33 = some (.aload_n 0) := by decide +kernel
theorem i_268_34 : t_ins 268 34 = some (.iload 4) := by decide +kernel
theorem i_268_36 : t_ins 268 36 = some (.iaload) := by decide +kernel
theorem i_268_37 : t_ins 268 37 = some (.bipush 63) := by decide +kernel
theorem i_268_39 : t_ins 268 39 = some (.iand) := by decide +kernel
theorem i_268_40 : t_ins 268 40 = some (.tableswitch 2248 0 32 #[148, 221, 277, 290, 346, 402, 470, 538, 551, 607, 687, 779, 847, 927, 1007, 1075, 1143, 1235, 1303, 1371, 1451, 1531, 1623, 1691, 1759, 1772, 1840, 1908, 1988, 2044, 2112, 2168, 2223]) := by decide +kernel
theorem i_268_188 : t_ins 268 188 = some (.aload_n 1) := by decide +kernel
theorem i_268_189 : t_ins 268 189 = some (.aload_n 0) := by decide +kernel
theorem i_268_190 : t_ins 268 190 = some (.iload 4) := by decide +kernel
theorem i_268_192 : t_ins 268 192 = some (.iconst 1) := by decide +kernel
theorem i_268_193 : t_ins 268 193 = some (.iadd) := by decide +kernel
theorem i_268_194 : t_ins 268 194 = some (.iaload) := by decide +kernel
theorem i_268_195 : t_ins 268 195 = some (.aload_n 0) := by decide +kernel
theorem i_268_196 : t_ins 268 196 = some (.iload 4) := by decide +kernel
theorem i_268_198 : t_ins 268 198 = some (.iconst 2) := by decide +kernel
theorem i_268_199 : t_ins 268 199 = some (.iadd) := by decide +kernel
theorem i_268_200 : t_ins 268 200 = some (.iaload) := by decide +kernel
theorem i_268_201 : t_ins 268 201 = some (.aload_n 0) := by decide +kernel
theorem i_268_202 : t_ins 268 202 = some (.iload 4) := by decide +kernel
theorem i_268_204 : t_ins 268 204 = some (.iconst 3) := by decide +kernel
theorem i_268_205 : t_ins 268 205 = some (.iadd) := by decide +kernel
theorem i_268_206 : t_ins 268 206 = some (.iaload) := by decide +kernel
theorem i_268_207 : t_ins 268 207 = some (.aload_n 0) := by decide +kernel
theorem i_268_208 : t_ins 268 208 = some (.iload 4) := by decide +kernel
theorem i_268_210 : t_ins 268 210 = some (.iconst 4) := by decide +kernel
theorem i_268_211 : t_ins 268 211 = some (.iadd) := by decide +kernel
theorem i_268_212 : t_ins 268 212 = some (.iaload) := by decide +kernel
theorem i_268_213 : t_ins 268 213 = some (.aload_n 0) := by decide +kernel
theorem i_268_214 : t_ins 268 214 = some (.iload 4) := by decide +kernel
theorem i_268_216 : t_ins 268 216 = some (.iconst 5) := by decide +kernel
theorem i_268_217 : t_ins 268 217 = some (.iadd) := by decide +kernel
theorem i_268_218 : t_ins 268 218 = some (.iaload) := by decide +kernel
theorem i_268_219 : t_ins 268 219 = some (.invokevirtual 106) := by decide +kernel
theorem i_268_222 : t_ins 268 222 = some (.aload_n 2) := by decide +kernel
theorem i_268_223 : t_ins 268 223 = some (.aload_n 0) := by decide +kernel
theorem i_268_224 : t_ins 268 224 = some (.iload 4) := by decide +kernel
theorem i_268_226 : t_ins 268 226 = some (.iconst 1) := by decide +kernel
theorem i_268_227 : t_ins 268 227 = some (.iadd) := by decide +kernel
theorem i_268_228 : t_ins 268 228 = some (.iaload) := by decide +kernel
theorem i_268_229 : t_ins 268 229 = some (.aload_n 0) := by decide +kernel
theorem i_268_230 : t_ins 268 230 = some (.iload 4) := by decide +kernel
theorem i_268_232 : t_ins 268 232 = some (.iconst 2) := by decide +kernel
theorem i_268_233 : t_ins 268 233 = some (.iadd) := by decide +kernel
theorem i_268_234 : t_ins 268 234 = some (.iaload) := by decide +kernel
theorem i_268_235 : t_ins 268 235 = some (.aload_n 0) := by decide +kernel
theorem i_268_236 : t_ins 268 236 = some (.iload 4) := by decide +kernel
theorem i_268_238 : t_ins 268 238 = some (.iconst 3) := by decide +kernel
theorem i_268_239 : t_ins 268 239 = some (.iadd) := by decide +kernel
theorem i_268_240 : t_ins 268 240 = some (.iaload) := by decide +kernel
theorem i_268_241 : t_ins 268 241 = some (.aload_n 0) := by decide +kernel
theorem i_268_242 : t_ins 268 242 = some (.iload 4) := by decide +kernel
theorem i_268_244 : t_ins 268 244 = some (.iconst 4) := by decide +kernel
theorem i_268_245 : t_ins 268 245 = some (.iadd) := by decide +kernel
theorem i_268_246 : t_ins 268 246 = some (.iaload) := by decide +kernel
theorem i_268_247 : t_ins 268 247 = some (.aload_n 0) := by decide +kernel
theorem i_268_248 : t_ins 268 248 = some (.iload 4) := by decide +kernel
theorem i_268_250 : t_ins 268 250 = some (.iconst 5) := by decide +kernel
theorem i_268_251 : t_ins 268 251 = some (.iadd) := by decide +kernel
theorem i_268_252 : t_ins 268 252 = some (.iaload) := by decide +kernel
theorem i_268_253 : t_ins 268 253 = some (.invokevirtual 110) := by decide +kernel
theorem i_268_256 : t_ins 268 256 = some (.if_icmp .eq 2032) := by decide +kernel
theorem i_268_259 : t_ins 268 259 = some (.iconst 0) := by decide +kernel
theorem i_268_260 : t_ins 268 260 = some (.ireturn) := by decide +kernel
theorem i_268_261 : t_ins 268 261 = some (.aload_n 1) := by decide +kernel
theorem i_268_262 : t_ins 268 262 = some (.aload_n 0) := by decide +kernel
theorem i_268_263 : t_ins 268 263 = some (.iload 4) := by decide +kernel
theorem i_268_265 : t_ins 268 265 = some (.iconst 1) := by decide +kernel
theorem i_268_266 : t_ins 268 266 = some (.iadd) := by decide +kernel
theorem i_268_267 : t_ins 268 267 = some (.iaload) := by decide +kernel
theorem i_268_268 : t_ins 268 268 = some (.aload_n 3) := by decide +kernel
theorem i_268_269 : t_ins 268 269 = some (.invokestatic 111) := by decide +kernel
theorem i_268_272 : t_ins 268 272 = some (.istore 5) := by decide +kernel
theorem i_268_274 : t_ins 268 274 = some (.aload_n 2) := by decide +kernel
theorem i_268_275 : t_ins 268 275 = some (.aload_n 0) := by decide +kernel
theorem i_268_276 : t_ins 268 276 = some (.iload 4) := by decide +kernel
theorem i_268_278 : t_ins 268 278 = some (.iconst 1) := by decide +kernel
theorem i_268_279 : t_ins 268 279 = some (.iadd) := by decide +kernel
theorem i_268_280 : t_ins 268 280 = some (.iaload) := by decide +kernel
theorem i_268_281 : t_ins 268 281 = some (.invokevirtual 116) := by decide +kernel
theorem i_268_284 : t_ins 268 284 = some (.istore 6) := by decide +kernel
theorem i_268_286 : t_ins 268 286 = some (.aload_n 2) := by decide +kernel
theorem i_268_287 : t_ins 268 287 = some (.invokevirtual 117) := by decide +kernel
theorem i_268_290 : t_ins 268 290 = some (.iload 5) := by decide +kernel
theorem i_268_292 : t_ins 268 292 = some (.if_icmp .eq 5) := by decide +kernel
theorem i_268_295 : t_ins 268 295 = some (.iconst 0) := by decide +kernel
theorem i_268_296 : t_ins 268 296 = some (.ireturn) := by decide +kernel
theorem i_268_297 : t_ins 268 297 = some (.iload 5) := by decide +kernel
theorem i_268_299 : t_ins 268 299 = some (.ifCond .ne 15) := by decide +kernel
theorem i_268_302 : t_ins 268 302 = some (.aload_n 3) := by decide +kernel
theorem i_268_303 : t_ins 268 303 = some (.iconst 0) := by decide +kernel
theorem i_268_304 : t_ins 268 304 = some (.laload) := by decide +kernel
theorem i_268_305 : t_ins 268 305 = some (.iload 6) := by decide +kernel
theorem i_268_307 : t_ins 268 307 = some (.i2l) := by decide +kernel
theorem i_268_308 : t_ins 268 308 = some (.lcmp) := by decide +kernel
theorem i_268_309 : t_ins 268 309 = some (.ifCond .eq 5) := by decide +kernel
theorem i_268_312 : t_ins 268 312 = some (.iconst 0) := by decide +kernel
theorem i_268_313 : t_ins 268 313 = some (.ireturn) := by decide +kernel
theorem i_268_314 : t_ins 268 314 = some (.goto 1974) := by decide +kernel
theorem i_268_317 : t_ins 268 317 = some (.aload_n 1) := by decide +kernel
theorem i_268_318 : t_ins 268 318 = some (.invokevirtual 121) := by decide +kernel
theorem i_268_321 : t_ins 268 321 = some (.aload_n 2) := by decide +kernel
theorem i_268_322 : t_ins 268 322 = some (.invokevirtual 124) := by decide +kernel
theorem i_268_325 : t_ins 268 325 = some (.if_icmp .eq 1963) := by decide +kernel
theorem i_268_328 : t_ins 268 328 = some (.iconst 0) := by decide +kernel
theorem i_268_329 : t_ins 268 329 = some (.ireturn) := by decide +kernel
theorem i_268_330 : t_ins 268 330 = some (.aload_n 1) := by decide +kernel
theorem i_268_331 : t_ins 268 331 = some (.aload_n 0) := by decide +kernel
theorem i_268_332 : t_ins 268 332 = some (.iload 4) := by decide +kernel
theorem i_268_334 : t_ins 268 334 = some (.iconst 1) := by decide +kernel
theorem i_268_335 : t_ins 268 335 = some (.iadd) := by decide +kernel
theorem i_268_336 : t_ins 268 336 = some (.iaload) := by decide +kernel
theorem i_268_337 : t_ins 268 337 = some (.aload_n 3) := by decide +kernel
theorem i_268_338 : t_ins 268 338 = some (.invokestatic 125) := by decide +kernel
theorem i_268_341 : t_ins 268 341 = some (.istore 5) := by decide +kernel
theorem i_268_343 : t_ins 268 343 = some (.aload_n 2) := by decide +kernel
theorem i_268_344 : t_ins 268 344 = some (.aload_n 0) := by decide +kernel
theorem i_268_345 : t_ins 268 345 = some (.iload 4) := by decide +kernel
theorem i_268_347 : t_ins 268 347 = some (.iconst 1) := by decide +kernel
theorem i_268_348 : t_ins 268 348 = some (.iadd) := by decide +kernel
theorem i_268_349 : t_ins 268 349 = some (.iaload) := by decide +kernel
theorem i_268_350 : t_ins 268 350 = some (.invokevirtual 127) := by decide +kernel
theorem i_268_353 : t_ins 268 353 = some (.istore 6) := by decide +kernel
theorem i_268_355 : t_ins 268 355 = some (.aload_n 2) := by decide +kernel
theorem i_268_356 : t_ins 268 356 = some (.invokevirtual 117) := by decide +kernel
theorem i_268_359 : t_ins 268 359 = some (.iload 5) := by decide +kernel
theorem i_268_361 : t_ins 268 361 = some (.if_icmp .eq 5) := by decide +kernel
theorem i_268_364 : t_ins 268 364 = some (.iconst 0) := by decide +kernel
theorem i_268_365 : t_ins 268 365 = some (.ireturn) := by decide +kernel
theorem i_268_366 : t_ins 268 366 = some (.iload 5) := by decide +kernel
theorem i_268_368 : t_ins 268 368 = some (.ifCond .ne 15) := by decide +kernel
theorem i_268_371 : t_ins 268 371 = some (.aload_n 3) := by decide +kernel
theorem i_268_372 : t_ins 268 372 = some (.iconst 0) := by decide +kernel
theorem i_268_373 : t_ins 268 373 = some (.laload) := by decide +kernel
theorem i_268_374 : t_ins 268 374 = some (.iload 6) := by decide +kernel
theorem i_268_376 : t_ins 268 376 = some (.i2l) := by decide +kernel
theorem i_268_377 : t_ins 268 377 = some (.lcmp) := by decide +kernel
theorem i_268_378 : t_ins 268 378 = some (.ifCond .eq 5) := by decide +kernel
theorem i_268_381 : t_ins 268 381 = some (.iconst 0) := by decide +kernel
theorem i_268_382 : t_ins 268 382 = some (.ireturn) := by decide +kernel
theorem i_268_383 : t_ins 268 383 = some (.goto 1905) := by decide +kernel
theorem i_268_386 : t_ins 268 386 = some (.aload_n 1) := by decide +kernel
theorem i_268_387 : t_ins 268 387 = some (.aload_n 0) := by decide +kernel
theorem i_268_388 : t_ins 268 388 = some (.iload 4) := by decide +kernel
theorem i_268_390 : t_ins 268 390 = some (.iconst 1) := by decide +kernel
theorem i_268_391 : t_ins 268 391 = some (.iadd) := by decide +kernel
theorem i_268_392 : t_ins 268 392 = some (.iaload) := by decide +kernel
theorem i_268_393 : t_ins 268 393 = some (.aload_n 3) := by decide +kernel
theorem i_268_394 : t_ins 268 394 = some (.invokestatic 128) := by decide +kernel
theorem i_268_397 : t_ins 268 397 = some (.istore 5) := by decide +kernel
theorem i_268_399 : t_ins 268 399 = some (.aload_n 2) := by decide +kernel
theorem i_268_400 : t_ins 268 400 = some (.aload_n 0) := by decide +kernel
theorem i_268_401 : t_ins 268 401 = some (.iload 4) := by decide +kernel
theorem i_268_403 : t_ins 268 403 = some (.iconst 1) := by decide +kernel
theorem i_268_404 : t_ins 268 404 = some (.iadd) := by decide +kernel
theorem i_268_405 : t_ins 268 405 = some (.iaload) := by decide +kernel
theorem i_268_406 : t_ins 268 406 = some (.invokevirtual 130) := by decide +kernel
theorem i_268_409 : t_ins 268 409 = some (.istore 6) := by decide +kernel
theorem i_268_411 : t_ins 268 411 = some (.aload_n 2) := by decide +kernel
theorem i_268_412 : t_ins 268 412 = some (.invokevirtual 117) := by decide +kernel
theorem i_268_415 : t_ins 268 415 = some (.iload 5) := by decide +kernel
theorem i_268_417 : t_ins 268 417 = some (.if_icmp .eq 5) := by decide +kernel
theorem i_268_420 : t_ins 268 420 = some (.iconst 0) := by decide +kernel
theorem i_268_421 : t_ins 268 421 = some (.ireturn) := by decide +kernel
theorem i_268_422 : t_ins 268 422 = some (.iload 5) := by decide +kernel
theorem i_268_424 : t_ins 268 424 = some (.ifCond .ne 15) := by decide +kernel
theorem i_268_427 : t_ins 268 427 = some (.aload_n 3) := by decide +kernel
theorem i_268_428 : t_ins 268 428 = some (.iconst 0) := by decide +kernel
theorem i_268_429 : t_ins 268 429 = some (.laload) := by decide +kernel
theorem i_268_430 : t_ins 268 430 = some (.iload 6) := by decide +kernel
theorem i_268_432 : t_ins 268 432 = some (.i2l) := by decide +kernel
theorem i_268_433 : t_ins 268 433 = some (.lcmp) := by decide +kernel
theorem i_268_434 : t_ins 268 434 = some (.ifCond .eq 5) := by decide +kernel
theorem i_268_437 : t_ins 268 437 = some (.iconst 0) := by decide +kernel
theorem i_268_438 : t_ins 268 438 = some (.ireturn) := by decide +kernel
theorem i_268_439 : t_ins 268 439 = some (.goto 1849) := by decide +kernel
theorem i_268_442 : t_ins 268 442 = some (.aload_n 1) := by decide +kernel
theorem i_268_443 : t_ins 268 443 = some (.aload_n 0) := by decide +kernel
theorem i_268_444 : t_ins 268 444 = some (.iload 4) := by decide +kernel
theorem i_268_446 : t_ins 268 446 = some (.iconst 1) := by decide +kernel
theorem i_268_447 : t_ins 268 447 = some (.iadd) := by decide +kernel
theorem i_268_448 : t_ins 268 448 = some (.iaload) := by decide +kernel
theorem i_268_449 : t_ins 268 449 = some (.aload_n 0) := by decide +kernel
theorem i_268_450 : t_ins 268 450 = some (.iload 4) := by decide +kernel
theorem i_268_452 : t_ins 268 452 = some (.iconst 2) := by decide +kernel
theorem i_268_453 : t_ins 268 453 = some (.iadd) := by decide +kernel
theorem i_268_454 : t_ins 268 454 = some (.iaload) := by decide +kernel
theorem i_268_455 : t_ins 268 455 = some (.aload_n 3) := by decide +kernel
theorem i_268_456 : t_ins 268 456 = some (.invokestatic 131) := by decide +kernel
theorem i_268_459 : t_ins 268 459 = some (.istore 5) := by decide +kernel
theorem i_268_461 : t_ins 268 461 = some (.aload_n 2) := by decide +kernel
theorem i_268_462 : t_ins 268 462 = some (.aload_n 0) := by decide +kernel
theorem i_268_463 : t_ins 268 463 = some (.iload 4) := by decide +kernel
theorem i_268_465 : t_ins 268 465 = some (.iconst 1) := by decide +kernel
theorem i_268_466 : t_ins 268 466 = some (.iadd) := by decide +kernel
theorem i_268_467 : t_ins 268 467 = some (.iaload) := by decide +kernel
theorem i_268_468 : t_ins 268 468 = some (.aload_n 0) := by decide +kernel
theorem i_268_469 : t_ins 268 469 = some (.iload 4) := by decide +kernel
theorem i_268_471 : t_ins 268 471 = some (.iconst 2) := by decide +kernel
theorem i_268_472 : t_ins 268 472 = some (.iadd) := by decide +kernel
theorem i_268_473 : t_ins 268 473 = some (.iaload) := by decide +kernel
theorem i_268_474 : t_ins 268 474 = some (.invokevirtual 134) := by decide +kernel
theorem i_268_477 : t_ins 268 477 = some (.istore 6) := by decide +kernel
theorem i_268_479 : t_ins 268 479 = some (.aload_n 2) := by decide +kernel
theorem i_268_480 : t_ins 268 480 = some (.invokevirtual 117) := by decide +kernel
theorem i_268_483 : t_ins 268 483 = some (.iload 5) := by decide +kernel
theorem i_268_485 : t_ins 268 485 = some (.if_icmp .eq 5) := by decide +kernel
theorem i_268_488 : t_ins 268 488 = some (.iconst 0) := by decide +kernel
theorem i_268_489 : t_ins 268 489 = some (.ireturn) := by decide +kernel
theorem i_268_490 : t_ins 268 490 = some (.iload 5) := by decide +kernel
theorem i_268_492 : t_ins 268 492 = some (.ifCond .ne 15) := by decide +kernel
theorem i_268_495 : t_ins 268 495 = some (.aload_n 3) := by decide +kernel
theorem i_268_496 : t_ins 268 496 = some (.iconst 0) := by decide +kernel
theorem i_268_497 : t_ins 268 497 = some (.laload) := by decide +kernel
theorem i_268_498 : t_ins 268 498 = some (.iload 6) := by decide +kernel
theorem i_268_500 : t_ins 268 500 = some (.i2l) := by decide +kernel
theorem i_268_501 : t_ins 268 501 = some (.lcmp) := by decide +kernel
theorem i_268_502 : t_ins 268 502 = some (.ifCond .eq 5) := by decide +kernel
theorem i_268_505 : t_ins 268 505 = some (.iconst 0) := by decide +kernel
theorem i_268_506 : t_ins 268 506 = some (.ireturn) := by decide +kernel
theorem i_268_507 : t_ins 268 507 = some (.goto 1781) := by decide +kernel
theorem i_268_510 : t_ins 268 510 = some (.aload_n 1) := by decide +kernel
theorem i_268_511 : t_ins 268 511 = some (.aload_n 0) := by decide +kernel
theorem i_268_512 : t_ins 268 512 = some (.iload 4) := by decide +kernel
theorem i_268_514 : t_ins 268 514 = some (.iconst 1) := by decide +kernel
theorem i_268_515 : t_ins 268 515 = some (.iadd) := by decide +kernel
theorem i_268_516 : t_ins 268 516 = some (.iaload) := by decide +kernel
theorem i_268_517 : t_ins 268 517 = some (.aload_n 0) := by decide +kernel
theorem i_268_518 : t_ins 268 518 = some (.iload 4) := by decide +kernel
theorem i_268_520 : t_ins 268 520 = some (.iconst 2) := by decide +kernel
theorem i_268_521 : t_ins 268 521 = some (.iadd) := by decide +kernel
theorem i_268_522 : t_ins 268 522 = some (.iaload) := by decide +kernel
theorem i_268_523 : t_ins 268 523 = some (.aload_n 3) := by decide +kernel
theorem i_268_524 : t_ins 268 524 = some (.invokestatic 135) := by decide +kernel
theorem i_268_527 : t_ins 268 527 = some (.istore 5) := by decide +kernel
theorem i_268_529 : t_ins 268 529 = some (.aload_n 2) := by decide +kernel
theorem i_268_530 : t_ins 268 530 = some (.aload_n 0) := by decide +kernel
theorem i_268_531 : t_ins 268 531 = some (.iload 4) := by decide +kernel
theorem i_268_533 : t_ins 268 533 = some (.iconst 1) := by decide +kernel
theorem i_268_534 : t_ins 268 534 = some (.iadd) := by decide +kernel
theorem i_268_535 : t_ins 268 535 = some (.iaload) := by decide +kernel
theorem i_268_536 : t_ins 268 536 = some (.aload_n 0) := by decide +kernel
theorem i_268_537 : t_ins 268 537 = some (.iload 4) := by decide +kernel
theorem i_268_539 : t_ins 268 539 = some (.iconst 2) := by decide +kernel
theorem i_268_540 : t_ins 268 540 = some (.iadd) := by decide +kernel
theorem i_268_541 : t_ins 268 541 = some (.iaload) := by decide +kernel
theorem i_268_542 : t_ins 268 542 = some (.invokevirtual 137) := by decide +kernel
theorem i_268_545 : t_ins 268 545 = some (.istore 6) := by decide +kernel
theorem i_268_547 : t_ins 268 547 = some (.aload_n 2) := by decide +kernel
theorem i_268_548 : t_ins 268 548 = some (.invokevirtual 117) := by decide +kernel
theorem i_268_551 : t_ins 268 551 = some (.iload 5) := by decide +kernel
theorem i_268_553 : t_ins 268 553 = some (.if_icmp .eq 5) := by decide +kernel
theorem i_268_556 : t_ins 268 556 = some (.iconst 0) := by decide +kernel
theorem i_268_557 : t_ins 268 557 = some (.ireturn) := by decide +kernel
theorem i_268_558 : t_ins 268 558 = some (.iload 5) := by decide +kernel
theorem i_268_560 : t_ins 268 560 = some (.ifCond .ne 15) := by decide +kernel
theorem i_268_563 : t_ins 268 563 = some (.aload_n 3) := by decide +kernel
theorem i_268_564 : t_ins 268 564 = some (.iconst 0) := by decide +kernel
theorem i_268_565 : t_ins 268 565 = some (.laload) := by decide +kernel
theorem i_268_566 : t_ins 268 566 = some (.iload 6) := by decide +kernel
theorem i_268_568 : t_ins 268 568 = some (.i2l) := by decide +kernel
theorem i_268_569 : t_ins 268 569 = some (.lcmp) := by decide +kernel
theorem i_268_570 : t_ins 268 570 = some (.ifCond .eq 5) := by decide +kernel
theorem i_268_573 : t_ins 268 573 = some (.iconst 0) := by decide +kernel
theorem i_268_574 : t_ins 268 574 = some (.ireturn) := by decide +kernel
theorem i_268_575 : t_ins 268 575 = some (.goto 1713) := by decide +kernel
theorem i_268_578 : t_ins 268 578 = some (.aload_n 1) := by decide +kernel
theorem i_268_579 : t_ins 268 579 = some (.invokevirtual 138) := by decide +kernel
theorem i_268_582 : t_ins 268 582 = some (.aload_n 2) := by decide +kernel
theorem i_268_583 : t_ins 268 583 = some (.invokevirtual 141) := by decide +kernel
theorem i_268_586 : t_ins 268 586 = some (.if_icmp .eq 1702) := by decide +kernel
theorem i_268_589 : t_ins 268 589 = some (.iconst 0) := by decide +kernel
theorem i_268_590 : t_ins 268 590 = some (.ireturn) := by decide +kernel
theorem i_268_591 : t_ins 268 591 = some (.aload_n 1) := by decide +kernel
theorem i_268_592 : t_ins 268 592 = some (.aload_n 0) := by decide +kernel
theorem i_268_593 : t_ins 268 593 = some (.iload 4) := by decide +kernel
theorem i_268_595 : t_ins 268 595 = some (.iconst 1) := by decide +kernel
theorem i_268_596 : t_ins 268 596 = some (.iadd) := by decide +kernel
theorem i_268_597 : t_ins 268 597 = some (.iaload) := by decide +kernel
theorem i_268_598 : t_ins 268 598 = some (.aload_n 3) := by decide +kernel
theorem i_268_599 : t_ins 268 599 = some (.invokestatic 142) := by decide +kernel
theorem i_268_602 : t_ins 268 602 = some (.istore 5) := by decide +kernel
theorem i_268_604 : t_ins 268 604 = some (.aload_n 2) := by decide +kernel
theorem i_268_605 : t_ins 268 605 = some (.aload_n 0) := by decide +kernel
theorem i_268_606 : t_ins 268 606 = some (.iload 4) := by decide +kernel
theorem i_268_608 : t_ins 268 608 = some (.iconst 1) := by decide +kernel
theorem i_268_609 : t_ins 268 609 = some (.iadd) := by decide +kernel
theorem i_268_610 : t_ins 268 610 = some (.iaload) := by decide +kernel
theorem i_268_611 : t_ins 268 611 = some (.invokevirtual 144) := by decide +kernel
theorem i_268_614 : t_ins 268 614 = some (.istore 6) := by decide +kernel
theorem i_268_616 : t_ins 268 616 = some (.aload_n 2) := by decide +kernel
theorem i_268_617 : t_ins 268 617 = some (.invokevirtual 117) := by decide +kernel
theorem i_268_620 : t_ins 268 620 = some (.iload 5) := by decide +kernel
theorem i_268_622 : t_ins 268 622 = some (.if_icmp .eq 5) := by decide +kernel
theorem i_268_625 : t_ins 268 625 = some (.iconst 0) := by decide +kernel
theorem i_268_626 : t_ins 268 626 = some (.ireturn) := by decide +kernel
theorem i_268_627 : t_ins 268 627 = some (.iload 5) := by decide +kernel
theorem i_268_629 : t_ins 268 629 = some (.ifCond .ne 15) := by decide +kernel
theorem i_268_632 : t_ins 268 632 = some (.aload_n 3) := by decide +kernel
theorem i_268_633 : t_ins 268 633 = some (.iconst 0) := by decide +kernel
theorem i_268_634 : t_ins 268 634 = some (.laload) := by decide +kernel
theorem i_268_635 : t_ins 268 635 = some (.iload 6) := by decide +kernel
theorem i_268_637 : t_ins 268 637 = some (.i2l) := by decide +kernel
theorem i_268_638 : t_ins 268 638 = some (.lcmp) := by decide +kernel
theorem i_268_639 : t_ins 268 639 = some (.ifCond .eq 5) := by decide +kernel
theorem i_268_642 : t_ins 268 642 = some (.iconst 0) := by decide +kernel
theorem i_268_643 : t_ins 268 643 = some (.ireturn) := by decide +kernel
theorem i_268_644 : t_ins 268 644 = some (.goto 1644) := by decide +kernel
theorem i_268_647 : t_ins 268 647 = some (.aload_n 1) := by decide +kernel
theorem i_268_648 : t_ins 268 648 = some (.aload_n 0) := by decide +kernel
theorem i_268_649 : t_ins 268 649 = some (.iload 4) := by decide +kernel
theorem i_268_651 : t_ins 268 651 = some (.iconst 1) := by decide +kernel
theorem i_268_652 : t_ins 268 652 = some (.iadd) := by decide +kernel
theorem i_268_653 : t_ins 268 653 = some (.iaload) := by decide +kernel
theorem i_268_654 : t_ins 268 654 = some (.aload_n 0) := by decide +kernel
theorem i_268_655 : t_ins 268 655 = some (.iload 4) := by decide +kernel
theorem i_268_657 : t_ins 268 657 = some (.iconst 2) := by decide +kernel
theorem i_268_658 : t_ins 268 658 = some (.iadd) := by decide +kernel
theorem i_268_659 : t_ins 268 659 = some (.iaload) := by decide +kernel
theorem i_268_660 : t_ins 268 660 = some (.aload_n 0) := by decide +kernel
theorem i_268_661 : t_ins 268 661 = some (.iload 4) := by decide +kernel
theorem i_268_663 : t_ins 268 663 = some (.iconst 3) := by decide +kernel
theorem i_268_664 : t_ins 268 664 = some (.iadd) := by decide +kernel
theorem i_268_665 : t_ins 268 665 = some (.iaload) := by decide +kernel
theorem i_268_666 : t_ins 268 666 = some (.aload_n 3) := by decide +kernel
theorem i_268_667 : t_ins 268 667 = some (.invokestatic 145) := by decide +kernel
theorem i_268_670 : t_ins 268 670 = some (.istore 5) := by decide +kernel
theorem i_268_672 : t_ins 268 672 = some (.aload_n 2) := by decide +kernel
theorem i_268_673 : t_ins 268 673 = some (.aload_n 0) := by decide +kernel
theorem i_268_674 : t_ins 268 674 = some (.iload 4) := by decide +kernel
theorem i_268_676 : t_ins 268 676 = some (.iconst 1) := by decide +kernel
theorem i_268_677 : t_ins 268 677 = some (.iadd) := by decide +kernel
theorem i_268_678 : t_ins 268 678 = some (.iaload) := by decide +kernel
theorem i_268_679 : t_ins 268 679 = some (.aload_n 0) := by decide +kernel
theorem i_268_680 : t_ins 268 680 = some (.iload 4) := by decide +kernel
theorem i_268_682 : t_ins 268 682 = some (.iconst 2) := by decide +kernel
theorem i_268_683 : t_ins 268 683 = some (.iadd) := by decide +kernel
theorem i_268_684 : t_ins 268 684 = some (.iaload) := by decide +kernel
theorem i_268_685 : t_ins 268 685 = some (.aload_n 0) := by decide +kernel
theorem i_268_686 : t_ins 268 686 = some (.iload 4) := by decide +kernel
theorem i_268_688 : t_ins 268 688 = some (.iconst 3) := by decide +kernel
theorem i_268_689 : t_ins 268 689 = some (.iadd) := by decide +kernel
theorem i_268_690 : t_ins 268 690 = some (.iaload) := by decide +kernel
theorem i_268_691 : t_ins 268 691 = some (.invokevirtual 148) := by decide +kernel
theorem i_268_694 : t_ins 268 694 = some (.istore 6) := by decide +kernel
theorem i_268_696 : t_ins 268 696 = some (.aload_n 2) := by decide +kernel
theorem i_268_697 : t_ins 268 697 = some (.invokevirtual 117) := by decide +kernel
theorem i_268_700 : t_ins 268 700 = some (.iload 5) := by decide +kernel
theorem i_268_702 : t_ins 268 702 = some (.if_icmp .eq 5) := by decide +kernel
theorem i_268_705 : t_ins 268 705 = some (.iconst 0) := by decide +kernel
theorem i_268_706 : t_ins 268 706 = some (.ireturn) := by decide +kernel
theorem i_268_707 : t_ins 268 707 = some (.iload 5) := by decide +kernel
theorem i_268_709 : t_ins 268 709 = some (.ifCond .ne 15) := by decide +kernel
theorem i_268_712 : t_ins 268 712 = some (.aload_n 3) := by decide +kernel
theorem i_268_713 : t_ins 268 713 = some (.iconst 0) := by decide +kernel
theorem i_268_714 : t_ins 268 714 = some (.laload) := by decide +kernel
theorem i_268_715 : t_ins 268 715 = some (.iload 6) := by decide +kernel
theorem i_268_717 : t_ins 268 717 = some (.i2l) := by decide +kernel
theorem i_268_718 : t_ins 268 718 = some (.lcmp) := by decide +kernel
theorem i_268_719 : t_ins 268 719 = some (.ifCond .eq 5) := by decide +kernel
theorem i_268_722 : t_ins 268 722 = some (.iconst 0) := by decide +kernel
theorem i_268_723 : t_ins 268 723 = some (.ireturn) := by decide +kernel
theorem i_268_724 : t_ins 268 724 = some (.goto 1564) := by decide +kernel
theorem i_268_727 : t_ins 268 727 = some (.aload_n 1) := by decide +kernel
theorem i_268_728 : t_ins 268 728 = some (.aload_n 0) := by decide +kernel
theorem i_268_729 : t_ins 268 729 = some (.iload 4) := by decide +kernel
theorem i_268_731 : t_ins 268 731 = some (.iconst 1) := by decide +kernel
theorem i_268_732 : t_ins 268 732 = some (.iadd) := by decide +kernel
theorem i_268_733 : t_ins 268 733 = some (.iaload) := by decide +kernel
theorem i_268_734 : t_ins 268 734 = some (.aload_n 0) := by decide +kernel
theorem i_268_735 : t_ins 268 735 = some (.iload 4) := by decide +kernel
theorem i_268_737 : t_ins 268 737 = some (.iconst 2) := by decide +kernel
theorem i_268_738 : t_ins 268 738 = some (.iadd) := by decide +kernel
theorem i_268_739 : t_ins 268 739 = some (.iaload) := by decide +kernel
theorem i_268_740 : t_ins 268 740 = some (.aload_n 0) := by decide +kernel
theorem i_268_741 : t_ins 268 741 = some (.iload 4) := by decide +kernel
theorem i_268_743 : t_ins 268 743 = some (.iconst 3) := by decide +kernel
theorem i_268_744 : t_ins 268 744 = some (.iadd) := by decide +kernel
theorem i_268_745 : t_ins 268 745 = some (.iaload) := by decide +kernel
theorem i_268_746 : t_ins 268 746 = some (.aload_n 0) := by decide +kernel
theorem i_268_747 : t_ins 268 747 = some (.iload 4) := by decide +kernel
theorem i_268_749 : t_ins 268 749 = some (.iconst 4) := by decide +kernel
theorem i_268_750 : t_ins 268 750 = some (.iadd) := by decide +kernel
theorem i_268_751 : t_ins 268 751 = some (.iaload) := by decide +kernel
theorem i_268_752 : t_ins 268 752 = some (.aload_n 3) := by decide +kernel
theorem i_268_753 : t_ins 268 753 = some (.invokestatic 149) := by decide +kernel
theorem i_268_756 : t_ins 268 756 = some (.istore 5) := by decide +kernel
theorem i_268_758 : t_ins 268 758 = some (.aload_n 2) := by decide +kernel
theorem i_268_759 : t_ins 268 759 = some (.aload_n 0) := by decide +kernel
theorem i_268_760 : t_ins 268 760 = some (.iload 4) := by decide +kernel
theorem i_268_762 : t_ins 268 762 = some (.iconst 1) := by decide +kernel
theorem i_268_763 : t_ins 268 763 = some (.iadd) := by decide +kernel
theorem i_268_764 : t_ins 268 764 = some (.iaload) := by decide +kernel
theorem i_268_765 : t_ins 268 765 = some (.aload_n 0) := by decide +kernel
theorem i_268_766 : t_ins 268 766 = some (.iload 4) := by decide +kernel
theorem i_268_768 : t_ins 268 768 = some (.iconst 2) := by decide +kernel
theorem i_268_769 : t_ins 268 769 = some (.iadd) := by decide +kernel
theorem i_268_770 : t_ins 268 770 = some (.iaload) := by decide +kernel
theorem i_268_771 : t_ins 268 771 = some (.aload_n 0) := by decide +kernel
theorem i_268_772 : t_ins 268 772 = some (.iload 4) := by decide +kernel
theorem i_268_774 : t_ins 268 774 = some (.iconst 3) := by decide +kernel
theorem i_268_775 : t_ins 268 775 = some (.iadd) := by decide +kernel
theorem i_268_776 : t_ins 268 776 = some (.iaload) := by decide +kernel
theorem i_268_777 : t_ins 268 777 = some (.aload_n 0) := by decide +kernel
theorem i_268_778 : t_ins 268 778 = some (.iload 4) := by decide +kernel
theorem i_268_780 : t_ins 268 780 = some (.iconst 4) := by decide +kernel
theorem i_268_781 : t_ins 268 781 = some (.iadd) := by decide +kernel
theorem i_268_782 : t_ins 268 782 = some (.iaload) := by decide +kernel
theorem i_268_783 : t_ins 268 783 = some (.invokevirtual 152) := by decide +kernel
theorem i_268_786 : t_ins 268 786 = some (.istore 6) := by decide +kernel
theorem i_268_788 : t_ins 268 788 = some (.aload_n 2) := by decide +kernel
theorem i_268_789 : t_ins 268 789 = some (.invokevirtual 117) := by decide +kernel
theorem i_268_792 : t_ins 268 792 = some (.iload 5) := by decide +kernel
theorem i_268_794 : t_ins 268 794 = some (.if_icmp .eq 5) := by decide +kernel
theorem i_268_797 : t_ins 268 797 = some (.iconst 0) := by decide +kernel
theorem i_268_798 : t_ins 268 798 = some (.ireturn) := by decide +kernel
theorem i_268_799 : t_ins 268 799 = some (.iload 5) := by decide +kernel
theorem i_268_801 : t_ins 268 801 = some (.ifCond .ne 15) := by decide +kernel
theorem i_268_804 : t_ins 268 804 = some (.aload_n 3) := by decide +kernel
theorem i_268_805 : t_ins 268 805 = some (.iconst 0) := by decide +kernel
theorem i_268_806 : t_ins 268 806 = some (.laload) := by decide +kernel
theorem i_268_807 : t_ins 268 807 = some (.iload 6) := by decide +kernel
theorem i_268_809 : t_ins 268 809 = some (.i2l) := by decide +kernel
theorem i_268_810 : t_ins 268 810 = some (.lcmp) := by decide +kernel
theorem i_268_811 : t_ins 268 811 = some (.ifCond .eq 5) := by decide +kernel
theorem i_268_814 : t_ins 268 814 = some (.iconst 0) := by decide +kernel
theorem i_268_815 : t_ins 268 815 = some (.ireturn) := by decide +kernel
theorem i_268_816 : t_ins 268 816 = some (.goto 1472) := by decide +kernel
theorem i_268_819 : t_ins 268 819 = some (.aload_n 1) := by decide +kernel
theorem i_268_820 : t_ins 268 820 = some (.aload_n 0) := by decide +kernel
theorem i_268_821 : t_ins 268 821 = some (.iload 4) := by decide +kernel
theorem i_268_823 : t_ins 268 823 = some (.iconst 1) := by decide +kernel
theorem i_268_824 : t_ins 268 824 = some (.iadd) := by decide +kernel
theorem i_268_825 : t_ins 268 825 = some (.iaload) := by decide +kernel
theorem i_268_826 : t_ins 268 826 = some (.aload_n 0) := by decide +kernel
theorem i_268_827 : t_ins 268 827 = some (.iload 4) := by decide +kernel
theorem i_268_829 : t_ins 268 829 = some (.iconst 2) := by decide +kernel
theorem i_268_830 : t_ins 268 830 = some (.iadd) := by decide +kernel
theorem i_268_831 : t_ins 268 831 = some (.iaload) := by decide +kernel
theorem i_268_832 : t_ins 268 832 = some (.aload_n 3) := by decide +kernel
theorem i_268_833 : t_ins 268 833 = some (.invokestatic 153) := by decide +kernel
theorem i_268_836 : t_ins 268 836 = some (.istore 5) := by decide +kernel
theorem i_268_838 : t_ins 268 838 = some (.aload_n 2) := by decide +kernel
theorem i_268_839 : t_ins 268 839 = some (.aload_n 0) := by decide +kernel
theorem i_268_840 : t_ins 268 840 = some (.iload 4) := by decide +kernel
theorem i_268_842 : t_ins 268 842 = some (.iconst 1) := by decide +kernel
theorem i_268_843 : t_ins 268 843 = some (.iadd) := by decide +kernel
theorem i_268_844 : t_ins 268 844 = some (.iaload) := by decide +kernel
theorem i_268_845 : t_ins 268 845 = some (.aload_n 0) := by decide +kernel
theorem i_268_846 : t_ins 268 846 = some (.iload 4) := by decide +kernel
theorem i_268_848 : t_ins 268 848 = some (.iconst 2) := by decide +kernel
theorem i_268_849 : t_ins 268 849 = some (.iadd) := by decide +kernel
theorem i_268_850 : t_ins 268 850 = some (.iaload) := by decide +kernel
theorem i_268_851 : t_ins 268 851 = some (.invokevirtual 155) := by decide +kernel
theorem i_268_854 : t_ins 268 854 = some (.istore 6) := by decide +kernel
theorem i_268_856 : t_ins 268 856 = some (.aload_n 2) := by decide +kernel
theorem i_268_857 : t_ins 268 857 = some (.invokevirtual 117) := by decide +kernel
theorem i_268_860 : t_ins 268 860 = some (.iload 5) := by decide +kernel
theorem i_268_862 : t_ins 268 862 = some (.if_icmp .eq 5) := by decide +kernel
theorem i_268_865 : t_ins 268 865 = some (.iconst 0) := by decide +kernel
theorem i_268_866 : t_ins 268 866 = some (.ireturn) := by decide +kernel
theorem i_268_867 : t_ins 268 867 = some (.iload 5) := by decide +kernel
theorem i_268_869 : t_ins 268 869 = some (.ifCond .ne 15) := by decide +kernel
theorem i_268_872 : t_ins 268 872 = some (.aload_n 3) := by decide +kernel
theorem i_268_873 : t_ins 268 873 = some (.iconst 0) := by decide +kernel
theorem i_268_874 : t_ins 268 874 = some (.laload) := by decide +kernel
theorem i_268_875 : t_ins 268 875 = some (.iload 6) := by decide +kernel
theorem i_268_877 : t_ins 268 877 = some (.i2l) := by decide +kernel
theorem i_268_878 : t_ins 268 878 = some (.lcmp) := by decide +kernel
theorem i_268_879 : t_ins 268 879 = some (.ifCond .eq 5) := by decide +kernel
theorem i_268_882 : t_ins 268 882 = some (.iconst 0) := by decide +kernel
theorem i_268_883 : t_ins 268 883 = some (.ireturn) := by decide +kernel
theorem i_268_884 : t_ins 268 884 = some (.goto 1404) := by decide +kernel
theorem i_268_887 : t_ins 268 887 = some (.aload_n 1) := by decide +kernel
theorem i_268_888 : t_ins 268 888 = some (.aload_n 0) := by decide +kernel
theorem i_268_889 : t_ins 268 889 = some (.iload 4) := by decide +kernel
theorem i_268_891 : t_ins 268 891 = some (.iconst 1) := by decide +kernel
theorem i_268_892 : t_ins 268 892 = some (.iadd) := by decide +kernel
theorem i_268_893 : t_ins 268 893 = some (.iaload) := by decide +kernel
theorem i_268_894 : t_ins 268 894 = some (.aload_n 0) := by decide +kernel
theorem i_268_895 : t_ins 268 895 = some (.iload 4) := by decide +kernel
theorem i_268_897 : t_ins 268 897 = some (.iconst 2) := by decide +kernel
theorem q_268_3 : XX d 268 3 [v0, v1, v2, v3, v4, v5, v6, v7] (.ref a1 :: st) A Q ↔ XX d 268 4 [v0, v1, v2, v3, v4, v5, v6, v7] (.ref a1 :: .ref a1 :: st) A Q := c_stk i_268_3 rfl
theorem q_268_7 : XX d 268 7 [some (.ref b), v1, v2, v3, v4, v5, v6, v7] (.ref a :: st) A Q ↔ XX d 268 8 [some (.ref b), some (.ref a), v2, v3, v4, v5, v6, v7] st A Q := c_lcl i_268_7 rfl rfl
theorem q_268_11 : XX d 268 11 [v0, v1, v2, v3, v4, v5, v6, v7] (.ref a1 :: st) A Q ↔ XX d 268 12 [v0, v1, v2, v3, v4, v5, v6, v7] (.ref a1 :: .ref a1 :: st) A Q := c_stk i_268_11 rfl
theorem q_268_15 : XX d 268 15 [v0, some (.ref b), v2, v3, v4, v5, v6, v7] (.ref a :: st) A Q ↔ XX d 268 16 [v0, some (.ref b), some (.ref a), v3, v4, v5, v6, v7] st A Q := c_lcl i_268_15 rfl rfl
theorem q_268_16 : XX d 268 16 [v0, v1, v2, v3, v4, v5, v6, v7] st A Q ↔ XX d 268 17 [v0, v1, v2, v3, v4, v5, v6, v7] (.int (w 1) :: st) A Q := c_stk i_268_16 rfl
theorem q_268_19 : XX d 268 19 [v0, v1, some (.ref b), v3, v4, v5, v6, v7] (.ref a :: st) A Q ↔ XX d 268 20 [v0, v1, some (.ref b), some (.ref a), v4, v5, v6, v7] st A Q := c_lcl i_268_19 rfl rfl
theorem q_268_20 : XX d 268 20 [v0, v1, v2, v3, v4, v5, v6, v7] st A Q ↔ XX d 268 21 [v0, v1, v2, v3, v4, v5, v6, v7] (.int (w 0) :: st) A Q := c_stk i_268_20 rfl
theorem q_268_21 : XX d 268 21 [v0, v1, v2, some (.ref b), v4, v5, v6, v7] (.int x :: st) A Q ↔ XX d 268 23 [v0, v1, v2, some (.ref b), some (.int x), v5, v6, v7] st A Q := c_lcl i_268_21 rfl rfl
theorem q_268_23 : XX d 268 23 [v0, v1, v2, v3, some (.int x), v5, v6, v7] st A Q ↔ XX d 268 25 [v0, v1, v2, v3, some (.int x), v5, v6, v7] (.int x :: st) A Q := c_lcl i_268_23 rfl rfl
theorem q_268_25 : XX d 268 25 [some (.ref a), v1, v2, v3, v4, v5, v6, v7] st A Q ↔ XX d 268 26 [some (.ref a), v1, v2, v3, v4, v5, v6, v7] (.ref a :: st) A Q := c_lcl i_268_25 rfl rfl
theorem q_268_26 : XX d 268 26 [v0, v1, v2, v3, v4, v5, v6, v7] (.ref a :: st) (mk S I L R G) Q ↔ alP (S a) (fun n => XX d 268 27 [v0, v1, v2, v3, v4, v5, v6, v7] (.int n :: st) (mk S I L R G) Q) := r_al i_268_26
theorem q_268_27 : XX d 268 27 [v0, v1, v2, v3, v4, v5, v6, v7] st A Q ↔ XX d 268 29 [v0, v1, v2, v3, v4, v5, v6, v7] (.int (w 6) :: st) A Q := c_stk i_268_27 rfl
theorem q_268_29 : XX d 268 29 [v0, v1, v2, v3, v4, v5, v6, v7] (.int y :: .int x :: st) A Q ↔ XX d 268 30 [v0, v1, v2, v3, v4, v5, v6, v7] (.int (x - y) :: st) A Q := c_stk i_268_29 rfl
theorem q_268_30 : XX d 268 30 [v0, v1, v2, v3, v4, v5, v6, v7] (.int y :: .int x :: st) A Q ↔ if y < x then XX d 268 2294 [v0, v1, v2, v3, v4, v5, v6, v7] st A Q else XX d 268 33 [v0, v1, v2, v3, v4, v5, v6, v7] st A Q := b_gt i_268_30 rfl rfl rfl
theorem q_268_33 : XX d 268 33 [some (.ref a), v1, v2, v3, v4, v5, v6, v7] st A Q ↔ XX d 268 34 [some (.ref a), v1, v2, v3, v4, v5, v6, v7] (.ref a :: st) A Q := c_lcl i_268_33 rfl rfl
theorem q_268_34 : XX d 268 34 [v0, v1, v2, v3, some (.int x), v5, v6, v7] st A Q ↔ XX d 268 36 [v0, v1, v2, v3, some (.int x), v5, v6, v7] (.int x :: st) A Q := c_lcl i_268_34 rfl rfl
theorem q_268_36 : XX d 268 36 [v0, v1, v2, v3, v4, v5, v6, v7] (.int x :: .ref a :: st) (mk S I L R G) Q ↔ inA (S a) ok_i x ∧ XX d 268 37 [v0, v1, v2, v3, v4, v5, v6, v7] (.int (I a (ix x)) :: st) (mk S I L R G) Q := r_ia i_268_36
theorem q_268_37 : XX d 268 37 [v0, v1, v2, v3, v4, v5, v6, v7] st A Q ↔ XX d 268 39 [v0, v1, v2, v3, v4, v5, v6, v7] (.int (w 63) :: st) A Q := c_stk i_268_37 rfl
theorem q_268_39 : XX d 268 39 [v0, v1, v2, v3, v4, v5, v6, v7] (.int y :: .int x :: st) A Q ↔ XX d 268 40 [v0, v1, v2, v3, v4, v5, v6, v7] (.int (x &&& y) :: st) A Q := c_stk i_268_39 rfl
theorem q_268_40 : XX d 268 40 [v0, v1, v2, v3, v4, v5, v6, v7] (.int x :: st) A Q ↔ XX d 268 (swT [188, 261, 317, 330, 386, 442, 510, 578, 591, 647, 727, 819, 887, 967, 1047, 1115, 1183, 1275, 1343, 1411, 1491, 1571, 1663, 1731, 1799, 1812, 1880, 1948, 2028, 2084, 2152, 2208, 2263] 2288 0 x.toInt) [v0, v1, v2, v3, v4, v5, v6, v7] st A Q := c_tab i_268_40 rfl rfl rfl rfl
theorem q_268_188 : XX d 268 188 [v0, some (.ref a), v2, v3, v4, v5, v6, v7] st A Q ↔ XX d 268 189 [v0, some (.ref a), v2, v3, v4, v5, v6, v7] (.ref a :: st) A Q := c_lcl i_268_188 rfl rfl
theorem q_268_189 : XX d 268 189 [some (.ref a), v1, v2, v3, v4, v5, v6, v7] st A Q ↔ XX d 268 190 [some (.ref a), v1, v2, v3, v4, v5, v6, v7] (.ref a :: st) A Q := c_lcl i_268_189 rfl rfl
theorem q_268_190 : XX d 268 190 [v0, v1, v2, v3, some (.int x), v5, v6, v7] st A Q ↔ XX d 268 192 [v0, v1, v2, v3, some (.int x), v5, v6, v7] (.int x :: st) A Q := c_lcl i_268_190 rfl rfl
theorem q_268_192 : XX d 268 192 [v0, v1, v2, v3, v4, v5, v6, v7] st A Q ↔ XX d 268 193 [v0, v1, v2, v3, v4, v5, v6, v7] (.int (w 1) :: st) A Q := c_stk i_268_192 rfl
theorem q_268_193 : XX d 268 193 [v0, v1, v2, v3, v4, v5, v6, v7] (.int y :: .int x :: st) A Q ↔ XX d 268 194 [v0, v1, v2, v3, v4, v5, v6, v7] (.int (x + y) :: st) A Q := c_stk i_268_193 rfl
theorem q_268_194 : XX d 268 194 [v0, v1, v2, v3, v4, v5, v6, v7] (.int x :: .ref a :: st) (mk S I L R G) Q ↔ inA (S a) ok_i x ∧ XX d 268 195 [v0, v1, v2, v3, v4, v5, v6, v7] (.int (I a (ix x)) :: st) (mk S I L R G) Q := r_ia i_268_194
theorem q_268_195 : XX d 268 195 [some (.ref a), v1, v2, v3, v4, v5, v6, v7] st A Q ↔ XX d 268 196 [some (.ref a), v1, v2, v3, v4, v5, v6, v7] (.ref a :: st) A Q := c_lcl i_268_195 rfl rfl
theorem q_268_196 : XX d 268 196 [v0, v1, v2, v3, some (.int x), v5, v6, v7] st A Q ↔ XX d 268 198 [v0, v1, v2, v3, some (.int x), v5, v6, v7] (.int x :: st) A Q := c_lcl i_268_196 rfl rfl
theorem q_268_198 : XX d 268 198 [v0, v1, v2, v3, v4, v5, v6, v7] st A Q ↔ XX d 268 199 [v0, v1, v2, v3, v4, v5, v6, v7] (.int (w 2) :: st) A Q := c_stk i_268_198 rfl
theorem q_268_199 : XX d 268 199 [v0, v1, v2, v3, v4, v5, v6, v7] (.int y :: .int x :: st) A Q ↔ XX d 268 200 [v0, v1, v2, v3, v4, v5, v6, v7] (.int (x + y) :: st) A Q := c_stk i_268_199 rfl
theorem q_268_200 : XX d 268 200 [v0, v1, v2, v3, v4, v5, v6, v7] (.int x :: .ref a :: st) (mk S I L R G) Q ↔ inA (S a) ok_i x ∧ XX d 268 201 [v0, v1, v2, v3, v4, v5, v6, v7] (.int (I a (ix x)) :: st) (mk S I L R G) Q := r_ia i_268_200
theorem q_268_201 : XX d 268 201 [some (.ref a), v1, v2, v3, v4, v5, v6, v7] st A Q ↔ XX d 268 202 [some (.ref a), v1, v2, v3, v4, v5, v6, v7] (.ref a :: st) A Q := c_lcl i_268_201 rfl rfl
theorem q_268_202 : XX d 268 202 [v0, v1, v2, v3, some (.int x), v5, v6, v7] st A Q ↔ XX d 268 204 [v0, v1, v2, v3, some (.int x), v5, v6, v7] (.int x :: st) A Q := c_lcl i_268_202 rfl rfl
theorem q_268_204 : XX d 268 204 [v0, v1, v2, v3, v4, v5, v6, v7] st A Q ↔ XX d 268 205 [v0, v1, v2, v3, v4, v5, v6, v7] (.int (w 3) :: st) A Q := c_stk i_268_204 rfl
theorem q_268_205 : XX d 268 205 [v0, v1, v2, v3, v4, v5, v6, v7] (.int y :: .int x :: st) A Q ↔ XX d 268 206 [v0, v1, v2, v3, v4, v5, v6, v7] (.int (x + y) :: st) A Q := c_stk i_268_205 rfl
theorem q_268_206 : XX d 268 206 [v0, v1, v2, v3, v4, v5, v6, v7] (.int x :: .ref a :: st) (mk S I L R G) Q ↔ inA (S a) ok_i x ∧ XX d 268 207 [v0, v1, v2, v3, v4, v5, v6, v7] (.int (I a (ix x)) :: st) (mk S I L R G) Q := r_ia i_268_206
theorem q_268_207 : XX d 268 207 [some (.ref a), v1, v2, v3, v4, v5, v6, v7] st A Q ↔ XX d 268 208 [some (.ref a), v1, v2, v3, v4, v5, v6, v7] (.ref a :: st) A Q := c_lcl i_268_207 rfl rfl
theorem q_268_208 : XX d 268 208 [v0, v1, v2, v3, some (.int x), v5, v6, v7] st A Q ↔ XX d 268 210 [v0, v1, v2, v3, some (.int x), v5, v6, v7] (.int x :: st) A Q := c_lcl i_268_208 rfl rfl
theorem q_268_210 : XX d 268 210 [v0, v1, v2, v3, v4, v5, v6, v7] st A Q ↔ XX d 268 211 [v0, v1, v2, v3, v4, v5, v6, v7] (.int (w 4) :: st) A Q := c_stk i_268_210 rfl
theorem q_268_211 : XX d 268 211 [v0, v1, v2, v3, v4, v5, v6, v7] (.int y :: .int x :: st) A Q ↔ XX d 268 212 [v0, v1, v2, v3, v4, v5, v6, v7] (.int (x + y) :: st) A Q := c_stk i_268_211 rfl
theorem q_268_212 : XX d 268 212 [v0, v1, v2, v3, v4, v5, v6, v7] (.int x :: .ref a :: st) (mk S I L R G) Q ↔ inA (S a) ok_i x ∧ XX d 268 213 [v0, v1, v2, v3, v4, v5, v6, v7] (.int (I a (ix x)) :: st) (mk S I L R G) Q := r_ia i_268_212
theorem q_268_213 : XX d 268 213 [some (.ref a), v1, v2, v3, v4, v5, v6, v7] st A Q ↔ XX d 268 214 [some (.ref a), v1, v2, v3, v4, v5, v6, v7] (.ref a :: st) A Q := c_lcl i_268_213 rfl rfl
theorem q_268_214 : XX d 268 214 [v0, v1, v2, v3, some (.int x), v5, v6, v7] st A Q ↔ XX d 268 216 [v0, v1, v2, v3, some (.int x), v5, v6, v7] (.int x :: st) A Q := c_lcl i_268_214 rfl rfl
theorem q_268_216 : XX d 268 216 [v0, v1, v2, v3, v4, v5, v6, v7] st A Q ↔ XX d 268 217 [v0, v1, v2, v3, v4, v5, v6, v7] (.int (w 5) :: st) A Q := c_stk i_268_216 rfl
theorem q_268_217 : XX d 268 217 [v0, v1, v2, v3, v4, v5, v6, v7] (.int y :: .int x :: st) A Q ↔ XX d 268 218 [v0, v1, v2, v3, v4, v5, v6, v7] (.int (x + y) :: st) A Q := c_stk i_268_217 rfl
theorem q_268_218 : XX d 268 218 [v0, v1, v2, v3, v4, v5, v6, v7] (.int x :: .ref a :: st) (mk S I L R G) Q ↔ inA (S a) ok_i x ∧ XX d 268 219 [v0, v1, v2, v3, v4, v5, v6, v7] (.int (I a (ix x)) :: st) (mk S I L R G) Q := r_ia i_268_218
theorem q_268_219 : XX (d + 1) 268 219 [v0, v1, v2, v3, v4, v5, v6, v7] [.int x5, .int x4, .int x3, .int x2, .int x1, .ref a0] (mk S I L R G) Q ↔ S a0 = some (.inr 11) ∧ XC d 105 [.ref a0, .int x1, .int x2, .int x3, .int x4, .int x5] (mk S I L R G) (XK (d + 1) 268 219 [v0, v1, v2, v3, v4, v5, v6, v7] [] Q) := c_callV i_268_219 rfl rfl rfl rfl (Nat.le_of_ble_eq_true rfl) (Nat.le_of_ble_eq_true rfl) rfl
theorem q_268_222 : XX d 268 222 [v0, v1, some (.ref a), v3, v4, v5, v6, v7] st A Q ↔ XX d 268 223 [v0, v1, some (.ref a), v3, v4, v5, v6, v7] (.ref a :: st) A Q := c_lcl i_268_222 rfl rfl
theorem q_268_223 : XX d 268 223 [some (.ref a), v1, v2, v3, v4, v5, v6, v7] st A Q ↔ XX d 268 224 [some (.ref a), v1, v2, v3, v4, v5, v6, v7] (.ref a :: st) A Q := c_lcl i_268_223 rfl rfl
theorem q_268_224 : XX d 268 224 [v0, v1, v2, v3, some (.int x), v5, v6, v7] st A Q ↔ XX d 268 226 [v0, v1, v2, v3, some (.int x), v5, v6, v7] (.int x :: st) A Q := c_lcl i_268_224 rfl rfl
theorem q_268_226 : XX d 268 226 [v0, v1, v2, v3, v4, v5, v6, v7] st A Q ↔ XX d 268 227 [v0, v1, v2, v3, v4, v5, v6, v7] (.int (w 1) :: st) A Q := c_stk i_268_226 rfl
theorem q_268_227 : XX d 268 227 [v0, v1, v2, v3, v4, v5, v6, v7] (.int y :: .int x :: st) A Q ↔ XX d 268 228 [v0, v1, v2, v3, v4, v5, v6, v7] (.int (x + y) :: st) A Q := c_stk i_268_227 rfl
theorem q_268_228 : XX d 268 228 [v0, v1, v2, v3, v4, v5, v6, v7] (.int x :: .ref a :: st) (mk S I L R G) Q ↔ inA (S a) ok_i x ∧ XX d 268 229 [v0, v1, v2, v3, v4, v5, v6, v7] (.int (I a (ix x)) :: st) (mk S I L R G) Q := r_ia i_268_228
theorem q_268_229 : XX d 268 229 [some (.ref a), v1, v2, v3, v4, v5, v6, v7] st A Q ↔ XX d 268 230 [some (.ref a), v1, v2, v3, v4, v5, v6, v7] (.ref a :: st) A Q := c_lcl i_268_229 rfl rfl
theorem q_268_230 : XX d 268 230 [v0, v1, v2, v3, some (.int x), v5, v6, v7] st A Q ↔ XX d 268 232 [v0, v1, v2, v3, some (.int x), v5, v6, v7] (.int x :: st) A Q := c_lcl i_268_230 rfl rfl
theorem q_268_232 : XX d 268 232 [v0, v1, v2, v3, v4, v5, v6, v7] st A Q ↔ XX d 268 233 [v0, v1, v2, v3, v4, v5, v6, v7] (.int (w 2) :: st) A Q := c_stk i_268_232 rfl
theorem q_268_233 : XX d 268 233 [v0, v1, v2, v3, v4, v5, v6, v7] (.int y :: .int x :: st) A Q ↔ XX d 268 234 [v0, v1, v2, v3, v4, v5, v6, v7] (.int (x + y) :: st) A Q := c_stk i_268_233 rfl
theorem q_268_234 : XX d 268 234 [v0, v1, v2, v3, v4, v5, v6, v7] (.int x :: .ref a :: st) (mk S I L R G) Q ↔ inA (S a) ok_i x ∧ XX d 268 235 [v0, v1, v2, v3, v4, v5, v6, v7] (.int (I a (ix x)) :: st) (mk S I L R G) Q := r_ia i_268_234
theorem q_268_235 : XX d 268 235 [some (.ref a), v1, v2, v3, v4, v5, v6, v7] st A Q ↔ XX d 268 236 [some (.ref a), v1, v2, v3, v4, v5, v6, v7] (.ref a :: st) A Q := c_lcl i_268_235 rfl rfl
theorem q_268_236 : XX d 268 236 [v0, v1, v2, v3, some (.int x), v5, v6, v7] st A Q ↔ XX d 268 238 [v0, v1, v2, v3, some (.int x), v5, v6, v7] (.int x :: st) A Q := c_lcl i_268_236 rfl rfl
theorem q_268_238 : XX d 268 238 [v0, v1, v2, v3, v4, v5, v6, v7] st A Q ↔ XX d 268 239 [v0, v1, v2, v3, v4, v5, v6, v7] (.int (w 3) :: st) A Q := c_stk i_268_238 rfl
theorem q_268_239 : XX d 268 239 [v0, v1, v2, v3, v4, v5, v6, v7] (.int y :: .int x :: st) A Q ↔ XX d 268 240 [v0, v1, v2, v3, v4, v5, v6, v7] (.int (x + y) :: st) A Q := c_stk i_268_239 rfl
theorem q_268_240 : XX d 268 240 [v0, v1, v2, v3, v4, v5, v6, v7] (.int x :: .ref a :: st) (mk S I L R G) Q ↔ inA (S a) ok_i x ∧ XX d 268 241 [v0, v1, v2, v3, v4, v5, v6, v7] (.int (I a (ix x)) :: st) (mk S I L R G) Q := r_ia i_268_240
theorem q_268_241 : XX d 268 241 [some (.ref a), v1, v2, v3, v4, v5, v6, v7] st A Q ↔ XX d 268 242 [some (.ref a), v1, v2, v3, v4, v5, v6, v7] (.ref a :: st) A Q := c_lcl i_268_241 rfl rfl
theorem q_268_242 : XX d 268 242 [v0, v1, v2, v3, some (.int x), v5, v6, v7] st A Q ↔ XX d 268 244 [v0, v1, v2, v3, some (.int x), v5, v6, v7] (.int x :: st) A Q := c_lcl i_268_242 rfl rfl
theorem q_268_244 : XX d 268 244 [v0, v1, v2, v3, v4, v5, v6, v7] st A Q ↔ XX d 268 245 [v0, v1, v2, v3, v4, v5, v6, v7] (.int (w 4) :: st) A Q := c_stk i_268_244 rfl
theorem q_268_245 : XX d 268 245 [v0, v1, v2, v3, v4, v5, v6, v7] (.int y :: .int x :: st) A Q ↔ XX d 268 246 [v0, v1, v2, v3, v4, v5, v6, v7] (.int (x + y) :: st) A Q := c_stk i_268_245 rfl
theorem q_268_246 : XX d 268 246 [v0, v1, v2, v3, v4, v5, v6, v7] (.int x :: .ref a :: st) (mk S I L R G) Q ↔ inA (S a) ok_i x ∧ XX d 268 247 [v0, v1, v2, v3, v4, v5, v6, v7] (.int (I a (ix x)) :: st) (mk S I L R G) Q := r_ia i_268_246
theorem q_268_247 : XX d 268 247 [some (.ref a), v1, v2, v3, v4, v5, v6, v7] st A Q ↔ XX d 268 248 [some (.ref a), v1, v2, v3, v4, v5, v6, v7] (.ref a :: st) A Q := c_lcl i_268_247 rfl rfl
theorem q_268_248 : XX d 268 248 [v0, v1, v2, v3, some (.int x), v5, v6, v7] st A Q ↔ XX d 268 250 [v0, v1, v2, v3, some (.int x), v5, v6, v7] (.int x :: st) A Q := c_lcl i_268_248 rfl rfl
theorem q_268_250 : XX d 268 250 [v0, v1, v2, v3, v4, v5, v6, v7] st A Q ↔ XX d 268 251 [v0, v1, v2, v3, v4, v5, v6, v7] (.int (w 5) :: st) A Q := c_stk i_268_250 rfl
theorem q_268_251 : XX d 268 251 [v0, v1, v2, v3, v4, v5, v6, v7] (.int y :: .int x :: st) A Q ↔ XX d 268 252 [v0, v1, v2, v3, v4, v5, v6, v7] (.int (x + y) :: st) A Q := c_stk i_268_251 rfl
theorem q_268_252 : XX d 268 252 [v0, v1, v2, v3, v4, v5, v6, v7] (.int x :: .ref a :: st) (mk S I L R G) Q ↔ inA (S a) ok_i x ∧ XX d 268 253 [v0, v1, v2, v3, v4, v5, v6, v7] (.int (I a (ix x)) :: st) (mk S I L R G) Q := r_ia i_268_252
theorem q_268_253 : XX (d + 1) 268 253 [v0, v1, v2, v3, v4, v5, v6, v7] [.int x5, .int x4, .int x3, .int x2, .int x1, .ref a0, .int x6] (mk S I L R G) Q ↔ S a0 = some (.inr 12) ∧ XC d 157 [.ref a0, .int x1, .int x2, .int x3, .int x4, .int x5] (mk S I L R G) (XK (d + 1) 268 253 [v0, v1, v2, v3, v4, v5, v6, v7] [.int x6] Q) := c_callV i_268_253 rfl rfl rfl rfl (Nat.le_of_ble_eq_true rfl) (Nat.le_of_ble_eq_true rfl) rfl
theorem q_268_256 : XX d 268 256 [v0, v1, v2, v3, v4, v5, v6, v7] (.int y :: .int x :: st) A Q ↔ if x = y then XX d 268 2288 [v0, v1, v2, v3, v4, v5, v6, v7] st A Q else XX d 268 259 [v0, v1, v2, v3, v4, v5, v6, v7] st A Q := b_eq i_268_256 rfl rfl rfl
theorem q_268_259 : XX d 268 259 [v0, v1, v2, v3, v4, v5, v6, v7] st A Q ↔ XX d 268 260 [v0, v1, v2, v3, v4, v5, v6, v7] (.int (w 0) :: st) A Q := c_stk i_268_259 rfl
theorem q_268_260 : XX d 268 260 [v0, v1, v2, v3, v4, v5, v6, v7] [.int x] A Q ↔ (x = w 0 ∨ x = w 1) ∧ Q (.inl (some (.int x))) A := e_retZ i_268_260 rfl
theorem q_268_261 : XX d 268 261 [v0, some (.ref a), v2, v3, v4, v5, v6, v7] st A Q ↔ XX d 268 262 [v0, some (.ref a), v2, v3, v4, v5, v6, v7] (.ref a :: st) A Q := c_lcl i_268_261 rfl rfl
theorem q_268_262 : XX d 268 262 [some (.ref a), v1, v2, v3, v4, v5, v6, v7] st A Q ↔ XX d 268 263 [some (.ref a), v1, v2, v3, v4, v5, v6, v7] (.ref a :: st) A Q := c_lcl i_268_262 rfl rfl
theorem q_268_263 : XX d 268 263 [v0, v1, v2, v3, some (.int x), v5, v6, v7] st A Q ↔ XX d 268 265 [v0, v1, v2, v3, some (.int x), v5, v6, v7] (.int x :: st) A Q := c_lcl i_268_263 rfl rfl
theorem q_268_265 : XX d 268 265 [v0, v1, v2, v3, v4, v5, v6, v7] st A Q ↔ XX d 268 266 [v0, v1, v2, v3, v4, v5, v6, v7] (.int (w 1) :: st) A Q := c_stk i_268_265 rfl
theorem q_268_266 : XX d 268 266 [v0, v1, v2, v3, v4, v5, v6, v7] (.int y :: .int x :: st) A Q ↔ XX d 268 267 [v0, v1, v2, v3, v4, v5, v6, v7] (.int (x + y) :: st) A Q := c_stk i_268_266 rfl
theorem q_268_267 : XX d 268 267 [v0, v1, v2, v3, v4, v5, v6, v7] (.int x :: .ref a :: st) (mk S I L R G) Q ↔ inA (S a) ok_i x ∧ XX d 268 268 [v0, v1, v2, v3, v4, v5, v6, v7] (.int (I a (ix x)) :: st) (mk S I L R G) Q := r_ia i_268_267
theorem q_268_268 : XX d 268 268 [v0, v1, v2, some (.ref a), v4, v5, v6, v7] st A Q ↔ XX d 268 269 [v0, v1, v2, some (.ref a), v4, v5, v6, v7] (.ref a :: st) A Q := c_lcl i_268_268 rfl rfl
theorem q_268_269 : XX (d + 1) 268 269 [v0, v1, v2, v3, v4, v5, v6, v7] [.ref a2, .int x1, .ref a0] A Q ↔ XC d 240 [.ref a0, .int x1, .ref a2] A (XK (d + 1) 268 269 [v0, v1, v2, v3, v4, v5, v6, v7] [] Q) := c_callS i_268_269 rfl rfl rfl rfl (Nat.le_of_ble_eq_true rfl) (Nat.le_of_ble_eq_true rfl)
theorem q_268_272 : XX d 268 272 [v0, v1, v2, v3, some (.int z), v5, v6, v7] (.int x :: st) A Q ↔ XX d 268 274 [v0, v1, v2, v3, some (.int z), some (.int x), v6, v7] st A Q := c_lcl i_268_272 rfl rfl
theorem q_268_274 : XX d 268 274 [v0, v1, some (.ref a), v3, v4, v5, v6, v7] st A Q ↔ XX d 268 275 [v0, v1, some (.ref a), v3, v4, v5, v6, v7] (.ref a :: st) A Q := c_lcl i_268_274 rfl rfl
theorem q_268_275 : XX d 268 275 [some (.ref a), v1, v2, v3, v4, v5, v6, v7] st A Q ↔ XX d 268 276 [some (.ref a), v1, v2, v3, v4, v5, v6, v7] (.ref a :: st) A Q := c_lcl i_268_275 rfl rfl
theorem q_268_276 : XX d 268 276 [v0, v1, v2, v3, some (.int x), v5, v6, v7] st A Q ↔ XX d 268 278 [v0, v1, v2, v3, some (.int x), v5, v6, v7] (.int x :: st) A Q := c_lcl i_268_276 rfl rfl
theorem q_268_278 : XX d 268 278 [v0, v1, v2, v3, v4, v5, v6, v7] st A Q ↔ XX d 268 279 [v0, v1, v2, v3, v4, v5, v6, v7] (.int (w 1) :: st) A Q := c_stk i_268_278 rfl
theorem q_268_279 : XX d 268 279 [v0, v1, v2, v3, v4, v5, v6, v7] (.int y :: .int x :: st) A Q ↔ XX d 268 280 [v0, v1, v2, v3, v4, v5, v6, v7] (.int (x + y) :: st) A Q := c_stk i_268_279 rfl
theorem q_268_280 : XX d 268 280 [v0, v1, v2, v3, v4, v5, v6, v7] (.int x :: .ref a :: st) (mk S I L R G) Q ↔ inA (S a) ok_i x ∧ XX d 268 281 [v0, v1, v2, v3, v4, v5, v6, v7] (.int (I a (ix x)) :: st) (mk S I L R G) Q := r_ia i_268_280
theorem q_268_281 : XX (d + 1) 268 281 [v0, v1, v2, v3, v4, v5, v6, v7] [.int x1, .ref a0] (mk S I L R G) Q ↔ S a0 = some (.inr 12) ∧ XC d 176 [.ref a0, .int x1] (mk S I L R G) (XK (d + 1) 268 281 [v0, v1, v2, v3, v4, v5, v6, v7] [] Q) := c_callV i_268_281 rfl rfl rfl rfl (Nat.le_of_ble_eq_true rfl) (Nat.le_of_ble_eq_true rfl) rfl
theorem q_268_284 : XX d 268 284 [v0, v1, v2, v3, v4, some (.int z), v6, v7] (.int x :: st) A Q ↔ XX d 268 286 [v0, v1, v2, v3, v4, some (.int z), some (.int x), v7] st A Q := c_lcl i_268_284 rfl rfl
theorem q_268_286 : XX d 268 286 [v0, v1, some (.ref a), v3, v4, v5, v6, v7] st A Q ↔ XX d 268 287 [v0, v1, some (.ref a), v3, v4, v5, v6, v7] (.ref a :: st) A Q := c_lcl i_268_286 rfl rfl
theorem q_268_287 : XX (d + 1) 268 287 [v0, v1, v2, v3, v4, v5, v6, v7] [.ref a0] (mk S I L R G) Q ↔ S a0 = some (.inr 12) ∧ XC d 153 [.ref a0] (mk S I L R G) (XK (d + 1) 268 287 [v0, v1, v2, v3, v4, v5, v6, v7] [] Q) := c_callV i_268_287 rfl rfl rfl rfl (Nat.le_of_ble_eq_true rfl) (Nat.le_of_ble_eq_true rfl) rfl
theorem q_268_290 : XX d 268 290 [v0, v1, v2, v3, v4, some (.int x), v6, v7] st A Q ↔ XX d 268 292 [v0, v1, v2, v3, v4, some (.int x), v6, v7] (.int x :: st) A Q := c_lcl i_268_290 rfl rfl
theorem q_268_292 : XX d 268 292 [v0, v1, v2, v3, v4, v5, v6, v7] (.int y :: .int x :: st) A Q ↔ if x = y then XX d 268 297 [v0, v1, v2, v3, v4, v5, v6, v7] st A Q else XX d 268 295 [v0, v1, v2, v3, v4, v5, v6, v7] st A Q := b_eq i_268_292 rfl rfl rfl
theorem q_268_295 : XX d 268 295 [v0, v1, v2, v3, v4, v5, v6, v7] st A Q ↔ XX d 268 296 [v0, v1, v2, v3, v4, v5, v6, v7] (.int (w 0) :: st) A Q := c_stk i_268_295 rfl
theorem q_268_296 : XX d 268 296 [v0, v1, v2, v3, v4, v5, v6, v7] [.int x] A Q ↔ (x = w 0 ∨ x = w 1) ∧ Q (.inl (some (.int x))) A := e_retZ i_268_296 rfl
theorem q_268_297 : XX d 268 297 [v0, v1, v2, v3, v4, some (.int x), v6, v7] st A Q ↔ XX d 268 299 [v0, v1, v2, v3, v4, some (.int x), v6, v7] (.int x :: st) A Q := c_lcl i_268_297 rfl rfl
theorem q_268_299 : XX d 268 299 [v0, v1, v2, v3, v4, v5, v6, v7] (.int x :: st) A Q ↔ if x = w 0 then XX d 268 302 [v0, v1, v2, v3, v4, v5, v6, v7] st A Q else XX d 268 314 [v0, v1, v2, v3, v4, v5, v6, v7] st A Q := z_ne i_268_299 rfl rfl rfl
theorem q_268_302 : XX d 268 302 [v0, v1, v2, some (.ref a), v4, v5, v6, v7] st A Q ↔ XX d 268 303 [v0, v1, v2, some (.ref a), v4, v5, v6, v7] (.ref a :: st) A Q := c_lcl i_268_302 rfl rfl
theorem q_268_303 : XX d 268 303 [v0, v1, v2, v3, v4, v5, v6, v7] st A Q ↔ XX d 268 304 [v0, v1, v2, v3, v4, v5, v6, v7] (.int (w 0) :: st) A Q := c_stk i_268_303 rfl
theorem q_268_304 : XX d 268 304 [v0, v1, v2, v3, v4, v5, v6, v7] (.int x :: .ref a :: st) (mk S I L R G) Q ↔ inA (S a) ok_l x ∧ XX d 268 305 [v0, v1, v2, v3, v4, v5, v6, v7] (.long (L a (ix x)) :: st) (mk S I L R G) Q := r_la i_268_304
theorem q_268_305 : XX d 268 305 [v0, v1, v2, v3, v4, v5, some (.int x), v7] st A Q ↔ XX d 268 307 [v0, v1, v2, v3, v4, v5, some (.int x), v7] (.int x :: st) A Q := c_lcl i_268_305 rfl rfl
theorem q_268_307 : XX d 268 307 [v0, v1, v2, v3, v4, v5, v6, v7] (.int x :: st) A Q ↔ XX d 268 308 [v0, v1, v2, v3, v4, v5, v6, v7] (.long x.toInt64 :: st) A Q := c_stk i_268_307 rfl
theorem q_268_308 : XX d 268 308 [v0, v1, v2, v3, v4, v5, v6, v7] (.long ly :: .long lx :: st) A Q ↔ XX d 268 309 [v0, v1, v2, v3, v4, v5, v6, v7] (.int (lg_cmp lx ly) :: st) A Q := c_stk i_268_308 rfl
theorem q_268_309 : XX d 268 309 [v0, v1, v2, v3, v4, v5, v6, v7] (.int x :: st) A Q ↔ if x = w 0 then XX d 268 314 [v0, v1, v2, v3, v4, v5, v6, v7] st A Q else XX d 268 312 [v0, v1, v2, v3, v4, v5, v6, v7] st A Q := z_eq i_268_309 rfl rfl rfl
theorem q_268_312 : XX d 268 312 [v0, v1, v2, v3, v4, v5, v6, v7] st A Q ↔ XX d 268 313 [v0, v1, v2, v3, v4, v5, v6, v7] (.int (w 0) :: st) A Q := c_stk i_268_312 rfl
theorem q_268_313 : XX d 268 313 [v0, v1, v2, v3, v4, v5, v6, v7] [.int x] A Q ↔ (x = w 0 ∨ x = w 1) ∧ Q (.inl (some (.int x))) A := e_retZ i_268_313 rfl
theorem q_268_314 : XX d 268 314 [v0, v1, v2, v3, v4, v5, v6, v7] st A Q ↔ XX d 268 2288 [v0, v1, v2, v3, v4, v5, v6, v7] st A Q := c_go i_268_314 rfl rfl
theorem q_268_317 : XX d 268 317 [v0, some (.ref a), v2, v3, v4, v5, v6, v7] st A Q ↔ XX d 268 318 [v0, some (.ref a), v2, v3, v4, v5, v6, v7] (.ref a :: st) A Q := c_lcl i_268_317 rfl rfl
theorem q_268_318 : XX (d + 1) 268 318 [v0, v1, v2, v3, v4, v5, v6, v7] [.ref a0] (mk S I L R G) Q ↔ S a0 = some (.inr 11) ∧ XC d 107 [.ref a0] (mk S I L R G) (XK (d + 1) 268 318 [v0, v1, v2, v3, v4, v5, v6, v7] [] Q) := c_callV i_268_318 rfl rfl rfl rfl (Nat.le_of_ble_eq_true rfl) (Nat.le_of_ble_eq_true rfl) rfl
theorem q_268_321 : XX d 268 321 [v0, v1, some (.ref a), v3, v4, v5, v6, v7] st A Q ↔ XX d 268 322 [v0, v1, some (.ref a), v3, v4, v5, v6, v7] (.ref a :: st) A Q := c_lcl i_268_321 rfl rfl
theorem q_268_322 : XX (d + 1) 268 322 [v0, v1, v2, v3, v4, v5, v6, v7] [.ref a0, .int x1] (mk S I L R G) Q ↔ S a0 = some (.inr 12) ∧ XC d 178 [.ref a0] (mk S I L R G) (XK (d + 1) 268 322 [v0, v1, v2, v3, v4, v5, v6, v7] [.int x1] Q) := c_callV i_268_322 rfl rfl rfl rfl (Nat.le_of_ble_eq_true rfl) (Nat.le_of_ble_eq_true rfl) rfl
theorem q_268_325 : XX d 268 325 [v0, v1, v2, v3, v4, v5, v6, v7] (.int y :: .int x :: st) A Q ↔ if x = y then XX d 268 2288 [v0, v1, v2, v3, v4, v5, v6, v7] st A Q else XX d 268 328 [v0, v1, v2, v3, v4, v5, v6, v7] st A Q := b_eq i_268_325 rfl rfl rfl
theorem q_268_328 : XX d 268 328 [v0, v1, v2, v3, v4, v5, v6, v7] st A Q ↔ XX d 268 329 [v0, v1, v2, v3, v4, v5, v6, v7] (.int (w 0) :: st) A Q := c_stk i_268_328 rfl
theorem q_268_329 : XX d 268 329 [v0, v1, v2, v3, v4, v5, v6, v7] [.int x] A Q ↔ (x = w 0 ∨ x = w 1) ∧ Q (.inl (some (.int x))) A := e_retZ i_268_329 rfl
theorem q_268_330 : XX d 268 330 [v0, some (.ref a), v2, v3, v4, v5, v6, v7] st A Q ↔ XX d 268 331 [v0, some (.ref a), v2, v3, v4, v5, v6, v7] (.ref a :: st) A Q := c_lcl i_268_330 rfl rfl
theorem q_268_331 : XX d 268 331 [some (.ref a), v1, v2, v3, v4, v5, v6, v7] st A Q ↔ XX d 268 332 [some (.ref a), v1, v2, v3, v4, v5, v6, v7] (.ref a :: st) A Q := c_lcl i_268_331 rfl rfl
theorem q_268_332 : XX d 268 332 [v0, v1, v2, v3, some (.int x), v5, v6, v7] st A Q ↔ XX d 268 334 [v0, v1, v2, v3, some (.int x), v5, v6, v7] (.int x :: st) A Q := c_lcl i_268_332 rfl rfl
theorem q_268_334 : XX d 268 334 [v0, v1, v2, v3, v4, v5, v6, v7] st A Q ↔ XX d 268 335 [v0, v1, v2, v3, v4, v5, v6, v7] (.int (w 1) :: st) A Q := c_stk i_268_334 rfl
theorem q_268_335 : XX d 268 335 [v0, v1, v2, v3, v4, v5, v6, v7] (.int y :: .int x :: st) A Q ↔ XX d 268 336 [v0, v1, v2, v3, v4, v5, v6, v7] (.int (x + y) :: st) A Q := c_stk i_268_335 rfl
theorem q_268_336 : XX d 268 336 [v0, v1, v2, v3, v4, v5, v6, v7] (.int x :: .ref a :: st) (mk S I L R G) Q ↔ inA (S a) ok_i x ∧ XX d 268 337 [v0, v1, v2, v3, v4, v5, v6, v7] (.int (I a (ix x)) :: st) (mk S I L R G) Q := r_ia i_268_336
theorem q_268_337 : XX d 268 337 [v0, v1, v2, some (.ref a), v4, v5, v6, v7] st A Q ↔ XX d 268 338 [v0, v1, v2, some (.ref a), v4, v5, v6, v7] (.ref a :: st) A Q := c_lcl i_268_337 rfl rfl
theorem q_268_338 : XX (d + 1) 268 338 [v0, v1, v2, v3, v4, v5, v6, v7] [.ref a2, .int x1, .ref a0] A Q ↔ XC d 241 [.ref a0, .int x1, .ref a2] A (XK (d + 1) 268 338 [v0, v1, v2, v3, v4, v5, v6, v7] [] Q) := c_callS i_268_338 rfl rfl rfl rfl (Nat.le_of_ble_eq_true rfl) (Nat.le_of_ble_eq_true rfl)
theorem q_268_341 : XX d 268 341 [v0, v1, v2, v3, some (.int z), v5, v6, v7] (.int x :: st) A Q ↔ XX d 268 343 [v0, v1, v2, v3, some (.int z), some (.int x), v6, v7] st A Q := c_lcl i_268_341 rfl rfl
theorem q_268_343 : XX d 268 343 [v0, v1, some (.ref a), v3, v4, v5, v6, v7] st A Q ↔ XX d 268 344 [v0, v1, some (.ref a), v3, v4, v5, v6, v7] (.ref a :: st) A Q := c_lcl i_268_343 rfl rfl
theorem q_268_344 : XX d 268 344 [some (.ref a), v1, v2, v3, v4, v5, v6, v7] st A Q ↔ XX d 268 345 [some (.ref a), v1, v2, v3, v4, v5, v6, v7] (.ref a :: st) A Q := c_lcl i_268_344 rfl rfl
theorem q_268_345 : XX d 268 345 [v0, v1, v2, v3, some (.int x), v5, v6, v7] st A Q ↔ XX d 268 347 [v0, v1, v2, v3, some (.int x), v5, v6, v7] (.int x :: st) A Q := c_lcl i_268_345 rfl rfl
theorem q_268_347 : XX d 268 347 [v0, v1, v2, v3, v4, v5, v6, v7] st A Q ↔ XX d 268 348 [v0, v1, v2, v3, v4, v5, v6, v7] (.int (w 1) :: st) A Q := c_stk i_268_347 rfl
theorem q_268_348 : XX d 268 348 [v0, v1, v2, v3, v4, v5, v6, v7] (.int y :: .int x :: st) A Q ↔ XX d 268 349 [v0, v1, v2, v3, v4, v5, v6, v7] (.int (x + y) :: st) A Q := c_stk i_268_348 rfl
theorem q_268_349 : XX d 268 349 [v0, v1, v2, v3, v4, v5, v6, v7] (.int x :: .ref a :: st) (mk S I L R G) Q ↔ inA (S a) ok_i x ∧ XX d 268 350 [v0, v1, v2, v3, v4, v5, v6, v7] (.int (I a (ix x)) :: st) (mk S I L R G) Q := r_ia i_268_349
theorem q_268_350 : XX (d + 1) 268 350 [v0, v1, v2, v3, v4, v5, v6, v7] [.int x1, .ref a0] (mk S I L R G) Q ↔ S a0 = some (.inr 12) ∧ XC d 177 [.ref a0, .int x1] (mk S I L R G) (XK (d + 1) 268 350 [v0, v1, v2, v3, v4, v5, v6, v7] [] Q) := c_callV i_268_350 rfl rfl rfl rfl (Nat.le_of_ble_eq_true rfl) (Nat.le_of_ble_eq_true rfl) rfl
theorem q_268_353 : XX d 268 353 [v0, v1, v2, v3, v4, some (.int z), v6, v7] (.int x :: st) A Q ↔ XX d 268 355 [v0, v1, v2, v3, v4, some (.int z), some (.int x), v7] st A Q := c_lcl i_268_353 rfl rfl
theorem q_268_355 : XX d 268 355 [v0, v1, some (.ref a), v3, v4, v5, v6, v7] st A Q ↔ XX d 268 356 [v0, v1, some (.ref a), v3, v4, v5, v6, v7] (.ref a :: st) A Q := c_lcl i_268_355 rfl rfl
theorem q_268_356 : XX (d + 1) 268 356 [v0, v1, v2, v3, v4, v5, v6, v7] [.ref a0] (mk S I L R G) Q ↔ S a0 = some (.inr 12) ∧ XC d 153 [.ref a0] (mk S I L R G) (XK (d + 1) 268 356 [v0, v1, v2, v3, v4, v5, v6, v7] [] Q) := c_callV i_268_356 rfl rfl rfl rfl (Nat.le_of_ble_eq_true rfl) (Nat.le_of_ble_eq_true rfl) rfl
theorem q_268_359 : XX d 268 359 [v0, v1, v2, v3, v4, some (.int x), v6, v7] st A Q ↔ XX d 268 361 [v0, v1, v2, v3, v4, some (.int x), v6, v7] (.int x :: st) A Q := c_lcl i_268_359 rfl rfl
theorem q_268_361 : XX d 268 361 [v0, v1, v2, v3, v4, v5, v6, v7] (.int y :: .int x :: st) A Q ↔ if x = y then XX d 268 366 [v0, v1, v2, v3, v4, v5, v6, v7] st A Q else XX d 268 364 [v0, v1, v2, v3, v4, v5, v6, v7] st A Q := b_eq i_268_361 rfl rfl rfl
theorem q_268_364 : XX d 268 364 [v0, v1, v2, v3, v4, v5, v6, v7] st A Q ↔ XX d 268 365 [v0, v1, v2, v3, v4, v5, v6, v7] (.int (w 0) :: st) A Q := c_stk i_268_364 rfl
theorem q_268_365 : XX d 268 365 [v0, v1, v2, v3, v4, v5, v6, v7] [.int x] A Q ↔ (x = w 0 ∨ x = w 1) ∧ Q (.inl (some (.int x))) A := e_retZ i_268_365 rfl
theorem q_268_366 : XX d 268 366 [v0, v1, v2, v3, v4, some (.int x), v6, v7] st A Q ↔ XX d 268 368 [v0, v1, v2, v3, v4, some (.int x), v6, v7] (.int x :: st) A Q := c_lcl i_268_366 rfl rfl
theorem q_268_368 : XX d 268 368 [v0, v1, v2, v3, v4, v5, v6, v7] (.int x :: st) A Q ↔ if x = w 0 then XX d 268 371 [v0, v1, v2, v3, v4, v5, v6, v7] st A Q else XX d 268 383 [v0, v1, v2, v3, v4, v5, v6, v7] st A Q := z_ne i_268_368 rfl rfl rfl
theorem q_268_371 : XX d 268 371 [v0, v1, v2, some (.ref a), v4, v5, v6, v7] st A Q ↔ XX d 268 372 [v0, v1, v2, some (.ref a), v4, v5, v6, v7] (.ref a :: st) A Q := c_lcl i_268_371 rfl rfl
theorem q_268_372 : XX d 268 372 [v0, v1, v2, v3, v4, v5, v6, v7] st A Q ↔ XX d 268 373 [v0, v1, v2, v3, v4, v5, v6, v7] (.int (w 0) :: st) A Q := c_stk i_268_372 rfl
theorem q_268_373 : XX d 268 373 [v0, v1, v2, v3, v4, v5, v6, v7] (.int x :: .ref a :: st) (mk S I L R G) Q ↔ inA (S a) ok_l x ∧ XX d 268 374 [v0, v1, v2, v3, v4, v5, v6, v7] (.long (L a (ix x)) :: st) (mk S I L R G) Q := r_la i_268_373
theorem q_268_374 : XX d 268 374 [v0, v1, v2, v3, v4, v5, some (.int x), v7] st A Q ↔ XX d 268 376 [v0, v1, v2, v3, v4, v5, some (.int x), v7] (.int x :: st) A Q := c_lcl i_268_374 rfl rfl
theorem q_268_376 : XX d 268 376 [v0, v1, v2, v3, v4, v5, v6, v7] (.int x :: st) A Q ↔ XX d 268 377 [v0, v1, v2, v3, v4, v5, v6, v7] (.long x.toInt64 :: st) A Q := c_stk i_268_376 rfl
theorem q_268_377 : XX d 268 377 [v0, v1, v2, v3, v4, v5, v6, v7] (.long ly :: .long lx :: st) A Q ↔ XX d 268 378 [v0, v1, v2, v3, v4, v5, v6, v7] (.int (lg_cmp lx ly) :: st) A Q := c_stk i_268_377 rfl
theorem q_268_378 : XX d 268 378 [v0, v1, v2, v3, v4, v5, v6, v7] (.int x :: st) A Q ↔ if x = w 0 then XX d 268 383 [v0, v1, v2, v3, v4, v5, v6, v7] st A Q else XX d 268 381 [v0, v1, v2, v3, v4, v5, v6, v7] st A Q := z_eq i_268_378 rfl rfl rfl
theorem q_268_381 : XX d 268 381 [v0, v1, v2, v3, v4, v5, v6, v7] st A Q ↔ XX d 268 382 [v0, v1, v2, v3, v4, v5, v6, v7] (.int (w 0) :: st) A Q := c_stk i_268_381 rfl
theorem q_268_382 : XX d 268 382 [v0, v1, v2, v3, v4, v5, v6, v7] [.int x] A Q ↔ (x = w 0 ∨ x = w 1) ∧ Q (.inl (some (.int x))) A := e_retZ i_268_382 rfl
theorem q_268_383 : XX d 268 383 [v0, v1, v2, v3, v4, v5, v6, v7] st A Q ↔ XX d 268 2288 [v0, v1, v2, v3, v4, v5, v6, v7] st A Q := c_go i_268_383 rfl rfl
theorem q_268_386 : XX d 268 386 [v0, some (.ref a), v2, v3, v4, v5, v6, v7] st A Q ↔ XX d 268 387 [v0, some (.ref a), v2, v3, v4, v5, v6, v7] (.ref a :: st) A Q := c_lcl i_268_386 rfl rfl
theorem q_268_387 : XX d 268 387 [some (.ref a), v1, v2, v3, v4, v5, v6, v7] st A Q ↔ XX d 268 388 [some (.ref a), v1, v2, v3, v4, v5, v6, v7] (.ref a :: st) A Q := c_lcl i_268_387 rfl rfl
theorem q_268_388 : XX d 268 388 [v0, v1, v2, v3, some (.int x), v5, v6, v7] st A Q ↔ XX d 268 390 [v0, v1, v2, v3, some (.int x), v5, v6, v7] (.int x :: st) A Q := c_lcl i_268_388 rfl rfl
theorem q_268_390 : XX d 268 390 [v0, v1, v2, v3, v4, v5, v6, v7] st A Q ↔ XX d 268 391 [v0, v1, v2, v3, v4, v5, v6, v7] (.int (w 1) :: st) A Q := c_stk i_268_390 rfl
theorem q_268_391 : XX d 268 391 [v0, v1, v2, v3, v4, v5, v6, v7] (.int y :: .int x :: st) A Q ↔ XX d 268 392 [v0, v1, v2, v3, v4, v5, v6, v7] (.int (x + y) :: st) A Q := c_stk i_268_391 rfl
theorem q_268_392 : XX d 268 392 [v0, v1, v2, v3, v4, v5, v6, v7] (.int x :: .ref a :: st) (mk S I L R G) Q ↔ inA (S a) ok_i x ∧ XX d 268 393 [v0, v1, v2, v3, v4, v5, v6, v7] (.int (I a (ix x)) :: st) (mk S I L R G) Q := r_ia i_268_392
theorem q_268_393 : XX d 268 393 [v0, v1, v2, some (.ref a), v4, v5, v6, v7] st A Q ↔ XX d 268 394 [v0, v1, v2, some (.ref a), v4, v5, v6, v7] (.ref a :: st) A Q := c_lcl i_268_393 rfl rfl
theorem q_268_394 : XX (d + 1) 268 394 [v0, v1, v2, v3, v4, v5, v6, v7] [.ref a2, .int x1, .ref a0] A Q ↔ XC d 242 [.ref a0, .int x1, .ref a2] A (XK (d + 1) 268 394 [v0, v1, v2, v3, v4, v5, v6, v7] [] Q) := c_callS i_268_394 rfl rfl rfl rfl (Nat.le_of_ble_eq_true rfl) (Nat.le_of_ble_eq_true rfl)
theorem q_268_397 : XX d 268 397 [v0, v1, v2, v3, some (.int z), v5, v6, v7] (.int x :: st) A Q ↔ XX d 268 399 [v0, v1, v2, v3, some (.int z), some (.int x), v6, v7] st A Q := c_lcl i_268_397 rfl rfl
theorem q_268_399 : XX d 268 399 [v0, v1, some (.ref a), v3, v4, v5, v6, v7] st A Q ↔ XX d 268 400 [v0, v1, some (.ref a), v3, v4, v5, v6, v7] (.ref a :: st) A Q := c_lcl i_268_399 rfl rfl
theorem q_268_400 : XX d 268 400 [some (.ref a), v1, v2, v3, v4, v5, v6, v7] st A Q ↔ XX d 268 401 [some (.ref a), v1, v2, v3, v4, v5, v6, v7] (.ref a :: st) A Q := c_lcl i_268_400 rfl rfl
theorem q_268_401 : XX d 268 401 [v0, v1, v2, v3, some (.int x), v5, v6, v7] st A Q ↔ XX d 268 403 [v0, v1, v2, v3, some (.int x), v5, v6, v7] (.int x :: st) A Q := c_lcl i_268_401 rfl rfl
theorem q_268_403 : XX d 268 403 [v0, v1, v2, v3, v4, v5, v6, v7] st A Q ↔ XX d 268 404 [v0, v1, v2, v3, v4, v5, v6, v7] (.int (w 1) :: st) A Q := c_stk i_268_403 rfl
theorem q_268_404 : XX d 268 404 [v0, v1, v2, v3, v4, v5, v6, v7] (.int y :: .int x :: st) A Q ↔ XX d 268 405 [v0, v1, v2, v3, v4, v5, v6, v7] (.int (x + y) :: st) A Q := c_stk i_268_404 rfl
theorem q_268_405 : XX d 268 405 [v0, v1, v2, v3, v4, v5, v6, v7] (.int x :: .ref a :: st) (mk S I L R G) Q ↔ inA (S a) ok_i x ∧ XX d 268 406 [v0, v1, v2, v3, v4, v5, v6, v7] (.int (I a (ix x)) :: st) (mk S I L R G) Q := r_ia i_268_405
theorem q_268_406 : XX (d + 1) 268 406 [v0, v1, v2, v3, v4, v5, v6, v7] [.int x1, .ref a0] (mk S I L R G) Q ↔ S a0 = some (.inr 12) ∧ XC d 181 [.ref a0, .int x1] (mk S I L R G) (XK (d + 1) 268 406 [v0, v1, v2, v3, v4, v5, v6, v7] [] Q) := c_callV i_268_406 rfl rfl rfl rfl (Nat.le_of_ble_eq_true rfl) (Nat.le_of_ble_eq_true rfl) rfl
theorem q_268_409 : XX d 268 409 [v0, v1, v2, v3, v4, some (.int z), v6, v7] (.int x :: st) A Q ↔ XX d 268 411 [v0, v1, v2, v3, v4, some (.int z), some (.int x), v7] st A Q := c_lcl i_268_409 rfl rfl
theorem q_268_411 : XX d 268 411 [v0, v1, some (.ref a), v3, v4, v5, v6, v7] st A Q ↔ XX d 268 412 [v0, v1, some (.ref a), v3, v4, v5, v6, v7] (.ref a :: st) A Q := c_lcl i_268_411 rfl rfl
theorem q_268_412 : XX (d + 1) 268 412 [v0, v1, v2, v3, v4, v5, v6, v7] [.ref a0] (mk S I L R G) Q ↔ S a0 = some (.inr 12) ∧ XC d 153 [.ref a0] (mk S I L R G) (XK (d + 1) 268 412 [v0, v1, v2, v3, v4, v5, v6, v7] [] Q) := c_callV i_268_412 rfl rfl rfl rfl (Nat.le_of_ble_eq_true rfl) (Nat.le_of_ble_eq_true rfl) rfl
theorem q_268_415 : XX d 268 415 [v0, v1, v2, v3, v4, some (.int x), v6, v7] st A Q ↔ XX d 268 417 [v0, v1, v2, v3, v4, some (.int x), v6, v7] (.int x :: st) A Q := c_lcl i_268_415 rfl rfl
theorem q_268_417 : XX d 268 417 [v0, v1, v2, v3, v4, v5, v6, v7] (.int y :: .int x :: st) A Q ↔ if x = y then XX d 268 422 [v0, v1, v2, v3, v4, v5, v6, v7] st A Q else XX d 268 420 [v0, v1, v2, v3, v4, v5, v6, v7] st A Q := b_eq i_268_417 rfl rfl rfl
theorem q_268_420 : XX d 268 420 [v0, v1, v2, v3, v4, v5, v6, v7] st A Q ↔ XX d 268 421 [v0, v1, v2, v3, v4, v5, v6, v7] (.int (w 0) :: st) A Q := c_stk i_268_420 rfl
theorem q_268_421 : XX d 268 421 [v0, v1, v2, v3, v4, v5, v6, v7] [.int x] A Q ↔ (x = w 0 ∨ x = w 1) ∧ Q (.inl (some (.int x))) A := e_retZ i_268_421 rfl
theorem q_268_422 : XX d 268 422 [v0, v1, v2, v3, v4, some (.int x), v6, v7] st A Q ↔ XX d 268 424 [v0, v1, v2, v3, v4, some (.int x), v6, v7] (.int x :: st) A Q := c_lcl i_268_422 rfl rfl
theorem q_268_424 : XX d 268 424 [v0, v1, v2, v3, v4, v5, v6, v7] (.int x :: st) A Q ↔ if x = w 0 then XX d 268 427 [v0, v1, v2, v3, v4, v5, v6, v7] st A Q else XX d 268 439 [v0, v1, v2, v3, v4, v5, v6, v7] st A Q := z_ne i_268_424 rfl rfl rfl
theorem q_268_427 : XX d 268 427 [v0, v1, v2, some (.ref a), v4, v5, v6, v7] st A Q ↔ XX d 268 428 [v0, v1, v2, some (.ref a), v4, v5, v6, v7] (.ref a :: st) A Q := c_lcl i_268_427 rfl rfl
theorem q_268_428 : XX d 268 428 [v0, v1, v2, v3, v4, v5, v6, v7] st A Q ↔ XX d 268 429 [v0, v1, v2, v3, v4, v5, v6, v7] (.int (w 0) :: st) A Q := c_stk i_268_428 rfl
theorem q_268_429 : XX d 268 429 [v0, v1, v2, v3, v4, v5, v6, v7] (.int x :: .ref a :: st) (mk S I L R G) Q ↔ inA (S a) ok_l x ∧ XX d 268 430 [v0, v1, v2, v3, v4, v5, v6, v7] (.long (L a (ix x)) :: st) (mk S I L R G) Q := r_la i_268_429
theorem q_268_430 : XX d 268 430 [v0, v1, v2, v3, v4, v5, some (.int x), v7] st A Q ↔ XX d 268 432 [v0, v1, v2, v3, v4, v5, some (.int x), v7] (.int x :: st) A Q := c_lcl i_268_430 rfl rfl
theorem q_268_432 : XX d 268 432 [v0, v1, v2, v3, v4, v5, v6, v7] (.int x :: st) A Q ↔ XX d 268 433 [v0, v1, v2, v3, v4, v5, v6, v7] (.long x.toInt64 :: st) A Q := c_stk i_268_432 rfl
theorem q_268_433 : XX d 268 433 [v0, v1, v2, v3, v4, v5, v6, v7] (.long ly :: .long lx :: st) A Q ↔ XX d 268 434 [v0, v1, v2, v3, v4, v5, v6, v7] (.int (lg_cmp lx ly) :: st) A Q := c_stk i_268_433 rfl
theorem q_268_434 : XX d 268 434 [v0, v1, v2, v3, v4, v5, v6, v7] (.int x :: st) A Q ↔ if x = w 0 then XX d 268 439 [v0, v1, v2, v3, v4, v5, v6, v7] st A Q else XX d 268 437 [v0, v1, v2, v3, v4, v5, v6, v7] st A Q := z_eq i_268_434 rfl rfl rfl
theorem q_268_437 : XX d 268 437 [v0, v1, v2, v3, v4, v5, v6, v7] st A Q ↔ XX d 268 438 [v0, v1, v2, v3, v4, v5, v6, v7] (.int (w 0) :: st) A Q := c_stk i_268_437 rfl
theorem q_268_438 : XX d 268 438 [v0, v1, v2, v3, v4, v5, v6, v7] [.int x] A Q ↔ (x = w 0 ∨ x = w 1) ∧ Q (.inl (some (.int x))) A := e_retZ i_268_438 rfl
theorem q_268_439 : XX d 268 439 [v0, v1, v2, v3, v4, v5, v6, v7] st A Q ↔ XX d 268 2288 [v0, v1, v2, v3, v4, v5, v6, v7] st A Q := c_go i_268_439 rfl rfl
theorem q_268_442 : XX d 268 442 [v0, some (.ref a), v2, v3, v4, v5, v6, v7] st A Q ↔ XX d 268 443 [v0, some (.ref a), v2, v3, v4, v5, v6, v7] (.ref a :: st) A Q := c_lcl i_268_442 rfl rfl
theorem q_268_443 : XX d 268 443 [some (.ref a), v1, v2, v3, v4, v5, v6, v7] st A Q ↔ XX d 268 444 [some (.ref a), v1, v2, v3, v4, v5, v6, v7] (.ref a :: st) A Q := c_lcl i_268_443 rfl rfl
theorem q_268_444 : XX d 268 444 [v0, v1, v2, v3, some (.int x), v5, v6, v7] st A Q ↔ XX d 268 446 [v0, v1, v2, v3, some (.int x), v5, v6, v7] (.int x :: st) A Q := c_lcl i_268_444 rfl rfl
theorem q_268_446 : XX d 268 446 [v0, v1, v2, v3, v4, v5, v6, v7] st A Q ↔ XX d 268 447 [v0, v1, v2, v3, v4, v5, v6, v7] (.int (w 1) :: st) A Q := c_stk i_268_446 rfl
theorem q_268_447 : XX d 268 447 [v0, v1, v2, v3, v4, v5, v6, v7] (.int y :: .int x :: st) A Q ↔ XX d 268 448 [v0, v1, v2, v3, v4, v5, v6, v7] (.int (x + y) :: st) A Q := c_stk i_268_447 rfl
theorem q_268_448 : XX d 268 448 [v0, v1, v2, v3, v4, v5, v6, v7] (.int x :: .ref a :: st) (mk S I L R G) Q ↔ inA (S a) ok_i x ∧ XX d 268 449 [v0, v1, v2, v3, v4, v5, v6, v7] (.int (I a (ix x)) :: st) (mk S I L R G) Q := r_ia i_268_448
theorem q_268_449 : XX d 268 449 [some (.ref a), v1, v2, v3, v4, v5, v6, v7] st A Q ↔ XX d 268 450 [some (.ref a), v1, v2, v3, v4, v5, v6, v7] (.ref a :: st) A Q := c_lcl i_268_449 rfl rfl
theorem q_268_450 : XX d 268 450 [v0, v1, v2, v3, some (.int x), v5, v6, v7] st A Q ↔ XX d 268 452 [v0, v1, v2, v3, some (.int x), v5, v6, v7] (.int x :: st) A Q := c_lcl i_268_450 rfl rfl
theorem q_268_452 : XX d 268 452 [v0, v1, v2, v3, v4, v5, v6, v7] st A Q ↔ XX d 268 453 [v0, v1, v2, v3, v4, v5, v6, v7] (.int (w 2) :: st) A Q := c_stk i_268_452 rfl
theorem q_268_453 : XX d 268 453 [v0, v1, v2, v3, v4, v5, v6, v7] (.int y :: .int x :: st) A Q ↔ XX d 268 454 [v0, v1, v2, v3, v4, v5, v6, v7] (.int (x + y) :: st) A Q := c_stk i_268_453 rfl
theorem q_268_454 : XX d 268 454 [v0, v1, v2, v3, v4, v5, v6, v7] (.int x :: .ref a :: st) (mk S I L R G) Q ↔ inA (S a) ok_i x ∧ XX d 268 455 [v0, v1, v2, v3, v4, v5, v6, v7] (.int (I a (ix x)) :: st) (mk S I L R G) Q := r_ia i_268_454
theorem q_268_455 : XX d 268 455 [v0, v1, v2, some (.ref a), v4, v5, v6, v7] st A Q ↔ XX d 268 456 [v0, v1, v2, some (.ref a), v4, v5, v6, v7] (.ref a :: st) A Q := c_lcl i_268_455 rfl rfl
theorem q_268_456 : XX (d + 1) 268 456 [v0, v1, v2, v3, v4, v5, v6, v7] [.ref a3, .int x2, .int x1, .ref a0] A Q ↔ XC d 243 [.ref a0, .int x1, .int x2, .ref a3] A (XK (d + 1) 268 456 [v0, v1, v2, v3, v4, v5, v6, v7] [] Q) := c_callS i_268_456 rfl rfl rfl rfl (Nat.le_of_ble_eq_true rfl) (Nat.le_of_ble_eq_true rfl)
theorem q_268_459 : XX d 268 459 [v0, v1, v2, v3, some (.int z), v5, v6, v7] (.int x :: st) A Q ↔ XX d 268 461 [v0, v1, v2, v3, some (.int z), some (.int x), v6, v7] st A Q := c_lcl i_268_459 rfl rfl
theorem q_268_461 : XX d 268 461 [v0, v1, some (.ref a), v3, v4, v5, v6, v7] st A Q ↔ XX d 268 462 [v0, v1, some (.ref a), v3, v4, v5, v6, v7] (.ref a :: st) A Q := c_lcl i_268_461 rfl rfl
theorem q_268_462 : XX d 268 462 [some (.ref a), v1, v2, v3, v4, v5, v6, v7] st A Q ↔ XX d 268 463 [some (.ref a), v1, v2, v3, v4, v5, v6, v7] (.ref a :: st) A Q := c_lcl i_268_462 rfl rfl
theorem q_268_463 : XX d 268 463 [v0, v1, v2, v3, some (.int x), v5, v6, v7] st A Q ↔ XX d 268 465 [v0, v1, v2, v3, some (.int x), v5, v6, v7] (.int x :: st) A Q := c_lcl i_268_463 rfl rfl
theorem q_268_465 : XX d 268 465 [v0, v1, v2, v3, v4, v5, v6, v7] st A Q ↔ XX d 268 466 [v0, v1, v2, v3, v4, v5, v6, v7] (.int (w 1) :: st) A Q := c_stk i_268_465 rfl
theorem q_268_466 : XX d 268 466 [v0, v1, v2, v3, v4, v5, v6, v7] (.int y :: .int x :: st) A Q ↔ XX d 268 467 [v0, v1, v2, v3, v4, v5, v6, v7] (.int (x + y) :: st) A Q := c_stk i_268_466 rfl
theorem q_268_467 : XX d 268 467 [v0, v1, v2, v3, v4, v5, v6, v7] (.int x :: .ref a :: st) (mk S I L R G) Q ↔ inA (S a) ok_i x ∧ XX d 268 468 [v0, v1, v2, v3, v4, v5, v6, v7] (.int (I a (ix x)) :: st) (mk S I L R G) Q := r_ia i_268_467
theorem q_268_468 : XX d 268 468 [some (.ref a), v1, v2, v3, v4, v5, v6, v7] st A Q ↔ XX d 268 469 [some (.ref a), v1, v2, v3, v4, v5, v6, v7] (.ref a :: st) A Q := c_lcl i_268_468 rfl rfl
theorem q_268_469 : XX d 268 469 [v0, v1, v2, v3, some (.int x), v5, v6, v7] st A Q ↔ XX d 268 471 [v0, v1, v2, v3, some (.int x), v5, v6, v7] (.int x :: st) A Q := c_lcl i_268_469 rfl rfl
theorem q_268_471 : XX d 268 471 [v0, v1, v2, v3, v4, v5, v6, v7] st A Q ↔ XX d 268 472 [v0, v1, v2, v3, v4, v5, v6, v7] (.int (w 2) :: st) A Q := c_stk i_268_471 rfl
theorem q_268_472 : XX d 268 472 [v0, v1, v2, v3, v4, v5, v6, v7] (.int y :: .int x :: st) A Q ↔ XX d 268 473 [v0, v1, v2, v3, v4, v5, v6, v7] (.int (x + y) :: st) A Q := c_stk i_268_472 rfl
theorem q_268_473 : XX d 268 473 [v0, v1, v2, v3, v4, v5, v6, v7] (.int x :: .ref a :: st) (mk S I L R G) Q ↔ inA (S a) ok_i x ∧ XX d 268 474 [v0, v1, v2, v3, v4, v5, v6, v7] (.int (I a (ix x)) :: st) (mk S I L R G) Q := r_ia i_268_473
theorem q_268_474 : XX (d + 1) 268 474 [v0, v1, v2, v3, v4, v5, v6, v7] [.int x2, .int x1, .ref a0] (mk S I L R G) Q ↔ S a0 = some (.inr 12) ∧ XC d 185 [.ref a0, .int x1, .int x2] (mk S I L R G) (XK (d + 1) 268 474 [v0, v1, v2, v3, v4, v5, v6, v7] [] Q) := c_callV i_268_474 rfl rfl rfl rfl (Nat.le_of_ble_eq_true rfl) (Nat.le_of_ble_eq_true rfl) rfl
theorem q_268_477 : XX d 268 477 [v0, v1, v2, v3, v4, some (.int z), v6, v7] (.int x :: st) A Q ↔ XX d 268 479 [v0, v1, v2, v3, v4, some (.int z), some (.int x), v7] st A Q := c_lcl i_268_477 rfl rfl
theorem q_268_479 : XX d 268 479 [v0, v1, some (.ref a), v3, v4, v5, v6, v7] st A Q ↔ XX d 268 480 [v0, v1, some (.ref a), v3, v4, v5, v6, v7] (.ref a :: st) A Q := c_lcl i_268_479 rfl rfl
theorem q_268_480 : XX (d + 1) 268 480 [v0, v1, v2, v3, v4, v5, v6, v7] [.ref a0] (mk S I L R G) Q ↔ S a0 = some (.inr 12) ∧ XC d 153 [.ref a0] (mk S I L R G) (XK (d + 1) 268 480 [v0, v1, v2, v3, v4, v5, v6, v7] [] Q) := c_callV i_268_480 rfl rfl rfl rfl (Nat.le_of_ble_eq_true rfl) (Nat.le_of_ble_eq_true rfl) rfl
theorem q_268_483 : XX d 268 483 [v0, v1, v2, v3, v4, some (.int x), v6, v7] st A Q ↔ XX d 268 485 [v0, v1, v2, v3, v4, some (.int x), v6, v7] (.int x :: st) A Q := c_lcl i_268_483 rfl rfl
theorem q_268_485 : XX d 268 485 [v0, v1, v2, v3, v4, v5, v6, v7] (.int y :: .int x :: st) A Q ↔ if x = y then XX d 268 490 [v0, v1, v2, v3, v4, v5, v6, v7] st A Q else XX d 268 488 [v0, v1, v2, v3, v4, v5, v6, v7] st A Q := b_eq i_268_485 rfl rfl rfl
theorem q_268_488 : XX d 268 488 [v0, v1, v2, v3, v4, v5, v6, v7] st A Q ↔ XX d 268 489 [v0, v1, v2, v3, v4, v5, v6, v7] (.int (w 0) :: st) A Q := c_stk i_268_488 rfl
theorem q_268_489 : XX d 268 489 [v0, v1, v2, v3, v4, v5, v6, v7] [.int x] A Q ↔ (x = w 0 ∨ x = w 1) ∧ Q (.inl (some (.int x))) A := e_retZ i_268_489 rfl
theorem q_268_490 : XX d 268 490 [v0, v1, v2, v3, v4, some (.int x), v6, v7] st A Q ↔ XX d 268 492 [v0, v1, v2, v3, v4, some (.int x), v6, v7] (.int x :: st) A Q := c_lcl i_268_490 rfl rfl
theorem q_268_492 : XX d 268 492 [v0, v1, v2, v3, v4, v5, v6, v7] (.int x :: st) A Q ↔ if x = w 0 then XX d 268 495 [v0, v1, v2, v3, v4, v5, v6, v7] st A Q else XX d 268 507 [v0, v1, v2, v3, v4, v5, v6, v7] st A Q := z_ne i_268_492 rfl rfl rfl
theorem q_268_495 : XX d 268 495 [v0, v1, v2, some (.ref a), v4, v5, v6, v7] st A Q ↔ XX d 268 496 [v0, v1, v2, some (.ref a), v4, v5, v6, v7] (.ref a :: st) A Q := c_lcl i_268_495 rfl rfl
theorem q_268_496 : XX d 268 496 [v0, v1, v2, v3, v4, v5, v6, v7] st A Q ↔ XX d 268 497 [v0, v1, v2, v3, v4, v5, v6, v7] (.int (w 0) :: st) A Q := c_stk i_268_496 rfl
theorem q_268_497 : XX d 268 497 [v0, v1, v2, v3, v4, v5, v6, v7] (.int x :: .ref a :: st) (mk S I L R G) Q ↔ inA (S a) ok_l x ∧ XX d 268 498 [v0, v1, v2, v3, v4, v5, v6, v7] (.long (L a (ix x)) :: st) (mk S I L R G) Q := r_la i_268_497
theorem q_268_498 : XX d 268 498 [v0, v1, v2, v3, v4, v5, some (.int x), v7] st A Q ↔ XX d 268 500 [v0, v1, v2, v3, v4, v5, some (.int x), v7] (.int x :: st) A Q := c_lcl i_268_498 rfl rfl
theorem q_268_500 : XX d 268 500 [v0, v1, v2, v3, v4, v5, v6, v7] (.int x :: st) A Q ↔ XX d 268 501 [v0, v1, v2, v3, v4, v5, v6, v7] (.long x.toInt64 :: st) A Q := c_stk i_268_500 rfl
theorem q_268_501 : XX d 268 501 [v0, v1, v2, v3, v4, v5, v6, v7] (.long ly :: .long lx :: st) A Q ↔ XX d 268 502 [v0, v1, v2, v3, v4, v5, v6, v7] (.int (lg_cmp lx ly) :: st) A Q := c_stk i_268_501 rfl
theorem q_268_502 : XX d 268 502 [v0, v1, v2, v3, v4, v5, v6, v7] (.int x :: st) A Q ↔ if x = w 0 then XX d 268 507 [v0, v1, v2, v3, v4, v5, v6, v7] st A Q else XX d 268 505 [v0, v1, v2, v3, v4, v5, v6, v7] st A Q := z_eq i_268_502 rfl rfl rfl
theorem q_268_505 : XX d 268 505 [v0, v1, v2, v3, v4, v5, v6, v7] st A Q ↔ XX d 268 506 [v0, v1, v2, v3, v4, v5, v6, v7] (.int (w 0) :: st) A Q := c_stk i_268_505 rfl
theorem q_268_506 : XX d 268 506 [v0, v1, v2, v3, v4, v5, v6, v7] [.int x] A Q ↔ (x = w 0 ∨ x = w 1) ∧ Q (.inl (some (.int x))) A := e_retZ i_268_506 rfl
theorem q_268_507 : XX d 268 507 [v0, v1, v2, v3, v4, v5, v6, v7] st A Q ↔ XX d 268 2288 [v0, v1, v2, v3, v4, v5, v6, v7] st A Q := c_go i_268_507 rfl rfl
theorem q_268_510 : XX d 268 510 [v0, some (.ref a), v2, v3, v4, v5, v6, v7] st A Q ↔ XX d 268 511 [v0, some (.ref a), v2, v3, v4, v5, v6, v7] (.ref a :: st) A Q := c_lcl i_268_510 rfl rfl
theorem q_268_511 : XX d 268 511 [some (.ref a), v1, v2, v3, v4, v5, v6, v7] st A Q ↔ XX d 268 512 [some (.ref a), v1, v2, v3, v4, v5, v6, v7] (.ref a :: st) A Q := c_lcl i_268_511 rfl rfl
theorem q_268_512 : XX d 268 512 [v0, v1, v2, v3, some (.int x), v5, v6, v7] st A Q ↔ XX d 268 514 [v0, v1, v2, v3, some (.int x), v5, v6, v7] (.int x :: st) A Q := c_lcl i_268_512 rfl rfl
theorem q_268_514 : XX d 268 514 [v0, v1, v2, v3, v4, v5, v6, v7] st A Q ↔ XX d 268 515 [v0, v1, v2, v3, v4, v5, v6, v7] (.int (w 1) :: st) A Q := c_stk i_268_514 rfl
theorem q_268_515 : XX d 268 515 [v0, v1, v2, v3, v4, v5, v6, v7] (.int y :: .int x :: st) A Q ↔ XX d 268 516 [v0, v1, v2, v3, v4, v5, v6, v7] (.int (x + y) :: st) A Q := c_stk i_268_515 rfl
theorem q_268_516 : XX d 268 516 [v0, v1, v2, v3, v4, v5, v6, v7] (.int x :: .ref a :: st) (mk S I L R G) Q ↔ inA (S a) ok_i x ∧ XX d 268 517 [v0, v1, v2, v3, v4, v5, v6, v7] (.int (I a (ix x)) :: st) (mk S I L R G) Q := r_ia i_268_516
theorem q_268_517 : XX d 268 517 [some (.ref a), v1, v2, v3, v4, v5, v6, v7] st A Q ↔ XX d 268 518 [some (.ref a), v1, v2, v3, v4, v5, v6, v7] (.ref a :: st) A Q := c_lcl i_268_517 rfl rfl
theorem q_268_518 : XX d 268 518 [v0, v1, v2, v3, some (.int x), v5, v6, v7] st A Q ↔ XX d 268 520 [v0, v1, v2, v3, some (.int x), v5, v6, v7] (.int x :: st) A Q := c_lcl i_268_518 rfl rfl
theorem q_268_520 : XX d 268 520 [v0, v1, v2, v3, v4, v5, v6, v7] st A Q ↔ XX d 268 521 [v0, v1, v2, v3, v4, v5, v6, v7] (.int (w 2) :: st) A Q := c_stk i_268_520 rfl
theorem q_268_521 : XX d 268 521 [v0, v1, v2, v3, v4, v5, v6, v7] (.int y :: .int x :: st) A Q ↔ XX d 268 522 [v0, v1, v2, v3, v4, v5, v6, v7] (.int (x + y) :: st) A Q := c_stk i_268_521 rfl
theorem q_268_522 : XX d 268 522 [v0, v1, v2, v3, v4, v5, v6, v7] (.int x :: .ref a :: st) (mk S I L R G) Q ↔ inA (S a) ok_i x ∧ XX d 268 523 [v0, v1, v2, v3, v4, v5, v6, v7] (.int (I a (ix x)) :: st) (mk S I L R G) Q := r_ia i_268_522
theorem q_268_523 : XX d 268 523 [v0, v1, v2, some (.ref a), v4, v5, v6, v7] st A Q ↔ XX d 268 524 [v0, v1, v2, some (.ref a), v4, v5, v6, v7] (.ref a :: st) A Q := c_lcl i_268_523 rfl rfl
theorem q_268_524 : XX (d + 1) 268 524 [v0, v1, v2, v3, v4, v5, v6, v7] [.ref a3, .int x2, .int x1, .ref a0] A Q ↔ XC d 244 [.ref a0, .int x1, .int x2, .ref a3] A (XK (d + 1) 268 524 [v0, v1, v2, v3, v4, v5, v6, v7] [] Q) := c_callS i_268_524 rfl rfl rfl rfl (Nat.le_of_ble_eq_true rfl) (Nat.le_of_ble_eq_true rfl)
theorem q_268_527 : XX d 268 527 [v0, v1, v2, v3, some (.int z), v5, v6, v7] (.int x :: st) A Q ↔ XX d 268 529 [v0, v1, v2, v3, some (.int z), some (.int x), v6, v7] st A Q := c_lcl i_268_527 rfl rfl
theorem q_268_529 : XX d 268 529 [v0, v1, some (.ref a), v3, v4, v5, v6, v7] st A Q ↔ XX d 268 530 [v0, v1, some (.ref a), v3, v4, v5, v6, v7] (.ref a :: st) A Q := c_lcl i_268_529 rfl rfl
theorem q_268_530 : XX d 268 530 [some (.ref a), v1, v2, v3, v4, v5, v6, v7] st A Q ↔ XX d 268 531 [some (.ref a), v1, v2, v3, v4, v5, v6, v7] (.ref a :: st) A Q := c_lcl i_268_530 rfl rfl
theorem q_268_531 : XX d 268 531 [v0, v1, v2, v3, some (.int x), v5, v6, v7] st A Q ↔ XX d 268 533 [v0, v1, v2, v3, some (.int x), v5, v6, v7] (.int x :: st) A Q := c_lcl i_268_531 rfl rfl
theorem q_268_533 : XX d 268 533 [v0, v1, v2, v3, v4, v5, v6, v7] st A Q ↔ XX d 268 534 [v0, v1, v2, v3, v4, v5, v6, v7] (.int (w 1) :: st) A Q := c_stk i_268_533 rfl
theorem q_268_534 : XX d 268 534 [v0, v1, v2, v3, v4, v5, v6, v7] (.int y :: .int x :: st) A Q ↔ XX d 268 535 [v0, v1, v2, v3, v4, v5, v6, v7] (.int (x + y) :: st) A Q := c_stk i_268_534 rfl
theorem q_268_535 : XX d 268 535 [v0, v1, v2, v3, v4, v5, v6, v7] (.int x :: .ref a :: st) (mk S I L R G) Q ↔ inA (S a) ok_i x ∧ XX d 268 536 [v0, v1, v2, v3, v4, v5, v6, v7] (.int (I a (ix x)) :: st) (mk S I L R G) Q := r_ia i_268_535
theorem q_268_536 : XX d 268 536 [some (.ref a), v1, v2, v3, v4, v5, v6, v7] st A Q ↔ XX d 268 537 [some (.ref a), v1, v2, v3, v4, v5, v6, v7] (.ref a :: st) A Q := c_lcl i_268_536 rfl rfl
theorem q_268_537 : XX d 268 537 [v0, v1, v2, v3, some (.int x), v5, v6, v7] st A Q ↔ XX d 268 539 [v0, v1, v2, v3, some (.int x), v5, v6, v7] (.int x :: st) A Q := c_lcl i_268_537 rfl rfl
theorem q_268_539 : XX d 268 539 [v0, v1, v2, v3, v4, v5, v6, v7] st A Q ↔ XX d 268 540 [v0, v1, v2, v3, v4, v5, v6, v7] (.int (w 2) :: st) A Q := c_stk i_268_539 rfl
theorem q_268_540 : XX d 268 540 [v0, v1, v2, v3, v4, v5, v6, v7] (.int y :: .int x :: st) A Q ↔ XX d 268 541 [v0, v1, v2, v3, v4, v5, v6, v7] (.int (x + y) :: st) A Q := c_stk i_268_540 rfl
theorem q_268_541 : XX d 268 541 [v0, v1, v2, v3, v4, v5, v6, v7] (.int x :: .ref a :: st) (mk S I L R G) Q ↔ inA (S a) ok_i x ∧ XX d 268 542 [v0, v1, v2, v3, v4, v5, v6, v7] (.int (I a (ix x)) :: st) (mk S I L R G) Q := r_ia i_268_541
theorem q_268_542 : XX (d + 1) 268 542 [v0, v1, v2, v3, v4, v5, v6, v7] [.int x2, .int x1, .ref a0] (mk S I L R G) Q ↔ S a0 = some (.inr 12) ∧ XC d 200 [.ref a0, .int x1, .int x2] (mk S I L R G) (XK (d + 1) 268 542 [v0, v1, v2, v3, v4, v5, v6, v7] [] Q) := c_callV i_268_542 rfl rfl rfl rfl (Nat.le_of_ble_eq_true rfl) (Nat.le_of_ble_eq_true rfl) rfl
theorem q_268_545 : XX d 268 545 [v0, v1, v2, v3, v4, some (.int z), v6, v7] (.int x :: st) A Q ↔ XX d 268 547 [v0, v1, v2, v3, v4, some (.int z), some (.int x), v7] st A Q := c_lcl i_268_545 rfl rfl
theorem q_268_547 : XX d 268 547 [v0, v1, some (.ref a), v3, v4, v5, v6, v7] st A Q ↔ XX d 268 548 [v0, v1, some (.ref a), v3, v4, v5, v6, v7] (.ref a :: st) A Q := c_lcl i_268_547 rfl rfl
theorem q_268_548 : XX (d + 1) 268 548 [v0, v1, v2, v3, v4, v5, v6, v7] [.ref a0] (mk S I L R G) Q ↔ S a0 = some (.inr 12) ∧ XC d 153 [.ref a0] (mk S I L R G) (XK (d + 1) 268 548 [v0, v1, v2, v3, v4, v5, v6, v7] [] Q) := c_callV i_268_548 rfl rfl rfl rfl (Nat.le_of_ble_eq_true rfl) (Nat.le_of_ble_eq_true rfl) rfl
theorem q_268_551 : XX d 268 551 [v0, v1, v2, v3, v4, some (.int x), v6, v7] st A Q ↔ XX d 268 553 [v0, v1, v2, v3, v4, some (.int x), v6, v7] (.int x :: st) A Q := c_lcl i_268_551 rfl rfl
theorem q_268_553 : XX d 268 553 [v0, v1, v2, v3, v4, v5, v6, v7] (.int y :: .int x :: st) A Q ↔ if x = y then XX d 268 558 [v0, v1, v2, v3, v4, v5, v6, v7] st A Q else XX d 268 556 [v0, v1, v2, v3, v4, v5, v6, v7] st A Q := b_eq i_268_553 rfl rfl rfl
theorem q_268_556 : XX d 268 556 [v0, v1, v2, v3, v4, v5, v6, v7] st A Q ↔ XX d 268 557 [v0, v1, v2, v3, v4, v5, v6, v7] (.int (w 0) :: st) A Q := c_stk i_268_556 rfl
theorem q_268_557 : XX d 268 557 [v0, v1, v2, v3, v4, v5, v6, v7] [.int x] A Q ↔ (x = w 0 ∨ x = w 1) ∧ Q (.inl (some (.int x))) A := e_retZ i_268_557 rfl
theorem q_268_558 : XX d 268 558 [v0, v1, v2, v3, v4, some (.int x), v6, v7] st A Q ↔ XX d 268 560 [v0, v1, v2, v3, v4, some (.int x), v6, v7] (.int x :: st) A Q := c_lcl i_268_558 rfl rfl
theorem q_268_560 : XX d 268 560 [v0, v1, v2, v3, v4, v5, v6, v7] (.int x :: st) A Q ↔ if x = w 0 then XX d 268 563 [v0, v1, v2, v3, v4, v5, v6, v7] st A Q else XX d 268 575 [v0, v1, v2, v3, v4, v5, v6, v7] st A Q := z_ne i_268_560 rfl rfl rfl
theorem q_268_563 : XX d 268 563 [v0, v1, v2, some (.ref a), v4, v5, v6, v7] st A Q ↔ XX d 268 564 [v0, v1, v2, some (.ref a), v4, v5, v6, v7] (.ref a :: st) A Q := c_lcl i_268_563 rfl rfl
theorem q_268_564 : XX d 268 564 [v0, v1, v2, v3, v4, v5, v6, v7] st A Q ↔ XX d 268 565 [v0, v1, v2, v3, v4, v5, v6, v7] (.int (w 0) :: st) A Q := c_stk i_268_564 rfl
theorem q_268_565 : XX d 268 565 [v0, v1, v2, v3, v4, v5, v6, v7] (.int x :: .ref a :: st) (mk S I L R G) Q ↔ inA (S a) ok_l x ∧ XX d 268 566 [v0, v1, v2, v3, v4, v5, v6, v7] (.long (L a (ix x)) :: st) (mk S I L R G) Q := r_la i_268_565
theorem q_268_566 : XX d 268 566 [v0, v1, v2, v3, v4, v5, some (.int x), v7] st A Q ↔ XX d 268 568 [v0, v1, v2, v3, v4, v5, some (.int x), v7] (.int x :: st) A Q := c_lcl i_268_566 rfl rfl
theorem q_268_568 : XX d 268 568 [v0, v1, v2, v3, v4, v5, v6, v7] (.int x :: st) A Q ↔ XX d 268 569 [v0, v1, v2, v3, v4, v5, v6, v7] (.long x.toInt64 :: st) A Q := c_stk i_268_568 rfl
theorem q_268_569 : XX d 268 569 [v0, v1, v2, v3, v4, v5, v6, v7] (.long ly :: .long lx :: st) A Q ↔ XX d 268 570 [v0, v1, v2, v3, v4, v5, v6, v7] (.int (lg_cmp lx ly) :: st) A Q := c_stk i_268_569 rfl
theorem q_268_570 : XX d 268 570 [v0, v1, v2, v3, v4, v5, v6, v7] (.int x :: st) A Q ↔ if x = w 0 then XX d 268 575 [v0, v1, v2, v3, v4, v5, v6, v7] st A Q else XX d 268 573 [v0, v1, v2, v3, v4, v5, v6, v7] st A Q := z_eq i_268_570 rfl rfl rfl
theorem q_268_573 : XX d 268 573 [v0, v1, v2, v3, v4, v5, v6, v7] st A Q ↔ XX d 268 574 [v0, v1, v2, v3, v4, v5, v6, v7] (.int (w 0) :: st) A Q := c_stk i_268_573 rfl
theorem q_268_574 : XX d 268 574 [v0, v1, v2, v3, v4, v5, v6, v7] [.int x] A Q ↔ (x = w 0 ∨ x = w 1) ∧ Q (.inl (some (.int x))) A := e_retZ i_268_574 rfl
theorem q_268_575 : XX d 268 575 [v0, v1, v2, v3, v4, v5, v6, v7] st A Q ↔ XX d 268 2288 [v0, v1, v2, v3, v4, v5, v6, v7] st A Q := c_go i_268_575 rfl rfl
theorem q_268_578 : XX d 268 578 [v0, some (.ref a), v2, v3, v4, v5, v6, v7] st A Q ↔ XX d 268 579 [v0, some (.ref a), v2, v3, v4, v5, v6, v7] (.ref a :: st) A Q := c_lcl i_268_578 rfl rfl
theorem q_268_579 : XX (d + 1) 268 579 [v0, v1, v2, v3, v4, v5, v6, v7] [.ref a0] (mk S I L R G) Q ↔ S a0 = some (.inr 11) ∧ XC d 113 [.ref a0] (mk S I L R G) (XK (d + 1) 268 579 [v0, v1, v2, v3, v4, v5, v6, v7] [] Q) := c_callV i_268_579 rfl rfl rfl rfl (Nat.le_of_ble_eq_true rfl) (Nat.le_of_ble_eq_true rfl) rfl
theorem q_268_582 : XX d 268 582 [v0, v1, some (.ref a), v3, v4, v5, v6, v7] st A Q ↔ XX d 268 583 [v0, v1, some (.ref a), v3, v4, v5, v6, v7] (.ref a :: st) A Q := c_lcl i_268_582 rfl rfl
theorem q_268_583 : XX (d + 1) 268 583 [v0, v1, v2, v3, v4, v5, v6, v7] [.ref a0, .int x1] (mk S I L R G) Q ↔ S a0 = some (.inr 12) ∧ XC d 180 [.ref a0] (mk S I L R G) (XK (d + 1) 268 583 [v0, v1, v2, v3, v4, v5, v6, v7] [.int x1] Q) := c_callV i_268_583 rfl rfl rfl rfl (Nat.le_of_ble_eq_true rfl) (Nat.le_of_ble_eq_true rfl) rfl
theorem q_268_586 : XX d 268 586 [v0, v1, v2, v3, v4, v5, v6, v7] (.int y :: .int x :: st) A Q ↔ if x = y then XX d 268 2288 [v0, v1, v2, v3, v4, v5, v6, v7] st A Q else XX d 268 589 [v0, v1, v2, v3, v4, v5, v6, v7] st A Q := b_eq i_268_586 rfl rfl rfl
theorem q_268_589 : XX d 268 589 [v0, v1, v2, v3, v4, v5, v6, v7] st A Q ↔ XX d 268 590 [v0, v1, v2, v3, v4, v5, v6, v7] (.int (w 0) :: st) A Q := c_stk i_268_589 rfl
theorem q_268_590 : XX d 268 590 [v0, v1, v2, v3, v4, v5, v6, v7] [.int x] A Q ↔ (x = w 0 ∨ x = w 1) ∧ Q (.inl (some (.int x))) A := e_retZ i_268_590 rfl
theorem q_268_591 : XX d 268 591 [v0, some (.ref a), v2, v3, v4, v5, v6, v7] st A Q ↔ XX d 268 592 [v0, some (.ref a), v2, v3, v4, v5, v6, v7] (.ref a :: st) A Q := c_lcl i_268_591 rfl rfl
theorem q_268_592 : XX d 268 592 [some (.ref a), v1, v2, v3, v4, v5, v6, v7] st A Q ↔ XX d 268 593 [some (.ref a), v1, v2, v3, v4, v5, v6, v7] (.ref a :: st) A Q := c_lcl i_268_592 rfl rfl
theorem q_268_593 : XX d 268 593 [v0, v1, v2, v3, some (.int x), v5, v6, v7] st A Q ↔ XX d 268 595 [v0, v1, v2, v3, some (.int x), v5, v6, v7] (.int x :: st) A Q := c_lcl i_268_593 rfl rfl
theorem q_268_595 : XX d 268 595 [v0, v1, v2, v3, v4, v5, v6, v7] st A Q ↔ XX d 268 596 [v0, v1, v2, v3, v4, v5, v6, v7] (.int (w 1) :: st) A Q := c_stk i_268_595 rfl
theorem q_268_596 : XX d 268 596 [v0, v1, v2, v3, v4, v5, v6, v7] (.int y :: .int x :: st) A Q ↔ XX d 268 597 [v0, v1, v2, v3, v4, v5, v6, v7] (.int (x + y) :: st) A Q := c_stk i_268_596 rfl
theorem q_268_597 : XX d 268 597 [v0, v1, v2, v3, v4, v5, v6, v7] (.int x :: .ref a :: st) (mk S I L R G) Q ↔ inA (S a) ok_i x ∧ XX d 268 598 [v0, v1, v2, v3, v4, v5, v6, v7] (.int (I a (ix x)) :: st) (mk S I L R G) Q := r_ia i_268_597
theorem q_268_598 : XX d 268 598 [v0, v1, v2, some (.ref a), v4, v5, v6, v7] st A Q ↔ XX d 268 599 [v0, v1, v2, some (.ref a), v4, v5, v6, v7] (.ref a :: st) A Q := c_lcl i_268_598 rfl rfl
theorem q_268_599 : XX (d + 1) 268 599 [v0, v1, v2, v3, v4, v5, v6, v7] [.ref a2, .int x1, .ref a0] A Q ↔ XC d 245 [.ref a0, .int x1, .ref a2] A (XK (d + 1) 268 599 [v0, v1, v2, v3, v4, v5, v6, v7] [] Q) := c_callS i_268_599 rfl rfl rfl rfl (Nat.le_of_ble_eq_true rfl) (Nat.le_of_ble_eq_true rfl)
theorem q_268_602 : XX d 268 602 [v0, v1, v2, v3, some (.int z), v5, v6, v7] (.int x :: st) A Q ↔ XX d 268 604 [v0, v1, v2, v3, some (.int z), some (.int x), v6, v7] st A Q := c_lcl i_268_602 rfl rfl
theorem q_268_604 : XX d 268 604 [v0, v1, some (.ref a), v3, v4, v5, v6, v7] st A Q ↔ XX d 268 605 [v0, v1, some (.ref a), v3, v4, v5, v6, v7] (.ref a :: st) A Q := c_lcl i_268_604 rfl rfl
theorem q_268_605 : XX d 268 605 [some (.ref a), v1, v2, v3, v4, v5, v6, v7] st A Q ↔ XX d 268 606 [some (.ref a), v1, v2, v3, v4, v5, v6, v7] (.ref a :: st) A Q := c_lcl i_268_605 rfl rfl
theorem q_268_606 : XX d 268 606 [v0, v1, v2, v3, some (.int x), v5, v6, v7] st A Q ↔ XX d 268 608 [v0, v1, v2, v3, some (.int x), v5, v6, v7] (.int x :: st) A Q := c_lcl i_268_606 rfl rfl
theorem q_268_608 : XX d 268 608 [v0, v1, v2, v3, v4, v5, v6, v7] st A Q ↔ XX d 268 609 [v0, v1, v2, v3, v4, v5, v6, v7] (.int (w 1) :: st) A Q := c_stk i_268_608 rfl
theorem q_268_609 : XX d 268 609 [v0, v1, v2, v3, v4, v5, v6, v7] (.int y :: .int x :: st) A Q ↔ XX d 268 610 [v0, v1, v2, v3, v4, v5, v6, v7] (.int (x + y) :: st) A Q := c_stk i_268_609 rfl
theorem q_268_610 : XX d 268 610 [v0, v1, v2, v3, v4, v5, v6, v7] (.int x :: .ref a :: st) (mk S I L R G) Q ↔ inA (S a) ok_i x ∧ XX d 268 611 [v0, v1, v2, v3, v4, v5, v6, v7] (.int (I a (ix x)) :: st) (mk S I L R G) Q := r_ia i_268_610
theorem q_268_611 : XX (d + 1) 268 611 [v0, v1, v2, v3, v4, v5, v6, v7] [.int x1, .ref a0] (mk S I L R G) Q ↔ S a0 = some (.inr 12) ∧ XC d 201 [.ref a0, .int x1] (mk S I L R G) (XK (d + 1) 268 611 [v0, v1, v2, v3, v4, v5, v6, v7] [] Q) := c_callV i_268_611 rfl rfl rfl rfl (Nat.le_of_ble_eq_true rfl) (Nat.le_of_ble_eq_true rfl) rfl
theorem q_268_614 : XX d 268 614 [v0, v1, v2, v3, v4, some (.int z), v6, v7] (.int x :: st) A Q ↔ XX d 268 616 [v0, v1, v2, v3, v4, some (.int z), some (.int x), v7] st A Q := c_lcl i_268_614 rfl rfl
theorem q_268_616 : XX d 268 616 [v0, v1, some (.ref a), v3, v4, v5, v6, v7] st A Q ↔ XX d 268 617 [v0, v1, some (.ref a), v3, v4, v5, v6, v7] (.ref a :: st) A Q := c_lcl i_268_616 rfl rfl
theorem q_268_617 : XX (d + 1) 268 617 [v0, v1, v2, v3, v4, v5, v6, v7] [.ref a0] (mk S I L R G) Q ↔ S a0 = some (.inr 12) ∧ XC d 153 [.ref a0] (mk S I L R G) (XK (d + 1) 268 617 [v0, v1, v2, v3, v4, v5, v6, v7] [] Q) := c_callV i_268_617 rfl rfl rfl rfl (Nat.le_of_ble_eq_true rfl) (Nat.le_of_ble_eq_true rfl) rfl
theorem q_268_620 : XX d 268 620 [v0, v1, v2, v3, v4, some (.int x), v6, v7] st A Q ↔ XX d 268 622 [v0, v1, v2, v3, v4, some (.int x), v6, v7] (.int x :: st) A Q := c_lcl i_268_620 rfl rfl
theorem q_268_622 : XX d 268 622 [v0, v1, v2, v3, v4, v5, v6, v7] (.int y :: .int x :: st) A Q ↔ if x = y then XX d 268 627 [v0, v1, v2, v3, v4, v5, v6, v7] st A Q else XX d 268 625 [v0, v1, v2, v3, v4, v5, v6, v7] st A Q := b_eq i_268_622 rfl rfl rfl
theorem q_268_625 : XX d 268 625 [v0, v1, v2, v3, v4, v5, v6, v7] st A Q ↔ XX d 268 626 [v0, v1, v2, v3, v4, v5, v6, v7] (.int (w 0) :: st) A Q := c_stk i_268_625 rfl
theorem q_268_626 : XX d 268 626 [v0, v1, v2, v3, v4, v5, v6, v7] [.int x] A Q ↔ (x = w 0 ∨ x = w 1) ∧ Q (.inl (some (.int x))) A := e_retZ i_268_626 rfl
theorem q_268_627 : XX d 268 627 [v0, v1, v2, v3, v4, some (.int x), v6, v7] st A Q ↔ XX d 268 629 [v0, v1, v2, v3, v4, some (.int x), v6, v7] (.int x :: st) A Q := c_lcl i_268_627 rfl rfl
theorem q_268_629 : XX d 268 629 [v0, v1, v2, v3, v4, v5, v6, v7] (.int x :: st) A Q ↔ if x = w 0 then XX d 268 632 [v0, v1, v2, v3, v4, v5, v6, v7] st A Q else XX d 268 644 [v0, v1, v2, v3, v4, v5, v6, v7] st A Q := z_ne i_268_629 rfl rfl rfl
theorem q_268_632 : XX d 268 632 [v0, v1, v2, some (.ref a), v4, v5, v6, v7] st A Q ↔ XX d 268 633 [v0, v1, v2, some (.ref a), v4, v5, v6, v7] (.ref a :: st) A Q := c_lcl i_268_632 rfl rfl
theorem q_268_633 : XX d 268 633 [v0, v1, v2, v3, v4, v5, v6, v7] st A Q ↔ XX d 268 634 [v0, v1, v2, v3, v4, v5, v6, v7] (.int (w 0) :: st) A Q := c_stk i_268_633 rfl
theorem q_268_634 : XX d 268 634 [v0, v1, v2, v3, v4, v5, v6, v7] (.int x :: .ref a :: st) (mk S I L R G) Q ↔ inA (S a) ok_l x ∧ XX d 268 635 [v0, v1, v2, v3, v4, v5, v6, v7] (.long (L a (ix x)) :: st) (mk S I L R G) Q := r_la i_268_634
theorem q_268_635 : XX d 268 635 [v0, v1, v2, v3, v4, v5, some (.int x), v7] st A Q ↔ XX d 268 637 [v0, v1, v2, v3, v4, v5, some (.int x), v7] (.int x :: st) A Q := c_lcl i_268_635 rfl rfl
theorem q_268_637 : XX d 268 637 [v0, v1, v2, v3, v4, v5, v6, v7] (.int x :: st) A Q ↔ XX d 268 638 [v0, v1, v2, v3, v4, v5, v6, v7] (.long x.toInt64 :: st) A Q := c_stk i_268_637 rfl
theorem q_268_638 : XX d 268 638 [v0, v1, v2, v3, v4, v5, v6, v7] (.long ly :: .long lx :: st) A Q ↔ XX d 268 639 [v0, v1, v2, v3, v4, v5, v6, v7] (.int (lg_cmp lx ly) :: st) A Q := c_stk i_268_638 rfl
theorem q_268_639 : XX d 268 639 [v0, v1, v2, v3, v4, v5, v6, v7] (.int x :: st) A Q ↔ if x = w 0 then XX d 268 644 [v0, v1, v2, v3, v4, v5, v6, v7] st A Q else XX d 268 642 [v0, v1, v2, v3, v4, v5, v6, v7] st A Q := z_eq i_268_639 rfl rfl rfl
theorem q_268_642 : XX d 268 642 [v0, v1, v2, v3, v4, v5, v6, v7] st A Q ↔ XX d 268 643 [v0, v1, v2, v3, v4, v5, v6, v7] (.int (w 0) :: st) A Q := c_stk i_268_642 rfl
theorem q_268_643 : XX d 268 643 [v0, v1, v2, v3, v4, v5, v6, v7] [.int x] A Q ↔ (x = w 0 ∨ x = w 1) ∧ Q (.inl (some (.int x))) A := e_retZ i_268_643 rfl
theorem q_268_644 : XX d 268 644 [v0, v1, v2, v3, v4, v5, v6, v7] st A Q ↔ XX d 268 2288 [v0, v1, v2, v3, v4, v5, v6, v7] st A Q := c_go i_268_644 rfl rfl
theorem q_268_647 : XX d 268 647 [v0, some (.ref a), v2, v3, v4, v5, v6, v7] st A Q ↔ XX d 268 648 [v0, some (.ref a), v2, v3, v4, v5, v6, v7] (.ref a :: st) A Q := c_lcl i_268_647 rfl rfl
theorem q_268_648 : XX d 268 648 [some (.ref a), v1, v2, v3, v4, v5, v6, v7] st A Q ↔ XX d 268 649 [some (.ref a), v1, v2, v3, v4, v5, v6, v7] (.ref a :: st) A Q := c_lcl i_268_648 rfl rfl
theorem q_268_649 : XX d 268 649 [v0, v1, v2, v3, some (.int x), v5, v6, v7] st A Q ↔ XX d 268 651 [v0, v1, v2, v3, some (.int x), v5, v6, v7] (.int x :: st) A Q := c_lcl i_268_649 rfl rfl
theorem q_268_651 : XX d 268 651 [v0, v1, v2, v3, v4, v5, v6, v7] st A Q ↔ XX d 268 652 [v0, v1, v2, v3, v4, v5, v6, v7] (.int (w 1) :: st) A Q := c_stk i_268_651 rfl
theorem q_268_652 : XX d 268 652 [v0, v1, v2, v3, v4, v5, v6, v7] (.int y :: .int x :: st) A Q ↔ XX d 268 653 [v0, v1, v2, v3, v4, v5, v6, v7] (.int (x + y) :: st) A Q := c_stk i_268_652 rfl
theorem q_268_653 : XX d 268 653 [v0, v1, v2, v3, v4, v5, v6, v7] (.int x :: .ref a :: st) (mk S I L R G) Q ↔ inA (S a) ok_i x ∧ XX d 268 654 [v0, v1, v2, v3, v4, v5, v6, v7] (.int (I a (ix x)) :: st) (mk S I L R G) Q := r_ia i_268_653
theorem q_268_654 : XX d 268 654 [some (.ref a), v1, v2, v3, v4, v5, v6, v7] st A Q ↔ XX d 268 655 [some (.ref a), v1, v2, v3, v4, v5, v6, v7] (.ref a :: st) A Q := c_lcl i_268_654 rfl rfl
theorem q_268_655 : XX d 268 655 [v0, v1, v2, v3, some (.int x), v5, v6, v7] st A Q ↔ XX d 268 657 [v0, v1, v2, v3, some (.int x), v5, v6, v7] (.int x :: st) A Q := c_lcl i_268_655 rfl rfl
theorem q_268_657 : XX d 268 657 [v0, v1, v2, v3, v4, v5, v6, v7] st A Q ↔ XX d 268 658 [v0, v1, v2, v3, v4, v5, v6, v7] (.int (w 2) :: st) A Q := c_stk i_268_657 rfl
theorem q_268_658 : XX d 268 658 [v0, v1, v2, v3, v4, v5, v6, v7] (.int y :: .int x :: st) A Q ↔ XX d 268 659 [v0, v1, v2, v3, v4, v5, v6, v7] (.int (x + y) :: st) A Q := c_stk i_268_658 rfl
theorem q_268_659 : XX d 268 659 [v0, v1, v2, v3, v4, v5, v6, v7] (.int x :: .ref a :: st) (mk S I L R G) Q ↔ inA (S a) ok_i x ∧ XX d 268 660 [v0, v1, v2, v3, v4, v5, v6, v7] (.int (I a (ix x)) :: st) (mk S I L R G) Q := r_ia i_268_659
theorem q_268_660 : XX d 268 660 [some (.ref a), v1, v2, v3, v4, v5, v6, v7] st A Q ↔ XX d 268 661 [some (.ref a), v1, v2, v3, v4, v5, v6, v7] (.ref a :: st) A Q := c_lcl i_268_660 rfl rfl
theorem q_268_661 : XX d 268 661 [v0, v1, v2, v3, some (.int x), v5, v6, v7] st A Q ↔ XX d 268 663 [v0, v1, v2, v3, some (.int x), v5, v6, v7] (.int x :: st) A Q := c_lcl i_268_661 rfl rfl
theorem q_268_663 : XX d 268 663 [v0, v1, v2, v3, v4, v5, v6, v7] st A Q ↔ XX d 268 664 [v0, v1, v2, v3, v4, v5, v6, v7] (.int (w 3) :: st) A Q := c_stk i_268_663 rfl
theorem q_268_664 : XX d 268 664 [v0, v1, v2, v3, v4, v5, v6, v7] (.int y :: .int x :: st) A Q ↔ XX d 268 665 [v0, v1, v2, v3, v4, v5, v6, v7] (.int (x + y) :: st) A Q := c_stk i_268_664 rfl
theorem q_268_665 : XX d 268 665 [v0, v1, v2, v3, v4, v5, v6, v7] (.int x :: .ref a :: st) (mk S I L R G) Q ↔ inA (S a) ok_i x ∧ XX d 268 666 [v0, v1, v2, v3, v4, v5, v6, v7] (.int (I a (ix x)) :: st) (mk S I L R G) Q := r_ia i_268_665
theorem q_268_666 : XX d 268 666 [v0, v1, v2, some (.ref a), v4, v5, v6, v7] st A Q ↔ XX d 268 667 [v0, v1, v2, some (.ref a), v4, v5, v6, v7] (.ref a :: st) A Q := c_lcl i_268_666 rfl rfl
theorem q_268_667 : XX (d + 1) 268 667 [v0, v1, v2, v3, v4, v5, v6, v7] [.ref a4, .int x3, .int x2, .int x1, .ref a0] A Q ↔ XC d 246 [.ref a0, .int x1, .int x2, .int x3, .ref a4] A (XK (d + 1) 268 667 [v0, v1, v2, v3, v4, v5, v6, v7] [] Q) := c_callS i_268_667 rfl rfl rfl rfl (Nat.le_of_ble_eq_true rfl) (Nat.le_of_ble_eq_true rfl)
theorem q_268_670 : XX d 268 670 [v0, v1, v2, v3, some (.int z), v5, v6, v7] (.int x :: st) A Q ↔ XX d 268 672 [v0, v1, v2, v3, some (.int z), some (.int x), v6, v7] st A Q := c_lcl i_268_670 rfl rfl
theorem q_268_672 : XX d 268 672 [v0, v1, some (.ref a), v3, v4, v5, v6, v7] st A Q ↔ XX d 268 673 [v0, v1, some (.ref a), v3, v4, v5, v6, v7] (.ref a :: st) A Q := c_lcl i_268_672 rfl rfl
theorem q_268_673 : XX d 268 673 [some (.ref a), v1, v2, v3, v4, v5, v6, v7] st A Q ↔ XX d 268 674 [some (.ref a), v1, v2, v3, v4, v5, v6, v7] (.ref a :: st) A Q := c_lcl i_268_673 rfl rfl
theorem q_268_674 : XX d 268 674 [v0, v1, v2, v3, some (.int x), v5, v6, v7] st A Q ↔ XX d 268 676 [v0, v1, v2, v3, some (.int x), v5, v6, v7] (.int x :: st) A Q := c_lcl i_268_674 rfl rfl
theorem q_268_676 : XX d 268 676 [v0, v1, v2, v3, v4, v5, v6, v7] st A Q ↔ XX d 268 677 [v0, v1, v2, v3, v4, v5, v6, v7] (.int (w 1) :: st) A Q := c_stk i_268_676 rfl
theorem q_268_677 : XX d 268 677 [v0, v1, v2, v3, v4, v5, v6, v7] (.int y :: .int x :: st) A Q ↔ XX d 268 678 [v0, v1, v2, v3, v4, v5, v6, v7] (.int (x + y) :: st) A Q := c_stk i_268_677 rfl
theorem q_268_678 : XX d 268 678 [v0, v1, v2, v3, v4, v5, v6, v7] (.int x :: .ref a :: st) (mk S I L R G) Q ↔ inA (S a) ok_i x ∧ XX d 268 679 [v0, v1, v2, v3, v4, v5, v6, v7] (.int (I a (ix x)) :: st) (mk S I L R G) Q := r_ia i_268_678
theorem q_268_679 : XX d 268 679 [some (.ref a), v1, v2, v3, v4, v5, v6, v7] st A Q ↔ XX d 268 680 [some (.ref a), v1, v2, v3, v4, v5, v6, v7] (.ref a :: st) A Q := c_lcl i_268_679 rfl rfl
theorem q_268_680 : XX d 268 680 [v0, v1, v2, v3, some (.int x), v5, v6, v7] st A Q ↔ XX d 268 682 [v0, v1, v2, v3, some (.int x), v5, v6, v7] (.int x :: st) A Q := c_lcl i_268_680 rfl rfl
theorem q_268_682 : XX d 268 682 [v0, v1, v2, v3, v4, v5, v6, v7] st A Q ↔ XX d 268 683 [v0, v1, v2, v3, v4, v5, v6, v7] (.int (w 2) :: st) A Q := c_stk i_268_682 rfl
theorem q_268_683 : XX d 268 683 [v0, v1, v2, v3, v4, v5, v6, v7] (.int y :: .int x :: st) A Q ↔ XX d 268 684 [v0, v1, v2, v3, v4, v5, v6, v7] (.int (x + y) :: st) A Q := c_stk i_268_683 rfl
theorem q_268_684 : XX d 268 684 [v0, v1, v2, v3, v4, v5, v6, v7] (.int x :: .ref a :: st) (mk S I L R G) Q ↔ inA (S a) ok_i x ∧ XX d 268 685 [v0, v1, v2, v3, v4, v5, v6, v7] (.int (I a (ix x)) :: st) (mk S I L R G) Q := r_ia i_268_684
theorem q_268_685 : XX d 268 685 [some (.ref a), v1, v2, v3, v4, v5, v6, v7] st A Q ↔ XX d 268 686 [some (.ref a), v1, v2, v3, v4, v5, v6, v7] (.ref a :: st) A Q := c_lcl i_268_685 rfl rfl
theorem q_268_686 : XX d 268 686 [v0, v1, v2, v3, some (.int x), v5, v6, v7] st A Q ↔ XX d 268 688 [v0, v1, v2, v3, some (.int x), v5, v6, v7] (.int x :: st) A Q := c_lcl i_268_686 rfl rfl
theorem q_268_688 : XX d 268 688 [v0, v1, v2, v3, v4, v5, v6, v7] st A Q ↔ XX d 268 689 [v0, v1, v2, v3, v4, v5, v6, v7] (.int (w 3) :: st) A Q := c_stk i_268_688 rfl
theorem q_268_689 : XX d 268 689 [v0, v1, v2, v3, v4, v5, v6, v7] (.int y :: .int x :: st) A Q ↔ XX d 268 690 [v0, v1, v2, v3, v4, v5, v6, v7] (.int (x + y) :: st) A Q := c_stk i_268_689 rfl
theorem q_268_690 : XX d 268 690 [v0, v1, v2, v3, v4, v5, v6, v7] (.int x :: .ref a :: st) (mk S I L R G) Q ↔ inA (S a) ok_i x ∧ XX d 268 691 [v0, v1, v2, v3, v4, v5, v6, v7] (.int (I a (ix x)) :: st) (mk S I L R G) Q := r_ia i_268_690
theorem q_268_691 : XX (d + 1) 268 691 [v0, v1, v2, v3, v4, v5, v6, v7] [.int x3, .int x2, .int x1, .ref a0] (mk S I L R G) Q ↔ S a0 = some (.inr 12) ∧ XC d 203 [.ref a0, .int x1, .int x2, .int x3] (mk S I L R G) (XK (d + 1) 268 691 [v0, v1, v2, v3, v4, v5, v6, v7] [] Q) := c_callV i_268_691 rfl rfl rfl rfl (Nat.le_of_ble_eq_true rfl) (Nat.le_of_ble_eq_true rfl) rfl
theorem q_268_694 : XX d 268 694 [v0, v1, v2, v3, v4, some (.int z), v6, v7] (.int x :: st) A Q ↔ XX d 268 696 [v0, v1, v2, v3, v4, some (.int z), some (.int x), v7] st A Q := c_lcl i_268_694 rfl rfl
theorem q_268_696 : XX d 268 696 [v0, v1, some (.ref a), v3, v4, v5, v6, v7] st A Q ↔ XX d 268 697 [v0, v1, some (.ref a), v3, v4, v5, v6, v7] (.ref a :: st) A Q := c_lcl i_268_696 rfl rfl
theorem q_268_697 : XX (d + 1) 268 697 [v0, v1, v2, v3, v4, v5, v6, v7] [.ref a0] (mk S I L R G) Q ↔ S a0 = some (.inr 12) ∧ XC d 153 [.ref a0] (mk S I L R G) (XK (d + 1) 268 697 [v0, v1, v2, v3, v4, v5, v6, v7] [] Q) := c_callV i_268_697 rfl rfl rfl rfl (Nat.le_of_ble_eq_true rfl) (Nat.le_of_ble_eq_true rfl) rfl
theorem q_268_700 : XX d 268 700 [v0, v1, v2, v3, v4, some (.int x), v6, v7] st A Q ↔ XX d 268 702 [v0, v1, v2, v3, v4, some (.int x), v6, v7] (.int x :: st) A Q := c_lcl i_268_700 rfl rfl
theorem q_268_702 : XX d 268 702 [v0, v1, v2, v3, v4, v5, v6, v7] (.int y :: .int x :: st) A Q ↔ if x = y then XX d 268 707 [v0, v1, v2, v3, v4, v5, v6, v7] st A Q else XX d 268 705 [v0, v1, v2, v3, v4, v5, v6, v7] st A Q := b_eq i_268_702 rfl rfl rfl
theorem q_268_705 : XX d 268 705 [v0, v1, v2, v3, v4, v5, v6, v7] st A Q ↔ XX d 268 706 [v0, v1, v2, v3, v4, v5, v6, v7] (.int (w 0) :: st) A Q := c_stk i_268_705 rfl
theorem q_268_706 : XX d 268 706 [v0, v1, v2, v3, v4, v5, v6, v7] [.int x] A Q ↔ (x = w 0 ∨ x = w 1) ∧ Q (.inl (some (.int x))) A := e_retZ i_268_706 rfl
theorem q_268_707 : XX d 268 707 [v0, v1, v2, v3, v4, some (.int x), v6, v7] st A Q ↔ XX d 268 709 [v0, v1, v2, v3, v4, some (.int x), v6, v7] (.int x :: st) A Q := c_lcl i_268_707 rfl rfl
theorem q_268_709 : XX d 268 709 [v0, v1, v2, v3, v4, v5, v6, v7] (.int x :: st) A Q ↔ if x = w 0 then XX d 268 712 [v0, v1, v2, v3, v4, v5, v6, v7] st A Q else XX d 268 724 [v0, v1, v2, v3, v4, v5, v6, v7] st A Q := z_ne i_268_709 rfl rfl rfl
theorem q_268_712 : XX d 268 712 [v0, v1, v2, some (.ref a), v4, v5, v6, v7] st A Q ↔ XX d 268 713 [v0, v1, v2, some (.ref a), v4, v5, v6, v7] (.ref a :: st) A Q := c_lcl i_268_712 rfl rfl
theorem q_268_713 : XX d 268 713 [v0, v1, v2, v3, v4, v5, v6, v7] st A Q ↔ XX d 268 714 [v0, v1, v2, v3, v4, v5, v6, v7] (.int (w 0) :: st) A Q := c_stk i_268_713 rfl
theorem q_268_714 : XX d 268 714 [v0, v1, v2, v3, v4, v5, v6, v7] (.int x :: .ref a :: st) (mk S I L R G) Q ↔ inA (S a) ok_l x ∧ XX d 268 715 [v0, v1, v2, v3, v4, v5, v6, v7] (.long (L a (ix x)) :: st) (mk S I L R G) Q := r_la i_268_714
theorem q_268_715 : XX d 268 715 [v0, v1, v2, v3, v4, v5, some (.int x), v7] st A Q ↔ XX d 268 717 [v0, v1, v2, v3, v4, v5, some (.int x), v7] (.int x :: st) A Q := c_lcl i_268_715 rfl rfl
theorem q_268_717 : XX d 268 717 [v0, v1, v2, v3, v4, v5, v6, v7] (.int x :: st) A Q ↔ XX d 268 718 [v0, v1, v2, v3, v4, v5, v6, v7] (.long x.toInt64 :: st) A Q := c_stk i_268_717 rfl
theorem q_268_718 : XX d 268 718 [v0, v1, v2, v3, v4, v5, v6, v7] (.long ly :: .long lx :: st) A Q ↔ XX d 268 719 [v0, v1, v2, v3, v4, v5, v6, v7] (.int (lg_cmp lx ly) :: st) A Q := c_stk i_268_718 rfl
theorem q_268_719 : XX d 268 719 [v0, v1, v2, v3, v4, v5, v6, v7] (.int x :: st) A Q ↔ if x = w 0 then XX d 268 724 [v0, v1, v2, v3, v4, v5, v6, v7] st A Q else XX d 268 722 [v0, v1, v2, v3, v4, v5, v6, v7] st A Q := z_eq i_268_719 rfl rfl rfl
theorem q_268_722 : XX d 268 722 [v0, v1, v2, v3, v4, v5, v6, v7] st A Q ↔ XX d 268 723 [v0, v1, v2, v3, v4, v5, v6, v7] (.int (w 0) :: st) A Q := c_stk i_268_722 rfl
theorem q_268_723 : XX d 268 723 [v0, v1, v2, v3, v4, v5, v6, v7] [.int x] A Q ↔ (x = w 0 ∨ x = w 1) ∧ Q (.inl (some (.int x))) A := e_retZ i_268_723 rfl
theorem q_268_724 : XX d 268 724 [v0, v1, v2, v3, v4, v5, v6, v7] st A Q ↔ XX d 268 2288 [v0, v1, v2, v3, v4, v5, v6, v7] st A Q := c_go i_268_724 rfl rfl
theorem q_268_727 : XX d 268 727 [v0, some (.ref a), v2, v3, v4, v5, v6, v7] st A Q ↔ XX d 268 728 [v0, some (.ref a), v2, v3, v4, v5, v6, v7] (.ref a :: st) A Q := c_lcl i_268_727 rfl rfl
theorem q_268_728 : XX d 268 728 [some (.ref a), v1, v2, v3, v4, v5, v6, v7] st A Q ↔ XX d 268 729 [some (.ref a), v1, v2, v3, v4, v5, v6, v7] (.ref a :: st) A Q := c_lcl i_268_728 rfl rfl
theorem q_268_729 : XX d 268 729 [v0, v1, v2, v3, some (.int x), v5, v6, v7] st A Q ↔ XX d 268 731 [v0, v1, v2, v3, some (.int x), v5, v6, v7] (.int x :: st) A Q := c_lcl i_268_729 rfl rfl
theorem q_268_731 : XX d 268 731 [v0, v1, v2, v3, v4, v5, v6, v7] st A Q ↔ XX d 268 732 [v0, v1, v2, v3, v4, v5, v6, v7] (.int (w 1) :: st) A Q := c_stk i_268_731 rfl
theorem q_268_732 : XX d 268 732 [v0, v1, v2, v3, v4, v5, v6, v7] (.int y :: .int x :: st) A Q ↔ XX d 268 733 [v0, v1, v2, v3, v4, v5, v6, v7] (.int (x + y) :: st) A Q := c_stk i_268_732 rfl
theorem q_268_733 : XX d 268 733 [v0, v1, v2, v3, v4, v5, v6, v7] (.int x :: .ref a :: st) (mk S I L R G) Q ↔ inA (S a) ok_i x ∧ XX d 268 734 [v0, v1, v2, v3, v4, v5, v6, v7] (.int (I a (ix x)) :: st) (mk S I L R G) Q := r_ia i_268_733
theorem q_268_734 : XX d 268 734 [some (.ref a), v1, v2, v3, v4, v5, v6, v7] st A Q ↔ XX d 268 735 [some (.ref a), v1, v2, v3, v4, v5, v6, v7] (.ref a :: st) A Q := c_lcl i_268_734 rfl rfl
theorem q_268_735 : XX d 268 735 [v0, v1, v2, v3, some (.int x), v5, v6, v7] st A Q ↔ XX d 268 737 [v0, v1, v2, v3, some (.int x), v5, v6, v7] (.int x :: st) A Q := c_lcl i_268_735 rfl rfl
theorem q_268_737 : XX d 268 737 [v0, v1, v2, v3, v4, v5, v6, v7] st A Q ↔ XX d 268 738 [v0, v1, v2, v3, v4, v5, v6, v7] (.int (w 2) :: st) A Q := c_stk i_268_737 rfl
theorem q_268_738 : XX d 268 738 [v0, v1, v2, v3, v4, v5, v6, v7] (.int y :: .int x :: st) A Q ↔ XX d 268 739 [v0, v1, v2, v3, v4, v5, v6, v7] (.int (x + y) :: st) A Q := c_stk i_268_738 rfl
theorem q_268_739 : XX d 268 739 [v0, v1, v2, v3, v4, v5, v6, v7] (.int x :: .ref a :: st) (mk S I L R G) Q ↔ inA (S a) ok_i x ∧ XX d 268 740 [v0, v1, v2, v3, v4, v5, v6, v7] (.int (I a (ix x)) :: st) (mk S I L R G) Q := r_ia i_268_739
theorem q_268_740 : XX d 268 740 [some (.ref a), v1, v2, v3, v4, v5, v6, v7] st A Q ↔ XX d 268 741 [some (.ref a), v1, v2, v3, v4, v5, v6, v7] (.ref a :: st) A Q := c_lcl i_268_740 rfl rfl
theorem q_268_741 : XX d 268 741 [v0, v1, v2, v3, some (.int x), v5, v6, v7] st A Q ↔ XX d 268 743 [v0, v1, v2, v3, some (.int x), v5, v6, v7] (.int x :: st) A Q := c_lcl i_268_741 rfl rfl
theorem q_268_743 : XX d 268 743 [v0, v1, v2, v3, v4, v5, v6, v7] st A Q ↔ XX d 268 744 [v0, v1, v2, v3, v4, v5, v6, v7] (.int (w 3) :: st) A Q := c_stk i_268_743 rfl
theorem q_268_744 : XX d 268 744 [v0, v1, v2, v3, v4, v5, v6, v7] (.int y :: .int x :: st) A Q ↔ XX d 268 745 [v0, v1, v2, v3, v4, v5, v6, v7] (.int (x + y) :: st) A Q := c_stk i_268_744 rfl
theorem q_268_745 : XX d 268 745 [v0, v1, v2, v3, v4, v5, v6, v7] (.int x :: .ref a :: st) (mk S I L R G) Q ↔ inA (S a) ok_i x ∧ XX d 268 746 [v0, v1, v2, v3, v4, v5, v6, v7] (.int (I a (ix x)) :: st) (mk S I L R G) Q := r_ia i_268_745
theorem q_268_746 : XX d 268 746 [some (.ref a), v1, v2, v3, v4, v5, v6, v7] st A Q ↔ XX d 268 747 [some (.ref a), v1, v2, v3, v4, v5, v6, v7] (.ref a :: st) A Q := c_lcl i_268_746 rfl rfl
theorem q_268_747 : XX d 268 747 [v0, v1, v2, v3, some (.int x), v5, v6, v7] st A Q ↔ XX d 268 749 [v0, v1, v2, v3, some (.int x), v5, v6, v7] (.int x :: st) A Q := c_lcl i_268_747 rfl rfl
theorem q_268_749 : XX d 268 749 [v0, v1, v2, v3, v4, v5, v6, v7] st A Q ↔ XX d 268 750 [v0, v1, v2, v3, v4, v5, v6, v7] (.int (w 4) :: st) A Q := c_stk i_268_749 rfl
theorem q_268_750 : XX d 268 750 [v0, v1, v2, v3, v4, v5, v6, v7] (.int y :: .int x :: st) A Q ↔ XX d 268 751 [v0, v1, v2, v3, v4, v5, v6, v7] (.int (x + y) :: st) A Q := c_stk i_268_750 rfl
theorem q_268_751 : XX d 268 751 [v0, v1, v2, v3, v4, v5, v6, v7] (.int x :: .ref a :: st) (mk S I L R G) Q ↔ inA (S a) ok_i x ∧ XX d 268 752 [v0, v1, v2, v3, v4, v5, v6, v7] (.int (I a (ix x)) :: st) (mk S I L R G) Q := r_ia i_268_751
theorem q_268_752 : XX d 268 752 [v0, v1, v2, some (.ref a), v4, v5, v6, v7] st A Q ↔ XX d 268 753 [v0, v1, v2, some (.ref a), v4, v5, v6, v7] (.ref a :: st) A Q := c_lcl i_268_752 rfl rfl
theorem q_268_753 : XX (d + 1) 268 753 [v0, v1, v2, v3, v4, v5, v6, v7] [.ref a5, .int x4, .int x3, .int x2, .int x1, .ref a0] A Q ↔ XC d 247 [.ref a0, .int x1, .int x2, .int x3, .int x4, .ref a5] A (XK (d + 1) 268 753 [v0, v1, v2, v3, v4, v5, v6, v7] [] Q) := c_callS i_268_753 rfl rfl rfl rfl (Nat.le_of_ble_eq_true rfl) (Nat.le_of_ble_eq_true rfl)
theorem q_268_756 : XX d 268 756 [v0, v1, v2, v3, some (.int z), v5, v6, v7] (.int x :: st) A Q ↔ XX d 268 758 [v0, v1, v2, v3, some (.int z), some (.int x), v6, v7] st A Q := c_lcl i_268_756 rfl rfl
theorem q_268_758 : XX d 268 758 [v0, v1, some (.ref a), v3, v4, v5, v6, v7] st A Q ↔ XX d 268 759 [v0, v1, some (.ref a), v3, v4, v5, v6, v7] (.ref a :: st) A Q := c_lcl i_268_758 rfl rfl
theorem q_268_759 : XX d 268 759 [some (.ref a), v1, v2, v3, v4, v5, v6, v7] st A Q ↔ XX d 268 760 [some (.ref a), v1, v2, v3, v4, v5, v6, v7] (.ref a :: st) A Q := c_lcl i_268_759 rfl rfl
theorem q_268_760 : XX d 268 760 [v0, v1, v2, v3, some (.int x), v5, v6, v7] st A Q ↔ XX d 268 762 [v0, v1, v2, v3, some (.int x), v5, v6, v7] (.int x :: st) A Q := c_lcl i_268_760 rfl rfl
theorem q_268_762 : XX d 268 762 [v0, v1, v2, v3, v4, v5, v6, v7] st A Q ↔ XX d 268 763 [v0, v1, v2, v3, v4, v5, v6, v7] (.int (w 1) :: st) A Q := c_stk i_268_762 rfl
theorem q_268_763 : XX d 268 763 [v0, v1, v2, v3, v4, v5, v6, v7] (.int y :: .int x :: st) A Q ↔ XX d 268 764 [v0, v1, v2, v3, v4, v5, v6, v7] (.int (x + y) :: st) A Q := c_stk i_268_763 rfl
theorem q_268_764 : XX d 268 764 [v0, v1, v2, v3, v4, v5, v6, v7] (.int x :: .ref a :: st) (mk S I L R G) Q ↔ inA (S a) ok_i x ∧ XX d 268 765 [v0, v1, v2, v3, v4, v5, v6, v7] (.int (I a (ix x)) :: st) (mk S I L R G) Q := r_ia i_268_764
theorem q_268_765 : XX d 268 765 [some (.ref a), v1, v2, v3, v4, v5, v6, v7] st A Q ↔ XX d 268 766 [some (.ref a), v1, v2, v3, v4, v5, v6, v7] (.ref a :: st) A Q := c_lcl i_268_765 rfl rfl
theorem q_268_766 : XX d 268 766 [v0, v1, v2, v3, some (.int x), v5, v6, v7] st A Q ↔ XX d 268 768 [v0, v1, v2, v3, some (.int x), v5, v6, v7] (.int x :: st) A Q := c_lcl i_268_766 rfl rfl
theorem q_268_768 : XX d 268 768 [v0, v1, v2, v3, v4, v5, v6, v7] st A Q ↔ XX d 268 769 [v0, v1, v2, v3, v4, v5, v6, v7] (.int (w 2) :: st) A Q := c_stk i_268_768 rfl
theorem q_268_769 : XX d 268 769 [v0, v1, v2, v3, v4, v5, v6, v7] (.int y :: .int x :: st) A Q ↔ XX d 268 770 [v0, v1, v2, v3, v4, v5, v6, v7] (.int (x + y) :: st) A Q := c_stk i_268_769 rfl
theorem q_268_770 : XX d 268 770 [v0, v1, v2, v3, v4, v5, v6, v7] (.int x :: .ref a :: st) (mk S I L R G) Q ↔ inA (S a) ok_i x ∧ XX d 268 771 [v0, v1, v2, v3, v4, v5, v6, v7] (.int (I a (ix x)) :: st) (mk S I L R G) Q := r_ia i_268_770
theorem q_268_771 : XX d 268 771 [some (.ref a), v1, v2, v3, v4, v5, v6, v7] st A Q ↔ XX d 268 772 [some (.ref a), v1, v2, v3, v4, v5, v6, v7] (.ref a :: st) A Q := c_lcl i_268_771 rfl rfl
theorem q_268_772 : XX d 268 772 [v0, v1, v2, v3, some (.int x), v5, v6, v7] st A Q ↔ XX d 268 774 [v0, v1, v2, v3, some (.int x), v5, v6, v7] (.int x :: st) A Q := c_lcl i_268_772 rfl rfl
theorem q_268_774 : XX d 268 774 [v0, v1, v2, v3, v4, v5, v6, v7] st A Q ↔ XX d 268 775 [v0, v1, v2, v3, v4, v5, v6, v7] (.int (w 3) :: st) A Q := c_stk i_268_774 rfl
theorem q_268_775 : XX d 268 775 [v0, v1, v2, v3, v4, v5, v6, v7] (.int y :: .int x :: st) A Q ↔ XX d 268 776 [v0, v1, v2, v3, v4, v5, v6, v7] (.int (x + y) :: st) A Q := c_stk i_268_775 rfl
theorem q_268_776 : XX d 268 776 [v0, v1, v2, v3, v4, v5, v6, v7] (.int x :: .ref a :: st) (mk S I L R G) Q ↔ inA (S a) ok_i x ∧ XX d 268 777 [v0, v1, v2, v3, v4, v5, v6, v7] (.int (I a (ix x)) :: st) (mk S I L R G) Q := r_ia i_268_776
theorem q_268_777 : XX d 268 777 [some (.ref a), v1, v2, v3, v4, v5, v6, v7] st A Q ↔ XX d 268 778 [some (.ref a), v1, v2, v3, v4, v5, v6, v7] (.ref a :: st) A Q := c_lcl i_268_777 rfl rfl
theorem q_268_778 : XX d 268 778 [v0, v1, v2, v3, some (.int x), v5, v6, v7] st A Q ↔ XX d 268 780 [v0, v1, v2, v3, some (.int x), v5, v6, v7] (.int x :: st) A Q := c_lcl i_268_778 rfl rfl
theorem q_268_780 : XX d 268 780 [v0, v1, v2, v3, v4, v5, v6, v7] st A Q ↔ XX d 268 781 [v0, v1, v2, v3, v4, v5, v6, v7] (.int (w 4) :: st) A Q := c_stk i_268_780 rfl
theorem q_268_781 : XX d 268 781 [v0, v1, v2, v3, v4, v5, v6, v7] (.int y :: .int x :: st) A Q ↔ XX d 268 782 [v0, v1, v2, v3, v4, v5, v6, v7] (.int (x + y) :: st) A Q := c_stk i_268_781 rfl
theorem q_268_782 : XX d 268 782 [v0, v1, v2, v3, v4, v5, v6, v7] (.int x :: .ref a :: st) (mk S I L R G) Q ↔ inA (S a) ok_i x ∧ XX d 268 783 [v0, v1, v2, v3, v4, v5, v6, v7] (.int (I a (ix x)) :: st) (mk S I L R G) Q := r_ia i_268_782
theorem q_268_783 : XX (d + 1) 268 783 [v0, v1, v2, v3, v4, v5, v6, v7] [.int x4, .int x3, .int x2, .int x1, .ref a0] (mk S I L R G) Q ↔ S a0 = some (.inr 12) ∧ XC d 204 [.ref a0, .int x1, .int x2, .int x3, .int x4] (mk S I L R G) (XK (d + 1) 268 783 [v0, v1, v2, v3, v4, v5, v6, v7] [] Q) := c_callV i_268_783 rfl rfl rfl rfl (Nat.le_of_ble_eq_true rfl) (Nat.le_of_ble_eq_true rfl) rfl
theorem q_268_786 : XX d 268 786 [v0, v1, v2, v3, v4, some (.int z), v6, v7] (.int x :: st) A Q ↔ XX d 268 788 [v0, v1, v2, v3, v4, some (.int z), some (.int x), v7] st A Q := c_lcl i_268_786 rfl rfl
theorem q_268_788 : XX d 268 788 [v0, v1, some (.ref a), v3, v4, v5, v6, v7] st A Q ↔ XX d 268 789 [v0, v1, some (.ref a), v3, v4, v5, v6, v7] (.ref a :: st) A Q := c_lcl i_268_788 rfl rfl
theorem q_268_789 : XX (d + 1) 268 789 [v0, v1, v2, v3, v4, v5, v6, v7] [.ref a0] (mk S I L R G) Q ↔ S a0 = some (.inr 12) ∧ XC d 153 [.ref a0] (mk S I L R G) (XK (d + 1) 268 789 [v0, v1, v2, v3, v4, v5, v6, v7] [] Q) := c_callV i_268_789 rfl rfl rfl rfl (Nat.le_of_ble_eq_true rfl) (Nat.le_of_ble_eq_true rfl) rfl
theorem q_268_792 : XX d 268 792 [v0, v1, v2, v3, v4, some (.int x), v6, v7] st A Q ↔ XX d 268 794 [v0, v1, v2, v3, v4, some (.int x), v6, v7] (.int x :: st) A Q := c_lcl i_268_792 rfl rfl
theorem q_268_794 : XX d 268 794 [v0, v1, v2, v3, v4, v5, v6, v7] (.int y :: .int x :: st) A Q ↔ if x = y then XX d 268 799 [v0, v1, v2, v3, v4, v5, v6, v7] st A Q else XX d 268 797 [v0, v1, v2, v3, v4, v5, v6, v7] st A Q := b_eq i_268_794 rfl rfl rfl
theorem q_268_797 : XX d 268 797 [v0, v1, v2, v3, v4, v5, v6, v7] st A Q ↔ XX d 268 798 [v0, v1, v2, v3, v4, v5, v6, v7] (.int (w 0) :: st) A Q := c_stk i_268_797 rfl
theorem q_268_798 : XX d 268 798 [v0, v1, v2, v3, v4, v5, v6, v7] [.int x] A Q ↔ (x = w 0 ∨ x = w 1) ∧ Q (.inl (some (.int x))) A := e_retZ i_268_798 rfl
theorem q_268_799 : XX d 268 799 [v0, v1, v2, v3, v4, some (.int x), v6, v7] st A Q ↔ XX d 268 801 [v0, v1, v2, v3, v4, some (.int x), v6, v7] (.int x :: st) A Q := c_lcl i_268_799 rfl rfl
theorem q_268_801 : XX d 268 801 [v0, v1, v2, v3, v4, v5, v6, v7] (.int x :: st) A Q ↔ if x = w 0 then XX d 268 804 [v0, v1, v2, v3, v4, v5, v6, v7] st A Q else XX d 268 816 [v0, v1, v2, v3, v4, v5, v6, v7] st A Q := z_ne i_268_801 rfl rfl rfl
theorem q_268_804 : XX d 268 804 [v0, v1, v2, some (.ref a), v4, v5, v6, v7] st A Q ↔ XX d 268 805 [v0, v1, v2, some (.ref a), v4, v5, v6, v7] (.ref a :: st) A Q := c_lcl i_268_804 rfl rfl
theorem q_268_805 : XX d 268 805 [v0, v1, v2, v3, v4, v5, v6, v7] st A Q ↔ XX d 268 806 [v0, v1, v2, v3, v4, v5, v6, v7] (.int (w 0) :: st) A Q := c_stk i_268_805 rfl
theorem q_268_806 : XX d 268 806 [v0, v1, v2, v3, v4, v5, v6, v7] (.int x :: .ref a :: st) (mk S I L R G) Q ↔ inA (S a) ok_l x ∧ XX d 268 807 [v0, v1, v2, v3, v4, v5, v6, v7] (.long (L a (ix x)) :: st) (mk S I L R G) Q := r_la i_268_806
theorem q_268_807 : XX d 268 807 [v0, v1, v2, v3, v4, v5, some (.int x), v7] st A Q ↔ XX d 268 809 [v0, v1, v2, v3, v4, v5, some (.int x), v7] (.int x :: st) A Q := c_lcl i_268_807 rfl rfl
theorem q_268_809 : XX d 268 809 [v0, v1, v2, v3, v4, v5, v6, v7] (.int x :: st) A Q ↔ XX d 268 810 [v0, v1, v2, v3, v4, v5, v6, v7] (.long x.toInt64 :: st) A Q := c_stk i_268_809 rfl
theorem q_268_810 : XX d 268 810 [v0, v1, v2, v3, v4, v5, v6, v7] (.long ly :: .long lx :: st) A Q ↔ XX d 268 811 [v0, v1, v2, v3, v4, v5, v6, v7] (.int (lg_cmp lx ly) :: st) A Q := c_stk i_268_810 rfl
theorem q_268_811 : XX d 268 811 [v0, v1, v2, v3, v4, v5, v6, v7] (.int x :: st) A Q ↔ if x = w 0 then XX d 268 816 [v0, v1, v2, v3, v4, v5, v6, v7] st A Q else XX d 268 814 [v0, v1, v2, v3, v4, v5, v6, v7] st A Q := z_eq i_268_811 rfl rfl rfl
theorem q_268_814 : XX d 268 814 [v0, v1, v2, v3, v4, v5, v6, v7] st A Q ↔ XX d 268 815 [v0, v1, v2, v3, v4, v5, v6, v7] (.int (w 0) :: st) A Q := c_stk i_268_814 rfl
theorem q_268_815 : XX d 268 815 [v0, v1, v2, v3, v4, v5, v6, v7] [.int x] A Q ↔ (x = w 0 ∨ x = w 1) ∧ Q (.inl (some (.int x))) A := e_retZ i_268_815 rfl
theorem q_268_816 : XX d 268 816 [v0, v1, v2, v3, v4, v5, v6, v7] st A Q ↔ XX d 268 2288 [v0, v1, v2, v3, v4, v5, v6, v7] st A Q := c_go i_268_816 rfl rfl
theorem q_268_819 : XX d 268 819 [v0, some (.ref a), v2, v3, v4, v5, v6, v7] st A Q ↔ XX d 268 820 [v0, some (.ref a), v2, v3, v4, v5, v6, v7] (.ref a :: st) A Q := c_lcl i_268_819 rfl rfl
theorem q_268_820 : XX d 268 820 [some (.ref a), v1, v2, v3, v4, v5, v6, v7] st A Q ↔ XX d 268 821 [some (.ref a), v1, v2, v3, v4, v5, v6, v7] (.ref a :: st) A Q := c_lcl i_268_820 rfl rfl
theorem q_268_821 : XX d 268 821 [v0, v1, v2, v3, some (.int x), v5, v6, v7] st A Q ↔ XX d 268 823 [v0, v1, v2, v3, some (.int x), v5, v6, v7] (.int x :: st) A Q := c_lcl i_268_821 rfl rfl
theorem q_268_823 : XX d 268 823 [v0, v1, v2, v3, v4, v5, v6, v7] st A Q ↔ XX d 268 824 [v0, v1, v2, v3, v4, v5, v6, v7] (.int (w 1) :: st) A Q := c_stk i_268_823 rfl
theorem q_268_824 : XX d 268 824 [v0, v1, v2, v3, v4, v5, v6, v7] (.int y :: .int x :: st) A Q ↔ XX d 268 825 [v0, v1, v2, v3, v4, v5, v6, v7] (.int (x + y) :: st) A Q := c_stk i_268_824 rfl
theorem q_268_825 : XX d 268 825 [v0, v1, v2, v3, v4, v5, v6, v7] (.int x :: .ref a :: st) (mk S I L R G) Q ↔ inA (S a) ok_i x ∧ XX d 268 826 [v0, v1, v2, v3, v4, v5, v6, v7] (.int (I a (ix x)) :: st) (mk S I L R G) Q := r_ia i_268_825
theorem q_268_826 : XX d 268 826 [some (.ref a), v1, v2, v3, v4, v5, v6, v7] st A Q ↔ XX d 268 827 [some (.ref a), v1, v2, v3, v4, v5, v6, v7] (.ref a :: st) A Q := c_lcl i_268_826 rfl rfl
theorem q_268_827 : XX d 268 827 [v0, v1, v2, v3, some (.int x), v5, v6, v7] st A Q ↔ XX d 268 829 [v0, v1, v2, v3, some (.int x), v5, v6, v7] (.int x :: st) A Q := c_lcl i_268_827 rfl rfl
theorem q_268_829 : XX d 268 829 [v0, v1, v2, v3, v4, v5, v6, v7] st A Q ↔ XX d 268 830 [v0, v1, v2, v3, v4, v5, v6, v7] (.int (w 2) :: st) A Q := c_stk i_268_829 rfl
theorem q_268_830 : XX d 268 830 [v0, v1, v2, v3, v4, v5, v6, v7] (.int y :: .int x :: st) A Q ↔ XX d 268 831 [v0, v1, v2, v3, v4, v5, v6, v7] (.int (x + y) :: st) A Q := c_stk i_268_830 rfl
theorem q_268_831 : XX d 268 831 [v0, v1, v2, v3, v4, v5, v6, v7] (.int x :: .ref a :: st) (mk S I L R G) Q ↔ inA (S a) ok_i x ∧ XX d 268 832 [v0, v1, v2, v3, v4, v5, v6, v7] (.int (I a (ix x)) :: st) (mk S I L R G) Q := r_ia i_268_831
theorem q_268_832 : XX d 268 832 [v0, v1, v2, some (.ref a), v4, v5, v6, v7] st A Q ↔ XX d 268 833 [v0, v1, v2, some (.ref a), v4, v5, v6, v7] (.ref a :: st) A Q := c_lcl i_268_832 rfl rfl
theorem q_268_833 : XX (d + 1) 268 833 [v0, v1, v2, v3, v4, v5, v6, v7] [.ref a3, .int x2, .int x1, .ref a0] A Q ↔ XC d 248 [.ref a0, .int x1, .int x2, .ref a3] A (XK (d + 1) 268 833 [v0, v1, v2, v3, v4, v5, v6, v7] [] Q) := c_callS i_268_833 rfl rfl rfl rfl (Nat.le_of_ble_eq_true rfl) (Nat.le_of_ble_eq_true rfl)
theorem q_268_836 : XX d 268 836 [v0, v1, v2, v3, some (.int z), v5, v6, v7] (.int x :: st) A Q ↔ XX d 268 838 [v0, v1, v2, v3, some (.int z), some (.int x), v6, v7] st A Q := c_lcl i_268_836 rfl rfl
theorem q_268_838 : XX d 268 838 [v0, v1, some (.ref a), v3, v4, v5, v6, v7] st A Q ↔ XX d 268 839 [v0, v1, some (.ref a), v3, v4, v5, v6, v7] (.ref a :: st) A Q := c_lcl i_268_838 rfl rfl
theorem q_268_839 : XX d 268 839 [some (.ref a), v1, v2, v3, v4, v5, v6, v7] st A Q ↔ XX d 268 840 [some (.ref a), v1, v2, v3, v4, v5, v6, v7] (.ref a :: st) A Q := c_lcl i_268_839 rfl rfl
theorem q_268_840 : XX d 268 840 [v0, v1, v2, v3, some (.int x), v5, v6, v7] st A Q ↔ XX d 268 842 [v0, v1, v2, v3, some (.int x), v5, v6, v7] (.int x :: st) A Q := c_lcl i_268_840 rfl rfl
theorem q_268_842 : XX d 268 842 [v0, v1, v2, v3, v4, v5, v6, v7] st A Q ↔ XX d 268 843 [v0, v1, v2, v3, v4, v5, v6, v7] (.int (w 1) :: st) A Q := c_stk i_268_842 rfl
theorem q_268_843 : XX d 268 843 [v0, v1, v2, v3, v4, v5, v6, v7] (.int y :: .int x :: st) A Q ↔ XX d 268 844 [v0, v1, v2, v3, v4, v5, v6, v7] (.int (x + y) :: st) A Q := c_stk i_268_843 rfl
theorem q_268_844 : XX d 268 844 [v0, v1, v2, v3, v4, v5, v6, v7] (.int x :: .ref a :: st) (mk S I L R G) Q ↔ inA (S a) ok_i x ∧ XX d 268 845 [v0, v1, v2, v3, v4, v5, v6, v7] (.int (I a (ix x)) :: st) (mk S I L R G) Q := r_ia i_268_844
theorem q_268_845 : XX d 268 845 [some (.ref a), v1, v2, v3, v4, v5, v6, v7] st A Q ↔ XX d 268 846 [some (.ref a), v1, v2, v3, v4, v5, v6, v7] (.ref a :: st) A Q := c_lcl i_268_845 rfl rfl
theorem q_268_846 : XX d 268 846 [v0, v1, v2, v3, some (.int x), v5, v6, v7] st A Q ↔ XX d 268 848 [v0, v1, v2, v3, some (.int x), v5, v6, v7] (.int x :: st) A Q := c_lcl i_268_846 rfl rfl
theorem q_268_848 : XX d 268 848 [v0, v1, v2, v3, v4, v5, v6, v7] st A Q ↔ XX d 268 849 [v0, v1, v2, v3, v4, v5, v6, v7] (.int (w 2) :: st) A Q := c_stk i_268_848 rfl
theorem q_268_849 : XX d 268 849 [v0, v1, v2, v3, v4, v5, v6, v7] (.int y :: .int x :: st) A Q ↔ XX d 268 850 [v0, v1, v2, v3, v4, v5, v6, v7] (.int (x + y) :: st) A Q := c_stk i_268_849 rfl
theorem q_268_850 : XX d 268 850 [v0, v1, v2, v3, v4, v5, v6, v7] (.int x :: .ref a :: st) (mk S I L R G) Q ↔ inA (S a) ok_i x ∧ XX d 268 851 [v0, v1, v2, v3, v4, v5, v6, v7] (.int (I a (ix x)) :: st) (mk S I L R G) Q := r_ia i_268_850
theorem q_268_851 : XX (d + 1) 268 851 [v0, v1, v2, v3, v4, v5, v6, v7] [.int x2, .int x1, .ref a0] (mk S I L R G) Q ↔ S a0 = some (.inr 12) ∧ XC d 205 [.ref a0, .int x1, .int x2] (mk S I L R G) (XK (d + 1) 268 851 [v0, v1, v2, v3, v4, v5, v6, v7] [] Q) := c_callV i_268_851 rfl rfl rfl rfl (Nat.le_of_ble_eq_true rfl) (Nat.le_of_ble_eq_true rfl) rfl
theorem q_268_854 : XX d 268 854 [v0, v1, v2, v3, v4, some (.int z), v6, v7] (.int x :: st) A Q ↔ XX d 268 856 [v0, v1, v2, v3, v4, some (.int z), some (.int x), v7] st A Q := c_lcl i_268_854 rfl rfl
theorem q_268_856 : XX d 268 856 [v0, v1, some (.ref a), v3, v4, v5, v6, v7] st A Q ↔ XX d 268 857 [v0, v1, some (.ref a), v3, v4, v5, v6, v7] (.ref a :: st) A Q := c_lcl i_268_856 rfl rfl
theorem q_268_857 : XX (d + 1) 268 857 [v0, v1, v2, v3, v4, v5, v6, v7] [.ref a0] (mk S I L R G) Q ↔ S a0 = some (.inr 12) ∧ XC d 153 [.ref a0] (mk S I L R G) (XK (d + 1) 268 857 [v0, v1, v2, v3, v4, v5, v6, v7] [] Q) := c_callV i_268_857 rfl rfl rfl rfl (Nat.le_of_ble_eq_true rfl) (Nat.le_of_ble_eq_true rfl) rfl
theorem q_268_860 : XX d 268 860 [v0, v1, v2, v3, v4, some (.int x), v6, v7] st A Q ↔ XX d 268 862 [v0, v1, v2, v3, v4, some (.int x), v6, v7] (.int x :: st) A Q := c_lcl i_268_860 rfl rfl
theorem q_268_862 : XX d 268 862 [v0, v1, v2, v3, v4, v5, v6, v7] (.int y :: .int x :: st) A Q ↔ if x = y then XX d 268 867 [v0, v1, v2, v3, v4, v5, v6, v7] st A Q else XX d 268 865 [v0, v1, v2, v3, v4, v5, v6, v7] st A Q := b_eq i_268_862 rfl rfl rfl
theorem q_268_865 : XX d 268 865 [v0, v1, v2, v3, v4, v5, v6, v7] st A Q ↔ XX d 268 866 [v0, v1, v2, v3, v4, v5, v6, v7] (.int (w 0) :: st) A Q := c_stk i_268_865 rfl
theorem q_268_866 : XX d 268 866 [v0, v1, v2, v3, v4, v5, v6, v7] [.int x] A Q ↔ (x = w 0 ∨ x = w 1) ∧ Q (.inl (some (.int x))) A := e_retZ i_268_866 rfl
theorem q_268_867 : XX d 268 867 [v0, v1, v2, v3, v4, some (.int x), v6, v7] st A Q ↔ XX d 268 869 [v0, v1, v2, v3, v4, some (.int x), v6, v7] (.int x :: st) A Q := c_lcl i_268_867 rfl rfl
theorem q_268_869 : XX d 268 869 [v0, v1, v2, v3, v4, v5, v6, v7] (.int x :: st) A Q ↔ if x = w 0 then XX d 268 872 [v0, v1, v2, v3, v4, v5, v6, v7] st A Q else XX d 268 884 [v0, v1, v2, v3, v4, v5, v6, v7] st A Q := z_ne i_268_869 rfl rfl rfl
theorem q_268_872 : XX d 268 872 [v0, v1, v2, some (.ref a), v4, v5, v6, v7] st A Q ↔ XX d 268 873 [v0, v1, v2, some (.ref a), v4, v5, v6, v7] (.ref a :: st) A Q := c_lcl i_268_872 rfl rfl
theorem q_268_873 : XX d 268 873 [v0, v1, v2, v3, v4, v5, v6, v7] st A Q ↔ XX d 268 874 [v0, v1, v2, v3, v4, v5, v6, v7] (.int (w 0) :: st) A Q := c_stk i_268_873 rfl
theorem q_268_874 : XX d 268 874 [v0, v1, v2, v3, v4, v5, v6, v7] (.int x :: .ref a :: st) (mk S I L R G) Q ↔ inA (S a) ok_l x ∧ XX d 268 875 [v0, v1, v2, v3, v4, v5, v6, v7] (.long (L a (ix x)) :: st) (mk S I L R G) Q := r_la i_268_874
theorem q_268_875 : XX d 268 875 [v0, v1, v2, v3, v4, v5, some (.int x), v7] st A Q ↔ XX d 268 877 [v0, v1, v2, v3, v4, v5, some (.int x), v7] (.int x :: st) A Q := c_lcl i_268_875 rfl rfl
theorem q_268_877 : XX d 268 877 [v0, v1, v2, v3, v4, v5, v6, v7] (.int x :: st) A Q ↔ XX d 268 878 [v0, v1, v2, v3, v4, v5, v6, v7] (.long x.toInt64 :: st) A Q := c_stk i_268_877 rfl
theorem q_268_878 : XX d 268 878 [v0, v1, v2, v3, v4, v5, v6, v7] (.long ly :: .long lx :: st) A Q ↔ XX d 268 879 [v0, v1, v2, v3, v4, v5, v6, v7] (.int (lg_cmp lx ly) :: st) A Q := c_stk i_268_878 rfl
theorem q_268_879 : XX d 268 879 [v0, v1, v2, v3, v4, v5, v6, v7] (.int x :: st) A Q ↔ if x = w 0 then XX d 268 884 [v0, v1, v2, v3, v4, v5, v6, v7] st A Q else XX d 268 882 [v0, v1, v2, v3, v4, v5, v6, v7] st A Q := z_eq i_268_879 rfl rfl rfl
theorem q_268_882 : XX d 268 882 [v0, v1, v2, v3, v4, v5, v6, v7] st A Q ↔ XX d 268 883 [v0, v1, v2, v3, v4, v5, v6, v7] (.int (w 0) :: st) A Q := c_stk i_268_882 rfl
theorem q_268_883 : XX d 268 883 [v0, v1, v2, v3, v4, v5, v6, v7] [.int x] A Q ↔ (x = w 0 ∨ x = w 1) ∧ Q (.inl (some (.int x))) A := e_retZ i_268_883 rfl
theorem q_268_884 : XX d 268 884 [v0, v1, v2, v3, v4, v5, v6, v7] st A Q ↔ XX d 268 2288 [v0, v1, v2, v3, v4, v5, v6, v7] st A Q := c_go i_268_884 rfl rfl
theorem q_268_887 : XX d 268 887 [v0, some (.ref a), v2, v3, v4, v5, v6, v7] st A Q ↔ XX d 268 888 [v0, some (.ref a), v2, v3, v4, v5, v6, v7] (.ref a :: st) A Q := c_lcl i_268_887 rfl rfl
theorem q_268_888 : XX d 268 888 [some (.ref a), v1, v2, v3, v4, v5, v6, v7] st A Q ↔ XX d 268 889 [some (.ref a), v1, v2, v3, v4, v5, v6, v7] (.ref a :: st) A Q := c_lcl i_268_888 rfl rfl
theorem q_268_889 : XX d 268 889 [v0, v1, v2, v3, some (.int x), v5, v6, v7] st A Q ↔ XX d 268 891 [v0, v1, v2, v3, some (.int x), v5, v6, v7] (.int x :: st) A Q := c_lcl i_268_889 rfl rfl
theorem q_268_891 : XX d 268 891 [v0, v1, v2, v3, v4, v5, v6, v7] st A Q ↔ XX d 268 892 [v0, v1, v2, v3, v4, v5, v6, v7] (.int (w 1) :: st) A Q := c_stk i_268_891 rfl
theorem q_268_892 : XX d 268 892 [v0, v1, v2, v3, v4, v5, v6, v7] (.int y :: .int x :: st) A Q ↔ XX d 268 893 [v0, v1, v2, v3, v4, v5, v6, v7] (.int (x + y) :: st) A Q := c_stk i_268_892 rfl
theorem q_268_893 : XX d 268 893 [v0, v1, v2, v3, v4, v5, v6, v7] (.int x :: .ref a :: st) (mk S I L R G) Q ↔ inA (S a) ok_i x ∧ XX d 268 894 [v0, v1, v2, v3, v4, v5, v6, v7] (.int (I a (ix x)) :: st) (mk S I L R G) Q := r_ia i_268_893
theorem q_268_894 : XX d 268 894 [some (.ref a), v1, v2, v3, v4, v5, v6, v7] st A Q ↔ XX d 268 895 [some (.ref a), v1, v2, v3, v4, v5, v6, v7] (.ref a :: st) A Q := c_lcl i_268_894 rfl rfl
theorem q_268_895 : XX d 268 895 [v0, v1, v2, v3, some (.int x), v5, v6, v7] st A Q ↔ XX d 268 897 [v0, v1, v2, v3, some (.int x), v5, v6, v7] (.int x :: st) A Q := c_lcl i_268_895 rfl rfl
theorem q_268_897 : XX d 268 897 [v0, v1, v2, v3, v4, v5, v6, v7] st A Q ↔ XX d 268 898 [v0, v1, v2, v3, v4, v5, v6, v7] (.int (w 2) :: st) A Q := c_stk i_268_897 rfl
theorem q_268_e : XC d 268 [.ref a0] A Q ↔ XX d 268 0 [some (.ref a0), none, none, none, none, none, none, none] [] A Q := Iff.rfl
end
