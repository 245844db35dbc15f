theorem dL_isTold_212 : decode cL_isTold 212 = .ok (.iaload, 1) := by decide +kernel
theorem dL_isTold_213 : decode cL_isTold 213 = .ok (.aload_n 2, 1) := by decide +kernel
theorem dL_isTold_214 : decode cL_isTold 214 = .ok (.bipush 10, 2) := by decide +kernel
theorem dL_isTold_216 : decode cL_isTold 216 = .ok (.iload 9, 2) := by decide +kernel
theorem dL_isTold_218 : decode cL_isTold 218 = .ok (.imul, 1) := by decide +kernel
theorem dL_isTold_219 : decode cL_isTold 219 = .ok (.bipush 9, 2) := by decide +kernel
theorem dL_isTold_221 : decode cL_isTold 221 = .ok (.iadd, 1) := by decide +kernel
theorem dL_isTold_222 : decode cL_isTold 222 = .ok (.iaload, 1) := by decide +kernel
theorem dL_isTold_223 : decode cL_isTold 223 = .ok (.if_icmp .ge 7, 3) := by decide +kernel
theorem dL_isTold_226 : decode cL_isTold 226 = .ok (.iconst 1, 1) := by decide +kernel
theorem dL_isTold_227 : decode cL_isTold 227 = .ok (.goto 4, 3) := by decide +kernel
theorem dL_isTold_230 : decode cL_isTold 230 = .ok (.iconst 0, 1) := by decide +kernel
theorem dL_isTold_231 : decode cL_isTold 231 = .ok (.if_icmp .eq 5, 3) := by decide +kernel
theorem dL_isTold_234 : decode cL_isTold 234 = .ok (.iconst 0, 1) := by decide +kernel
theorem dL_isTold_235 : decode cL_isTold 235 = .ok (.ireturn, 1) := by decide +kernel
theorem dL_isTold_236 : decode cL_isTold 236 = .ok (.iload_n 1, 1) := by decide +kernel
theorem dL_isTold_237 : decode cL_isTold 237 = .ok (.iload 9, 2) := by decide +kernel
theorem dL_isTold_239 : decode cL_isTold 239 = .ok (.ishr, 1) := by decide +kernel
theorem dL_isTold_240 : decode cL_isTold 240 = .ok (.bipush 8, 2) := by decide +kernel
theorem dL_isTold_242 : decode cL_isTold 242 = .ok (.invokestatic 83, 3) := by decide +kernel
theorem dL_isTold_245 : decode cL_isTold 245 = .ok (.istore 10, 2) := by decide +kernel
theorem dL_isTold_247 : decode cL_isTold 247 = .ok (.aload_n 0, 1) := by decide +kernel
theorem dL_isTold_248 : decode cL_isTold 248 = .ok (.iload 9, 2) := by decide +kernel
theorem dL_isTold_250 : decode cL_isTold 250 = .ok (.iload 10, 2) := by decide +kernel
theorem dL_isTold_252 : decode cL_isTold 252 = .ok (.invokestatic 121, 3) := by decide +kernel
theorem dL_isTold_255 : decode cL_isTold 255 = .ok (.aload_n 3, 1) := by decide +kernel
theorem dL_isTold_256 : decode cL_isTold 256 = .ok (.aload 7, 2) := by decide +kernel
theorem dL_isTold_258 : decode cL_isTold 258 = .ok (.iload 9, 2) := by decide +kernel
theorem dL_isTold_260 : decode cL_isTold 260 = .ok (.iload 10, 2) := by decide +kernel
theorem dL_isTold_262 : decode cL_isTold 262 = .ok (.invokestatic 63, 3) := by decide +kernel
theorem dL_isTold_265 : decode cL_isTold 265 = .ok (.if_icmp .eq 5, 3) := by decide +kernel
theorem dL_isTold_268 : decode cL_isTold 268 = .ok (.iconst 0, 1) := by decide +kernel
theorem dL_isTold_269 : decode cL_isTold 269 = .ok (.ireturn, 1) := by decide +kernel
theorem dL_isTold_270 : decode cL_isTold 270 = .ok (.iconst 0, 1) := by decide +kernel
theorem dL_isTold_271 : decode cL_isTold 271 = .ok (.istore 11, 2) := by decide +kernel
theorem dL_isTold_273 : decode cL_isTold 273 = .ok (.iconst 0, 1) := by decide +kernel
theorem dL_isTold_274 : decode cL_isTold 274 = .ok (.istore 12, 2) := by decide +kernel
theorem dL_isTold_276 : decode cL_isTold 276 = .ok (.iload 12, 2) := by decide +kernel
theorem dL_isTold_278 : decode cL_isTold 278 = .ok (.aload 7, 2) := by decide +kernel
theorem dL_isTold_280 : decode cL_isTold 280 = .ok (.iconst 1, 1) := by decide +kernel
theorem dL_isTold_281 : decode cL_isTold 281 = .ok (.iaload, 1) := by decide +kernel
theorem dL_isTold_282 : decode cL_isTold 282 = .ok (.if_icmp .ge 42, 3) := by decide +kernel
theorem dL_isTold_285 : decode cL_isTold 285 = .ok (.aload_n 3, 1) := by decide +kernel
theorem dL_isTold_286 : decode cL_isTold 286 = .ok (.iload 12, 2) := by decide +kernel
theorem dL_isTold_288 : decode cL_isTold 288 = .ok (.iaload, 1) := by decide +kernel
theorem dL_isTold_289 : decode cL_isTold 289 = .ok (.bipush 63, 2) := by decide +kernel
theorem dL_isTold_291 : decode cL_isTold 291 = .ok (.iand, 1) := by decide +kernel
theorem dL_isTold_292 : decode cL_isTold 292 = .ok (.iload 9, 2) := by decide +kernel
theorem dL_isTold_294 : decode cL_isTold 294 = .ok (.if_icmp .eq 6, 3) := by decide +kernel
theorem dL_isTold_297 : decode cL_isTold 297 = .ok (.goto 21, 3) := by decide +kernel
theorem dL_isTold_300 : decode cL_isTold 300 = .ok (.aload_n 0, 1) := by decide +kernel
theorem dL_isTold_301 : decode cL_isTold 301 = .ok (.iload 9, 2) := by decide +kernel
theorem dL_isTold_303 : decode cL_isTold 303 = .ok (.iload 11, 2) := by decide +kernel
theorem dL_isTold_305 : decode cL_isTold 305 = .ok (.invokestatic 123, 3) := by decide +kernel
theorem dL_isTold_308 : decode cL_isTold 308 = .ok (.iload 12, 2) := by decide +kernel
theorem dL_isTold_310 : decode cL_isTold 310 = .ok (.if_icmp .eq 5, 3) := by decide +kernel
theorem dL_isTold_313 : decode cL_isTold 313 = .ok (.iconst 0, 1) := by decide +kernel
theorem dL_isTold_314 : decode cL_isTold 314 = .ok (.ireturn, 1) := by decide +kernel
theorem dL_isTold_315 : decode cL_isTold 315 = .ok (.iinc 11 1, 3) := by decide +kernel
theorem dL_isTold_318 : decode cL_isTold 318 = .ok (.iinc 12 1, 3) := by decide +kernel
theorem dL_isTold_321 : decode cL_isTold 321 = .ok (.goto (-45), 3) := by decide +kernel
theorem dL_isTold_324 : decode cL_isTold 324 = .ok (.aload_n 0, 1) := by decide +kernel
theorem dL_isTold_325 : decode cL_isTold 325 = .ok (.iload 9, 2) := by decide +kernel
theorem dL_isTold_327 : decode cL_isTold 327 = .ok (.iload 11, 2) := by decide +kernel
theorem dL_isTold_329 : decode cL_isTold 329 = .ok (.invokestatic 123, 3) := by decide +kernel
theorem dL_isTold_332 : decode cL_isTold 332 = .ok (.bipush (-71), 2) := by decide +kernel
theorem dL_isTold_334 : decode cL_isTold 334 = .ok (.if_icmp .eq 5, 3) := by decide +kernel
theorem dL_isTold_337 : decode cL_isTold 337 = .ok (.iconst 0, 1) := by decide +kernel
theorem dL_isTold_338 : decode cL_isTold 338 = .ok (.ireturn, 1) := by decide +kernel
theorem dL_isTold_339 : decode cL_isTold 339 = .ok (.iinc 9 1, 3) := by decide +kernel
theorem dL_isTold_342 : decode cL_isTold 342 = .ok (.goto (-165), 3) := by decide +kernel
theorem dL_isTold_345 : decode cL_isTold 345 = .ok (.aload_n 0, 1) := by decide +kernel
theorem dL_isTold_346 : decode cL_isTold 346 = .ok (.invokevirtual 125, 3) := by decide +kernel
theorem dL_isTold_349 : decode cL_isTold 349 = .ok (.aload 7, 2) := by decide +kernel
theorem dL_isTold_351 : decode cL_isTold 351 = .ok (.iconst 0, 1) := by decide +kernel
theorem dL_isTold_352 : decode cL_isTold 352 = .ok (.iaload, 1) := by decide +kernel
theorem dL_isTold_353 : decode cL_isTold 353 = .ok (.if_icmp .ne 203, 3) := by decide +kernel
theorem dL_isTold_356 : decode cL_isTold 356 = .ok (.aload_n 0, 1) := by decide +kernel
theorem dL_isTold_357 : decode cL_isTold 357 = .ok (.invokevirtual 129, 3) := by decide +kernel
theorem dL_isTold_360 : decode cL_isTold 360 = .ok (.aload 7, 2) := by decide +kernel
theorem dL_isTold_362 : decode cL_isTold 362 = .ok (.iconst 1, 1) := by decide +kernel
theorem dL_isTold_363 : decode cL_isTold 363 = .ok (.iaload, 1) := by decide +kernel
theorem dL_isTold_364 : decode cL_isTold 364 = .ok (.if_icmp .ne 192, 3) := by decide +kernel
theorem dL_isTold_367 : decode cL_isTold 367 = .ok (.aload_n 0, 1) := by decide +kernel
theorem dL_isTold_368 : decode cL_isTold 368 = .ok (.aload 7, 2) := by decide +kernel
theorem dL_isTold_370 : decode cL_isTold 370 = .ok (.iconst 1, 1) := by decide +kernel
theorem dL_isTold_371 : decode cL_isTold 371 = .ok (.iaload, 1) := by decide +kernel
theorem dL_isTold_372 : decode cL_isTold 372 = .ok (.invokestatic 95, 3) := by decide +kernel
theorem dL_isTold_375 : decode cL_isTold 375 = .ok (.bipush (-71), 2) := by decide +kernel
theorem dL_isTold_377 : decode cL_isTold 377 = .ok (.if_icmp .ne 179, 3) := by decide +kernel
theorem dL_isTold_380 : decode cL_isTold 380 = .ok (.aload_n 0, 1) := by decide +kernel
theorem dL_isTold_381 : decode cL_isTold 381 = .ok (.iconst (-1), 1) := by decide +kernel
theorem dL_isTold_382 : decode cL_isTold 382 = .ok (.invokestatic 95, 3) := by decide +kernel
theorem dL_isTold_385 : decode cL_isTold 385 = .ok (.bipush (-71), 2) := by decide +kernel
theorem dL_isTold_387 : decode cL_isTold 387 = .ok (.if_icmp .ne 169, 3) := by decide +kernel
theorem dL_isTold_390 : decode cL_isTold 390 = .ok (.aload_n 0, 1) := by decide +kernel
theorem dL_isTold_391 : decode cL_isTold 391 = .ok (.aload 7, 2) := by decide +kernel
theorem dL_isTold_393 : decode cL_isTold 393 = .ok (.iconst 1, 1) := by decide +kernel
theorem dL_isTold_394 : decode cL_isTold 394 = .ok (.iaload, 1) := by decide +kernel
theorem dL_isTold_395 : decode cL_isTold 395 = .ok (.invokestatic 107, 3) := by decide +kernel
theorem dL_isTold_398 : decode cL_isTold 398 = .ok (.bipush (-71), 2) := by decide +kernel
theorem dL_isTold_400 : decode cL_isTold 400 = .ok (.if_icmp .ne 156, 3) := by decide +kernel
theorem dL_isTold_403 : decode cL_isTold 403 = .ok (.aload_n 0, 1) := by decide +kernel
theorem dL_isTold_404 : decode cL_isTold 404 = .ok (.bipush 6, 2) := by decide +kernel
theorem dL_isTold_406 : decode cL_isTold 406 = .ok (.iconst 0, 1) := by decide +kernel
theorem dL_isTold_407 : decode cL_isTold 407 = .ok (.invokestatic 123, 3) := by decide +kernel
theorem dL_isTold_410 : decode cL_isTold 410 = .ok (.bipush (-71), 2) := by decide +kernel
theorem dL_isTold_412 : decode cL_isTold 412 = .ok (.if_icmp .ne 144, 3) := by decide +kernel
theorem dL_isTold_415 : decode cL_isTold 415 = .ok (.aload_n 0, 1) := by decide +kernel
theorem dL_isTold_416 : decode cL_isTold 416 = .ok (.iconst 0, 1) := by decide +kernel
theorem dL_isTold_417 : decode cL_isTold 417 = .ok (.iconst (-1), 1) := by decide +kernel
theorem dL_isTold_418 : decode cL_isTold 418 = .ok (.invokestatic 123, 3) := by decide +kernel
theorem dL_isTold_421 : decode cL_isTold 421 = .ok (.bipush (-71), 2) := by decide +kernel
theorem dL_isTold_423 : decode cL_isTold 423 = .ok (.if_icmp .ne 133, 3) := by decide +kernel
theorem dL_isTold_426 : decode cL_isTold 426 = .ok (.aload_n 0, 1) := by decide +kernel
theorem dL_isTold_427 : decode cL_isTold 427 = .ok (.bipush 6, 2) := by decide +kernel
theorem dL_isTold_429 : decode cL_isTold 429 = .ok (.bipush 8, 2) := by decide +kernel
theorem dL_isTold_431 : decode cL_isTold 431 = .ok (.invokestatic 121, 3) := by decide +kernel
theorem dL_isTold_434 : decode cL_isTold 434 = .ok (.bipush (-71), 2) := by decide +kernel
theorem dL_isTold_436 : decode cL_isTold 436 = .ok (.if_icmp .ne 120, 3) := by decide +kernel
theorem dL_isTold_439 : decode cL_isTold 439 = .ok (.aload_n 0, 1) := by decide +kernel
theorem dL_isTold_440 : decode cL_isTold 440 = .ok (.iconst 0, 1) := by decide +kernel
theorem dL_isTold_441 : decode cL_isTold 441 = .ok (.bipush 8, 2) := by decide +kernel
theorem dL_isTold_443 : decode cL_isTold 443 = .ok (.invokestatic 121, 3) := by decide +kernel
theorem dL_isTold_446 : decode cL_isTold 446 = .ok (.bipush (-72), 2) := by decide +kernel
theorem dL_isTold_448 : decode cL_isTold 448 = .ok (.if_icmp .ne 108, 3) := by decide +kernel
theorem dL_isTold_451 : decode cL_isTold 451 = .ok (.aload_n 0, 1) := by decide +kernel
theorem dL_isTold_452 : decode cL_isTold 452 = .ok (.iconst 0, 1) := by decide +kernel
theorem dL_isTold_453 : decode cL_isTold 453 = .ok (.iconst (-1), 1) := by decide +kernel
theorem dL_isTold_454 : decode cL_isTold 454 = .ok (.invokestatic 121, 3) := by decide +kernel
theorem dL_isTold_457 : decode cL_isTold 457 = .ok (.bipush (-72), 2) := by decide +kernel
theorem dL_isTold_459 : decode cL_isTold 459 = .ok (.if_icmp .ne 97, 3) := by decide +kernel
theorem dL_isTold_462 : decode cL_isTold 462 = .ok (.aload_n 0, 1) := by decide +kernel
theorem dL_isTold_463 : decode cL_isTold 463 = .ok (.bipush 6, 2) := by decide +kernel
theorem dL_isTold_465 : decode cL_isTold 465 = .ok (.invokestatic 115, 3) := by decide +kernel
theorem dL_isTold_468 : decode cL_isTold 468 = .ok (.bipush (-71), 2) := by decide +kernel
theorem dL_isTold_470 : decode cL_isTold 470 = .ok (.if_icmp .ne 86, 3) := by decide +kernel
theorem dL_isTold_473 : decode cL_isTold 473 = .ok (.aload_n 0, 1) := by decide +kernel
theorem dL_isTold_474 : decode cL_isTold 474 = .ok (.aload 7, 2) := by decide +kernel
theorem dL_isTold_476 : decode cL_isTold 476 = .ok (.iconst 1, 1) := by decide +kernel
theorem dL_isTold_477 : decode cL_isTold 477 = .ok (.iaload, 1) := by decide +kernel
theorem dL_isTold_478 : decode cL_isTold 478 = .ok (.invokestatic 132, 3) := by decide +kernel
theorem dL_isTold_481 : decode cL_isTold 481 = .ok (.bipush (-71), 2) := by decide +kernel
theorem dL_isTold_483 : decode cL_isTold 483 = .ok (.if_icmp .ne 73, 3) := by decide +kernel
theorem dL_isTold_486 : decode cL_isTold 486 = .ok (.aload_n 0, 1) := by decide +kernel
theorem dL_isTold_487 : decode cL_isTold 487 = .ok (.iconst (-1), 1) := by decide +kernel
theorem dL_isTold_488 : decode cL_isTold 488 = .ok (.invokestatic 132, 3) := by decide +kernel
theorem dL_isTold_491 : decode cL_isTold 491 = .ok (.bipush (-71), 2) := by decide +kernel
theorem dL_isTold_493 : decode cL_isTold 493 = .ok (.if_icmp .ne 63, 3) := by decide +kernel
theorem dL_isTold_496 : decode cL_isTold 496 = .ok (.aload_n 0, 1) := by decide +kernel
theorem dL_isTold_497 : decode cL_isTold 497 = .ok (.iconst 0, 1) := by decide +kernel
theorem dL_isTold_498 : decode cL_isTold 498 = .ok (.invokestatic 134, 3) := by decide +kernel
theorem dL_isTold_501 : decode cL_isTold 501 = .ok (.bipush (-72), 2) := by decide +kernel
theorem dL_isTold_503 : decode cL_isTold 503 = .ok (.if_icmp .ne 53, 3) := by decide +kernel
theorem dL_isTold_506 : decode cL_isTold 506 = .ok (.aload_n 0, 1) := by decide +kernel
theorem dL_isTold_507 : decode cL_isTold 507 = .ok (.bipush 101, 2) := by decide +kernel
theorem dL_isTold_509 : decode cL_isTold 509 = .ok (.invokestatic 134, 3) := by decide +kernel
theorem dL_isTold_512 : decode cL_isTold 512 = .ok (.bipush (-72), 2) := by decide +kernel
theorem dL_isTold_514 : decode cL_isTold 514 = .ok (.if_icmp .ne 42, 3) := by decide +kernel
theorem dL_isTold_517 : decode cL_isTold 517 = .ok (.aload_n 0, 1) := by decide +kernel
theorem dL_isTold_518 : decode cL_isTold 518 = .ok (.bipush 6, 2) := by decide +kernel
theorem dL_isTold_520 : decode cL_isTold 520 = .ok (.iconst 0, 1) := by decide +kernel
theorem dL_isTold_521 : decode cL_isTold 521 = .ok (.invokestatic 136, 3) := by decide +kernel
theorem dL_isTold_524 : decode cL_isTold 524 = .ok (.bipush (-71), 2) := by decide +kernel
theorem dL_isTold_526 : decode cL_isTold 526 = .ok (.if_icmp .ne 30, 3) := by decide +kernel
theorem dL_isTold_529 : decode cL_isTold 529 = .ok (.aload_n 0, 1) := by decide +kernel
theorem dL_isTold_530 : decode cL_isTold 530 = .ok (.iconst 0, 1) := by decide +kernel
theorem dL_isTold_531 : decode cL_isTold 531 = .ok (.iconst 0, 1) := by decide +kernel
theorem dL_isTold_532 : decode cL_isTold 532 = .ok (.invokestatic 136, 3) := by decide +kernel
theorem dL_isTold_535 : decode cL_isTold 535 = .ok (.bipush (-72), 2) := by decide +kernel
theorem dL_isTold_537 : decode cL_isTold 537 = .ok (.if_icmp .ne 19, 3) := by decide +kernel
theorem dL_isTold_540 : decode cL_isTold 540 = .ok (.aload_n 0, 1) := by decide +kernel
theorem dL_isTold_541 : decode cL_isTold 541 = .ok (.iconst 0, 1) := by decide +kernel
theorem dL_isTold_542 : decode cL_isTold 542 = .ok (.bipush 101, 2) := by decide +kernel
theorem dL_isTold_544 : decode cL_isTold 544 = .ok (.invokestatic 136, 3) := by decide +kernel
theorem dL_isTold_547 : decode cL_isTold 547 = .ok (.bipush (-72), 2) := by decide +kernel
theorem dL_isTold_549 : decode cL_isTold 549 = .ok (.if_icmp .ne 7, 3) := by decide +kernel
theorem dL_isTold_552 : decode cL_isTold 552 = .ok (.iconst 1, 1) := by decide +kernel
theorem dL_isTold_553 : decode cL_isTold 553 = .ok (.goto 4, 3) := by decide +kernel
theorem dL_isTold_556 : decode cL_isTold 556 = .ok (.iconst 0, 1) := by decide +kernel
theorem dL_isTold_557 : decode cL_isTold 557 = .ok (.ireturn, 1) := by decide +kernel
theorem dL_runs_0 : decode cL_runs 0 = .ok (.iconst 3, 1) := by decide +kernel
theorem dL_runs_1 : decode cL_runs 1 = .ok (.newarray .int, 2) := by decide +kernel
theorem dL_runs_3 : decode cL_runs 3 = .ok (.astore 10, 2) := by decide +kernel
theorem dL_runs_5 : decode cL_runs 5 = .ok (.iconst 0, 1) := by decide +kernel
theorem dL_runs_6 : decode cL_runs 6 = .ok (.istore 11, 2) := by decide +kernel
theorem dL_runs_8 : decode cL_runs 8 = .ok (.iload 11, 2) := by decide +kernel
theorem dL_runs_10 : decode cL_runs 10 = .ok (.bipush 60, 2) := by decide +kernel
theorem dL_runs_12 : decode cL_runs 12 = .ok (.if_icmp .ge 14, 3) := by decide +kernel
theorem dL_runs_15 : decode cL_runs 15 = .ok (.aload_n 3, 1) := by decide +kernel
theorem dL_runs_16 : decode cL_runs 16 = .ok (.iload 11, 2) := by decide +kernel
theorem dL_runs_18 : decode cL_runs 18 = .ok (.iconst 0, 1) := by decide +kernel
theorem dL_runs_19 : decode cL_runs 19 = .ok (.iastore, 1) := by decide +kernel
theorem dL_runs_20 : decode cL_runs 20 = .ok (.iinc 11 1, 3) := by decide +kernel
theorem dL_runs_23 : decode cL_runs 23 = .ok (.goto (-15), 3) := by decide +kernel
theorem dL_runs_26 : decode cL_runs 26 = .ok (.iconst 0, 1) := by decide +kernel
theorem dL_runs_27 : decode cL_runs 27 = .ok (.istore 11, 2) := by decide +kernel
theorem dL_runs_29 : decode cL_runs 29 = .ok (.iload 11, 2) := by decide +kernel
theorem dL_runs_31 : decode cL_runs 31 = .ok (.bipush 6, 2) := by decide +kernel
theorem dL_runs_33 : decode cL_runs 33 = .ok (.if_icmp .ge 49, 3) := by decide +kernel
theorem dL_runs_36 : decode cL_runs 36 = .ok (.aload_n 3, 1) := by decide +kernel
theorem dL_runs_37 : decode cL_runs 37 = .ok (.bipush 10, 2) := by decide +kernel
theorem dL_runs_39 : decode cL_runs 39 = .ok (.iload 11, 2) := by decide +kernel
theorem dL_runs_41 : decode cL_runs 41 = .ok (.imul, 1) := by decide +kernel
theorem dL_runs_42 : decode cL_runs 42 = .ok (.iconst 1, 1) := by decide +kernel
theorem dL_runs_43 : decode cL_runs 43 = .ok (.iastore, 1) := by decide +kernel
theorem dL_runs_44 : decode cL_runs 44 = .ok (.aload_n 3, 1) := by decide +kernel
theorem dL_runs_45 : decode cL_runs 45 = .ok (.bipush 10, 2) := by decide +kernel
theorem dL_runs_47 : decode cL_runs 47 = .ok (.iload 11, 2) := by decide +kernel
theorem dL_runs_49 : decode cL_runs 49 = .ok (.imul, 1) := by decide +kernel
theorem dL_runs_50 : decode cL_runs 50 = .ok (.iconst 4, 1) := by decide +kernel
theorem dL_runs_51 : decode cL_runs 51 = .ok (.iadd, 1) := by decide +kernel
theorem dL_runs_52 : decode cL_runs 52 = .ok (.iconst 2, 1) := by decide +kernel
theorem dL_runs_53 : decode cL_runs 53 = .ok (.iastore, 1) := by decide +kernel
theorem dL_runs_54 : decode cL_runs 54 = .ok (.aload_n 3, 1) := by decide +kernel
theorem dL_runs_55 : decode cL_runs 55 = .ok (.bipush 10, 2) := by decide +kernel
theorem dL_runs_57 : decode cL_runs 57 = .ok (.iload 11, 2) := by decide +kernel
theorem dL_runs_59 : decode cL_runs 59 = .ok (.imul, 1) := by decide +kernel
theorem dL_runs_60 : decode cL_runs 60 = .ok (.iconst 5, 1) := by decide +kernel
theorem dL_runs_61 : decode cL_runs 61 = .ok (.iadd, 1) := by decide +kernel
theorem dL_runs_62 : decode cL_runs 62 = .ok (.iconst 4, 1) := by decide +kernel
theorem dL_runs_63 : decode cL_runs 63 = .ok (.iastore, 1) := by decide +kernel
theorem dL_runs_64 : decode cL_runs 64 = .ok (.aload_n 3, 1) := by decide +kernel
theorem dL_runs_65 : decode cL_runs 65 = .ok (.bipush 10, 2) := by decide +kernel
theorem dL_runs_67 : decode cL_runs 67 = .ok (.iload 11, 2) := by decide +kernel
theorem dL_runs_69 : decode cL_runs 69 = .ok (.imul, 1) := by decide +kernel
theorem dL_runs_70 : decode cL_runs 70 = .ok (.bipush 7, 2) := by decide +kernel
theorem dL_runs_72 : decode cL_runs 72 = .ok (.iadd, 1) := by decide +kernel
theorem dL_runs_73 : decode cL_runs 73 = .ok (.bipush 20, 2) := by decide +kernel
theorem dL_runs_75 : decode cL_runs 75 = .ok (.iastore, 1) := by decide +kernel
theorem dL_runs_76 : decode cL_runs 76 = .ok (.iinc 11 1, 3) := by decide +kernel
theorem dL_runs_79 : decode cL_runs 79 = .ok (.goto (-50), 3) := by decide +kernel
theorem dL_runs_82 : decode cL_runs 82 = .ok (.aload_n 0, 1) := by decide +kernel
theorem dL_runs_83 : decode cL_runs 83 = .ok (.iconst 0, 1) := by decide +kernel
theorem dL_runs_84 : decode cL_runs 84 = .ok (.aload_n 3, 1) := by decide +kernel
theorem dL_runs_85 : decode cL_runs 85 = .ok (.aload 4, 2) := by decide +kernel
theorem dL_runs_87 : decode cL_runs 87 = .ok (.aload 5, 2) := by decide +kernel
theorem dL_runs_89 : decode cL_runs 89 = .ok (.aload 6, 2) := by decide +kernel
theorem dL_runs_91 : decode cL_runs 91 = .ok (.aload 8, 2) := by decide +kernel
theorem dL_runs_93 : decode cL_runs 93 = .ok (.aload 10, 2) := by decide +kernel
theorem dL_runs_95 : decode cL_runs 95 = .ok (.invokestatic 138, 3) := by decide +kernel
theorem dL_runs_98 : decode cL_runs 98 = .ok (.ifCond .ne 5, 3) := by decide +kernel
theorem dL_runs_101 : decode cL_runs 101 = .ok (.iconst 0, 1) := by decide +kernel
theorem dL_runs_102 : decode cL_runs 102 = .ok (.ireturn, 1) := by decide +kernel
theorem dL_runs_103 : decode cL_runs 103 = .ok (.iload_n 2, 1) := by decide +kernel
theorem dL_runs_104 : decode cL_runs 104 = .ok (.istore 11, 2) := by decide +kernel
theorem dL_runs_106 : decode cL_runs 106 = .ok (.iload 11, 2) := by decide +kernel
theorem dL_runs_108 : decode cL_runs 108 = .ok (.iload_n 2, 1) := by decide +kernel
theorem dL_runs_109 : decode cL_runs 109 = .ok (.bipush 70, 2) := by decide +kernel
theorem dL_runs_111 : decode cL_runs 111 = .ok (.iadd, 1) := by decide +kernel
theorem dL_runs_112 : decode cL_runs 112 = .ok (.if_icmp .ge 473, 3) := by decide +kernel
theorem dL_runs_115 : decode cL_runs 115 = .ok (.aload_n 1, 1) := by decide +kernel
theorem dL_runs_116 : decode cL_runs 116 = .ok (.iconst 3, 1) := by decide +kernel
theorem dL_runs_117 : decode cL_runs 117 = .ok (.iload 11, 2) := by decide +kernel
theorem dL_runs_119 : decode cL_runs 119 = .ok (.imul, 1) := by decide +kernel
theorem dL_runs_120 : decode cL_runs 120 = .ok (.invokestatic 142, 3) := by decide +kernel
theorem dL_runs_123 : decode cL_runs 123 = .ok (.istore 12, 2) := by decide +kernel
theorem dL_runs_125 : decode cL_runs 125 = .ok (.aload_n 1, 1) := by decide +kernel
theorem dL_runs_126 : decode cL_runs 126 = .ok (.iconst 3, 1) := by decide +kernel
theorem dL_runs_127 : decode cL_runs 127 = .ok (.iload 11, 2) := by decide +kernel
theorem dL_runs_129 : decode cL_runs 129 = .ok (.imul, 1) := by decide +kernel
theorem dL_runs_130 : decode cL_runs 130 = .ok (.iconst 1, 1) := by decide +kernel
theorem dL_runs_131 : decode cL_runs 131 = .ok (.iadd, 1) := by decide +kernel
theorem dL_runs_132 : decode cL_runs 132 = .ok (.invokestatic 142, 3) := by decide +kernel
theorem dL_runs_135 : decode cL_runs 135 = .ok (.istore 13, 2) := by decide +kernel
theorem dL_runs_137 : decode cL_runs 137 = .ok (.aload_n 1, 1) := by decide +kernel
theorem dL_runs_138 : decode cL_runs 138 = .ok (.iconst 3, 1) := by decide +kernel
theorem dL_runs_139 : decode cL_runs 139 = .ok (.iload 11, 2) := by decide +kernel
theorem dL_runs_141 : decode cL_runs 141 = .ok (.imul, 1) := by decide +kernel
theorem dL_runs_142 : decode cL_runs 142 = .ok (.iconst 2, 1) := by decide +kernel
theorem dL_runs_143 : decode cL_runs 143 = .ok (.iadd, 1) := by decide +kernel
theorem dL_runs_144 : decode cL_runs 144 = .ok (.invokestatic 142, 3) := by decide +kernel
theorem dL_runs_147 : decode cL_runs 147 = .ok (.istore 14, 2) := by decide +kernel
theorem dL_runs_149 : decode cL_runs 149 = .ok (.iload 11, 2) := by decide +kernel
theorem dL_runs_151 : decode cL_runs 151 = .ok (.iload_n 2, 1) := by decide +kernel
theorem dL_runs_152 : decode cL_runs 152 = .ok (.bipush 6, 2) := by decide +kernel
theorem dL_runs_154 : decode cL_runs 154 = .ok (.iadd, 1) := by decide +kernel
theorem dL_runs_155 : decode cL_runs 155 = .ok (.if_icmp .ge 7, 3) := by decide +kernel
theorem dL_runs_158 : decode cL_runs 158 = .ok (.iconst 4, 1) := by decide +kernel
theorem dL_runs_159 : decode cL_runs 159 = .ok (.goto 10, 3) := by decide +kernel
theorem dL_runs_162 : decode cL_runs 162 = .ok (.iload 12, 2) := by decide +kernel
theorem dL_runs_164 : decode cL_runs 164 = .ok (.bipush 22, 2) := by decide +kernel
theorem dL_runs_166 : decode cL_runs 166 = .ok (.invokestatic 83, 3) := by decide +kernel
theorem dL_runs_169 : decode cL_runs 169 = .ok (.istore 15, 2) := by decide +kernel
theorem dL_runs_171 : decode cL_runs 171 = .ok (.iconst 0, 1) := by decide +kernel
theorem dL_runs_172 : decode cL_runs 172 = .ok (.istore 16, 2) := by decide +kernel
theorem dL_runs_174 : decode cL_runs 174 = .ok (.iconst 0, 1) := by decide +kernel
theorem dL_runs_175 : decode cL_runs 175 = .ok (.istore 17, 2) := by decide +kernel
theorem dL_runs_177 : decode cL_runs 177 = .ok (.iload 17, 2) := by decide +kernel
theorem dL_runs_179 : decode cL_runs 179 = .ok (.aload 10, 2) := by decide +kernel
theorem dL_runs_181 : decode cL_runs 181 = .ok (.iconst 1, 1) := by decide +kernel
theorem dL_runs_182 : decode cL_runs 182 = .ok (.iaload, 1) := by decide +kernel
theorem dL_runs_183 : decode cL_runs 183 = .ok (.if_icmp .ge 45, 3) := by decide +kernel
theorem dL_runs_186 : decode cL_runs 186 = .ok (.iload 16, 2) := by decide +kernel
theorem dL_runs_188 : decode cL_runs 188 = .ok (.aload 4, 2) := by decide +kernel
theorem dL_runs_190 : decode cL_runs 190 = .ok (.iload 17, 2) := by decide +kernel
theorem dL_runs_192 : decode cL_runs 192 = .ok (.iconst 3, 1) := by decide +kernel
theorem dL_runs_193 : decode cL_runs 193 = .ok (.iconst 3, 1) := by decide +kernel
theorem dL_runs_194 : decode cL_runs 194 = .ok (.invokestatic 59, 3) := by decide +kernel
theorem dL_runs_197 : decode cL_runs 197 = .ok (.iconst 2, 1) := by decide +kernel
theorem dL_runs_198 : decode cL_runs 198 = .ok (.if_icmp .eq 16, 3) := by decide +kernel
theorem dL_runs_201 : decode cL_runs 201 = .ok (.aload 4, 2) := by decide +kernel
theorem dL_runs_203 : decode cL_runs 203 = .ok (.iload 17, 2) := by decide +kernel
theorem dL_runs_205 : decode cL_runs 205 = .ok (.iconst 3, 1) := by decide +kernel
theorem dL_runs_206 : decode cL_runs 206 = .ok (.iconst 3, 1) := by decide +kernel
theorem dL_runs_207 : decode cL_runs 207 = .ok (.invokestatic 59, 3) := by decide +kernel
theorem dL_runs_210 : decode cL_runs 210 = .ok (.iconst 1, 1) := by decide +kernel
theorem dL_runs_211 : decode cL_runs 211 = .ok (.if_icmp .ne 7, 3) := by decide +kernel
theorem dL_runs_214 : decode cL_runs 214 = .ok (.iconst 1, 1) := by decide +kernel
theorem dL_runs_215 : decode cL_runs 215 = .ok (.goto 4, 3) := by decide +kernel
theorem dL_runs_218 : decode cL_runs 218 = .ok (.iconst 0, 1) := by decide +kernel
theorem dL_runs_219 : decode cL_runs 219 = .ok (.iadd, 1) := by decide +kernel
theorem dL_runs_220 : decode cL_runs 220 = .ok (.istore 16, 2) := by decide +kernel
theorem dL_runs_222 : decode cL_runs 222 = .ok (.iinc 17 1, 3) := by decide +kernel
theorem dL_runs_225 : decode cL_runs 225 = .ok (.goto (-48), 3) := by decide +kernel
theorem dL_runs_228 : decode cL_runs 228 = .ok (.aload 10, 2) := by decide +kernel
theorem dL_runs_230 : decode cL_runs 230 = .ok (.iconst 1, 1) := by decide +kernel
theorem dL_runs_231 : decode cL_runs 231 = .ok (.iaload, 1) := by decide +kernel
theorem dL_runs_232 : decode cL_runs 232 = .ok (.iload 16, 2) := by decide +kernel
theorem dL_runs_234 : decode cL_runs 234 = .ok (.iadd, 1) := by decide +kernel
theorem dL_runs_235 : decode cL_runs 235 = .ok (.bipush 58, 2) := by decide +kernel
theorem dL_runs_237 : decode cL_runs 237 = .ok (.if_icmp .le 5, 3) := by decide +kernel
theorem dL_runs_240 : decode cL_runs 240 = .ok (.iconst 1, 1) := by decide +kernel
theorem dL_runs_241 : decode cL_runs 241 = .ok (.ireturn, 1) := by decide +kernel
theorem dL_runs_242 : decode cL_runs 242 = .ok (.iconst 1, 1) := by decide +kernel
theorem dL_runs_243 : decode cL_runs 243 = .ok (.istore 17, 2) := by decide +kernel
theorem dL_runs_245 : decode cL_runs 245 = .ok (.iload 15, 2) := by decide +kernel
theorem dL_runs_247 : decode cL_runs 247 = .ok (.bipush 9, 2) := by decide +kernel
theorem dL_runs_249 : decode cL_runs 249 = .ok (.if_icmp .ge 19, 3) := by decide +kernel
theorem dL_runs_252 : decode cL_runs 252 = .ok (.aload_n 0, 1) := by decide +kernel
theorem dL_runs_253 : decode cL_runs 253 = .ok (.iload 15, 2) := by decide +kernel
theorem dL_runs_255 : decode cL_runs 255 = .ok (.iload 13, 2) := by decide +kernel
theorem dL_runs_257 : decode cL_runs 257 = .ok (.iload 14, 2) := by decide +kernel
theorem dL_runs_259 : decode cL_runs 259 = .ok (.aload_n 3, 1) := by decide +kernel
theorem dL_runs_260 : decode cL_runs 260 = .ok (.invokestatic 146, 3) := by decide +kernel
theorem dL_runs_263 : decode cL_runs 263 = .ok (.istore 17, 2) := by decide +kernel
theorem dL_runs_265 : decode cL_runs 265 = .ok (.goto 282, 3) := by decide +kernel
theorem dL_runs_268 : decode cL_runs 268 = .ok (.iload 15, 2) := by decide +kernel
theorem dL_runs_270 : decode cL_runs 270 = .ok (.bipush 14, 2) := by decide +kernel
theorem dL_runs_272 : decode cL_runs 272 = .ok (.if_icmp .ge 103, 3) := by decide +kernel
theorem dL_runs_275 : decode cL_runs 275 = .ok (.iload 13, 2) := by decide +kernel
theorem dL_runs_277 : decode cL_runs 277 = .ok (.iload 13, 2) := by decide +kernel
theorem dL_runs_279 : decode cL_runs 279 = .ok (.bipush 96, 2) := by decide +kernel
theorem dL_runs_281 : decode cL_runs 281 = .ok (.iand, 1) := by decide +kernel
theorem dL_runs_282 : decode cL_runs 282 = .ok (.ifCond .ne 8, 3) := by decide +kernel
theorem dL_runs_285 : decode cL_runs 285 = .ok (.bipush 6, 2) := by decide +kernel
theorem dL_runs_287 : decode cL_runs 287 = .ok (.goto 4, 3) := by decide +kernel
theorem dL_runs_290 : decode cL_runs 290 = .ok (.iconst 2, 1) := by decide +kernel
theorem dL_runs_291 : decode cL_runs 291 = .ok (.invokestatic 83, 3) := by decide +kernel
theorem dL_runs_294 : decode cL_runs 294 = .ok (.istore 18, 2) := by decide +kernel
theorem dL_runs_296 : decode cL_runs 296 = .ok (.iconst 1, 1) := by decide +kernel
theorem dL_runs_297 : decode cL_runs 297 = .ok (.iload 14, 2) := by decide +kernel
theorem dL_runs_299 : decode cL_runs 299 = .ok (.iload 14, 2) := by decide +kernel
theorem dL_runs_301 : decode cL_runs 301 = .ok (.bipush 96, 2) := by decide +kernel
theorem dL_runs_303 : decode cL_runs 303 = .ok (.iand, 1) := by decide +kernel
theorem dL_runs_304 : decode cL_runs 304 = .ok (.ifCond .ne 8, 3) := by decide +kernel
theorem dL_runs_307 : decode cL_runs 307 = .ok (.bipush 100, 2) := by decide +kernel
theorem dL_runs_309 : decode cL_runs 309 = .ok (.goto 5, 3) := by decide +kernel
theorem dL_runs_312 : decode cL_runs 312 = .ok (.bipush 20, 2) := by decide +kernel
theorem dL_runs_314 : decode cL_runs 314 = .ok (.invokestatic 83, 3) := by decide +kernel
theorem dL_runs_317 : decode cL_runs 317 = .ok (.iadd, 1) := by decide +kernel
theorem dL_runs_318 : decode cL_runs 318 = .ok (.istore 19, 2) := by decide +kernel
theorem dL_runs_320 : decode cL_runs 320 = .ok (.aload 10, 2) := by decide +kernel
theorem dL_runs_322 : decode cL_runs 322 = .ok (.iconst 1, 1) := by decide +kernel
theorem dL_runs_323 : decode cL_runs 323 = .ok (.iaload, 1) := by decide +kernel
theorem dL_runs_324 : decode cL_runs 324 = .ok (.istore 20, 2) := by decide +kernel
theorem dL_runs_326 : decode cL_runs 326 = .ok (.iload 18, 2) := by decide +kernel
theorem dL_runs_328 : decode cL_runs 328 = .ok (.aload 10, 2) := by decide +kernel
theorem dL_runs_330 : decode cL_runs 330 = .ok (.iconst 0, 1) := by decide +kernel
theorem dL_runs_331 : decode cL_runs 331 = .ok (.iaload, 1) := by decide +kernel
theorem dL_runs_332 : decode cL_runs 332 = .ok (.iload 19, 2) := by decide +kernel
theorem dL_runs_334 : decode cL_runs 334 = .ok (.iadd, 1) := by decide +kernel
theorem dL_runs_335 : decode cL_runs 335 = .ok (.iconst (-1), 1) := by decide +kernel
theorem dL_runs_336 : decode cL_runs 336 = .ok (.aload_n 3, 1) := by decide +kernel
theorem dL_runs_337 : decode cL_runs 337 = .ok (.aload 4, 2) := by decide +kernel
theorem dL_runs_339 : decode cL_runs 339 = .ok (.aload 5, 2) := by decide +kernel
theorem dL_runs_341 : decode cL_runs 341 = .ok (.aload 6, 2) := by decide +kernel
theorem dL_runs_343 : decode cL_runs 343 = .ok (.aload 7, 2) := by decide +kernel
theorem dL_runs_345 : decode cL_runs 345 = .ok (.aload 8, 2) := by decide +kernel
theorem dL_runs_347 : decode cL_runs 347 = .ok (.aload 10, 2) := by decide +kernel
theorem dL_runs_349 : decode cL_runs 349 = .ok (.invokestatic 79, 3) := by decide +kernel
theorem dL_runs_352 : decode cL_runs 352 = .ok (.aload_n 0, 1) := by decide +kernel
theorem dL_runs_353 : decode cL_runs 353 = .ok (.iload 18, 2) := by decide +kernel
theorem dL_runs_355 : decode cL_runs 355 = .ok (.iload 19, 2) := by decide +kernel
theorem dL_runs_357 : decode cL_runs 357 = .ok (.invokestatic 136, 3) := by decide +kernel
theorem dL_runs_360 : decode cL_runs 360 = .ok (.iload 20, 2) := by decide +kernel
theorem dL_runs_362 : decode cL_runs 362 = .ok (.if_icmp .ne 7, 3) := by decide +kernel
theorem dL_runs_365 : decode cL_runs 365 = .ok (.iconst 1, 1) := by decide +kernel
theorem dL_runs_366 : decode cL_runs 366 = .ok (.goto 4, 3) := by decide +kernel
theorem dL_runs_369 : decode cL_runs 369 = .ok (.iconst 0, 1) := by decide +kernel
theorem dL_runs_370 : decode cL_runs 370 = .ok (.istore 17, 2) := by decide +kernel
theorem dL_runs_372 : decode cL_runs 372 = .ok (.goto 175, 3) := by decide +kernel
theorem dL_runs_375 : decode cL_runs 375 = .ok (.iload 15, 2) := by decide +kernel
theorem dL_runs_377 : decode cL_runs 377 = .ok (.bipush 14, 2) := by decide +kernel
theorem dL_runs_379 : decode cL_runs 379 = .ok (.if_icmp .ne 115, 3) := by decide +kernel
theorem dL_runs_382 : decode cL_runs 382 = .ok (.aload 10, 2) := by decide +kernel
theorem dL_runs_384 : decode cL_runs 384 = .ok (.iconst 1, 1) := by decide +kernel
theorem dL_runs_385 : decode cL_runs 385 = .ok (.iaload, 1) := by decide +kernel
theorem dL_runs_386 : decode cL_runs 386 = .ok (.ifCond .le 108, 3) := by decide +kernel
theorem dL_runs_389 : decode cL_runs 389 = .ok (.iload 13, 2) := by decide +kernel
