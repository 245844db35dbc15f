theorem dL_sets_195 : decode cL_sets 195 = .ok (.invokestatic 86, 3) := by decide +kernel
theorem dL_sets_198 : decode cL_sets 198 = .ok (.iload 8, 2) := by decide +kernel
theorem dL_sets_200 : decode cL_sets 200 = .ok (.if_icmp .ne 7, 3) := by decide +kernel
theorem dL_sets_203 : decode cL_sets 203 = .ok (.iconst 1, 1) := by decide +kernel
theorem dL_sets_204 : decode cL_sets 204 = .ok (.goto 4, 3) := by decide +kernel
theorem dL_sets_207 : decode cL_sets 207 = .ok (.iconst 0, 1) := by decide +kernel
theorem dL_sets_208 : decode cL_sets 208 = .ok (.ireturn, 1) := by decide +kernel
theorem dL_sets_209 : decode cL_sets 209 = .ok (.iload_n 1, 1) := by decide +kernel
theorem dL_sets_210 : decode cL_sets 210 = .ok (.bipush 7, 2) := by decide +kernel
theorem dL_sets_212 : decode cL_sets 212 = .ok (.if_icmp .ge 190, 3) := by decide +kernel
theorem dL_sets_215 : decode cL_sets 215 = .ok (.iload_n 3, 1) := by decide +kernel
theorem dL_sets_216 : decode cL_sets 216 = .ok (.bipush 6, 2) := by decide +kernel
theorem dL_sets_218 : decode cL_sets 218 = .ok (.invokestatic 83, 3) := by decide +kernel
theorem dL_sets_221 : decode cL_sets 221 = .ok (.istore 6, 2) := by decide +kernel
theorem dL_sets_223 : decode cL_sets 223 = .ok (.aload_n 0, 1) := by decide +kernel
theorem dL_sets_224 : decode cL_sets 224 = .ok (.bipush 6, 2) := by decide +kernel
theorem dL_sets_226 : decode cL_sets 226 = .ok (.iconst 0, 1) := by decide +kernel
theorem dL_sets_227 : decode cL_sets 227 = .ok (.invokestatic 89, 3) := by decide +kernel
theorem dL_sets_230 : decode cL_sets 230 = .ok (.bipush (-71), 2) := by decide +kernel
theorem dL_sets_232 : decode cL_sets 232 = .ok (.if_icmp .ne 28, 3) := by decide +kernel
theorem dL_sets_235 : decode cL_sets 235 = .ok (.aload_n 0, 1) := by decide +kernel
theorem dL_sets_236 : decode cL_sets 236 = .ok (.iload 5, 2) := by decide +kernel
theorem dL_sets_238 : decode cL_sets 238 = .ok (.iconst (-1), 1) := by decide +kernel
theorem dL_sets_239 : decode cL_sets 239 = .ok (.invokestatic 89, 3) := by decide +kernel
theorem dL_sets_242 : decode cL_sets 242 = .ok (.bipush (-71), 2) := by decide +kernel
theorem dL_sets_244 : decode cL_sets 244 = .ok (.if_icmp .ne 16, 3) := by decide +kernel
theorem dL_sets_247 : decode cL_sets 247 = .ok (.aload_n 0, 1) := by decide +kernel
theorem dL_sets_248 : decode cL_sets 248 = .ok (.iload 5, 2) := by decide +kernel
theorem dL_sets_250 : decode cL_sets 250 = .ok (.iload 5, 2) := by decide +kernel
theorem dL_sets_252 : decode cL_sets 252 = .ok (.invokestatic 89, 3) := by decide +kernel
theorem dL_sets_255 : decode cL_sets 255 = .ok (.bipush (-72), 2) := by decide +kernel
theorem dL_sets_257 : decode cL_sets 257 = .ok (.if_icmp .eq 5, 3) := by decide +kernel
theorem dL_sets_260 : decode cL_sets 260 = .ok (.iconst 0, 1) := by decide +kernel
theorem dL_sets_261 : decode cL_sets 261 = .ok (.ireturn, 1) := by decide +kernel
theorem dL_sets_262 : decode cL_sets 262 = .ok (.aload 4, 2) := by decide +kernel
theorem dL_sets_264 : decode cL_sets 264 = .ok (.bipush 10, 2) := by decide +kernel
theorem dL_sets_266 : decode cL_sets 266 = .ok (.iload 5, 2) := by decide +kernel
theorem dL_sets_268 : decode cL_sets 268 = .ok (.imul, 1) := by decide +kernel
theorem dL_sets_269 : decode cL_sets 269 = .ok (.iconst 3, 1) := by decide +kernel
theorem dL_sets_270 : decode cL_sets 270 = .ok (.iadd, 1) := by decide +kernel
theorem dL_sets_271 : decode cL_sets 271 = .ok (.iaload, 1) := by decide +kernel
theorem dL_sets_272 : decode cL_sets 272 = .ok (.istore 7, 2) := by decide +kernel
theorem dL_sets_274 : decode cL_sets 274 = .ok (.iload 7, 2) := by decide +kernel
theorem dL_sets_276 : decode cL_sets 276 = .ok (.ifCond .ne 7, 3) := by decide +kernel
theorem dL_sets_279 : decode cL_sets 279 = .ok (.iconst 0, 1) := by decide +kernel
theorem dL_sets_280 : decode cL_sets 280 = .ok (.goto 26, 3) := by decide +kernel
theorem dL_sets_283 : decode cL_sets 283 = .ok (.iload 7, 2) := by decide +kernel
theorem dL_sets_285 : decode cL_sets 285 = .ok (.bipush 8, 2) := by decide +kernel
theorem dL_sets_287 : decode cL_sets 287 = .ok (.if_icmp .ge 7, 3) := by decide +kernel
theorem dL_sets_290 : decode cL_sets 290 = .ok (.iconst 1, 1) := by decide +kernel
theorem dL_sets_291 : decode cL_sets 291 = .ok (.goto 15, 3) := by decide +kernel
theorem dL_sets_294 : decode cL_sets 294 = .ok (.iload 7, 2) := by decide +kernel
theorem dL_sets_296 : decode cL_sets 296 = .ok (.bipush 64, 2) := by decide +kernel
theorem dL_sets_298 : decode cL_sets 298 = .ok (.if_icmp .ge 7, 3) := by decide +kernel
theorem dL_sets_301 : decode cL_sets 301 = .ok (.iconst 2, 1) := by decide +kernel
theorem dL_sets_302 : decode cL_sets 302 = .ok (.goto 4, 3) := by decide +kernel
theorem dL_sets_305 : decode cL_sets 305 = .ok (.iconst 3, 1) := by decide +kernel
theorem dL_sets_306 : decode cL_sets 306 = .ok (.istore 8, 2) := by decide +kernel
theorem dL_sets_308 : decode cL_sets 308 = .ok (.iload 6, 2) := by decide +kernel
theorem dL_sets_310 : decode cL_sets 310 = .ok (.iload 5, 2) := by decide +kernel
theorem dL_sets_312 : decode cL_sets 312 = .ok (.if_icmp .gt 22, 3) := by decide +kernel
theorem dL_sets_315 : decode cL_sets 315 = .ok (.aload_n 0, 1) := by decide +kernel
theorem dL_sets_316 : decode cL_sets 316 = .ok (.iload 5, 2) := by decide +kernel
theorem dL_sets_318 : decode cL_sets 318 = .ok (.iload 6, 2) := by decide +kernel
theorem dL_sets_320 : decode cL_sets 320 = .ok (.invokestatic 89, 3) := by decide +kernel
theorem dL_sets_323 : decode cL_sets 323 = .ok (.bipush (-72), 2) := by decide +kernel
theorem dL_sets_325 : decode cL_sets 325 = .ok (.if_icmp .ne 7, 3) := by decide +kernel
theorem dL_sets_328 : decode cL_sets 328 = .ok (.iconst 1, 1) := by decide +kernel
theorem dL_sets_329 : decode cL_sets 329 = .ok (.goto 4, 3) := by decide +kernel
theorem dL_sets_332 : decode cL_sets 332 = .ok (.iconst 0, 1) := by decide +kernel
theorem dL_sets_333 : decode cL_sets 333 = .ok (.ireturn, 1) := by decide +kernel
theorem dL_sets_334 : decode cL_sets 334 = .ok (.iload 8, 2) := by decide +kernel
theorem dL_sets_336 : decode cL_sets 336 = .ok (.iconst 3, 1) := by decide +kernel
theorem dL_sets_337 : decode cL_sets 337 = .ok (.if_icmp .ne 22, 3) := by decide +kernel
theorem dL_sets_340 : decode cL_sets 340 = .ok (.aload_n 0, 1) := by decide +kernel
theorem dL_sets_341 : decode cL_sets 341 = .ok (.iload 5, 2) := by decide +kernel
theorem dL_sets_343 : decode cL_sets 343 = .ok (.iload 6, 2) := by decide +kernel
theorem dL_sets_345 : decode cL_sets 345 = .ok (.invokestatic 89, 3) := by decide +kernel
theorem dL_sets_348 : decode cL_sets 348 = .ok (.bipush (-73), 2) := by decide +kernel
theorem dL_sets_350 : decode cL_sets 350 = .ok (.if_icmp .ne 7, 3) := by decide +kernel
theorem dL_sets_353 : decode cL_sets 353 = .ok (.iconst 1, 1) := by decide +kernel
theorem dL_sets_354 : decode cL_sets 354 = .ok (.goto 4, 3) := by decide +kernel
theorem dL_sets_357 : decode cL_sets 357 = .ok (.iconst 0, 1) := by decide +kernel
theorem dL_sets_358 : decode cL_sets 358 = .ok (.ireturn, 1) := by decide +kernel
theorem dL_sets_359 : decode cL_sets 359 = .ok (.aload 4, 2) := by decide +kernel
theorem dL_sets_361 : decode cL_sets 361 = .ok (.bipush 10, 2) := by decide +kernel
theorem dL_sets_363 : decode cL_sets 363 = .ok (.iload 5, 2) := by decide +kernel
theorem dL_sets_365 : decode cL_sets 365 = .ok (.imul, 1) := by decide +kernel
theorem dL_sets_366 : decode cL_sets 366 = .ok (.iconst 3, 1) := by decide +kernel
theorem dL_sets_367 : decode cL_sets 367 = .ok (.iadd, 1) := by decide +kernel
theorem dL_sets_368 : decode cL_sets 368 = .ok (.iload 7, 2) := by decide +kernel
theorem dL_sets_370 : decode cL_sets 370 = .ok (.iload 6, 2) := by decide +kernel
theorem dL_sets_372 : decode cL_sets 372 = .ok (.iconst 1, 1) := by decide +kernel
theorem dL_sets_373 : decode cL_sets 373 = .ok (.iadd, 1) := by decide +kernel
theorem dL_sets_374 : decode cL_sets 374 = .ok (.iconst 3, 1) := by decide +kernel
theorem dL_sets_375 : decode cL_sets 375 = .ok (.iload 8, 2) := by decide +kernel
theorem dL_sets_377 : decode cL_sets 377 = .ok (.imul, 1) := by decide +kernel
theorem dL_sets_378 : decode cL_sets 378 = .ok (.ishl, 1) := by decide +kernel
theorem dL_sets_379 : decode cL_sets 379 = .ok (.iadd, 1) := by decide +kernel
theorem dL_sets_380 : decode cL_sets 380 = .ok (.iastore, 1) := by decide +kernel
theorem dL_sets_381 : decode cL_sets 381 = .ok (.aload_n 0, 1) := by decide +kernel
theorem dL_sets_382 : decode cL_sets 382 = .ok (.iload 5, 2) := by decide +kernel
theorem dL_sets_384 : decode cL_sets 384 = .ok (.iload 6, 2) := by decide +kernel
theorem dL_sets_386 : decode cL_sets 386 = .ok (.invokestatic 89, 3) := by decide +kernel
theorem dL_sets_389 : decode cL_sets 389 = .ok (.iload 8, 2) := by decide +kernel
theorem dL_sets_391 : decode cL_sets 391 = .ok (.iconst 1, 1) := by decide +kernel
theorem dL_sets_392 : decode cL_sets 392 = .ok (.iadd, 1) := by decide +kernel
theorem dL_sets_393 : decode cL_sets 393 = .ok (.if_icmp .ne 7, 3) := by decide +kernel
theorem dL_sets_396 : decode cL_sets 396 = .ok (.iconst 1, 1) := by decide +kernel
theorem dL_sets_397 : decode cL_sets 397 = .ok (.goto 4, 3) := by decide +kernel
theorem dL_sets_400 : decode cL_sets 400 = .ok (.iconst 0, 1) := by decide +kernel
theorem dL_sets_401 : decode cL_sets 401 = .ok (.ireturn, 1) := by decide +kernel
theorem dL_sets_402 : decode cL_sets 402 = .ok (.iconst 1, 1) := by decide +kernel
theorem dL_sets_403 : decode cL_sets 403 = .ok (.iload_n 3, 1) := by decide +kernel
theorem dL_sets_404 : decode cL_sets 404 = .ok (.iload_n 3, 1) := by decide +kernel
theorem dL_sets_405 : decode cL_sets 405 = .ok (.bipush 24, 2) := by decide +kernel
theorem dL_sets_407 : decode cL_sets 407 = .ok (.iand, 1) := by decide +kernel
theorem dL_sets_408 : decode cL_sets 408 = .ok (.ifCond .ne 7, 3) := by decide +kernel
theorem dL_sets_411 : decode cL_sets 411 = .ok (.iconst 5, 1) := by decide +kernel
theorem dL_sets_412 : decode cL_sets 412 = .ok (.goto 4, 3) := by decide +kernel
theorem dL_sets_415 : decode cL_sets 415 = .ok (.iconst 2, 1) := by decide +kernel
theorem dL_sets_416 : decode cL_sets 416 = .ok (.invokestatic 83, 3) := by decide +kernel
theorem dL_sets_419 : decode cL_sets 419 = .ok (.iadd, 1) := by decide +kernel
theorem dL_sets_420 : decode cL_sets 420 = .ok (.istore 6, 2) := by decide +kernel
theorem dL_sets_422 : decode cL_sets 422 = .ok (.iload_n 3, 1) := by decide +kernel
theorem dL_sets_423 : decode cL_sets 423 = .ok (.iconst 5, 1) := by decide +kernel
theorem dL_sets_424 : decode cL_sets 424 = .ok (.ishr, 1) := by decide +kernel
theorem dL_sets_425 : decode cL_sets 425 = .ok (.iload_n 3, 1) := by decide +kernel
theorem dL_sets_426 : decode cL_sets 426 = .ok (.bipush 24, 2) := by decide +kernel
theorem dL_sets_428 : decode cL_sets 428 = .ok (.iand, 1) := by decide +kernel
theorem dL_sets_429 : decode cL_sets 429 = .ok (.bipush 8, 2) := by decide +kernel
theorem dL_sets_431 : decode cL_sets 431 = .ok (.if_icmp .ne 8, 3) := by decide +kernel
theorem dL_sets_434 : decode cL_sets 434 = .ok (.bipush 9, 2) := by decide +kernel
theorem dL_sets_436 : decode cL_sets 436 = .ok (.goto 4, 3) := by decide +kernel
theorem dL_sets_439 : decode cL_sets 439 = .ok (.iconst 3, 1) := by decide +kernel
theorem dL_sets_440 : decode cL_sets 440 = .ok (.invokestatic 83, 3) := by decide +kernel
theorem dL_sets_443 : decode cL_sets 443 = .ok (.istore 7, 2) := by decide +kernel
theorem dL_sets_445 : decode cL_sets 445 = .ok (.iload_n 2, 1) := by decide +kernel
theorem dL_sets_446 : decode cL_sets 446 = .ok (.bipush 48, 2) := by decide +kernel
theorem dL_sets_448 : decode cL_sets 448 = .ok (.iand, 1) := by decide +kernel
theorem dL_sets_449 : decode cL_sets 449 = .ok (.ifCond .ne 7, 3) := by decide +kernel
theorem dL_sets_452 : decode cL_sets 452 = .ok (.iconst 0, 1) := by decide +kernel
theorem dL_sets_453 : decode cL_sets 453 = .ok (.goto 28, 3) := by decide +kernel
theorem dL_sets_456 : decode cL_sets 456 = .ok (.iconst 1, 1) := by decide +kernel
theorem dL_sets_457 : decode cL_sets 457 = .ok (.iload_n 3, 1) := by decide +kernel
theorem dL_sets_458 : decode cL_sets 458 = .ok (.bipush 9, 2) := by decide +kernel
theorem dL_sets_460 : decode cL_sets 460 = .ok (.ishr, 1) := by decide +kernel
theorem dL_sets_461 : decode cL_sets 461 = .ok (.iload_n 3, 1) := by decide +kernel
theorem dL_sets_462 : decode cL_sets 462 = .ok (.bipush 24, 2) := by decide +kernel
theorem dL_sets_464 : decode cL_sets 464 = .ok (.iand, 1) := by decide +kernel
theorem dL_sets_465 : decode cL_sets 465 = .ok (.bipush 16, 2) := by decide +kernel
theorem dL_sets_467 : decode cL_sets 467 = .ok (.if_icmp .ne 8, 3) := by decide +kernel
theorem dL_sets_470 : decode cL_sets 470 = .ok (.bipush 50, 2) := by decide +kernel
theorem dL_sets_472 : decode cL_sets 472 = .ok (.goto 5, 3) := by decide +kernel
theorem dL_sets_475 : decode cL_sets 475 = .ok (.bipush 6, 2) := by decide +kernel
theorem dL_sets_477 : decode cL_sets 477 = .ok (.invokestatic 83, 3) := by decide +kernel
theorem dL_sets_480 : decode cL_sets 480 = .ok (.iadd, 1) := by decide +kernel
theorem dL_sets_481 : decode cL_sets 481 = .ok (.istore 8, 2) := by decide +kernel
theorem dL_sets_483 : decode cL_sets 483 = .ok (.aload 4, 2) := by decide +kernel
theorem dL_sets_485 : decode cL_sets 485 = .ok (.bipush 10, 2) := by decide +kernel
theorem dL_sets_487 : decode cL_sets 487 = .ok (.iload 5, 2) := by decide +kernel
theorem dL_sets_489 : decode cL_sets 489 = .ok (.imul, 1) := by decide +kernel
theorem dL_sets_490 : decode cL_sets 490 = .ok (.iconst 4, 1) := by decide +kernel
theorem dL_sets_491 : decode cL_sets 491 = .ok (.iadd, 1) := by decide +kernel
theorem dL_sets_492 : decode cL_sets 492 = .ok (.iaload, 1) := by decide +kernel
theorem dL_sets_493 : decode cL_sets 493 = .ok (.istore 9, 2) := by decide +kernel
theorem dL_sets_495 : decode cL_sets 495 = .ok (.aload 4, 2) := by decide +kernel
theorem dL_sets_497 : decode cL_sets 497 = .ok (.bipush 10, 2) := by decide +kernel
theorem dL_sets_499 : decode cL_sets 499 = .ok (.iload 5, 2) := by decide +kernel
theorem dL_sets_501 : decode cL_sets 501 = .ok (.imul, 1) := by decide +kernel
theorem dL_sets_502 : decode cL_sets 502 = .ok (.iconst 4, 1) := by decide +kernel
theorem dL_sets_503 : decode cL_sets 503 = .ok (.iadd, 1) := by decide +kernel
theorem dL_sets_504 : decode cL_sets 504 = .ok (.iload 6, 2) := by decide +kernel
theorem dL_sets_506 : decode cL_sets 506 = .ok (.iastore, 1) := by decide +kernel
theorem dL_sets_507 : decode cL_sets 507 = .ok (.aload 4, 2) := by decide +kernel
theorem dL_sets_509 : decode cL_sets 509 = .ok (.bipush 10, 2) := by decide +kernel
theorem dL_sets_511 : decode cL_sets 511 = .ok (.iload 5, 2) := by decide +kernel
theorem dL_sets_513 : decode cL_sets 513 = .ok (.imul, 1) := by decide +kernel
theorem dL_sets_514 : decode cL_sets 514 = .ok (.iconst 5, 1) := by decide +kernel
theorem dL_sets_515 : decode cL_sets 515 = .ok (.iadd, 1) := by decide +kernel
theorem dL_sets_516 : decode cL_sets 516 = .ok (.iload 7, 2) := by decide +kernel
theorem dL_sets_518 : decode cL_sets 518 = .ok (.iastore, 1) := by decide +kernel
theorem dL_sets_519 : decode cL_sets 519 = .ok (.aload 4, 2) := by decide +kernel
theorem dL_sets_521 : decode cL_sets 521 = .ok (.bipush 10, 2) := by decide +kernel
theorem dL_sets_523 : decode cL_sets 523 = .ok (.iload 5, 2) := by decide +kernel
theorem dL_sets_525 : decode cL_sets 525 = .ok (.imul, 1) := by decide +kernel
theorem dL_sets_526 : decode cL_sets 526 = .ok (.bipush 6, 2) := by decide +kernel
theorem dL_sets_528 : decode cL_sets 528 = .ok (.iadd, 1) := by decide +kernel
theorem dL_sets_529 : decode cL_sets 529 = .ok (.iload 8, 2) := by decide +kernel
theorem dL_sets_531 : decode cL_sets 531 = .ok (.iastore, 1) := by decide +kernel
theorem dL_sets_532 : decode cL_sets 532 = .ok (.aload_n 0, 1) := by decide +kernel
theorem dL_sets_533 : decode cL_sets 533 = .ok (.bipush 6, 2) := by decide +kernel
theorem dL_sets_535 : decode cL_sets 535 = .ok (.iconst 0, 1) := by decide +kernel
theorem dL_sets_536 : decode cL_sets 536 = .ok (.iconst 0, 1) := by decide +kernel
theorem dL_sets_537 : decode cL_sets 537 = .ok (.iconst 0, 1) := by decide +kernel
theorem dL_sets_538 : decode cL_sets 538 = .ok (.invokestatic 92, 3) := by decide +kernel
theorem dL_sets_541 : decode cL_sets 541 = .ok (.bipush (-71), 2) := by decide +kernel
theorem dL_sets_543 : decode cL_sets 543 = .ok (.if_icmp .ne 83, 3) := by decide +kernel
theorem dL_sets_546 : decode cL_sets 546 = .ok (.aload_n 0, 1) := by decide +kernel
theorem dL_sets_547 : decode cL_sets 547 = .ok (.iload 5, 2) := by decide +kernel
theorem dL_sets_549 : decode cL_sets 549 = .ok (.iconst 0, 1) := by decide +kernel
theorem dL_sets_550 : decode cL_sets 550 = .ok (.iconst 0, 1) := by decide +kernel
theorem dL_sets_551 : decode cL_sets 551 = .ok (.iconst 0, 1) := by decide +kernel
theorem dL_sets_552 : decode cL_sets 552 = .ok (.invokestatic 92, 3) := by decide +kernel
theorem dL_sets_555 : decode cL_sets 555 = .ok (.bipush (-72), 2) := by decide +kernel
theorem dL_sets_557 : decode cL_sets 557 = .ok (.if_icmp .ne 69, 3) := by decide +kernel
theorem dL_sets_560 : decode cL_sets 560 = .ok (.aload_n 0, 1) := by decide +kernel
theorem dL_sets_561 : decode cL_sets 561 = .ok (.iload 5, 2) := by decide +kernel
theorem dL_sets_563 : decode cL_sets 563 = .ok (.bipush 6, 2) := by decide +kernel
theorem dL_sets_565 : decode cL_sets 565 = .ok (.iconst 0, 1) := by decide +kernel
theorem dL_sets_566 : decode cL_sets 566 = .ok (.iconst 0, 1) := by decide +kernel
theorem dL_sets_567 : decode cL_sets 567 = .ok (.invokestatic 92, 3) := by decide +kernel
theorem dL_sets_570 : decode cL_sets 570 = .ok (.bipush (-72), 2) := by decide +kernel
theorem dL_sets_572 : decode cL_sets 572 = .ok (.if_icmp .ne 54, 3) := by decide +kernel
theorem dL_sets_575 : decode cL_sets 575 = .ok (.aload_n 0, 1) := by decide +kernel
theorem dL_sets_576 : decode cL_sets 576 = .ok (.iload 5, 2) := by decide +kernel
theorem dL_sets_578 : decode cL_sets 578 = .ok (.iconst 1, 1) := by decide +kernel
theorem dL_sets_579 : decode cL_sets 579 = .ok (.bipush 9, 2) := by decide +kernel
theorem dL_sets_581 : decode cL_sets 581 = .ok (.iconst 0, 1) := by decide +kernel
theorem dL_sets_582 : decode cL_sets 582 = .ok (.invokestatic 92, 3) := by decide +kernel
theorem dL_sets_585 : decode cL_sets 585 = .ok (.bipush (-72), 2) := by decide +kernel
theorem dL_sets_587 : decode cL_sets 587 = .ok (.if_icmp .ne 39, 3) := by decide +kernel
theorem dL_sets_590 : decode cL_sets 590 = .ok (.aload_n 0, 1) := by decide +kernel
theorem dL_sets_591 : decode cL_sets 591 = .ok (.iload 5, 2) := by decide +kernel
theorem dL_sets_593 : decode cL_sets 593 = .ok (.iconst 1, 1) := by decide +kernel
theorem dL_sets_594 : decode cL_sets 594 = .ok (.iconst 0, 1) := by decide +kernel
theorem dL_sets_595 : decode cL_sets 595 = .ok (.bipush 51, 2) := by decide +kernel
theorem dL_sets_597 : decode cL_sets 597 = .ok (.invokestatic 92, 3) := by decide +kernel
theorem dL_sets_600 : decode cL_sets 600 = .ok (.bipush (-72), 2) := by decide +kernel
theorem dL_sets_602 : decode cL_sets 602 = .ok (.if_icmp .ne 24, 3) := by decide +kernel
theorem dL_sets_605 : decode cL_sets 605 = .ok (.aload_n 0, 1) := by decide +kernel
theorem dL_sets_606 : decode cL_sets 606 = .ok (.iload 5, 2) := by decide +kernel
theorem dL_sets_608 : decode cL_sets 608 = .ok (.iload 6, 2) := by decide +kernel
theorem dL_sets_610 : decode cL_sets 610 = .ok (.iload 7, 2) := by decide +kernel
theorem dL_sets_612 : decode cL_sets 612 = .ok (.iload 8, 2) := by decide +kernel
theorem dL_sets_614 : decode cL_sets 614 = .ok (.invokestatic 92, 3) := by decide +kernel
theorem dL_sets_617 : decode cL_sets 617 = .ok (.iload 9, 2) := by decide +kernel
theorem dL_sets_619 : decode cL_sets 619 = .ok (.if_icmp .ne 7, 3) := by decide +kernel
theorem dL_sets_622 : decode cL_sets 622 = .ok (.iconst 1, 1) := by decide +kernel
theorem dL_sets_623 : decode cL_sets 623 = .ok (.goto 4, 3) := by decide +kernel
theorem dL_sets_626 : decode cL_sets 626 = .ok (.iconst 0, 1) := by decide +kernel
theorem dL_sets_627 : decode cL_sets 627 = .ok (.ireturn, 1) := by decide +kernel
theorem dL_below_0 : decode cL_below 0 = .ok (.iconst 0, 1) := by decide +kernel
theorem dL_below_1 : decode cL_below 1 = .ok (.istore 4, 2) := by decide +kernel
theorem dL_below_3 : decode cL_below 3 = .ok (.iload_n 3, 1) := by decide +kernel
theorem dL_below_4 : decode cL_below 4 = .ok (.iconst 1, 1) := by decide +kernel
theorem dL_below_5 : decode cL_below 5 = .ok (.iadd, 1) := by decide +kernel
theorem dL_below_6 : decode cL_below 6 = .ok (.istore 5, 2) := by decide +kernel
theorem dL_below_8 : decode cL_below 8 = .ok (.iload 5, 2) := by decide +kernel
theorem dL_below_10 : decode cL_below 10 = .ok (.aload_n 2, 1) := by decide +kernel
theorem dL_below_11 : decode cL_below 11 = .ok (.iconst 1, 1) := by decide +kernel
theorem dL_below_12 : decode cL_below 12 = .ok (.iaload, 1) := by decide +kernel
theorem dL_below_13 : decode cL_below 13 = .ok (.if_icmp .ge 58, 3) := by decide +kernel
theorem dL_below_16 : decode cL_below 16 = .ok (.aload_n 1, 1) := by decide +kernel
theorem dL_below_17 : decode cL_below 17 = .ok (.iload 5, 2) := by decide +kernel
theorem dL_below_19 : decode cL_below 19 = .ok (.iaload, 1) := by decide +kernel
theorem dL_below_20 : decode cL_below 20 = .ok (.istore 6, 2) := by decide +kernel
theorem dL_below_22 : decode cL_below 22 = .ok (.iload 6, 2) := by decide +kernel
theorem dL_below_24 : decode cL_below 24 = .ok (.iload_n 3, 1) := by decide +kernel
theorem dL_below_25 : decode cL_below 25 = .ok (.if_icmp .le 12, 3) := by decide +kernel
theorem dL_below_28 : decode cL_below 28 = .ok (.aload_n 1, 1) := by decide +kernel
theorem dL_below_29 : decode cL_below 29 = .ok (.iload 6, 2) := by decide +kernel
theorem dL_below_31 : decode cL_below 31 = .ok (.iaload, 1) := by decide +kernel
theorem dL_below_32 : decode cL_below 32 = .ok (.istore 6, 2) := by decide +kernel
theorem dL_below_34 : decode cL_below 34 = .ok (.goto (-12), 3) := by decide +kernel
theorem dL_below_37 : decode cL_below 37 = .ok (.iload 4, 2) := by decide +kernel
theorem dL_below_39 : decode cL_below 39 = .ok (.iload 6, 2) := by decide +kernel
theorem dL_below_41 : decode cL_below 41 = .ok (.iload_n 3, 1) := by decide +kernel
theorem dL_below_42 : decode cL_below 42 = .ok (.if_icmp .ne 19, 3) := by decide +kernel
theorem dL_below_45 : decode cL_below 45 = .ok (.aload_n 0, 1) := by decide +kernel
theorem dL_below_46 : decode cL_below 46 = .ok (.iload 5, 2) := by decide +kernel
theorem dL_below_48 : decode cL_below 48 = .ok (.iconst 3, 1) := by decide +kernel
theorem dL_below_49 : decode cL_below 49 = .ok (.iconst 3, 1) := by decide +kernel
theorem dL_below_50 : decode cL_below 50 = .ok (.invokestatic 59, 3) := by decide +kernel
theorem dL_below_53 : decode cL_below 53 = .ok (.iconst 3, 1) := by decide +kernel
theorem dL_below_54 : decode cL_below 54 = .ok (.if_icmp .ge 7, 3) := by decide +kernel
theorem dL_below_57 : decode cL_below 57 = .ok (.iconst 1, 1) := by decide +kernel
theorem dL_below_58 : decode cL_below 58 = .ok (.goto 4, 3) := by decide +kernel
theorem dL_below_61 : decode cL_below 61 = .ok (.iconst 0, 1) := by decide +kernel
theorem dL_below_62 : decode cL_below 62 = .ok (.iadd, 1) := by decide +kernel
theorem dL_below_63 : decode cL_below 63 = .ok (.istore 4, 2) := by decide +kernel
theorem dL_below_65 : decode cL_below 65 = .ok (.iinc 5 1, 3) := by decide +kernel
theorem dL_below_68 : decode cL_below 68 = .ok (.goto (-60), 3) := by decide +kernel
theorem dL_below_71 : decode cL_below 71 = .ok (.iload 4, 2) := by decide +kernel
theorem dL_below_73 : decode cL_below 73 = .ok (.ireturn, 1) := by decide +kernel
theorem dL_isTold_0 : decode cL_isTold 0 = .ok (.iconst 0, 1) := by decide +kernel
theorem dL_isTold_1 : decode cL_isTold 1 = .ok (.istore 8, 2) := by decide +kernel
theorem dL_isTold_3 : decode cL_isTold 3 = .ok (.iload 8, 2) := by decide +kernel
theorem dL_isTold_5 : decode cL_isTold 5 = .ok (.aload 7, 2) := by decide +kernel
theorem dL_isTold_7 : decode cL_isTold 7 = .ok (.iconst 1, 1) := by decide +kernel
theorem dL_isTold_8 : decode cL_isTold 8 = .ok (.iaload, 1) := by decide +kernel
theorem dL_isTold_9 : decode cL_isTold 9 = .ok (.if_icmp .ge 116, 3) := by decide +kernel
theorem dL_isTold_12 : decode cL_isTold 12 = .ok (.aload_n 3, 1) := by decide +kernel
theorem dL_isTold_13 : decode cL_isTold 13 = .ok (.iload 8, 2) := by decide +kernel
theorem dL_isTold_15 : decode cL_isTold 15 = .ok (.iconst 3, 1) := by decide +kernel
theorem dL_isTold_16 : decode cL_isTold 16 = .ok (.iconst 3, 1) := by decide +kernel
theorem dL_isTold_17 : decode cL_isTold 17 = .ok (.invokestatic 59, 3) := by decide +kernel
theorem dL_isTold_20 : decode cL_isTold 20 = .ok (.istore 9, 2) := by decide +kernel
theorem dL_isTold_22 : decode cL_isTold 22 = .ok (.aload_n 0, 1) := by decide +kernel
theorem dL_isTold_23 : decode cL_isTold 23 = .ok (.iload 8, 2) := by decide +kernel
theorem dL_isTold_25 : decode cL_isTold 25 = .ok (.invokestatic 95, 3) := by decide +kernel
theorem dL_isTold_28 : decode cL_isTold 28 = .ok (.iload 9, 2) := by decide +kernel
theorem dL_isTold_30 : decode cL_isTold 30 = .ok (.if_icmp .ne 87, 3) := by decide +kernel
theorem dL_isTold_33 : decode cL_isTold 33 = .ok (.aload_n 0, 1) := by decide +kernel
theorem dL_isTold_34 : decode cL_isTold 34 = .ok (.iload 8, 2) := by decide +kernel
theorem dL_isTold_36 : decode cL_isTold 36 = .ok (.invokevirtual 98, 3) := by decide +kernel
theorem dL_isTold_39 : decode cL_isTold 39 = .ok (.sipush 1000, 3) := by decide +kernel
theorem dL_isTold_42 : decode cL_isTold 42 = .ok (.aload_n 3, 1) := by decide +kernel
theorem dL_isTold_43 : decode cL_isTold 43 = .ok (.iload 8, 2) := by decide +kernel
theorem dL_isTold_45 : decode cL_isTold 45 = .ok (.iaload, 1) := by decide +kernel
theorem dL_isTold_46 : decode cL_isTold 46 = .ok (.bipush 7, 2) := by decide +kernel
theorem dL_isTold_48 : decode cL_isTold 48 = .ok (.iand, 1) := by decide +kernel
theorem dL_isTold_49 : decode cL_isTold 49 = .ok (.imul, 1) := by decide +kernel
theorem dL_isTold_50 : decode cL_isTold 50 = .ok (.aload 5, 2) := by decide +kernel
theorem dL_isTold_52 : decode cL_isTold 52 = .ok (.iload 8, 2) := by decide +kernel
theorem dL_isTold_54 : decode cL_isTold 54 = .ok (.iaload, 1) := by decide +kernel
theorem dL_isTold_55 : decode cL_isTold 55 = .ok (.iadd, 1) := by decide +kernel
theorem dL_isTold_56 : decode cL_isTold 56 = .ok (.iconst 1, 1) := by decide +kernel
theorem dL_isTold_57 : decode cL_isTold 57 = .ok (.iadd, 1) := by decide +kernel
theorem dL_isTold_58 : decode cL_isTold 58 = .ok (.if_icmp .ne 59, 3) := by decide +kernel
theorem dL_isTold_61 : decode cL_isTold 61 = .ok (.aload_n 0, 1) := by decide +kernel
theorem dL_isTold_62 : decode cL_isTold 62 = .ok (.iload 8, 2) := by decide +kernel
theorem dL_isTold_64 : decode cL_isTold 64 = .ok (.invokevirtual 101, 3) := by decide +kernel
theorem dL_isTold_67 : decode cL_isTold 67 = .ok (.aload 4, 2) := by decide +kernel
theorem dL_isTold_69 : decode cL_isTold 69 = .ok (.iload 8, 2) := by decide +kernel
theorem dL_isTold_71 : decode cL_isTold 71 = .ok (.iaload, 1) := by decide +kernel
theorem dL_isTold_72 : decode cL_isTold 72 = .ok (.if_icmp .ne 45, 3) := by decide +kernel
theorem dL_isTold_75 : decode cL_isTold 75 = .ok (.aload_n 0, 1) := by decide +kernel
theorem dL_isTold_76 : decode cL_isTold 76 = .ok (.iload 8, 2) := by decide +kernel
theorem dL_isTold_78 : decode cL_isTold 78 = .ok (.invokevirtual 104, 3) := by decide +kernel
theorem dL_isTold_81 : decode cL_isTold 81 = .ok (.aload 6, 2) := by decide +kernel
theorem dL_isTold_83 : decode cL_isTold 83 = .ok (.iload 8, 2) := by decide +kernel
theorem dL_isTold_85 : decode cL_isTold 85 = .ok (.iaload, 1) := by decide +kernel
theorem dL_isTold_86 : decode cL_isTold 86 = .ok (.if_icmp .ne 31, 3) := by decide +kernel
theorem dL_isTold_89 : decode cL_isTold 89 = .ok (.aload_n 0, 1) := by decide +kernel
theorem dL_isTold_90 : decode cL_isTold 90 = .ok (.iload 8, 2) := by decide +kernel
theorem dL_isTold_92 : decode cL_isTold 92 = .ok (.invokestatic 107, 3) := by decide +kernel
theorem dL_isTold_95 : decode cL_isTold 95 = .ok (.iload 9, 2) := by decide +kernel
theorem dL_isTold_97 : decode cL_isTold 97 = .ok (.iconst 2, 1) := by decide +kernel
theorem dL_isTold_98 : decode cL_isTold 98 = .ok (.if_icmp .ne 15, 3) := by decide +kernel
theorem dL_isTold_101 : decode cL_isTold 101 = .ok (.aload_n 3, 1) := by decide +kernel
theorem dL_isTold_102 : decode cL_isTold 102 = .ok (.iload 8, 2) := by decide +kernel
theorem dL_isTold_104 : decode cL_isTold 104 = .ok (.bipush 6, 2) := by decide +kernel
theorem dL_isTold_106 : decode cL_isTold 106 = .ok (.iconst 2, 1) := by decide +kernel
theorem dL_isTold_107 : decode cL_isTold 107 = .ok (.invokestatic 59, 3) := by decide +kernel
theorem dL_isTold_110 : decode cL_isTold 110 = .ok (.goto 4, 3) := by decide +kernel
theorem dL_isTold_113 : decode cL_isTold 113 = .ok (.iconst (-1), 1) := by decide +kernel
theorem dL_isTold_114 : decode cL_isTold 114 = .ok (.if_icmp .eq 5, 3) := by decide +kernel
theorem dL_isTold_117 : decode cL_isTold 117 = .ok (.iconst 0, 1) := by decide +kernel
theorem dL_isTold_118 : decode cL_isTold 118 = .ok (.ireturn, 1) := by decide +kernel
theorem dL_isTold_119 : decode cL_isTold 119 = .ok (.iinc 8 1, 3) := by decide +kernel
theorem dL_isTold_122 : decode cL_isTold 122 = .ok (.goto (-119), 3) := by decide +kernel
theorem dL_isTold_125 : decode cL_isTold 125 = .ok (.aload 7, 2) := by decide +kernel
theorem dL_isTold_127 : decode cL_isTold 127 = .ok (.iconst 1, 1) := by decide +kernel
theorem dL_isTold_128 : decode cL_isTold 128 = .ok (.iaload, 1) := by decide +kernel
theorem dL_isTold_129 : decode cL_isTold 129 = .ok (.ifCond .ne 7, 3) := by decide +kernel
theorem dL_isTold_132 : decode cL_isTold 132 = .ok (.iconst 0, 1) := by decide +kernel
theorem dL_isTold_133 : decode cL_isTold 133 = .ok (.goto 11, 3) := by decide +kernel
theorem dL_isTold_136 : decode cL_isTold 136 = .ok (.iload_n 1, 1) := by decide +kernel
theorem dL_isTold_137 : decode cL_isTold 137 = .ok (.aload 7, 2) := by decide +kernel
theorem dL_isTold_139 : decode cL_isTold 139 = .ok (.iconst 1, 1) := by decide +kernel
theorem dL_isTold_140 : decode cL_isTold 140 = .ok (.iaload, 1) := by decide +kernel
theorem dL_isTold_141 : decode cL_isTold 141 = .ok (.invokestatic 83, 3) := by decide +kernel
theorem dL_isTold_144 : decode cL_isTold 144 = .ok (.istore 8, 2) := by decide +kernel
theorem dL_isTold_146 : decode cL_isTold 146 = .ok (.aload 7, 2) := by decide +kernel
theorem dL_isTold_148 : decode cL_isTold 148 = .ok (.iconst 1, 1) := by decide +kernel
theorem dL_isTold_149 : decode cL_isTold 149 = .ok (.iaload, 1) := by decide +kernel
theorem dL_isTold_150 : decode cL_isTold 150 = .ok (.ifCond .le 24, 3) := by decide +kernel
theorem dL_isTold_153 : decode cL_isTold 153 = .ok (.aload_n 0, 1) := by decide +kernel
theorem dL_isTold_154 : decode cL_isTold 154 = .ok (.iload 8, 2) := by decide +kernel
theorem dL_isTold_156 : decode cL_isTold 156 = .ok (.invokevirtual 109, 3) := by decide +kernel
theorem dL_isTold_159 : decode cL_isTold 159 = .ok (.aload_n 3, 1) := by decide +kernel
theorem dL_isTold_160 : decode cL_isTold 160 = .ok (.aload 5, 2) := by decide +kernel
theorem dL_isTold_162 : decode cL_isTold 162 = .ok (.aload 7, 2) := by decide +kernel
theorem dL_isTold_164 : decode cL_isTold 164 = .ok (.iload 8, 2) := by decide +kernel
theorem dL_isTold_166 : decode cL_isTold 166 = .ok (.invokestatic 112, 3) := by decide +kernel
theorem dL_isTold_169 : decode cL_isTold 169 = .ok (.if_icmp .eq 5, 3) := by decide +kernel
theorem dL_isTold_172 : decode cL_isTold 172 = .ok (.iconst 0, 1) := by decide +kernel
theorem dL_isTold_173 : decode cL_isTold 173 = .ok (.ireturn, 1) := by decide +kernel
theorem dL_isTold_174 : decode cL_isTold 174 = .ok (.iconst 0, 1) := by decide +kernel
theorem dL_isTold_175 : decode cL_isTold 175 = .ok (.istore 9, 2) := by decide +kernel
theorem dL_isTold_177 : decode cL_isTold 177 = .ok (.iload 9, 2) := by decide +kernel
theorem dL_isTold_179 : decode cL_isTold 179 = .ok (.bipush 6, 2) := by decide +kernel
theorem dL_isTold_181 : decode cL_isTold 181 = .ok (.if_icmp .ge 164, 3) := by decide +kernel
theorem dL_isTold_184 : decode cL_isTold 184 = .ok (.aload_n 0, 1) := by decide +kernel
theorem dL_isTold_185 : decode cL_isTold 185 = .ok (.iload 9, 2) := by decide +kernel
theorem dL_isTold_187 : decode cL_isTold 187 = .ok (.invokestatic 115, 3) := by decide +kernel
theorem dL_isTold_190 : decode cL_isTold 190 = .ok (.aload_n 2, 1) := by decide +kernel
theorem dL_isTold_191 : decode cL_isTold 191 = .ok (.bipush 10, 2) := by decide +kernel
theorem dL_isTold_193 : decode cL_isTold 193 = .ok (.iload 9, 2) := by decide +kernel
theorem dL_isTold_195 : decode cL_isTold 195 = .ok (.imul, 1) := by decide +kernel
theorem dL_isTold_196 : decode cL_isTold 196 = .ok (.bipush 7, 2) := by decide +kernel
theorem dL_isTold_198 : decode cL_isTold 198 = .ok (.iadd, 1) := by decide +kernel
theorem dL_isTold_199 : decode cL_isTold 199 = .ok (.iaload, 1) := by decide +kernel
theorem dL_isTold_200 : decode cL_isTold 200 = .ok (.if_icmp .ne 34, 3) := by decide +kernel
theorem dL_isTold_203 : decode cL_isTold 203 = .ok (.aload_n 0, 1) := by decide +kernel
theorem dL_isTold_204 : decode cL_isTold 204 = .ok (.iload 9, 2) := by decide +kernel
theorem dL_isTold_206 : decode cL_isTold 206 = .ok (.invokevirtual 117, 3) := by decide +kernel
theorem dL_isTold_209 : decode cL_isTold 209 = .ok (.aload 7, 2) := by decide +kernel
theorem dL_isTold_211 : decode cL_isTold 211 = .ok (.iconst 0, 1) := by decide +kernel
