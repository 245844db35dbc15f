theorem dL_tick_111 : decode cL_tick 111 = .ok (.if_icmp .le 6, 3) := by decide +kernel
theorem dL_tick_114 : decode cL_tick 114 = .ok (.goto 145, 3) := by decide +kernel
theorem dL_tick_117 : decode cL_tick 117 = .ok (.bipush 10, 2) := by decide +kernel
theorem dL_tick_119 : decode cL_tick 119 = .ok (.aload_n 1, 1) := by decide +kernel
theorem dL_tick_120 : decode cL_tick 120 = .ok (.iload 8, 2) := by decide +kernel
theorem dL_tick_122 : decode cL_tick 122 = .ok (.iaload, 1) := by decide +kernel
theorem dL_tick_123 : decode cL_tick 123 = .ok (.bipush 7, 2) := by decide +kernel
theorem dL_tick_125 : decode cL_tick 125 = .ok (.iand, 1) := by decide +kernel
theorem dL_tick_126 : decode cL_tick 126 = .ok (.imul, 1) := by decide +kernel
theorem dL_tick_127 : decode cL_tick 127 = .ok (.istore 9, 2) := by decide +kernel
theorem dL_tick_129 : decode cL_tick 129 = .ok (.aload_n 0, 1) := by decide +kernel
theorem dL_tick_130 : decode cL_tick 130 = .ok (.iload 9, 2) := by decide +kernel
theorem dL_tick_132 : decode cL_tick 132 = .ok (.iconst 2, 1) := by decide +kernel
theorem dL_tick_133 : decode cL_tick 133 = .ok (.iadd, 1) := by decide +kernel
theorem dL_tick_134 : decode cL_tick 134 = .ok (.dup2, 1) := by decide +kernel
theorem dL_tick_135 : decode cL_tick 135 = .ok (.iaload, 1) := by decide +kernel
theorem dL_tick_136 : decode cL_tick 136 = .ok (.iconst 1, 1) := by decide +kernel
theorem dL_tick_137 : decode cL_tick 137 = .ok (.iadd, 1) := by decide +kernel
theorem dL_tick_138 : decode cL_tick 138 = .ok (.iastore, 1) := by decide +kernel
theorem dL_tick_139 : decode cL_tick 139 = .ok (.aload_n 0, 1) := by decide +kernel
theorem dL_tick_140 : decode cL_tick 140 = .ok (.iload 9, 2) := by decide +kernel
theorem dL_tick_142 : decode cL_tick 142 = .ok (.iconst 1, 1) := by decide +kernel
theorem dL_tick_143 : decode cL_tick 143 = .ok (.iadd, 1) := by decide +kernel
theorem dL_tick_144 : decode cL_tick 144 = .ok (.iaload, 1) := by decide +kernel
theorem dL_tick_145 : decode cL_tick 145 = .ok (.ifCond .le 48, 3) := by decide +kernel
theorem dL_tick_148 : decode cL_tick 148 = .ok (.aload_n 0, 1) := by decide +kernel
theorem dL_tick_149 : decode cL_tick 149 = .ok (.iload 9, 2) := by decide +kernel
theorem dL_tick_151 : decode cL_tick 151 = .ok (.iconst 2, 1) := by decide +kernel
theorem dL_tick_152 : decode cL_tick 152 = .ok (.iadd, 1) := by decide +kernel
theorem dL_tick_153 : decode cL_tick 153 = .ok (.iaload, 1) := by decide +kernel
theorem dL_tick_154 : decode cL_tick 154 = .ok (.aload_n 0, 1) := by decide +kernel
theorem dL_tick_155 : decode cL_tick 155 = .ok (.iload 9, 2) := by decide +kernel
theorem dL_tick_157 : decode cL_tick 157 = .ok (.iconst 1, 1) := by decide +kernel
theorem dL_tick_158 : decode cL_tick 158 = .ok (.iadd, 1) := by decide +kernel
theorem dL_tick_159 : decode cL_tick 159 = .ok (.iaload, 1) := by decide +kernel
theorem dL_tick_160 : decode cL_tick 160 = .ok (.irem, 1) := by decide +kernel
theorem dL_tick_161 : decode cL_tick 161 = .ok (.ifCond .ne 32, 3) := by decide +kernel
theorem dL_tick_164 : decode cL_tick 164 = .ok (.iload 8, 2) := by decide +kernel
theorem dL_tick_166 : decode cL_tick 166 = .ok (.iconst 4, 1) := by decide +kernel
theorem dL_tick_167 : decode cL_tick 167 = .ok (.aload_n 0, 1) := by decide +kernel
theorem dL_tick_168 : decode cL_tick 168 = .ok (.aload_n 1, 1) := by decide +kernel
theorem dL_tick_169 : decode cL_tick 169 = .ok (.aload_n 3, 1) := by decide +kernel
theorem dL_tick_170 : decode cL_tick 170 = .ok (.aload 5, 2) := by decide +kernel
theorem dL_tick_172 : decode cL_tick 172 = .ok (.aload 7, 2) := by decide +kernel
theorem dL_tick_174 : decode cL_tick 174 = .ok (.invokestatic 67, 3) := by decide +kernel
theorem dL_tick_177 : decode cL_tick 177 = .ok (.aload_n 1, 1) := by decide +kernel
theorem dL_tick_178 : decode cL_tick 178 = .ok (.iload 8, 2) := by decide +kernel
theorem dL_tick_180 : decode cL_tick 180 = .ok (.iaload, 1) := by decide +kernel
theorem dL_tick_181 : decode cL_tick 181 = .ok (.bipush 7, 2) := by decide +kernel
theorem dL_tick_183 : decode cL_tick 183 = .ok (.iand, 1) := by decide +kernel
theorem dL_tick_184 : decode cL_tick 184 = .ok (.aload_n 0, 1) := by decide +kernel
theorem dL_tick_185 : decode cL_tick 185 = .ok (.aload 7, 2) := by decide +kernel
theorem dL_tick_187 : decode cL_tick 187 = .ok (.invokestatic 71, 3) := by decide +kernel
theorem dL_tick_190 : decode cL_tick 190 = .ok (.goto 69, 3) := by decide +kernel
theorem dL_tick_193 : decode cL_tick 193 = .ok (.aload_n 0, 1) := by decide +kernel
theorem dL_tick_194 : decode cL_tick 194 = .ok (.iload 9, 2) := by decide +kernel
theorem dL_tick_196 : decode cL_tick 196 = .ok (.iconst 3, 1) := by decide +kernel
theorem dL_tick_197 : decode cL_tick 197 = .ok (.iadd, 1) := by decide +kernel
theorem dL_tick_198 : decode cL_tick 198 = .ok (.iaload, 1) := by decide +kernel
theorem dL_tick_199 : decode cL_tick 199 = .ok (.ifCond .ne 19, 3) := by decide +kernel
theorem dL_tick_202 : decode cL_tick 202 = .ok (.iload 8, 2) := by decide +kernel
theorem dL_tick_204 : decode cL_tick 204 = .ok (.iconst 3, 1) := by decide +kernel
theorem dL_tick_205 : decode cL_tick 205 = .ok (.aload_n 0, 1) := by decide +kernel
theorem dL_tick_206 : decode cL_tick 206 = .ok (.aload_n 1, 1) := by decide +kernel
theorem dL_tick_207 : decode cL_tick 207 = .ok (.aload_n 3, 1) := by decide +kernel
theorem dL_tick_208 : decode cL_tick 208 = .ok (.aload 5, 2) := by decide +kernel
theorem dL_tick_210 : decode cL_tick 210 = .ok (.aload 7, 2) := by decide +kernel
theorem dL_tick_212 : decode cL_tick 212 = .ok (.invokestatic 67, 3) := by decide +kernel
theorem dL_tick_215 : decode cL_tick 215 = .ok (.goto 44, 3) := by decide +kernel
theorem dL_tick_218 : decode cL_tick 218 = .ok (.aload 6, 2) := by decide +kernel
theorem dL_tick_220 : decode cL_tick 220 = .ok (.iload 8, 2) := by decide +kernel
theorem dL_tick_222 : decode cL_tick 222 = .ok (.aload_n 0, 1) := by decide +kernel
theorem dL_tick_223 : decode cL_tick 223 = .ok (.iload 9, 2) := by decide +kernel
theorem dL_tick_225 : decode cL_tick 225 = .ok (.iconst 3, 1) := by decide +kernel
theorem dL_tick_226 : decode cL_tick 226 = .ok (.iadd, 1) := by decide +kernel
theorem dL_tick_227 : decode cL_tick 227 = .ok (.iaload, 1) := by decide +kernel
theorem dL_tick_228 : decode cL_tick 228 = .ok (.iastore, 1) := by decide +kernel
theorem dL_tick_229 : decode cL_tick 229 = .ok (.aload_n 1, 1) := by decide +kernel
theorem dL_tick_230 : decode cL_tick 230 = .ok (.iload 8, 2) := by decide +kernel
theorem dL_tick_232 : decode cL_tick 232 = .ok (.iconst 3, 1) := by decide +kernel
theorem dL_tick_233 : decode cL_tick 233 = .ok (.iconst 3, 1) := by decide +kernel
theorem dL_tick_234 : decode cL_tick 234 = .ok (.iconst 2, 1) := by decide +kernel
theorem dL_tick_235 : decode cL_tick 235 = .ok (.invokestatic 53, 3) := by decide +kernel
theorem dL_tick_238 : decode cL_tick 238 = .ok (.aload_n 1, 1) := by decide +kernel
theorem dL_tick_239 : decode cL_tick 239 = .ok (.iload 8, 2) := by decide +kernel
theorem dL_tick_241 : decode cL_tick 241 = .ok (.bipush 6, 2) := by decide +kernel
theorem dL_tick_243 : decode cL_tick 243 = .ok (.bipush 12, 2) := by decide +kernel
theorem dL_tick_245 : decode cL_tick 245 = .ok (.iconst 0, 1) := by decide +kernel
theorem dL_tick_246 : decode cL_tick 246 = .ok (.invokestatic 53, 3) := by decide +kernel
theorem dL_tick_249 : decode cL_tick 249 = .ok (.aload_n 1, 1) := by decide +kernel
theorem dL_tick_250 : decode cL_tick 250 = .ok (.iload 8, 2) := by decide +kernel
theorem dL_tick_252 : decode cL_tick 252 = .ok (.bipush 10, 2) := by decide +kernel
theorem dL_tick_254 : decode cL_tick 254 = .ok (.iconst 1, 1) := by decide +kernel
theorem dL_tick_255 : decode cL_tick 255 = .ok (.iconst 1, 1) := by decide +kernel
theorem dL_tick_256 : decode cL_tick 256 = .ok (.invokestatic 53, 3) := by decide +kernel
theorem dL_tick_259 : decode cL_tick 259 = .ok (.iinc 8 1, 3) := by decide +kernel
theorem dL_tick_262 : decode cL_tick 262 = .ok (.goto (-181), 3) := by decide +kernel
theorem dL_tick_265 : decode cL_tick 265 = .ok (.aload 7, 2) := by decide +kernel
theorem dL_tick_267 : decode cL_tick 267 = .ok (.iconst 1, 1) := by decide +kernel
theorem dL_tick_268 : decode cL_tick 268 = .ok (.iaload, 1) := by decide +kernel
theorem dL_tick_269 : decode cL_tick 269 = .ok (.iconst 1, 1) := by decide +kernel
theorem dL_tick_270 : decode cL_tick 270 = .ok (.isub, 1) := by decide +kernel
theorem dL_tick_271 : decode cL_tick 271 = .ok (.istore 8, 2) := by decide +kernel
theorem dL_tick_273 : decode cL_tick 273 = .ok (.iload 8, 2) := by decide +kernel
theorem dL_tick_275 : decode cL_tick 275 = .ok (.ifCond .lt 49, 3) := by decide +kernel
theorem dL_tick_278 : decode cL_tick 278 = .ok (.aload_n 1, 1) := by decide +kernel
theorem dL_tick_279 : decode cL_tick 279 = .ok (.iload 8, 2) := by decide +kernel
theorem dL_tick_281 : decode cL_tick 281 = .ok (.iconst 3, 1) := by decide +kernel
theorem dL_tick_282 : decode cL_tick 282 = .ok (.iconst 3, 1) := by decide +kernel
theorem dL_tick_283 : decode cL_tick 283 = .ok (.invokestatic 59, 3) := by decide +kernel
theorem dL_tick_286 : decode cL_tick 286 = .ok (.iconst 2, 1) := by decide +kernel
theorem dL_tick_287 : decode cL_tick 287 = .ok (.if_icmp .ne 31, 3) := by decide +kernel
theorem dL_tick_290 : decode cL_tick 290 = .ok (.aload_n 1, 1) := by decide +kernel
theorem dL_tick_291 : decode cL_tick 291 = .ok (.iload 8, 2) := by decide +kernel
theorem dL_tick_293 : decode cL_tick 293 = .ok (.bipush 10, 2) := by decide +kernel
theorem dL_tick_295 : decode cL_tick 295 = .ok (.iconst 1, 1) := by decide +kernel
theorem dL_tick_296 : decode cL_tick 296 = .ok (.invokestatic 59, 3) := by decide +kernel
theorem dL_tick_299 : decode cL_tick 299 = .ok (.ifCond .ne 19, 3) := by decide +kernel
theorem dL_tick_302 : decode cL_tick 302 = .ok (.iload 8, 2) := by decide +kernel
theorem dL_tick_304 : decode cL_tick 304 = .ok (.aload_n 0, 1) := by decide +kernel
theorem dL_tick_305 : decode cL_tick 305 = .ok (.aload_n 1, 1) := by decide +kernel
theorem dL_tick_306 : decode cL_tick 306 = .ok (.aload_n 3, 1) := by decide +kernel
theorem dL_tick_307 : decode cL_tick 307 = .ok (.aload 4, 2) := by decide +kernel
theorem dL_tick_309 : decode cL_tick 309 = .ok (.aload 5, 2) := by decide +kernel
theorem dL_tick_311 : decode cL_tick 311 = .ok (.aload 6, 2) := by decide +kernel
theorem dL_tick_313 : decode cL_tick 313 = .ok (.aload 7, 2) := by decide +kernel
theorem dL_tick_315 : decode cL_tick 315 = .ok (.invokestatic 75, 3) := by decide +kernel
theorem dL_tick_318 : decode cL_tick 318 = .ok (.iinc 8 (-1), 3) := by decide +kernel
theorem dL_tick_321 : decode cL_tick 321 = .ok (.goto (-48), 3) := by decide +kernel
theorem dL_tick_324 : decode cL_tick 324 = .ok (.aload 7, 2) := by decide +kernel
theorem dL_tick_326 : decode cL_tick 326 = .ok (.iconst 1, 1) := by decide +kernel
theorem dL_tick_327 : decode cL_tick 327 = .ok (.iaload, 1) := by decide +kernel
theorem dL_tick_328 : decode cL_tick 328 = .ok (.istore 8, 2) := by decide +kernel
theorem dL_tick_330 : decode cL_tick 330 = .ok (.iconst 0, 1) := by decide +kernel
theorem dL_tick_331 : decode cL_tick 331 = .ok (.istore 9, 2) := by decide +kernel
theorem dL_tick_333 : decode cL_tick 333 = .ok (.iload 9, 2) := by decide +kernel
theorem dL_tick_335 : decode cL_tick 335 = .ok (.iload 8, 2) := by decide +kernel
theorem dL_tick_337 : decode cL_tick 337 = .ok (.if_icmp .ge 138, 3) := by decide +kernel
theorem dL_tick_340 : decode cL_tick 340 = .ok (.aload_n 1, 1) := by decide +kernel
theorem dL_tick_341 : decode cL_tick 341 = .ok (.iload 9, 2) := by decide +kernel
theorem dL_tick_343 : decode cL_tick 343 = .ok (.iconst 3, 1) := by decide +kernel
theorem dL_tick_344 : decode cL_tick 344 = .ok (.iconst 3, 1) := by decide +kernel
theorem dL_tick_345 : decode cL_tick 345 = .ok (.invokestatic 59, 3) := by decide +kernel
theorem dL_tick_348 : decode cL_tick 348 = .ok (.iconst 2, 1) := by decide +kernel
theorem dL_tick_349 : decode cL_tick 349 = .ok (.if_icmp .ne 120, 3) := by decide +kernel
theorem dL_tick_352 : decode cL_tick 352 = .ok (.aload_n 1, 1) := by decide +kernel
theorem dL_tick_353 : decode cL_tick 353 = .ok (.iload 9, 2) := by decide +kernel
theorem dL_tick_355 : decode cL_tick 355 = .ok (.bipush 10, 2) := by decide +kernel
theorem dL_tick_357 : decode cL_tick 357 = .ok (.iconst 1, 1) := by decide +kernel
theorem dL_tick_358 : decode cL_tick 358 = .ok (.invokestatic 59, 3) := by decide +kernel
theorem dL_tick_361 : decode cL_tick 361 = .ok (.ifCond .ne 6, 3) := by decide +kernel
theorem dL_tick_364 : decode cL_tick 364 = .ok (.goto 105, 3) := by decide +kernel
theorem dL_tick_367 : decode cL_tick 367 = .ok (.aload_n 1, 1) := by decide +kernel
theorem dL_tick_368 : decode cL_tick 368 = .ok (.iload 9, 2) := by decide +kernel
theorem dL_tick_370 : decode cL_tick 370 = .ok (.bipush 10, 2) := by decide +kernel
theorem dL_tick_372 : decode cL_tick 372 = .ok (.iconst 1, 1) := by decide +kernel
theorem dL_tick_373 : decode cL_tick 373 = .ok (.iconst 0, 1) := by decide +kernel
theorem dL_tick_374 : decode cL_tick 374 = .ok (.invokestatic 53, 3) := by decide +kernel
theorem dL_tick_377 : decode cL_tick 377 = .ok (.aload_n 1, 1) := by decide +kernel
theorem dL_tick_378 : decode cL_tick 378 = .ok (.iload 9, 2) := by decide +kernel
theorem dL_tick_380 : decode cL_tick 380 = .ok (.bipush 11, 2) := by decide +kernel
theorem dL_tick_382 : decode cL_tick 382 = .ok (.iconst 3, 1) := by decide +kernel
theorem dL_tick_383 : decode cL_tick 383 = .ok (.invokestatic 59, 3) := by decide +kernel
theorem dL_tick_386 : decode cL_tick 386 = .ok (.ifCond .ne 12, 3) := by decide +kernel
theorem dL_tick_389 : decode cL_tick 389 = .ok (.aload 4, 2) := by decide +kernel
theorem dL_tick_391 : decode cL_tick 391 = .ok (.iload 9, 2) := by decide +kernel
theorem dL_tick_393 : decode cL_tick 393 = .ok (.aload 7, 2) := by decide +kernel
theorem dL_tick_395 : decode cL_tick 395 = .ok (.iconst 0, 1) := by decide +kernel
theorem dL_tick_396 : decode cL_tick 396 = .ok (.iaload, 1) := by decide +kernel
theorem dL_tick_397 : decode cL_tick 397 = .ok (.iastore, 1) := by decide +kernel
theorem dL_tick_398 : decode cL_tick 398 = .ok (.aload_n 1, 1) := by decide +kernel
theorem dL_tick_399 : decode cL_tick 399 = .ok (.iload 9, 2) := by decide +kernel
theorem dL_tick_401 : decode cL_tick 401 = .ok (.bipush 11, 2) := by decide +kernel
theorem dL_tick_403 : decode cL_tick 403 = .ok (.iconst 3, 1) := by decide +kernel
theorem dL_tick_404 : decode cL_tick 404 = .ok (.aload_n 1, 1) := by decide +kernel
theorem dL_tick_405 : decode cL_tick 405 = .ok (.iload 9, 2) := by decide +kernel
theorem dL_tick_407 : decode cL_tick 407 = .ok (.bipush 11, 2) := by decide +kernel
theorem dL_tick_409 : decode cL_tick 409 = .ok (.iconst 3, 1) := by decide +kernel
theorem dL_tick_410 : decode cL_tick 410 = .ok (.invokestatic 59, 3) := by decide +kernel
theorem dL_tick_413 : decode cL_tick 413 = .ok (.iconst 1, 1) := by decide +kernel
theorem dL_tick_414 : decode cL_tick 414 = .ok (.iadd, 1) := by decide +kernel
theorem dL_tick_415 : decode cL_tick 415 = .ok (.invokestatic 53, 3) := by decide +kernel
theorem dL_tick_418 : decode cL_tick 418 = .ok (.aload_n 1, 1) := by decide +kernel
theorem dL_tick_419 : decode cL_tick 419 = .ok (.iload 9, 2) := by decide +kernel
theorem dL_tick_421 : decode cL_tick 421 = .ok (.bipush 14, 2) := by decide +kernel
theorem dL_tick_423 : decode cL_tick 423 = .ok (.iconst 3, 1) := by decide +kernel
theorem dL_tick_424 : decode cL_tick 424 = .ok (.aload_n 1, 1) := by decide +kernel
theorem dL_tick_425 : decode cL_tick 425 = .ok (.iload 9, 2) := by decide +kernel
theorem dL_tick_427 : decode cL_tick 427 = .ok (.bipush 14, 2) := by decide +kernel
theorem dL_tick_429 : decode cL_tick 429 = .ok (.iconst 3, 1) := by decide +kernel
theorem dL_tick_430 : decode cL_tick 430 = .ok (.invokestatic 59, 3) := by decide +kernel
theorem dL_tick_433 : decode cL_tick 433 = .ok (.iconst 1, 1) := by decide +kernel
theorem dL_tick_434 : decode cL_tick 434 = .ok (.iadd, 1) := by decide +kernel
theorem dL_tick_435 : decode cL_tick 435 = .ok (.invokestatic 53, 3) := by decide +kernel
theorem dL_tick_438 : decode cL_tick 438 = .ok (.aload 6, 2) := by decide +kernel
theorem dL_tick_440 : decode cL_tick 440 = .ok (.iload 9, 2) := by decide +kernel
theorem dL_tick_442 : decode cL_tick 442 = .ok (.iaload, 1) := by decide +kernel
theorem dL_tick_443 : decode cL_tick 443 = .ok (.bipush 7, 2) := by decide +kernel
theorem dL_tick_445 : decode cL_tick 445 = .ok (.iand, 1) := by decide +kernel
theorem dL_tick_446 : decode cL_tick 446 = .ok (.iconst 1, 1) := by decide +kernel
theorem dL_tick_447 : decode cL_tick 447 = .ok (.isub, 1) := by decide +kernel
theorem dL_tick_448 : decode cL_tick 448 = .ok (.aload_n 2, 1) := by decide +kernel
theorem dL_tick_449 : decode cL_tick 449 = .ok (.iload 9, 2) := by decide +kernel
theorem dL_tick_451 : decode cL_tick 451 = .ok (.iaload, 1) := by decide +kernel
theorem dL_tick_452 : decode cL_tick 452 = .ok (.iconst 1, 1) := by decide +kernel
theorem dL_tick_453 : decode cL_tick 453 = .ok (.isub, 1) := by decide +kernel
theorem dL_tick_454 : decode cL_tick 454 = .ok (.iload 9, 2) := by decide +kernel
theorem dL_tick_456 : decode cL_tick 456 = .ok (.aload_n 0, 1) := by decide +kernel
theorem dL_tick_457 : decode cL_tick 457 = .ok (.aload_n 1, 1) := by decide +kernel
theorem dL_tick_458 : decode cL_tick 458 = .ok (.aload_n 2, 1) := by decide +kernel
theorem dL_tick_459 : decode cL_tick 459 = .ok (.aload_n 3, 1) := by decide +kernel
theorem dL_tick_460 : decode cL_tick 460 = .ok (.aload 4, 2) := by decide +kernel
theorem dL_tick_462 : decode cL_tick 462 = .ok (.aload 5, 2) := by decide +kernel
theorem dL_tick_464 : decode cL_tick 464 = .ok (.aload 7, 2) := by decide +kernel
theorem dL_tick_466 : decode cL_tick 466 = .ok (.invokestatic 79, 3) := by decide +kernel
theorem dL_tick_469 : decode cL_tick 469 = .ok (.iinc 9 1, 3) := by decide +kernel
theorem dL_tick_472 : decode cL_tick 472 = .ok (.goto (-139), 3) := by decide +kernel
theorem dL_tick_475 : decode cL_tick 475 = .ok (.iconst 0, 1) := by decide +kernel
theorem dL_tick_476 : decode cL_tick 476 = .ok (.istore 9, 2) := by decide +kernel
theorem dL_tick_478 : decode cL_tick 478 = .ok (.iload 9, 2) := by decide +kernel
theorem dL_tick_480 : decode cL_tick 480 = .ok (.bipush 6, 2) := by decide +kernel
theorem dL_tick_482 : decode cL_tick 482 = .ok (.if_icmp .ge 118, 3) := by decide +kernel
theorem dL_tick_485 : decode cL_tick 485 = .ok (.iconst 0, 1) := by decide +kernel
theorem dL_tick_486 : decode cL_tick 486 = .ok (.istore 10, 2) := by decide +kernel
theorem dL_tick_488 : decode cL_tick 488 = .ok (.iload 10, 2) := by decide +kernel
theorem dL_tick_490 : decode cL_tick 490 = .ok (.aload 7, 2) := by decide +kernel
theorem dL_tick_492 : decode cL_tick 492 = .ok (.iconst 1, 1) := by decide +kernel
theorem dL_tick_493 : decode cL_tick 493 = .ok (.iaload, 1) := by decide +kernel
theorem dL_tick_494 : decode cL_tick 494 = .ok (.if_icmp .ge 100, 3) := by decide +kernel
theorem dL_tick_497 : decode cL_tick 497 = .ok (.aload_n 1, 1) := by decide +kernel
theorem dL_tick_498 : decode cL_tick 498 = .ok (.iload 10, 2) := by decide +kernel
theorem dL_tick_500 : decode cL_tick 500 = .ok (.iaload, 1) := by decide +kernel
theorem dL_tick_501 : decode cL_tick 501 = .ok (.bipush 63, 2) := by decide +kernel
theorem dL_tick_503 : decode cL_tick 503 = .ok (.iand, 1) := by decide +kernel
theorem dL_tick_504 : decode cL_tick 504 = .ok (.iload 9, 2) := by decide +kernel
theorem dL_tick_506 : decode cL_tick 506 = .ok (.if_icmp .ne 82, 3) := by decide +kernel
theorem dL_tick_509 : decode cL_tick 509 = .ok (.aload_n 1, 1) := by decide +kernel
theorem dL_tick_510 : decode cL_tick 510 = .ok (.aload 7, 2) := by decide +kernel
theorem dL_tick_512 : decode cL_tick 512 = .ok (.iload 9, 2) := by decide +kernel
theorem dL_tick_514 : decode cL_tick 514 = .ok (.iconst 1, 1) := by decide +kernel
theorem dL_tick_515 : decode cL_tick 515 = .ok (.invokestatic 63, 3) := by decide +kernel
theorem dL_tick_518 : decode cL_tick 518 = .ok (.aload_n 0, 1) := by decide +kernel
theorem dL_tick_519 : decode cL_tick 519 = .ok (.bipush 10, 2) := by decide +kernel
theorem dL_tick_521 : decode cL_tick 521 = .ok (.iload 9, 2) := by decide +kernel
theorem dL_tick_523 : decode cL_tick 523 = .ok (.imul, 1) := by decide +kernel
theorem dL_tick_524 : decode cL_tick 524 = .ok (.iconst 4, 1) := by decide +kernel
theorem dL_tick_525 : decode cL_tick 525 = .ok (.iadd, 1) := by decide +kernel
theorem dL_tick_526 : decode cL_tick 526 = .ok (.iaload, 1) := by decide +kernel
theorem dL_tick_527 : decode cL_tick 527 = .ok (.if_icmp .lt 6, 3) := by decide +kernel
theorem dL_tick_530 : decode cL_tick 530 = .ok (.goto 58, 3) := by decide +kernel
theorem dL_tick_533 : decode cL_tick 533 = .ok (.aload 4, 2) := by decide +kernel
theorem dL_tick_535 : decode cL_tick 535 = .ok (.iload 10, 2) := by decide +kernel
theorem dL_tick_537 : decode cL_tick 537 = .ok (.aload 7, 2) := by decide +kernel
theorem dL_tick_539 : decode cL_tick 539 = .ok (.iconst 0, 1) := by decide +kernel
theorem dL_tick_540 : decode cL_tick 540 = .ok (.iaload, 1) := by decide +kernel
theorem dL_tick_541 : decode cL_tick 541 = .ok (.aload_n 0, 1) := by decide +kernel
theorem dL_tick_542 : decode cL_tick 542 = .ok (.bipush 10, 2) := by decide +kernel
theorem dL_tick_544 : decode cL_tick 544 = .ok (.iload 9, 2) := by decide +kernel
theorem dL_tick_546 : decode cL_tick 546 = .ok (.imul, 1) := by decide +kernel
theorem dL_tick_547 : decode cL_tick 547 = .ok (.iaload, 1) := by decide +kernel
theorem dL_tick_548 : decode cL_tick 548 = .ok (.iadd, 1) := by decide +kernel
theorem dL_tick_549 : decode cL_tick 549 = .ok (.iastore, 1) := by decide +kernel
theorem dL_tick_550 : decode cL_tick 550 = .ok (.aload 4, 2) := by decide +kernel
theorem dL_tick_552 : decode cL_tick 552 = .ok (.iload 10, 2) := by decide +kernel
theorem dL_tick_554 : decode cL_tick 554 = .ok (.iaload, 1) := by decide +kernel
theorem dL_tick_555 : decode cL_tick 555 = .ok (.aload_n 2, 1) := by decide +kernel
theorem dL_tick_556 : decode cL_tick 556 = .ok (.iload 10, 2) := by decide +kernel
theorem dL_tick_558 : decode cL_tick 558 = .ok (.iaload, 1) := by decide +kernel
theorem dL_tick_559 : decode cL_tick 559 = .ok (.if_icmp .le 20, 3) := by decide +kernel
theorem dL_tick_562 : decode cL_tick 562 = .ok (.iload 10, 2) := by decide +kernel
theorem dL_tick_564 : decode cL_tick 564 = .ok (.bipush 6, 2) := by decide +kernel
theorem dL_tick_566 : decode cL_tick 566 = .ok (.aload_n 0, 1) := by decide +kernel
theorem dL_tick_567 : decode cL_tick 567 = .ok (.aload_n 1, 1) := by decide +kernel
theorem dL_tick_568 : decode cL_tick 568 = .ok (.aload_n 3, 1) := by decide +kernel
theorem dL_tick_569 : decode cL_tick 569 = .ok (.aload 5, 2) := by decide +kernel
theorem dL_tick_571 : decode cL_tick 571 = .ok (.aload 7, 2) := by decide +kernel
theorem dL_tick_573 : decode cL_tick 573 = .ok (.invokestatic 67, 3) := by decide +kernel
theorem dL_tick_576 : decode cL_tick 576 = .ok (.goto 12, 3) := by decide +kernel
theorem dL_tick_579 : decode cL_tick 579 = .ok (.aload_n 1, 1) := by decide +kernel
theorem dL_tick_580 : decode cL_tick 580 = .ok (.iload 10, 2) := by decide +kernel
theorem dL_tick_582 : decode cL_tick 582 = .ok (.iconst 3, 1) := by decide +kernel
theorem dL_tick_583 : decode cL_tick 583 = .ok (.iconst 3, 1) := by decide +kernel
theorem dL_tick_584 : decode cL_tick 584 = .ok (.iconst 1, 1) := by decide +kernel
theorem dL_tick_585 : decode cL_tick 585 = .ok (.invokestatic 53, 3) := by decide +kernel
theorem dL_tick_588 : decode cL_tick 588 = .ok (.iinc 10 1, 3) := by decide +kernel
theorem dL_tick_591 : decode cL_tick 591 = .ok (.goto (-103), 3) := by decide +kernel
theorem dL_tick_594 : decode cL_tick 594 = .ok (.iinc 9 1, 3) := by decide +kernel
theorem dL_tick_597 : decode cL_tick 597 = .ok (.goto (-119), 3) := by decide +kernel
theorem dL_tick_600 : decode cL_tick 600 = .ok (.return_, 1) := by decide +kernel
theorem dL_sets_0 : decode cL_sets 0 = .ok (.iload_n 2, 1) := by decide +kernel
theorem dL_sets_1 : decode cL_sets 1 = .ok (.bipush 6, 2) := by decide +kernel
theorem dL_sets_3 : decode cL_sets 3 = .ok (.invokestatic 83, 3) := by decide +kernel
theorem dL_sets_6 : decode cL_sets 6 = .ok (.istore 5, 2) := by decide +kernel
theorem dL_sets_8 : decode cL_sets 8 = .ok (.iload_n 1, 1) := by decide +kernel
theorem dL_sets_9 : decode cL_sets 9 = .ok (.iconst 3, 1) := by decide +kernel
theorem dL_sets_10 : decode cL_sets 10 = .ok (.if_icmp .ge 199, 3) := by decide +kernel
theorem dL_sets_13 : decode cL_sets 13 = .ok (.iconst 1, 1) := by decide +kernel
theorem dL_sets_14 : decode cL_sets 14 = .ok (.iload_n 3, 1) := by decide +kernel
theorem dL_sets_15 : decode cL_sets 15 = .ok (.iload_n 3, 1) := by decide +kernel
theorem dL_sets_16 : decode cL_sets 16 = .ok (.bipush 96, 2) := by decide +kernel
theorem dL_sets_18 : decode cL_sets 18 = .ok (.iand, 1) := by decide +kernel
theorem dL_sets_19 : decode cL_sets 19 = .ok (.ifCond .ne 8, 3) := by decide +kernel
theorem dL_sets_22 : decode cL_sets 22 = .ok (.bipush 20, 2) := by decide +kernel
theorem dL_sets_24 : decode cL_sets 24 = .ok (.goto 4, 3) := by decide +kernel
theorem dL_sets_27 : decode cL_sets 27 = .ok (.iconst 4, 1) := by decide +kernel
theorem dL_sets_28 : decode cL_sets 28 = .ok (.invokestatic 83, 3) := by decide +kernel
theorem dL_sets_31 : decode cL_sets 31 = .ok (.iadd, 1) := by decide +kernel
theorem dL_sets_32 : decode cL_sets 32 = .ok (.istore 6, 2) := by decide +kernel
theorem dL_sets_34 : decode cL_sets 34 = .ok (.iload_n 2, 1) := by decide +kernel
theorem dL_sets_35 : decode cL_sets 35 = .ok (.bipush 48, 2) := by decide +kernel
theorem dL_sets_37 : decode cL_sets 37 = .ok (.iand, 1) := by decide +kernel
theorem dL_sets_38 : decode cL_sets 38 = .ok (.ifCond .ne 15, 3) := by decide +kernel
theorem dL_sets_41 : decode cL_sets 41 = .ok (.iload_n 3, 1) := by decide +kernel
theorem dL_sets_42 : decode cL_sets 42 = .ok (.bipush 7, 2) := by decide +kernel
theorem dL_sets_44 : decode cL_sets 44 = .ok (.ishr, 1) := by decide +kernel
theorem dL_sets_45 : decode cL_sets 45 = .ok (.bipush 21, 2) := by decide +kernel
theorem dL_sets_47 : decode cL_sets 47 = .ok (.invokestatic 83, 3) := by decide +kernel
theorem dL_sets_50 : decode cL_sets 50 = .ok (.goto 26, 3) := by decide +kernel
theorem dL_sets_53 : decode cL_sets 53 = .ok (.iload_n 2, 1) := by decide +kernel
theorem dL_sets_54 : decode cL_sets 54 = .ok (.bipush 48, 2) := by decide +kernel
theorem dL_sets_56 : decode cL_sets 56 = .ok (.iand, 1) := by decide +kernel
theorem dL_sets_57 : decode cL_sets 57 = .ok (.bipush 16, 2) := by decide +kernel
theorem dL_sets_59 : decode cL_sets 59 = .ok (.if_icmp .ne 16, 3) := by decide +kernel
theorem dL_sets_62 : decode cL_sets 62 = .ok (.iconst 1, 1) := by decide +kernel
theorem dL_sets_63 : decode cL_sets 63 = .ok (.iload_n 3, 1) := by decide +kernel
theorem dL_sets_64 : decode cL_sets 64 = .ok (.bipush 7, 2) := by decide +kernel
theorem dL_sets_66 : decode cL_sets 66 = .ok (.ishr, 1) := by decide +kernel
theorem dL_sets_67 : decode cL_sets 67 = .ok (.iconst 3, 1) := by decide +kernel
theorem dL_sets_68 : decode cL_sets 68 = .ok (.invokestatic 83, 3) := by decide +kernel
theorem dL_sets_71 : decode cL_sets 71 = .ok (.iadd, 1) := by decide +kernel
theorem dL_sets_72 : decode cL_sets 72 = .ok (.goto 4, 3) := by decide +kernel
theorem dL_sets_75 : decode cL_sets 75 = .ok (.iconst 0, 1) := by decide +kernel
theorem dL_sets_76 : decode cL_sets 76 = .ok (.istore 7, 2) := by decide +kernel
theorem dL_sets_78 : decode cL_sets 78 = .ok (.aload 4, 2) := by decide +kernel
theorem dL_sets_80 : decode cL_sets 80 = .ok (.bipush 10, 2) := by decide +kernel
theorem dL_sets_82 : decode cL_sets 82 = .ok (.iload 5, 2) := by decide +kernel
theorem dL_sets_84 : decode cL_sets 84 = .ok (.imul, 1) := by decide +kernel
theorem dL_sets_85 : decode cL_sets 85 = .ok (.iaload, 1) := by decide +kernel
theorem dL_sets_86 : decode cL_sets 86 = .ok (.istore 8, 2) := by decide +kernel
theorem dL_sets_88 : decode cL_sets 88 = .ok (.aload 4, 2) := by decide +kernel
theorem dL_sets_90 : decode cL_sets 90 = .ok (.bipush 10, 2) := by decide +kernel
theorem dL_sets_92 : decode cL_sets 92 = .ok (.iload 5, 2) := by decide +kernel
theorem dL_sets_94 : decode cL_sets 94 = .ok (.imul, 1) := by decide +kernel
theorem dL_sets_95 : decode cL_sets 95 = .ok (.iload 6, 2) := by decide +kernel
theorem dL_sets_97 : decode cL_sets 97 = .ok (.iastore, 1) := by decide +kernel
theorem dL_sets_98 : decode cL_sets 98 = .ok (.aload 4, 2) := by decide +kernel
theorem dL_sets_100 : decode cL_sets 100 = .ok (.bipush 10, 2) := by decide +kernel
theorem dL_sets_102 : decode cL_sets 102 = .ok (.iload 5, 2) := by decide +kernel
theorem dL_sets_104 : decode cL_sets 104 = .ok (.imul, 1) := by decide +kernel
theorem dL_sets_105 : decode cL_sets 105 = .ok (.iconst 1, 1) := by decide +kernel
theorem dL_sets_106 : decode cL_sets 106 = .ok (.iadd, 1) := by decide +kernel
theorem dL_sets_107 : decode cL_sets 107 = .ok (.iload 7, 2) := by decide +kernel
theorem dL_sets_109 : decode cL_sets 109 = .ok (.iastore, 1) := by decide +kernel
theorem dL_sets_110 : decode cL_sets 110 = .ok (.aload 4, 2) := by decide +kernel
theorem dL_sets_112 : decode cL_sets 112 = .ok (.bipush 10, 2) := by decide +kernel
theorem dL_sets_114 : decode cL_sets 114 = .ok (.iload 5, 2) := by decide +kernel
theorem dL_sets_116 : decode cL_sets 116 = .ok (.imul, 1) := by decide +kernel
theorem dL_sets_117 : decode cL_sets 117 = .ok (.iconst 2, 1) := by decide +kernel
theorem dL_sets_118 : decode cL_sets 118 = .ok (.iadd, 1) := by decide +kernel
theorem dL_sets_119 : decode cL_sets 119 = .ok (.iconst 0, 1) := by decide +kernel
theorem dL_sets_120 : decode cL_sets 120 = .ok (.iastore, 1) := by decide +kernel
theorem dL_sets_121 : decode cL_sets 121 = .ok (.aload_n 0, 1) := by decide +kernel
theorem dL_sets_122 : decode cL_sets 122 = .ok (.bipush 6, 2) := by decide +kernel
theorem dL_sets_124 : decode cL_sets 124 = .ok (.iconst 0, 1) := by decide +kernel
theorem dL_sets_125 : decode cL_sets 125 = .ok (.iconst 0, 1) := by decide +kernel
theorem dL_sets_126 : decode cL_sets 126 = .ok (.invokestatic 86, 3) := by decide +kernel
theorem dL_sets_129 : decode cL_sets 129 = .ok (.bipush (-71), 2) := by decide +kernel
theorem dL_sets_131 : decode cL_sets 131 = .ok (.if_icmp .ne 76, 3) := by decide +kernel
theorem dL_sets_134 : decode cL_sets 134 = .ok (.aload_n 0, 1) := by decide +kernel
theorem dL_sets_135 : decode cL_sets 135 = .ok (.iload 5, 2) := by decide +kernel
theorem dL_sets_137 : decode cL_sets 137 = .ok (.iconst 0, 1) := by decide +kernel
theorem dL_sets_138 : decode cL_sets 138 = .ok (.iconst 0, 1) := by decide +kernel
theorem dL_sets_139 : decode cL_sets 139 = .ok (.invokestatic 86, 3) := by decide +kernel
theorem dL_sets_142 : decode cL_sets 142 = .ok (.bipush (-72), 2) := by decide +kernel
theorem dL_sets_144 : decode cL_sets 144 = .ok (.if_icmp .ne 63, 3) := by decide +kernel
theorem dL_sets_147 : decode cL_sets 147 = .ok (.aload_n 0, 1) := by decide +kernel
theorem dL_sets_148 : decode cL_sets 148 = .ok (.iload 5, 2) := by decide +kernel
theorem dL_sets_150 : decode cL_sets 150 = .ok (.bipush 21, 2) := by decide +kernel
theorem dL_sets_152 : decode cL_sets 152 = .ok (.iconst 0, 1) := by decide +kernel
theorem dL_sets_153 : decode cL_sets 153 = .ok (.invokestatic 86, 3) := by decide +kernel
theorem dL_sets_156 : decode cL_sets 156 = .ok (.bipush (-72), 2) := by decide +kernel
theorem dL_sets_158 : decode cL_sets 158 = .ok (.if_icmp .ne 49, 3) := by decide +kernel
theorem dL_sets_161 : decode cL_sets 161 = .ok (.aload_n 0, 1) := by decide +kernel
theorem dL_sets_162 : decode cL_sets 162 = .ok (.iload 5, 2) := by decide +kernel
theorem dL_sets_164 : decode cL_sets 164 = .ok (.iconst 1, 1) := by decide +kernel
theorem dL_sets_165 : decode cL_sets 165 = .ok (.bipush 21, 2) := by decide +kernel
theorem dL_sets_167 : decode cL_sets 167 = .ok (.invokestatic 86, 3) := by decide +kernel
theorem dL_sets_170 : decode cL_sets 170 = .ok (.bipush (-72), 2) := by decide +kernel
theorem dL_sets_172 : decode cL_sets 172 = .ok (.if_icmp .ne 35, 3) := by decide +kernel
theorem dL_sets_175 : decode cL_sets 175 = .ok (.aload_n 0, 1) := by decide +kernel
theorem dL_sets_176 : decode cL_sets 176 = .ok (.iload 5, 2) := by decide +kernel
theorem dL_sets_178 : decode cL_sets 178 = .ok (.iconst 1, 1) := by decide +kernel
theorem dL_sets_179 : decode cL_sets 179 = .ok (.iconst (-1), 1) := by decide +kernel
theorem dL_sets_180 : decode cL_sets 180 = .ok (.invokestatic 86, 3) := by decide +kernel
theorem dL_sets_183 : decode cL_sets 183 = .ok (.bipush (-72), 2) := by decide +kernel
theorem dL_sets_185 : decode cL_sets 185 = .ok (.if_icmp .ne 22, 3) := by decide +kernel
theorem dL_sets_188 : decode cL_sets 188 = .ok (.aload_n 0, 1) := by decide +kernel
theorem dL_sets_189 : decode cL_sets 189 = .ok (.iload 5, 2) := by decide +kernel
theorem dL_sets_191 : decode cL_sets 191 = .ok (.iload 6, 2) := by decide +kernel
theorem dL_sets_193 : decode cL_sets 193 = .ok (.iload 7, 2) := by decide +kernel
