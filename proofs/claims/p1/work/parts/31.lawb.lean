noncomputable section
theorem d_law_18 : decode code 18 = .ok (.iload_n 3, 1) := by decide +kernel
theorem d_law_19 : decode code 19 = .ok (.aload_n 0, 1) := by decide +kernel
theorem d_law_20 : decode code 20 = .ok (.arraylength, 1) := by decide +kernel
theorem d_law_21 : decode code 21 = .ok (.iconst 5, 1) := by decide +kernel
theorem d_law_22 : decode code 22 = .ok (.isub, 1) := by decide +kernel
theorem d_law_23 : decode code 23 = .ok (.if_icmp .gt 1095, 3) := by decide +kernel
theorem d_law_164 : decode code 164 = .ok (.aload_n 1, 1) := by decide +kernel
theorem d_law_165 : decode code 165 = .ok (.aload_n 0, 1) := by decide +kernel
theorem d_law_166 : decode code 166 = .ok (.iload_n 3, 1) := by decide +kernel
theorem d_law_167 : decode code 167 = .ok (.iconst 1, 1) := by decide +kernel
theorem d_law_168 : decode code 168 = .ok (.iadd, 1) := by decide +kernel
theorem d_law_169 : decode code 169 = .ok (.iaload, 1) := by decide +kernel
theorem d_law_170 : decode code 170 = .ok (.invokevirtual 13, 3) := by decide +kernel
theorem d_law_173 : decode code 173 = .ok (.aload_n 2, 1) := by decide +kernel
theorem d_law_174 : decode code 174 = .ok (.aload_n 0, 1) := by decide +kernel
theorem d_law_175 : decode code 175 = .ok (.iload_n 3, 1) := by decide +kernel
theorem d_law_176 : decode code 176 = .ok (.iconst 1, 1) := by decide +kernel
theorem d_law_177 : decode code 177 = .ok (.iadd, 1) := by decide +kernel
theorem d_law_178 : decode code 178 = .ok (.iaload, 1) := by decide +kernel
theorem d_law_179 : decode code 179 = .ok (.invokevirtual 17, 3) := by decide +kernel
theorem d_law_182 : decode code 182 = .ok (.if_icmp .eq 930, 3) := by decide +kernel
theorem d_law_187 : decode code 187 = .ok (.aload_n 1, 1) := by decide +kernel
theorem d_law_188 : decode code 188 = .ok (.aload_n 0, 1) := by decide +kernel
theorem d_law_189 : decode code 189 = .ok (.iload_n 3, 1) := by decide +kernel
theorem d_law_190 : decode code 190 = .ok (.iconst 1, 1) := by decide +kernel
theorem d_law_191 : decode code 191 = .ok (.iadd, 1) := by decide +kernel
theorem d_law_192 : decode code 192 = .ok (.iaload, 1) := by decide +kernel
theorem d_law_193 : decode code 193 = .ok (.invokevirtual 18, 3) := by decide +kernel
theorem d_law_196 : decode code 196 = .ok (.aload_n 2, 1) := by decide +kernel
theorem d_law_197 : decode code 197 = .ok (.aload_n 0, 1) := by decide +kernel
theorem d_law_198 : decode code 198 = .ok (.iload_n 3, 1) := by decide +kernel
theorem d_law_199 : decode code 199 = .ok (.iconst 1, 1) := by decide +kernel
theorem d_law_200 : decode code 200 = .ok (.iadd, 1) := by decide +kernel
theorem d_law_201 : decode code 201 = .ok (.iaload, 1) := by decide +kernel
theorem d_law_202 : decode code 202 = .ok (.invokevirtual 21, 3) := by decide +kernel
theorem d_law_205 : decode code 205 = .ok (.if_icmp .eq 907, 3) := by decide +kernel
theorem d_law_210 : decode code 210 = .ok (.aload_n 1, 1) := by decide +kernel
theorem d_law_211 : decode code 211 = .ok (.invokevirtual 22, 3) := by decide +kernel
theorem d_law_214 : decode code 214 = .ok (.aload_n 2, 1) := by decide +kernel
theorem d_law_215 : decode code 215 = .ok (.invokevirtual 26, 3) := by decide +kernel
theorem d_law_218 : decode code 218 = .ok (.if_icmp .eq 894, 3) := by decide +kernel
theorem d_law_223 : decode code 223 = .ok (.aload_n 1, 1) := by decide +kernel
theorem d_law_224 : decode code 224 = .ok (.aload_n 0, 1) := by decide +kernel
theorem d_law_225 : decode code 225 = .ok (.iload_n 3, 1) := by decide +kernel
theorem d_law_226 : decode code 226 = .ok (.iconst 1, 1) := by decide +kernel
theorem d_law_227 : decode code 227 = .ok (.iadd, 1) := by decide +kernel
theorem d_law_228 : decode code 228 = .ok (.iaload, 1) := by decide +kernel
theorem d_law_229 : decode code 229 = .ok (.aload_n 0, 1) := by decide +kernel
theorem d_law_230 : decode code 230 = .ok (.iload_n 3, 1) := by decide +kernel
theorem d_law_231 : decode code 231 = .ok (.iconst 2, 1) := by decide +kernel
theorem d_law_232 : decode code 232 = .ok (.iadd, 1) := by decide +kernel
theorem d_law_233 : decode code 233 = .ok (.iaload, 1) := by decide +kernel
theorem d_law_234 : decode code 234 = .ok (.invokevirtual 27, 3) := by decide +kernel
theorem d_law_237 : decode code 237 = .ok (.aload_n 2, 1) := by decide +kernel
theorem d_law_238 : decode code 238 = .ok (.aload_n 0, 1) := by decide +kernel
theorem d_law_239 : decode code 239 = .ok (.iload_n 3, 1) := by decide +kernel
theorem d_law_240 : decode code 240 = .ok (.iconst 1, 1) := by decide +kernel
theorem d_law_241 : decode code 241 = .ok (.iadd, 1) := by decide +kernel
theorem d_law_242 : decode code 242 = .ok (.iaload, 1) := by decide +kernel
theorem d_law_243 : decode code 243 = .ok (.aload_n 0, 1) := by decide +kernel
theorem d_law_244 : decode code 244 = .ok (.iload_n 3, 1) := by decide +kernel
theorem d_law_245 : decode code 245 = .ok (.iconst 2, 1) := by decide +kernel
theorem d_law_246 : decode code 246 = .ok (.iadd, 1) := by decide +kernel
theorem d_law_247 : decode code 247 = .ok (.iaload, 1) := by decide +kernel
theorem d_law_248 : decode code 248 = .ok (.invokevirtual 31, 3) := by decide +kernel
theorem d_law_251 : decode code 251 = .ok (.if_icmp .eq 861, 3) := by decide +kernel
theorem d_law_256 : decode code 256 = .ok (.aload_n 1, 1) := by decide +kernel
theorem d_law_257 : decode code 257 = .ok (.aload_n 0, 1) := by decide +kernel
theorem d_law_258 : decode code 258 = .ok (.iload_n 3, 1) := by decide +kernel
theorem d_law_259 : decode code 259 = .ok (.iconst 1, 1) := by decide +kernel
theorem d_law_260 : decode code 260 = .ok (.iadd, 1) := by decide +kernel
theorem d_law_261 : decode code 261 = .ok (.iaload, 1) := by decide +kernel
theorem d_law_262 : decode code 262 = .ok (.aload_n 0, 1) := by decide +kernel
theorem d_law_263 : decode code 263 = .ok (.iload_n 3, 1) := by decide +kernel
theorem d_law_264 : decode code 264 = .ok (.iconst 2, 1) := by decide +kernel
theorem d_law_265 : decode code 265 = .ok (.iadd, 1) := by decide +kernel
theorem d_law_266 : decode code 266 = .ok (.iaload, 1) := by decide +kernel
theorem d_law_267 : decode code 267 = .ok (.invokevirtual 32, 3) := by decide +kernel
theorem d_law_270 : decode code 270 = .ok (.aload_n 2, 1) := by decide +kernel
theorem d_law_271 : decode code 271 = .ok (.aload_n 0, 1) := by decide +kernel
theorem d_law_272 : decode code 272 = .ok (.iload_n 3, 1) := by decide +kernel
theorem d_law_273 : decode code 273 = .ok (.iconst 1, 1) := by decide +kernel
theorem d_law_274 : decode code 274 = .ok (.iadd, 1) := by decide +kernel
theorem d_law_275 : decode code 275 = .ok (.iaload, 1) := by decide +kernel
theorem d_law_276 : decode code 276 = .ok (.aload_n 0, 1) := by decide +kernel
theorem d_law_277 : decode code 277 = .ok (.iload_n 3, 1) := by decide +kernel
theorem d_law_278 : decode code 278 = .ok (.iconst 2, 1) := by decide +kernel
theorem d_law_279 : decode code 279 = .ok (.iadd, 1) := by decide +kernel
theorem d_law_280 : decode code 280 = .ok (.iaload, 1) := by decide +kernel
theorem d_law_281 : decode code 281 = .ok (.invokevirtual 35, 3) := by decide +kernel
theorem d_law_284 : decode code 284 = .ok (.if_icmp .eq 828, 3) := by decide +kernel
theorem d_law_289 : decode code 289 = .ok (.aload_n 1, 1) := by decide +kernel
theorem d_law_290 : decode code 290 = .ok (.aload_n 0, 1) := by decide +kernel
theorem d_law_291 : decode code 291 = .ok (.iload_n 3, 1) := by decide +kernel
theorem d_law_292 : decode code 292 = .ok (.iconst 1, 1) := by decide +kernel
theorem d_law_293 : decode code 293 = .ok (.iadd, 1) := by decide +kernel
theorem d_law_294 : decode code 294 = .ok (.iaload, 1) := by decide +kernel
theorem d_law_295 : decode code 295 = .ok (.aload_n 0, 1) := by decide +kernel
theorem d_law_296 : decode code 296 = .ok (.iload_n 3, 1) := by decide +kernel
theorem d_law_297 : decode code 297 = .ok (.iconst 2, 1) := by decide +kernel
theorem d_law_298 : decode code 298 = .ok (.iadd, 1) := by decide +kernel
theorem d_law_299 : decode code 299 = .ok (.iaload, 1) := by decide +kernel
theorem d_law_300 : decode code 300 = .ok (.invokevirtual 36, 3) := by decide +kernel
theorem d_law_303 : decode code 303 = .ok (.aload_n 2, 1) := by decide +kernel
theorem d_law_304 : decode code 304 = .ok (.aload_n 0, 1) := by decide +kernel
theorem d_law_305 : decode code 305 = .ok (.iload_n 3, 1) := by decide +kernel
theorem d_law_306 : decode code 306 = .ok (.iconst 1, 1) := by decide +kernel
theorem d_law_307 : decode code 307 = .ok (.iadd, 1) := by decide +kernel
theorem d_law_308 : decode code 308 = .ok (.iaload, 1) := by decide +kernel
theorem d_law_309 : decode code 309 = .ok (.aload_n 0, 1) := by decide +kernel
theorem d_law_310 : decode code 310 = .ok (.iload_n 3, 1) := by decide +kernel
theorem d_law_311 : decode code 311 = .ok (.iconst 2, 1) := by decide +kernel
theorem d_law_312 : decode code 312 = .ok (.iadd, 1) := by decide +kernel
theorem d_law_313 : decode code 313 = .ok (.iaload, 1) := by decide +kernel
theorem d_law_314 : decode code 314 = .ok (.invokevirtual 39, 3) := by decide +kernel
theorem d_law_317 : decode code 317 = .ok (.if_icmp .eq 795, 3) := by decide +kernel
theorem d_law_322 : decode code 322 = .ok (.aload_n 1, 1) := by decide +kernel
theorem d_law_323 : decode code 323 = .ok (.aload_n 0, 1) := by decide +kernel
theorem d_law_324 : decode code 324 = .ok (.iload_n 3, 1) := by decide +kernel
theorem d_law_325 : decode code 325 = .ok (.iconst 1, 1) := by decide +kernel
theorem d_law_326 : decode code 326 = .ok (.iadd, 1) := by decide +kernel
theorem d_law_327 : decode code 327 = .ok (.iaload, 1) := by decide +kernel
theorem d_law_328 : decode code 328 = .ok (.aload_n 0, 1) := by decide +kernel
theorem d_law_329 : decode code 329 = .ok (.iload_n 3, 1) := by decide +kernel
theorem d_law_330 : decode code 330 = .ok (.iconst 2, 1) := by decide +kernel
theorem d_law_331 : decode code 331 = .ok (.iadd, 1) := by decide +kernel
theorem d_law_332 : decode code 332 = .ok (.iaload, 1) := by decide +kernel
theorem d_law_333 : decode code 333 = .ok (.invokevirtual 40, 3) := by decide +kernel
theorem d_law_336 : decode code 336 = .ok (.aload_n 2, 1) := by decide +kernel
theorem d_law_337 : decode code 337 = .ok (.aload_n 0, 1) := by decide +kernel
theorem d_law_338 : decode code 338 = .ok (.iload_n 3, 1) := by decide +kernel
theorem d_law_339 : decode code 339 = .ok (.iconst 1, 1) := by decide +kernel
theorem d_law_340 : decode code 340 = .ok (.iadd, 1) := by decide +kernel
theorem d_law_341 : decode code 341 = .ok (.iaload, 1) := by decide +kernel
theorem d_law_342 : decode code 342 = .ok (.aload_n 0, 1) := by decide +kernel
theorem d_law_343 : decode code 343 = .ok (.iload_n 3, 1) := by decide +kernel
theorem d_law_344 : decode code 344 = .ok (.iconst 2, 1) := by decide +kernel
theorem d_law_345 : decode code 345 = .ok (.iadd, 1) := by decide +kernel
theorem d_law_346 : decode code 346 = .ok (.iaload, 1) := by decide +kernel
theorem d_law_347 : decode code 347 = .ok (.invokevirtual 43, 3) := by decide +kernel
theorem d_law_350 : decode code 350 = .ok (.if_icmp .eq 762, 3) := by decide +kernel
theorem d_law_355 : decode code 355 = .ok (.aload_n 1, 1) := by decide +kernel
theorem d_law_356 : decode code 356 = .ok (.aload_n 0, 1) := by decide +kernel
theorem d_law_357 : decode code 357 = .ok (.iload_n 3, 1) := by decide +kernel
theorem d_law_358 : decode code 358 = .ok (.iconst 1, 1) := by decide +kernel
theorem d_law_359 : decode code 359 = .ok (.iadd, 1) := by decide +kernel
theorem d_law_360 : decode code 360 = .ok (.iaload, 1) := by decide +kernel
theorem d_law_361 : decode code 361 = .ok (.invokevirtual 44, 3) := by decide +kernel
theorem d_law_364 : decode code 364 = .ok (.aload_n 2, 1) := by decide +kernel
theorem d_law_365 : decode code 365 = .ok (.aload_n 0, 1) := by decide +kernel
theorem d_law_366 : decode code 366 = .ok (.iload_n 3, 1) := by decide +kernel
theorem d_law_367 : decode code 367 = .ok (.iconst 1, 1) := by decide +kernel
theorem d_law_368 : decode code 368 = .ok (.iadd, 1) := by decide +kernel
theorem d_law_369 : decode code 369 = .ok (.iaload, 1) := by decide +kernel
theorem d_law_370 : decode code 370 = .ok (.invokevirtual 47, 3) := by decide +kernel
theorem d_law_373 : decode code 373 = .ok (.if_icmp .eq 739, 3) := by decide +kernel
theorem d_law_378 : decode code 378 = .ok (.aload_n 1, 1) := by decide +kernel
theorem d_law_379 : decode code 379 = .ok (.invokevirtual 48, 3) := by decide +kernel
theorem d_law_382 : decode code 382 = .ok (.aload_n 2, 1) := by decide +kernel
theorem d_law_383 : decode code 383 = .ok (.invokevirtual 51, 3) := by decide +kernel
theorem d_law_386 : decode code 386 = .ok (.if_icmp .eq 726, 3) := by decide +kernel
theorem d_law_391 : decode code 391 = .ok (.aload_n 1, 1) := by decide +kernel
theorem d_law_392 : decode code 392 = .ok (.aload_n 0, 1) := by decide +kernel
theorem d_law_393 : decode code 393 = .ok (.iload_n 3, 1) := by decide +kernel
theorem d_law_394 : decode code 394 = .ok (.iconst 1, 1) := by decide +kernel
theorem d_law_395 : decode code 395 = .ok (.iadd, 1) := by decide +kernel
theorem d_law_396 : decode code 396 = .ok (.iaload, 1) := by decide +kernel
theorem d_law_397 : decode code 397 = .ok (.invokevirtual 52, 3) := by decide +kernel
theorem d_law_400 : decode code 400 = .ok (.aload_n 2, 1) := by decide +kernel
theorem d_law_401 : decode code 401 = .ok (.aload_n 0, 1) := by decide +kernel
theorem d_law_402 : decode code 402 = .ok (.iload_n 3, 1) := by decide +kernel
theorem d_law_403 : decode code 403 = .ok (.iconst 1, 1) := by decide +kernel
theorem d_law_404 : decode code 404 = .ok (.iadd, 1) := by decide +kernel
theorem d_law_405 : decode code 405 = .ok (.iaload, 1) := by decide +kernel
theorem d_law_406 : decode code 406 = .ok (.invokevirtual 55, 3) := by decide +kernel
theorem d_law_409 : decode code 409 = .ok (.if_icmp .eq 703, 3) := by decide +kernel
theorem d_law_477 : decode code 477 = .ok (.aload_n 1, 1) := by decide +kernel
theorem d_law_478 : decode code 478 = .ok (.aload_n 0, 1) := by decide +kernel
theorem d_law_479 : decode code 479 = .ok (.iload_n 3, 1) := by decide +kernel
theorem d_law_480 : decode code 480 = .ok (.iconst 1, 1) := by decide +kernel
theorem d_law_481 : decode code 481 = .ok (.iadd, 1) := by decide +kernel
theorem d_law_482 : decode code 482 = .ok (.iaload, 1) := by decide +kernel
theorem d_law_483 : decode code 483 = .ok (.invokevirtual 63, 3) := by decide +kernel
theorem d_law_486 : decode code 486 = .ok (.aload_n 2, 1) := by decide +kernel
theorem d_law_487 : decode code 487 = .ok (.aload_n 0, 1) := by decide +kernel
theorem d_law_488 : decode code 488 = .ok (.iload_n 3, 1) := by decide +kernel
theorem d_law_489 : decode code 489 = .ok (.iconst 1, 1) := by decide +kernel
theorem d_law_490 : decode code 490 = .ok (.iadd, 1) := by decide +kernel
theorem d_law_491 : decode code 491 = .ok (.iaload, 1) := by decide +kernel
theorem d_law_492 : decode code 492 = .ok (.invokevirtual 66, 3) := by decide +kernel
theorem d_law_495 : decode code 495 = .ok (.if_icmp .eq 617, 3) := by decide +kernel
theorem d_law_500 : decode code 500 = .ok (.aload_n 1, 1) := by decide +kernel
theorem d_law_501 : decode code 501 = .ok (.invokevirtual 67, 3) := by decide +kernel
theorem d_law_504 : decode code 504 = .ok (.aload_n 2, 1) := by decide +kernel
theorem d_law_505 : decode code 505 = .ok (.invokevirtual 70, 3) := by decide +kernel
theorem d_law_508 : decode code 508 = .ok (.if_icmp .eq 604, 3) := by decide +kernel
theorem d_law_513 : decode code 513 = .ok (.aload_n 1, 1) := by decide +kernel
theorem d_law_514 : decode code 514 = .ok (.aload_n 0, 1) := by decide +kernel
theorem d_law_515 : decode code 515 = .ok (.iload_n 3, 1) := by decide +kernel
theorem d_law_516 : decode code 516 = .ok (.iconst 1, 1) := by decide +kernel
theorem d_law_517 : decode code 517 = .ok (.iadd, 1) := by decide +kernel
theorem d_law_518 : decode code 518 = .ok (.iaload, 1) := by decide +kernel
theorem d_law_519 : decode code 519 = .ok (.aload_n 0, 1) := by decide +kernel
theorem d_law_520 : decode code 520 = .ok (.iload_n 3, 1) := by decide +kernel
theorem d_law_521 : decode code 521 = .ok (.iconst 2, 1) := by decide +kernel
theorem d_law_522 : decode code 522 = .ok (.iadd, 1) := by decide +kernel
theorem d_law_523 : decode code 523 = .ok (.iaload, 1) := by decide +kernel
theorem d_law_524 : decode code 524 = .ok (.invokevirtual 71, 3) := by decide +kernel
theorem d_law_527 : decode code 527 = .ok (.aload_n 2, 1) := by decide +kernel
theorem d_law_528 : decode code 528 = .ok (.aload_n 0, 1) := by decide +kernel
theorem d_law_529 : decode code 529 = .ok (.iload_n 3, 1) := by decide +kernel
theorem d_law_530 : decode code 530 = .ok (.iconst 1, 1) := by decide +kernel
theorem d_law_531 : decode code 531 = .ok (.iadd, 1) := by decide +kernel
theorem d_law_532 : decode code 532 = .ok (.iaload, 1) := by decide +kernel
theorem d_law_533 : decode code 533 = .ok (.aload_n 0, 1) := by decide +kernel
theorem d_law_534 : decode code 534 = .ok (.iload_n 3, 1) := by decide +kernel
theorem d_law_535 : decode code 535 = .ok (.iconst 2, 1) := by decide +kernel
theorem d_law_536 : decode code 536 = .ok (.iadd, 1) := by decide +kernel
theorem d_law_537 : decode code 537 = .ok (.iaload, 1) := by decide +kernel
theorem d_law_538 : decode code 538 = .ok (.invokevirtual 74, 3) := by decide +kernel
theorem d_law_541 : decode code 541 = .ok (.if_icmp .eq 571, 3) := by decide +kernel
theorem d_law_546 : decode code 546 = .ok (.aload_n 1, 1) := by decide +kernel
theorem d_law_547 : decode code 547 = .ok (.aload_n 0, 1) := by decide +kernel
theorem d_law_548 : decode code 548 = .ok (.iload_n 3, 1) := by decide +kernel
theorem d_law_549 : decode code 549 = .ok (.iconst 1, 1) := by decide +kernel
theorem d_law_550 : decode code 550 = .ok (.iadd, 1) := by decide +kernel
theorem d_law_551 : decode code 551 = .ok (.iaload, 1) := by decide +kernel
theorem d_law_552 : decode code 552 = .ok (.aload_n 0, 1) := by decide +kernel
theorem d_law_553 : decode code 553 = .ok (.iload_n 3, 1) := by decide +kernel
theorem d_law_554 : decode code 554 = .ok (.iconst 2, 1) := by decide +kernel
theorem d_law_555 : decode code 555 = .ok (.iadd, 1) := by decide +kernel
theorem d_law_556 : decode code 556 = .ok (.iaload, 1) := by decide +kernel
theorem d_law_557 : decode code 557 = .ok (.aload_n 0, 1) := by decide +kernel
theorem d_law_558 : decode code 558 = .ok (.iload_n 3, 1) := by decide +kernel
theorem d_law_559 : decode code 559 = .ok (.iconst 3, 1) := by decide +kernel
theorem d_law_560 : decode code 560 = .ok (.iadd, 1) := by decide +kernel
theorem d_law_561 : decode code 561 = .ok (.iaload, 1) := by decide +kernel
theorem d_law_562 : decode code 562 = .ok (.invokevirtual 75, 3) := by decide +kernel
theorem d_law_565 : decode code 565 = .ok (.aload_n 2, 1) := by decide +kernel
theorem d_law_566 : decode code 566 = .ok (.aload_n 0, 1) := by decide +kernel
theorem d_law_567 : decode code 567 = .ok (.iload_n 3, 1) := by decide +kernel
theorem d_law_568 : decode code 568 = .ok (.iconst 1, 1) := by decide +kernel
theorem d_law_569 : decode code 569 = .ok (.iadd, 1) := by decide +kernel
theorem d_law_570 : decode code 570 = .ok (.iaload, 1) := by decide +kernel
theorem d_law_571 : decode code 571 = .ok (.aload_n 0, 1) := by decide +kernel
theorem d_law_572 : decode code 572 = .ok (.iload_n 3, 1) := by decide +kernel
theorem d_law_573 : decode code 573 = .ok (.iconst 2, 1) := by decide +kernel
theorem d_law_574 : decode code 574 = .ok (.iadd, 1) := by decide +kernel
theorem d_law_575 : decode code 575 = .ok (.iaload, 1) := by decide +kernel
theorem d_law_576 : decode code 576 = .ok (.aload_n 0, 1) := by decide +kernel
theorem d_law_577 : decode code 577 = .ok (.iload_n 3, 1) := by decide +kernel
theorem d_law_578 : decode code 578 = .ok (.iconst 3, 1) := by decide +kernel
theorem d_law_579 : decode code 579 = .ok (.iadd, 1) := by decide +kernel
theorem d_law_580 : decode code 580 = .ok (.iaload, 1) := by decide +kernel
theorem d_law_581 : decode code 581 = .ok (.invokevirtual 79, 3) := by decide +kernel
theorem d_law_584 : decode code 584 = .ok (.if_icmp .eq 528, 3) := by decide +kernel
theorem d_law_589 : decode code 589 = .ok (.aload_n 1, 1) := by decide +kernel
theorem d_law_590 : decode code 590 = .ok (.aload_n 0, 1) := by decide +kernel
theorem d_law_591 : decode code 591 = .ok (.iload_n 3, 1) := by decide +kernel
theorem d_law_592 : decode code 592 = .ok (.iconst 1, 1) := by decide +kernel
theorem d_law_593 : decode code 593 = .ok (.iadd, 1) := by decide +kernel
theorem d_law_594 : decode code 594 = .ok (.iaload, 1) := by decide +kernel
theorem d_law_595 : decode code 595 = .ok (.aload_n 0, 1) := by decide +kernel
theorem d_law_596 : decode code 596 = .ok (.iload_n 3, 1) := by decide +kernel
theorem d_law_597 : decode code 597 = .ok (.iconst 2, 1) := by decide +kernel
theorem d_law_598 : decode code 598 = .ok (.iadd, 1) := by decide +kernel
theorem d_law_599 : decode code 599 = .ok (.iaload, 1) := by decide +kernel
theorem d_law_600 : decode code 600 = .ok (.invokevirtual 80, 3) := by decide +kernel
theorem d_law_603 : decode code 603 = .ok (.aload_n 2, 1) := by decide +kernel
theorem d_law_604 : decode code 604 = .ok (.aload_n 0, 1) := by decide +kernel
theorem d_law_605 : decode code 605 = .ok (.iload_n 3, 1) := by decide +kernel
theorem d_law_606 : decode code 606 = .ok (.iconst 1, 1) := by decide +kernel
theorem d_law_607 : decode code 607 = .ok (.iadd, 1) := by decide +kernel
theorem d_law_608 : decode code 608 = .ok (.iaload, 1) := by decide +kernel
theorem d_law_609 : decode code 609 = .ok (.aload_n 0, 1) := by decide +kernel
theorem d_law_610 : decode code 610 = .ok (.iload_n 3, 1) := by decide +kernel
theorem d_law_611 : decode code 611 = .ok (.iconst 2, 1) := by decide +kernel
theorem d_law_612 : decode code 612 = .ok (.iadd, 1) := by decide +kernel
theorem d_law_613 : decode code 613 = .ok (.iaload, 1) := by decide +kernel
theorem d_law_614 : decode code 614 = .ok (.invokevirtual 83, 3) := by decide +kernel
theorem d_law_617 : decode code 617 = .ok (.if_icmp .eq 495, 3) := by decide +kernel
theorem d_law_622 : decode code 622 = .ok (.aload_n 1, 1) := by decide +kernel
theorem d_law_623 : decode code 623 = .ok (.aload_n 0, 1) := by decide +kernel
theorem d_law_624 : decode code 624 = .ok (.iload_n 3, 1) := by decide +kernel
theorem d_law_625 : decode code 625 = .ok (.iconst 1, 1) := by decide +kernel
theorem d_law_626 : decode code 626 = .ok (.iadd, 1) := by decide +kernel
theorem d_law_627 : decode code 627 = .ok (.iaload, 1) := by decide +kernel
theorem d_law_628 : decode code 628 = .ok (.aload_n 0, 1) := by decide +kernel
theorem d_law_629 : decode code 629 = .ok (.iload_n 3, 1) := by decide +kernel
theorem d_law_630 : decode code 630 = .ok (.iconst 2, 1) := by decide +kernel
theorem d_law_631 : decode code 631 = .ok (.iadd, 1) := by decide +kernel
theorem d_law_632 : decode code 632 = .ok (.iaload, 1) := by decide +kernel
theorem d_law_633 : decode code 633 = .ok (.aload_n 0, 1) := by decide +kernel
theorem d_law_634 : decode code 634 = .ok (.iload_n 3, 1) := by decide +kernel
theorem d_law_635 : decode code 635 = .ok (.iconst 3, 1) := by decide +kernel
theorem d_law_636 : decode code 636 = .ok (.iadd, 1) := by decide +kernel
theorem d_law_637 : decode code 637 = .ok (.iaload, 1) := by decide +kernel
theorem d_law_638 : decode code 638 = .ok (.invokevirtual 84, 3) := by decide +kernel
theorem d_law_641 : decode code 641 = .ok (.aload_n 2, 1) := by decide +kernel
theorem d_law_642 : decode code 642 = .ok (.aload_n 0, 1) := by decide +kernel
theorem d_law_643 : decode code 643 = .ok (.iload_n 3, 1) := by decide +kernel
theorem d_law_644 : decode code 644 = .ok (.iconst 1, 1) := by decide +kernel
theorem d_law_645 : decode code 645 = .ok (.iadd, 1) := by decide +kernel
theorem d_law_646 : decode code 646 = .ok (.iaload, 1) := by decide +kernel
theorem d_law_647 : decode code 647 = .ok (.aload_n 0, 1) := by decide +kernel
theorem d_law_648 : decode code 648 = .ok (.iload_n 3, 1) := by decide +kernel
theorem d_law_649 : decode code 649 = .ok (.iconst 2, 1) := by decide +kernel
theorem d_law_650 : decode code 650 = .ok (.iadd, 1) := by decide +kernel
theorem d_law_651 : decode code 651 = .ok (.iaload, 1) := by decide +kernel
theorem d_law_652 : decode code 652 = .ok (.aload_n 0, 1) := by decide +kernel
theorem d_law_653 : decode code 653 = .ok (.iload_n 3, 1) := by decide +kernel
theorem d_law_654 : decode code 654 = .ok (.iconst 3, 1) := by decide +kernel
theorem d_law_655 : decode code 655 = .ok (.iadd, 1) := by decide +kernel
theorem d_law_656 : decode code 656 = .ok (.iaload, 1) := by decide +kernel
theorem d_law_657 : decode code 657 = .ok (.invokevirtual 87, 3) := by decide +kernel
theorem d_law_660 : decode code 660 = .ok (.if_icmp .eq 452, 3) := by decide +kernel
theorem d_law_665 : decode code 665 = .ok (.aload_n 1, 1) := by decide +kernel
theorem d_law_666 : decode code 666 = .ok (.aload_n 0, 1) := by decide +kernel
theorem d_law_667 : decode code 667 = .ok (.iload_n 3, 1) := by decide +kernel
theorem d_law_668 : decode code 668 = .ok (.iconst 1, 1) := by decide +kernel
theorem d_law_669 : decode code 669 = .ok (.iadd, 1) := by decide +kernel
theorem d_law_670 : decode code 670 = .ok (.iaload, 1) := by decide +kernel
theorem d_law_671 : decode code 671 = .ok (.aload_n 0, 1) := by decide +kernel
theorem d_law_672 : decode code 672 = .ok (.iload_n 3, 1) := by decide +kernel
theorem d_law_673 : decode code 673 = .ok (.iconst 2, 1) := by decide +kernel
theorem d_law_674 : decode code 674 = .ok (.iadd, 1) := by decide +kernel
theorem d_law_675 : decode code 675 = .ok (.iaload, 1) := by decide +kernel
theorem d_law_676 : decode code 676 = .ok (.aload_n 0, 1) := by decide +kernel
theorem d_law_677 : decode code 677 = .ok (.iload_n 3, 1) := by decide +kernel
theorem d_law_678 : decode code 678 = .ok (.iconst 3, 1) := by decide +kernel
theorem d_law_679 : decode code 679 = .ok (.iadd, 1) := by decide +kernel
theorem d_law_680 : decode code 680 = .ok (.iaload, 1) := by decide +kernel
theorem d_law_681 : decode code 681 = .ok (.invokevirtual 88, 3) := by decide +kernel
theorem d_law_684 : decode code 684 = .ok (.aload_n 2, 1) := by decide +kernel
theorem d_law_685 : decode code 685 = .ok (.aload_n 0, 1) := by decide +kernel
theorem d_law_686 : decode code 686 = .ok (.iload_n 3, 1) := by decide +kernel
theorem d_law_687 : decode code 687 = .ok (.iconst 1, 1) := by decide +kernel
theorem d_law_688 : decode code 688 = .ok (.iadd, 1) := by decide +kernel
theorem d_law_689 : decode code 689 = .ok (.iaload, 1) := by decide +kernel
theorem d_law_690 : decode code 690 = .ok (.aload_n 0, 1) := by decide +kernel
theorem d_law_691 : decode code 691 = .ok (.iload_n 3, 1) := by decide +kernel
theorem d_law_692 : decode code 692 = .ok (.iconst 2, 1) := by decide +kernel
theorem d_law_693 : decode code 693 = .ok (.iadd, 1) := by decide +kernel
theorem d_law_694 : decode code 694 = .ok (.iaload, 1) := by decide +kernel
theorem d_law_695 : decode code 695 = .ok (.aload_n 0, 1) := by decide +kernel
theorem d_law_696 : decode code 696 = .ok (.iload_n 3, 1) := by decide +kernel
theorem d_law_697 : decode code 697 = .ok (.iconst 3, 1) := by decide +kernel
theorem d_law_698 : decode code 698 = .ok (.iadd, 1) := by decide +kernel
theorem d_law_699 : decode code 699 = .ok (.iaload, 1) := by decide +kernel
theorem d_law_700 : decode code 700 = .ok (.invokevirtual 91, 3) := by decide +kernel
theorem d_law_703 : decode code 703 = .ok (.if_icmp .eq 409, 3) := by decide +kernel
theorem d_law_708 : decode code 708 = .ok (.aload_n 1, 1) := by decide +kernel
theorem d_law_709 : decode code 709 = .ok (.aload_n 0, 1) := by decide +kernel
theorem d_law_710 : decode code 710 = .ok (.iload_n 3, 1) := by decide +kernel
theorem d_law_711 : decode code 711 = .ok (.iconst 1, 1) := by decide +kernel
theorem d_law_712 : decode code 712 = .ok (.iadd, 1) := by decide +kernel
theorem d_law_713 : decode code 713 = .ok (.iaload, 1) := by decide +kernel
theorem d_law_714 : decode code 714 = .ok (.aload_n 0, 1) := by decide +kernel
theorem d_law_715 : decode code 715 = .ok (.iload_n 3, 1) := by decide +kernel
theorem d_law_716 : decode code 716 = .ok (.iconst 2, 1) := by decide +kernel
theorem d_law_717 : decode code 717 = .ok (.iadd, 1) := by decide +kernel
theorem d_law_718 : decode code 718 = .ok (.iaload, 1) := by decide +kernel
theorem d_law_719 : decode code 719 = .ok (.aload_n 0, 1) := by decide +kernel
theorem d_law_720 : decode code 720 = .ok (.iload_n 3, 1) := by decide +kernel
theorem d_law_721 : decode code 721 = .ok (.iconst 3, 1) := by decide +kernel
theorem d_law_722 : decode code 722 = .ok (.iadd, 1) := by decide +kernel
theorem d_law_723 : decode code 723 = .ok (.iaload, 1) := by decide +kernel
theorem d_law_724 : decode code 724 = .ok (.invokevirtual 92, 3) := by decide +kernel
theorem d_law_727 : decode code 727 = .ok (.aload_n 2, 1) := by decide +kernel
theorem d_law_728 : decode code 728 = .ok (.aload_n 0, 1) := by decide +kernel
theorem d_law_729 : decode code 729 = .ok (.iload_n 3, 1) := by decide +kernel
theorem d_law_730 : decode code 730 = .ok (.iconst 1, 1) := by decide +kernel
theorem d_law_731 : decode code 731 = .ok (.iadd, 1) := by decide +kernel
theorem d_law_732 : decode code 732 = .ok (.iaload, 1) := by decide +kernel
theorem d_law_733 : decode code 733 = .ok (.aload_n 0, 1) := by decide +kernel
theorem d_law_734 : decode code 734 = .ok (.iload_n 3, 1) := by decide +kernel
theorem d_law_735 : decode code 735 = .ok (.iconst 2, 1) := by decide +kernel
theorem d_law_736 : decode code 736 = .ok (.iadd, 1) := by decide +kernel
theorem d_law_737 : decode code 737 = .ok (.iaload, 1) := by decide +kernel
theorem d_law_738 : decode code 738 = .ok (.aload_n 0, 1) := by decide +kernel
theorem d_law_739 : decode code 739 = .ok (.iload_n 3, 1) := by decide +kernel
theorem d_law_740 : decode code 740 = .ok (.iconst 3, 1) := by decide +kernel
theorem d_law_741 : decode code 741 = .ok (.iadd, 1) := by decide +kernel
theorem d_law_742 : decode code 742 = .ok (.iaload, 1) := by decide +kernel
theorem d_law_743 : decode code 743 = .ok (.invokevirtual 95, 3) := by decide +kernel
theorem d_law_746 : decode code 746 = .ok (.if_icmp .eq 366, 3) := by decide +kernel
theorem d_law_751 : decode code 751 = .ok (.aload_n 1, 1) := by decide +kernel
theorem d_law_752 : decode code 752 = .ok (.aload_n 0, 1) := by decide +kernel
theorem d_law_753 : decode code 753 = .ok (.iload_n 3, 1) := by decide +kernel
theorem d_law_754 : decode code 754 = .ok (.iconst 1, 1) := by decide +kernel
theorem d_law_755 : decode code 755 = .ok (.iadd, 1) := by decide +kernel
theorem d_law_756 : decode code 756 = .ok (.iaload, 1) := by decide +kernel
theorem d_law_757 : decode code 757 = .ok (.aload_n 0, 1) := by decide +kernel
theorem d_law_758 : decode code 758 = .ok (.iload_n 3, 1) := by decide +kernel
theorem d_law_759 : decode code 759 = .ok (.iconst 2, 1) := by decide +kernel
theorem d_law_760 : decode code 760 = .ok (.iadd, 1) := by decide +kernel
theorem d_law_761 : decode code 761 = .ok (.iaload, 1) := by decide +kernel
theorem d_law_762 : decode code 762 = .ok (.invokevirtual 96, 3) := by decide +kernel
theorem d_law_765 : decode code 765 = .ok (.aload_n 2, 1) := by decide +kernel
theorem d_law_766 : decode code 766 = .ok (.aload_n 0, 1) := by decide +kernel
theorem d_law_767 : decode code 767 = .ok (.iload_n 3, 1) := by decide +kernel
theorem d_law_768 : decode code 768 = .ok (.iconst 1, 1) := by decide +kernel
theorem d_law_769 : decode code 769 = .ok (.iadd, 1) := by decide +kernel
theorem d_law_770 : decode code 770 = .ok (.iaload, 1) := by decide +kernel
theorem d_law_771 : decode code 771 = .ok (.aload_n 0, 1) := by decide +kernel
theorem d_law_772 : decode code 772 = .ok (.iload_n 3, 1) := by decide +kernel
theorem d_law_773 : decode code 773 = .ok (.iconst 2, 1) := by decide +kernel
theorem d_law_774 : decode code 774 = .ok (.iadd, 1) := by decide +kernel
theorem d_law_775 : decode code 775 = .ok (.iaload, 1) := by decide +kernel
theorem d_law_776 : decode code 776 = .ok (.invokevirtual 99, 3) := by decide +kernel
theorem d_law_779 : decode code 779 = .ok (.if_icmp .eq 333, 3) := by decide +kernel
theorem d_law_784 : decode code 784 = .ok (.aload_n 1, 1) := by decide +kernel
theorem d_law_785 : decode code 785 = .ok (.aload_n 0, 1) := by decide +kernel
theorem d_law_786 : decode code 786 = .ok (.iload_n 3, 1) := by decide +kernel
theorem d_law_787 : decode code 787 = .ok (.iconst 1, 1) := by decide +kernel
theorem d_law_788 : decode code 788 = .ok (.iadd, 1) := by decide +kernel
theorem d_law_789 : decode code 789 = .ok (.iaload, 1) := by decide +kernel
theorem d_law_790 : decode code 790 = .ok (.invokevirtual 100, 3) := by decide +kernel
theorem d_law_793 : decode code 793 = .ok (.aload_n 2, 1) := by decide +kernel
theorem d_law_794 : decode code 794 = .ok (.aload_n 0, 1) := by decide +kernel
theorem d_law_795 : decode code 795 = .ok (.iload_n 3, 1) := by decide +kernel
theorem d_law_796 : decode code 796 = .ok (.iconst 1, 1) := by decide +kernel
theorem d_law_797 : decode code 797 = .ok (.iadd, 1) := by decide +kernel
theorem d_law_798 : decode code 798 = .ok (.iaload, 1) := by decide +kernel
theorem d_law_799 : decode code 799 = .ok (.invokevirtual 103, 3) := by decide +kernel
theorem d_law_802 : decode code 802 = .ok (.if_icmp .eq 310, 3) := by decide +kernel
theorem d_law_807 : decode code 807 = .ok (.aload_n 1, 1) := by decide +kernel
theorem d_law_808 : decode code 808 = .ok (.aload_n 0, 1) := by decide +kernel
theorem d_law_809 : decode code 809 = .ok (.iload_n 3, 1) := by decide +kernel
theorem d_law_810 : decode code 810 = .ok (.iconst 1, 1) := by decide +kernel
theorem d_law_811 : decode code 811 = .ok (.iadd, 1) := by decide +kernel
theorem d_law_812 : decode code 812 = .ok (.iaload, 1) := by decide +kernel
theorem d_law_813 : decode code 813 = .ok (.aload_n 0, 1) := by decide +kernel
theorem d_law_814 : decode code 814 = .ok (.iload_n 3, 1) := by decide +kernel
theorem d_law_815 : decode code 815 = .ok (.iconst 2, 1) := by decide +kernel
theorem d_law_816 : decode code 816 = .ok (.iadd, 1) := by decide +kernel
theorem d_law_817 : decode code 817 = .ok (.iaload, 1) := by decide +kernel
theorem d_law_818 : decode code 818 = .ok (.invokevirtual 104, 3) := by decide +kernel
theorem d_law_821 : decode code 821 = .ok (.aload_n 2, 1) := by decide +kernel
theorem d_law_822 : decode code 822 = .ok (.aload_n 0, 1) := by decide +kernel
theorem d_law_823 : decode code 823 = .ok (.iload_n 3, 1) := by decide +kernel
theorem d_law_824 : decode code 824 = .ok (.iconst 1, 1) := by decide +kernel
theorem d_law_825 : decode code 825 = .ok (.iadd, 1) := by decide +kernel
theorem d_law_826 : decode code 826 = .ok (.iaload, 1) := by decide +kernel
theorem d_law_827 : decode code 827 = .ok (.aload_n 0, 1) := by decide +kernel
theorem d_law_828 : decode code 828 = .ok (.iload_n 3, 1) := by decide +kernel
theorem d_law_829 : decode code 829 = .ok (.iconst 2, 1) := by decide +kernel
theorem d_law_830 : decode code 830 = .ok (.iadd, 1) := by decide +kernel
theorem d_law_831 : decode code 831 = .ok (.iaload, 1) := by decide +kernel
theorem d_law_832 : decode code 832 = .ok (.invokevirtual 107, 3) := by decide +kernel
theorem d_law_835 : decode code 835 = .ok (.if_icmp .eq 277, 3) := by decide +kernel
theorem d_law_840 : decode code 840 = .ok (.aload_n 1, 1) := by decide +kernel
theorem d_law_841 : decode code 841 = .ok (.aload_n 0, 1) := by decide +kernel
theorem d_law_842 : decode code 842 = .ok (.iload_n 3, 1) := by decide +kernel
theorem d_law_843 : decode code 843 = .ok (.iconst 1, 1) := by decide +kernel
theorem d_law_844 : decode code 844 = .ok (.iadd, 1) := by decide +kernel
theorem d_law_845 : decode code 845 = .ok (.iaload, 1) := by decide +kernel
theorem d_law_846 : decode code 846 = .ok (.aload_n 0, 1) := by decide +kernel
theorem d_law_847 : decode code 847 = .ok (.iload_n 3, 1) := by decide +kernel
theorem d_law_848 : decode code 848 = .ok (.iconst 2, 1) := by decide +kernel
theorem d_law_849 : decode code 849 = .ok (.iadd, 1) := by decide +kernel
theorem d_law_850 : decode code 850 = .ok (.iaload, 1) := by decide +kernel
theorem d_law_851 : decode code 851 = .ok (.aload_n 0, 1) := by decide +kernel
theorem d_law_852 : decode code 852 = .ok (.iload_n 3, 1) := by decide +kernel
theorem d_law_853 : decode code 853 = .ok (.iconst 3, 1) := by decide +kernel
theorem d_law_854 : decode code 854 = .ok (.iadd, 1) := by decide +kernel
theorem d_law_855 : decode code 855 = .ok (.iaload, 1) := by decide +kernel
theorem d_law_856 : decode code 856 = .ok (.invokevirtual 108, 3) := by decide +kernel
theorem d_law_859 : decode code 859 = .ok (.aload_n 2, 1) := by decide +kernel
theorem d_law_860 : decode code 860 = .ok (.aload_n 0, 1) := by decide +kernel
theorem d_law_861 : decode code 861 = .ok (.iload_n 3, 1) := by decide +kernel
theorem d_law_862 : decode code 862 = .ok (.iconst 1, 1) := by decide +kernel
theorem d_law_863 : decode code 863 = .ok (.iadd, 1) := by decide +kernel
theorem d_law_864 : decode code 864 = .ok (.iaload, 1) := by decide +kernel
theorem d_law_865 : decode code 865 = .ok (.aload_n 0, 1) := by decide +kernel
theorem d_law_866 : decode code 866 = .ok (.iload_n 3, 1) := by decide +kernel
theorem d_law_867 : decode code 867 = .ok (.iconst 2, 1) := by decide +kernel
theorem d_law_868 : decode code 868 = .ok (.iadd, 1) := by decide +kernel
theorem d_law_869 : decode code 869 = .ok (.iaload, 1) := by decide +kernel
theorem d_law_870 : decode code 870 = .ok (.aload_n 0, 1) := by decide +kernel
theorem d_law_871 : decode code 871 = .ok (.iload_n 3, 1) := by decide +kernel
theorem d_law_872 : decode code 872 = .ok (.iconst 3, 1) := by decide +kernel
theorem d_law_873 : decode code 873 = .ok (.iadd, 1) := by decide +kernel
theorem d_law_874 : decode code 874 = .ok (.iaload, 1) := by decide +kernel
theorem d_law_875 : decode code 875 = .ok (.invokevirtual 111, 3) := by decide +kernel
theorem d_law_878 : decode code 878 = .ok (.if_icmp .eq 234, 3) := by decide +kernel
theorem d_law_883 : decode code 883 = .ok (.aload_n 1, 1) := by decide +kernel
theorem d_law_884 : decode code 884 = .ok (.aload_n 0, 1) := by decide +kernel
theorem d_law_885 : decode code 885 = .ok (.iload_n 3, 1) := by decide +kernel
theorem d_law_886 : decode code 886 = .ok (.iconst 1, 1) := by decide +kernel
theorem d_law_887 : decode code 887 = .ok (.iadd, 1) := by decide +kernel
theorem d_law_888 : decode code 888 = .ok (.iaload, 1) := by decide +kernel
theorem d_law_889 : decode code 889 = .ok (.aload_n 0, 1) := by decide +kernel
theorem d_law_890 : decode code 890 = .ok (.iload_n 3, 1) := by decide +kernel
theorem d_law_891 : decode code 891 = .ok (.iconst 2, 1) := by decide +kernel
theorem d_law_892 : decode code 892 = .ok (.iadd, 1) := by decide +kernel
theorem d_law_893 : decode code 893 = .ok (.iaload, 1) := by decide +kernel
theorem d_law_894 : decode code 894 = .ok (.invokevirtual 112, 3) := by decide +kernel
theorem d_law_897 : decode code 897 = .ok (.aload_n 2, 1) := by decide +kernel
theorem d_law_898 : decode code 898 = .ok (.aload_n 0, 1) := by decide +kernel
theorem d_law_899 : decode code 899 = .ok (.iload_n 3, 1) := by decide +kernel
theorem d_law_900 : decode code 900 = .ok (.iconst 1, 1) := by decide +kernel
theorem d_law_901 : decode code 901 = .ok (.iadd, 1) := by decide +kernel
theorem d_law_902 : decode code 902 = .ok (.iaload, 1) := by decide +kernel
theorem d_law_903 : decode code 903 = .ok (.aload_n 0, 1) := by decide +kernel
theorem d_law_904 : decode code 904 = .ok (.iload_n 3, 1) := by decide +kernel
theorem d_law_905 : decode code 905 = .ok (.iconst 2, 1) := by decide +kernel
theorem d_law_906 : decode code 906 = .ok (.iadd, 1) := by decide +kernel
theorem d_law_907 : decode code 907 = .ok (.iaload, 1) := by decide +kernel
theorem d_law_908 : decode code 908 = .ok (.invokevirtual 116, 3) := by decide +kernel
theorem d_law_911 : decode code 911 = .ok (.lcmp, 1) := by decide +kernel
theorem d_law_912 : decode code 912 = .ok (.ifCond .eq 200, 3) := by decide +kernel
theorem d_law_917 : decode code 917 = .ok (.aload_n 1, 1) := by decide +kernel
theorem d_law_918 : decode code 918 = .ok (.aload_n 0, 1) := by decide +kernel
theorem d_law_919 : decode code 919 = .ok (.iload_n 3, 1) := by decide +kernel
theorem d_law_920 : decode code 920 = .ok (.iconst 1, 1) := by decide +kernel
theorem d_law_921 : decode code 921 = .ok (.iadd, 1) := by decide +kernel
theorem d_law_922 : decode code 922 = .ok (.iaload, 1) := by decide +kernel
theorem d_law_923 : decode code 923 = .ok (.aload_n 0, 1) := by decide +kernel
theorem d_law_924 : decode code 924 = .ok (.iload_n 3, 1) := by decide +kernel
theorem d_law_925 : decode code 925 = .ok (.iconst 2, 1) := by decide +kernel
theorem d_law_926 : decode code 926 = .ok (.iadd, 1) := by decide +kernel
theorem d_law_927 : decode code 927 = .ok (.iaload, 1) := by decide +kernel
theorem d_law_928 : decode code 928 = .ok (.invokevirtual 117, 3) := by decide +kernel
theorem d_law_931 : decode code 931 = .ok (.aload_n 2, 1) := by decide +kernel
theorem d_law_932 : decode code 932 = .ok (.aload_n 0, 1) := by decide +kernel
theorem d_law_933 : decode code 933 = .ok (.iload_n 3, 1) := by decide +kernel
theorem d_law_934 : decode code 934 = .ok (.iconst 1, 1) := by decide +kernel
theorem d_law_935 : decode code 935 = .ok (.iadd, 1) := by decide +kernel
theorem d_law_936 : decode code 936 = .ok (.iaload, 1) := by decide +kernel
theorem d_law_937 : decode code 937 = .ok (.aload_n 0, 1) := by decide +kernel
theorem d_law_938 : decode code 938 = .ok (.iload_n 3, 1) := by decide +kernel
theorem d_law_939 : decode code 939 = .ok (.iconst 2, 1) := by decide +kernel
theorem d_law_940 : decode code 940 = .ok (.iadd, 1) := by decide +kernel
theorem d_law_941 : decode code 941 = .ok (.iaload, 1) := by decide +kernel
theorem d_law_942 : decode code 942 = .ok (.invokevirtual 120, 3) := by decide +kernel
theorem d_law_945 : decode code 945 = .ok (.if_icmp .eq 167, 3) := by decide +kernel
theorem d_law_950 : decode code 950 = .ok (.aload_n 1, 1) := by decide +kernel
theorem d_law_951 : decode code 951 = .ok (.aload_n 0, 1) := by decide +kernel
theorem d_law_952 : decode code 952 = .ok (.iload_n 3, 1) := by decide +kernel
theorem d_law_953 : decode code 953 = .ok (.iconst 1, 1) := by decide +kernel
theorem d_law_954 : decode code 954 = .ok (.iadd, 1) := by decide +kernel
theorem d_law_955 : decode code 955 = .ok (.iaload, 1) := by decide +kernel
theorem d_law_956 : decode code 956 = .ok (.aload_n 0, 1) := by decide +kernel
theorem d_law_957 : decode code 957 = .ok (.iload_n 3, 1) := by decide +kernel
theorem d_law_958 : decode code 958 = .ok (.iconst 2, 1) := by decide +kernel
theorem d_law_959 : decode code 959 = .ok (.iadd, 1) := by decide +kernel
theorem d_law_960 : decode code 960 = .ok (.iaload, 1) := by decide +kernel
theorem d_law_961 : decode code 961 = .ok (.invokevirtual 121, 3) := by decide +kernel
theorem d_law_964 : decode code 964 = .ok (.aload_n 2, 1) := by decide +kernel
theorem d_law_965 : decode code 965 = .ok (.aload_n 0, 1) := by decide +kernel
theorem d_law_966 : decode code 966 = .ok (.iload_n 3, 1) := by decide +kernel
theorem d_law_967 : decode code 967 = .ok (.iconst 1, 1) := by decide +kernel
theorem d_law_968 : decode code 968 = .ok (.iadd, 1) := by decide +kernel
theorem d_law_969 : decode code 969 = .ok (.iaload, 1) := by decide +kernel
theorem d_law_970 : decode code 970 = .ok (.aload_n 0, 1) := by decide +kernel
theorem d_law_971 : decode code 971 = .ok (.iload_n 3, 1) := by decide +kernel
theorem d_law_972 : decode code 972 = .ok (.iconst 2, 1) := by decide +kernel
theorem d_law_973 : decode code 973 = .ok (.iadd, 1) := by decide +kernel
theorem d_law_974 : decode code 974 = .ok (.iaload, 1) := by decide +kernel
theorem d_law_975 : decode code 975 = .ok (.invokevirtual 124, 3) := by decide +kernel
theorem d_law_978 : decode code 978 = .ok (.if_icmp .eq 134, 3) := by decide +kernel
theorem d_law_983 : decode code 983 = .ok (.aload_n 1, 1) := by decide +kernel
theorem d_law_984 : decode code 984 = .ok (.aload_n 0, 1) := by decide +kernel
theorem d_law_985 : decode code 985 = .ok (.iload_n 3, 1) := by decide +kernel
theorem d_law_986 : decode code 986 = .ok (.iconst 1, 1) := by decide +kernel
theorem d_law_987 : decode code 987 = .ok (.iadd, 1) := by decide +kernel
theorem d_law_988 : decode code 988 = .ok (.iaload, 1) := by decide +kernel
theorem d_law_989 : decode code 989 = .ok (.aload_n 0, 1) := by decide +kernel
theorem d_law_990 : decode code 990 = .ok (.iload_n 3, 1) := by decide +kernel
theorem d_law_991 : decode code 991 = .ok (.iconst 2, 1) := by decide +kernel
theorem d_law_992 : decode code 992 = .ok (.iadd, 1) := by decide +kernel
theorem d_law_993 : decode code 993 = .ok (.iaload, 1) := by decide +kernel
theorem d_law_994 : decode code 994 = .ok (.invokevirtual 125, 3) := by decide +kernel
theorem d_law_997 : decode code 997 = .ok (.aload_n 2, 1) := by decide +kernel
theorem d_law_998 : decode code 998 = .ok (.aload_n 0, 1) := by decide +kernel
theorem d_law_999 : decode code 999 = .ok (.iload_n 3, 1) := by decide +kernel
theorem d_law_1000 : decode code 1000 = .ok (.iconst 1, 1) := by decide +kernel
theorem d_law_1001 : decode code 1001 = .ok (.iadd, 1) := by decide +kernel
theorem d_law_1002 : decode code 1002 = .ok (.iaload, 1) := by decide +kernel
theorem d_law_1003 : decode code 1003 = .ok (.aload_n 0, 1) := by decide +kernel
theorem d_law_1004 : decode code 1004 = .ok (.iload_n 3, 1) := by decide +kernel
theorem d_law_1005 : decode code 1005 = .ok (.iconst 2, 1) := by decide +kernel
theorem d_law_1006 : decode code 1006 = .ok (.iadd, 1) := by decide +kernel
theorem d_law_1007 : decode code 1007 = .ok (.iaload, 1) := by decide +kernel
theorem d_law_1008 : decode code 1008 = .ok (.invokevirtual 128, 3) := by decide +kernel
theorem d_law_1011 : decode code 1011 = .ok (.if_icmp .eq 101, 3) := by decide +kernel
theorem d_law_1016 : decode code 1016 = .ok (.aload_n 1, 1) := by decide +kernel
theorem d_law_1017 : decode code 1017 = .ok (.aload_n 0, 1) := by decide +kernel
theorem d_law_1018 : decode code 1018 = .ok (.iload_n 3, 1) := by decide +kernel
theorem d_law_1019 : decode code 1019 = .ok (.iconst 1, 1) := by decide +kernel
theorem d_law_1020 : decode code 1020 = .ok (.iadd, 1) := by decide +kernel
theorem d_law_1021 : decode code 1021 = .ok (.iaload, 1) := by decide +kernel
theorem d_law_1022 : decode code 1022 = .ok (.aload_n 0, 1) := by decide +kernel
theorem d_law_1023 : decode code 1023 = .ok (.iload_n 3, 1) := by decide +kernel
theorem d_law_1024 : decode code 1024 = .ok (.iconst 2, 1) := by decide +kernel
theorem d_law_1025 : decode code 1025 = .ok (.iadd, 1) := by decide +kernel
theorem d_law_1026 : decode code 1026 = .ok (.iaload, 1) := by decide +kernel
theorem d_law_1027 : decode code 1027 = .ok (.aload_n 0, 1) := by decide +kernel
theorem d_law_1028 : decode code 1028 = .ok (.iload_n 3, 1) := by decide +kernel
theorem d_law_1029 : decode code 1029 = .ok (.iconst 3, 1) := by decide +kernel
theorem d_law_1030 : decode code 1030 = .ok (.iadd, 1) := by decide +kernel
theorem d_law_1031 : decode code 1031 = .ok (.iaload, 1) := by decide +kernel
theorem d_law_1032 : decode code 1032 = .ok (.aload_n 0, 1) := by decide +kernel
theorem d_law_1033 : decode code 1033 = .ok (.iload_n 3, 1) := by decide +kernel
theorem d_law_1034 : decode code 1034 = .ok (.iconst 4, 1) := by decide +kernel
theorem d_law_1035 : decode code 1035 = .ok (.iadd, 1) := by decide +kernel
theorem d_law_1036 : decode code 1036 = .ok (.iaload, 1) := by decide +kernel
theorem d_law_1037 : decode code 1037 = .ok (.invokevirtual 129, 3) := by decide +kernel
theorem d_law_1040 : decode code 1040 = .ok (.aload_n 2, 1) := by decide +kernel
theorem d_law_1041 : decode code 1041 = .ok (.aload_n 0, 1) := by decide +kernel
theorem d_law_1042 : decode code 1042 = .ok (.iload_n 3, 1) := by decide +kernel
theorem d_law_1043 : decode code 1043 = .ok (.iconst 1, 1) := by decide +kernel
theorem d_law_1044 : decode code 1044 = .ok (.iadd, 1) := by decide +kernel
theorem d_law_1045 : decode code 1045 = .ok (.iaload, 1) := by decide +kernel
theorem d_law_1046 : decode code 1046 = .ok (.aload_n 0, 1) := by decide +kernel
theorem d_law_1047 : decode code 1047 = .ok (.iload_n 3, 1) := by decide +kernel
theorem d_law_1048 : decode code 1048 = .ok (.iconst 2, 1) := by decide +kernel
theorem d_law_1049 : decode code 1049 = .ok (.iadd, 1) := by decide +kernel
theorem d_law_1050 : decode code 1050 = .ok (.iaload, 1) := by decide +kernel
theorem d_law_1051 : decode code 1051 = .ok (.aload_n 0, 1) := by decide +kernel
theorem d_law_1052 : decode code 1052 = .ok (.iload_n 3, 1) := by decide +kernel
theorem d_law_1053 : decode code 1053 = .ok (.iconst 3, 1) := by decide +kernel
theorem d_law_1054 : decode code 1054 = .ok (.iadd, 1) := by decide +kernel
theorem d_law_1055 : decode code 1055 = .ok (.iaload, 1) := by decide +kernel
theorem d_law_1056 : decode code 1056 = .ok (.aload_n 0, 1) := by decide +kernel
theorem d_law_1057 : decode code 1057 = .ok (.iload_n 3, 1) := by decide +kernel
theorem d_law_1058 : decode code 1058 = .ok (.iconst 4, 1) := by decide +kernel
theorem d_law_1059 : decode code 1059 = .ok (.iadd, 1) := by decide +kernel
theorem d_law_1060 : decode code 1060 = .ok (.iaload, 1) := by decide +kernel
theorem d_law_1061 : decode code 1061 = .ok (.invokevirtual 133, 3) := by decide +kernel
theorem d_law_1064 : decode code 1064 = .ok (.if_icmp .eq 48, 3) := by decide +kernel
theorem d_law_1069 : decode code 1069 = .ok (.aload_n 1, 1) := by decide +kernel
theorem d_law_1070 : decode code 1070 = .ok (.aload_n 0, 1) := by decide +kernel
theorem d_law_1071 : decode code 1071 = .ok (.iload_n 3, 1) := by decide +kernel
theorem d_law_1072 : decode code 1072 = .ok (.iconst 1, 1) := by decide +kernel
theorem d_law_1073 : decode code 1073 = .ok (.iadd, 1) := by decide +kernel
theorem d_law_1074 : decode code 1074 = .ok (.iaload, 1) := by decide +kernel
theorem d_law_1075 : decode code 1075 = .ok (.aload_n 0, 1) := by decide +kernel
theorem d_law_1076 : decode code 1076 = .ok (.iload_n 3, 1) := by decide +kernel
theorem d_law_1077 : decode code 1077 = .ok (.iconst 2, 1) := by decide +kernel
theorem d_law_1078 : decode code 1078 = .ok (.iadd, 1) := by decide +kernel
theorem d_law_1079 : decode code 1079 = .ok (.iaload, 1) := by decide +kernel
theorem d_law_1080 : decode code 1080 = .ok (.aload_n 0, 1) := by decide +kernel
theorem d_law_1081 : decode code 1081 = .ok (.iload_n 3, 1) := by decide +kernel
theorem d_law_1082 : decode code 1082 = .ok (.iconst 3, 1) := by decide +kernel
theorem d_law_1083 : decode code 1083 = .ok (.iadd, 1) := by decide +kernel
theorem d_law_1084 : decode code 1084 = .ok (.iaload, 1) := by decide +kernel
theorem d_law_1085 : decode code 1085 = .ok (.invokevirtual 134, 3) := by decide +kernel
theorem d_law_1088 : decode code 1088 = .ok (.aload_n 2, 1) := by decide +kernel
theorem d_law_1089 : decode code 1089 = .ok (.aload_n 0, 1) := by decide +kernel
theorem d_law_1090 : decode code 1090 = .ok (.iload_n 3, 1) := by decide +kernel
theorem d_law_1091 : decode code 1091 = .ok (.iconst 1, 1) := by decide +kernel
theorem d_law_1092 : decode code 1092 = .ok (.iadd, 1) := by decide +kernel
theorem d_law_1093 : decode code 1093 = .ok (.iaload, 1) := by decide +kernel
theorem d_law_1094 : decode code 1094 = .ok (.aload_n 0, 1) := by decide +kernel
theorem d_law_1095 : decode code 1095 = .ok (.iload_n 3, 1) := by decide +kernel
theorem d_law_1096 : decode code 1096 = .ok (.iconst 2, 1) := by decide +kernel
theorem d_law_1097 : decode code 1097 = .ok (.iadd, 1) := by decide +kernel
theorem d_law_1098 : decode code 1098 = .ok (.iaload, 1) := by decide +kernel
theorem d_law_1099 : decode code 1099 = .ok (.aload_n 0, 1) := by decide +kernel
theorem d_law_1100 : decode code 1100 = .ok (.iload_n 3, 1) := by decide +kernel
theorem d_law_1101 : decode code 1101 = .ok (.iconst 3, 1) := by decide +kernel
theorem d_law_1102 : decode code 1102 = .ok (.iadd, 1) := by decide +kernel
theorem d_law_1103 : decode code 1103 = .ok (.iaload, 1) := by decide +kernel
theorem d_law_1104 : decode code 1104 = .ok (.invokevirtual 137, 3) := by decide +kernel
theorem d_law_1107 : decode code 1107 = .ok (.if_icmp .eq 5, 3) := by decide +kernel
theorem d_law_1112 : decode code 1112 = .ok (.iinc 3 5, 3) := by decide +kernel
theorem d_law_1115 : decode code 1115 = .ok (.goto (-1097), 3) := by decide +kernel
theorem d_law_1118 : decode code 1118 = .ok (.iconst 1, 1) := by decide +kernel
theorem d_law_1119 : decode code 1119 = .ok (.ireturn, 1) := by decide +kernel
theorem p1_in1 : vp_in (0 + 1) 5 := by unfold vp_in; decide
theorem p1_in2 : vp_in (0 + 2) 5 := by unfold vp_in; decide
theorem p1_in3 : vp_in (0 + 3) 5 := by unfold vp_in; decide
theorem p1_in4 : vp_in (0 + 4) 5 := by unfold vp_in; decide
theorem p1_eq_ok {v w : Value} (h : p1_eq v w = true) : ∃ a, v = .retAddr a ∧ w = .retAddr a := by
  unfold p1_eq at h
  split at h
  · split at h
    · rw [Nat.beq_eq] at h
      subst h
      exact ⟨_, rfl, rfl⟩
    · cases h
  · cases h
theorem p1_eqL_ok {v w : Value} (h : p1_eqL v w = true) : ∃ a, v = .long a ∧ w = .long a := by
  unfold p1_eqL at h
  split at h
  · split at h
    · rw [decide_eq_true_eq] at h
      subst h
      exact ⟨_, rfl, rfl⟩
    · cases h
  · cases h
abbrev p1_G (l : Launch) (s : State) (dC : Nat → ClassId) (dI : Nat → Nat → Nat) (aC : Nat → ClassId) (pl : Nat) (xs : Nat → Int32) : am_G := (l, s.heap.size, s.heap, dC, dI, aC, pl, fun i => xs (i + 1))
theorem p1_fin {p : Program} {e : Env} {s : State} {m : MethodId} {below : List Frame} {meth : Method} {c : Code} {b : Nat} {xs : Nat → Int32} {l : Launch} {dC : Nat → ClassId} {dI : Nat → Nat → Nat} {aC : Nat → ClassId} {pl : Nat} (C0 : lw_At p s m meth c b 5 xs) (hK : am_K (p1_G l s dC dI aC pl xs) s) {H : Heap} {locs : List Loc} {ls : Array Slot} {k n N : Nat} {h : am_H} (hW : am_W (p1_G l s dC dI aC pl xs) N h H) (hlo : ∀ q ∈ locs, s.heap.size ≤ q.base) (hk : k ≤ 600000) (hn : n ≤ 7302250) (hl : lv_has ls 4 [(3, .int 0), (2, .ref (s.heap.size + 106)), (1, .ref (s.heap.size + 0)), (0, .ref b)]) : W p l e room_1 s m #[Value.ref b] below meth c H locs k n (lw_Z below #[Value.ref b] s) (F0 m 1112 ls []) := by
  obtain ⟨hx, hb, hr, hml, hown, hts, hX, hbl, hlocks, hgv⟩ := C0
  have hS := am_S hK.2.1 hW hlo
  have hbA : ¬ (fun q : Nat => s.heap.size ≤ q) b := Nat.not_le.mpr hbl
  refine lv_iinc (v := 5) (lv' := [(3, .int 5), (2, .ref (s.heap.size + 106)), (1, .ref (s.heap.size + 0)), (0, .ref b)]) hx hb d_law_1112 hl (k := 0) rfl (by decide) (by decide) rfl (fun ls hl => ?_)
  refine lv_goto (tgt := 18) hx hb d_law_1115 (by decide) ?_
  refine lv_iload_n hx hb d_law_18 rfl (lv_at hl 0 rfl) ?_
  refine lv_aload_n hx hb d_law_19 rfl (lv_at hl 3 rfl) ?_
  refine va_slen hx hb hX hbl hbA hS d_law_20 ?_
  refine lv_iconst (v := 5) hx hb d_law_21 (by decide) ?_
  refine lv_isub hx hb d_law_22 ?_
  refine lv_icmp_gt (tgt := 1118) hx hb d_law_23 (by decide) (fun _ => ?_) (fun q => absurd (by decide) q)
  refine lv_iconst (v := 1) hx hb d_law_1118 (by decide) ?_
  refine va_forget hlo ?_
  refine W.widen hk hn ?_
  exact lw_ret hx hb hr hlocks d_law_1119
theorem p1_op0 {p : Program} {e : Env} {s : State} {m : MethodId} {below : List Frame} {meth : Method} {c : Code} {b : Nat} {xs : Nat → Int32} {l : Launch} {dC : Nat → ClassId} {dI : Nat → Nat → Nat} {aC : Nat → ClassId} {pl : Nat} (C0 : lw_At p s m meth c b 5 xs) (hK : am_K (p1_G l s dC dI aC pl xs) s) {H : Heap} {locs : List Loc} {ls : Array Slot} {n : Nat} (hW : am_W (p1_G l s dC dI aC pl xs) 122 (ri_h p1_lit) H) (hlo : ∀ q ∈ locs, s.heap.size ≤ q.base) (hn : n ≤ 1000000) (hl : lv_has ls 4 [(3, .int 0), (2, .ref (s.heap.size + 106)), (1, .ref (s.heap.size + 0)), (0, .ref b)]) : W p l e room_1 s m #[Value.ref b] below meth c H locs 122 n (lw_Z below #[Value.ref b] s) (F0 m 164 ls []) := by
  have C1 := C0
  obtain ⟨hx, hb, hr, hml, hown, hts, hX, hbl, hlocks, hgv⟩ := C0
  have hts2 := am_hts hts
  have hS := am_S hK.2.1 hW hlo
  have hbA : ¬ (fun q : Nat => s.heap.size ≤ q) b := Nat.not_le.mpr hbl
  obtain ⟨q1, f1, hchk⟩ := p1_u1 p1_k0 (by decide +kernel) (xs 1)
  have hE : am_Env (p1_G l s dC dI aC pl xs) [q1] := p1_env (fun j q hq => by
    match j, hq with
    | 0, hq => cases hq; exact f1
    | j + 1, hq => simp at hq)
  have hargs : (p1_vals 0 [q1]).map (am_cv (p1_G l s dC dI aC pl xs)) = [.int (xs 1)] := by
    simp only [p1_vals, List.map_cons, List.map_nil]
    rw [p1_val_cv (G := (p1_G l s dC dI aC pl xs)) (i := 0) (by decide) f1]
  have hlen : (p1_vals 0 [q1]).length = 1 := rfl
  obtain ⟨v, w, L3, L4, heq, hc9, g1, g2, g3, g4, c1, c2⟩ := p1_pair hchk hE
  refine lv_aload_n hx hb d_law_164 rfl (lv_at hl 2 rfl) ?_
  refine lv_aload_n hx hb d_law_165 rfl (lv_at hl 3 rfl) ?_
  refine lv_iload_n hx hb d_law_166 rfl (lv_at hl 0 rfl) ?_
  refine lv_iconst (v := 1) hx hb d_law_167 (by decide) ?_
  refine lv_iadd hx hb d_law_168 ?_
  refine va_sld hx hb hX hbl hbA hS (i := 0 + 1) p1_in1 d_law_169 ?_
  refine gw_callV (G := (p1_G l s dC dI aC pl xs)) (cc := code) (own := R_law) (nL := 4) (y2 := (ri_M 68).1) (n2 := (ri_M 68).2.1) (d2 := 20) (a := 0) (ci := 8) (q := (RX8, TX8, 13)) (as := p1_vals 0 [q1]) (rest := []) hx hb hml hown hts2 hK hW hlo hl.1 d_law_170 (ri_all 68).1 (by decide +kernel) ((ri_all 68).2.2.1 (by decide +kernel)).1 ((ri_all 68).2.2.1 (by decide +kernel)).2 rfl (by decide +kernel) (by decide) (ri_h_at (L := p1_lit) (a := 0) (e := .inr (8, _)) rfl) (by rw [hlen]; decide +kernel) (by decide) (by decide) (by decide) (by show _ ≤ 600000; omega) (by show _ ≤ 7302250; omega) c1 (by rw [hargs]; rfl) (fun r N2 h2 H locs hp hW hlo => ?_)
  obtain ⟨rfl, rfl, rfl⟩ := hp
  rw [g1] at hW
  have hS := am_S hK.2.1 hW hlo
  obtain ⟨a9, rfl, rfl⟩ : ∃ a9, v = .retAddr a9 ∧ w = .retAddr a9 := p1_eq_ok heq
  refine W.eq (g2 := F0 m 173 ls [.int (nI a9)]) rfl ?_
  refine lv_aload_n hx hb d_law_173 rfl (lv_at hl 1 rfl) ?_
  refine lv_aload_n hx hb d_law_174 rfl (lv_at hl 3 rfl) ?_
  refine lv_iload_n hx hb d_law_175 rfl (lv_at hl 0 rfl) ?_
  refine lv_iconst (v := 1) hx hb d_law_176 (by decide) ?_
  refine lv_iadd hx hb d_law_177 ?_
  refine va_sld hx hb hX hbl hbA hS (i := 0 + 1) p1_in1 d_law_178 ?_
  obtain ⟨fs9, hfs9⟩ : ∃ fs, ri_get L3.2.2 106 = some (.inr (9, fs)) := hc9
  refine gw_callV (G := (p1_G l s dC dI aC pl xs)) (cc := code) (own := R_law) (nL := 4) (y2 := (ri_M 113).1) (n2 := (ri_M 113).2.1) (d2 := 20) (a := 106) (ci := 9) (q := (RX9, TX9, 28)) (as := p1_vals 0 [q1]) (rest := [.int (nI a9)]) hx hb hml hown hts2 hK hW hlo hl.1 d_law_179 (ri_all 113).1 (by decide +kernel) ((ri_all 113).2.2.1 (by decide +kernel)).1 ((ri_all 113).2.2.1 (by decide +kernel)).2 rfl (by decide +kernel) (by decide) (ri_h_at hfs9) (by rw [hlen]; decide +kernel) (Nat.le_of_ble_eq_true rfl) (by decide) (by decide) (by show _ ≤ 600000; omega) (by show _ ≤ 7302250; omega) c2 (by rw [hargs]; rfl) (fun r N2 h2 H locs hp hW hlo => ?_)
  obtain ⟨rfl, rfl, rfl⟩ := hp
  refine W.eq (g2 := F0 m 182 ls [.int (nI a9), .int (nI a9)]) rfl ?_
  refine lv_icmp_eq (tgt := 1112) hx hb d_law_182 (by decide) (fun _ => ?_) (fun q => absurd rfl q)
  exact p1_fin C1 hK hW hlo (by omega) (by omega) hl
theorem p1_op1 {p : Program} {e : Env} {s : State} {m : MethodId} {below : List Frame} {meth : Method} {c : Code} {b : Nat} {xs : Nat → Int32} {l : Launch} {dC : Nat → ClassId} {dI : Nat → Nat → Nat} {aC : Nat → ClassId} {pl : Nat} (C0 : lw_At p s m meth c b 5 xs) (hK : am_K (p1_G l s dC dI aC pl xs) s) {H : Heap} {locs : List Loc} {ls : Array Slot} {n : Nat} (hW : am_W (p1_G l s dC dI aC pl xs) 122 (ri_h p1_lit) H) (hlo : ∀ q ∈ locs, s.heap.size ≤ q.base) (hn : n ≤ 1000000) (hl : lv_has ls 4 [(3, .int 0), (2, .ref (s.heap.size + 106)), (1, .ref (s.heap.size + 0)), (0, .ref b)]) : W p l e room_1 s m #[Value.ref b] below meth c H locs 122 n (lw_Z below #[Value.ref b] s) (F0 m 187 ls []) := by
  have C1 := C0
  obtain ⟨hx, hb, hr, hml, hown, hts, hX, hbl, hlocks, hgv⟩ := C0
  have hts2 := am_hts hts
  have hS := am_S hK.2.1 hW hlo
  have hbA : ¬ (fun q : Nat => s.heap.size ≤ q) b := Nat.not_le.mpr hbl
  obtain ⟨q1, f1, hchk⟩ := p1_u1 p1_k1 (by decide +kernel) (xs 1)
  have hE : am_Env (p1_G l s dC dI aC pl xs) [q1] := p1_env (fun j q hq => by
    match j, hq with
    | 0, hq => cases hq; exact f1
    | j + 1, hq => simp at hq)
  have hargs : (p1_vals 0 [q1]).map (am_cv (p1_G l s dC dI aC pl xs)) = [.int (xs 1)] := by
    simp only [p1_vals, List.map_cons, List.map_nil]
    rw [p1_val_cv (G := (p1_G l s dC dI aC pl xs)) (i := 0) (by decide) f1]
  have hlen : (p1_vals 0 [q1]).length = 1 := rfl
  obtain ⟨v, w, L3, L4, heq, hc9, g1, g2, g3, g4, c1, c2⟩ := p1_pair hchk hE
  refine lv_aload_n hx hb d_law_187 rfl (lv_at hl 2 rfl) ?_
  refine lv_aload_n hx hb d_law_188 rfl (lv_at hl 3 rfl) ?_
  refine lv_iload_n hx hb d_law_189 rfl (lv_at hl 0 rfl) ?_
  refine lv_iconst (v := 1) hx hb d_law_190 (by decide) ?_
  refine lv_iadd hx hb d_law_191 ?_
  refine va_sld hx hb hX hbl hbA hS (i := 0 + 1) p1_in1 d_law_192 ?_
  refine gw_callV (G := (p1_G l s dC dI aC pl xs)) (cc := code) (own := R_law) (nL := 4) (y2 := (ri_M 69).1) (n2 := (ri_M 69).2.1) (d2 := 20) (a := 0) (ci := 8) (q := (RX8, TX8, 13)) (as := p1_vals 0 [q1]) (rest := []) hx hb hml hown hts2 hK hW hlo hl.1 d_law_193 (ri_all 69).1 (by decide +kernel) ((ri_all 69).2.2.1 (by decide +kernel)).1 ((ri_all 69).2.2.1 (by decide +kernel)).2 rfl (by decide +kernel) (by decide) (ri_h_at (L := p1_lit) (a := 0) (e := .inr (8, _)) rfl) (by rw [hlen]; decide +kernel) (by decide) (by decide) (by decide) (by show _ ≤ 600000; omega) (by show _ ≤ 7302250; omega) c1 (by rw [hargs]; rfl) (fun r N2 h2 H locs hp hW hlo => ?_)
  obtain ⟨rfl, rfl, rfl⟩ := hp
  rw [g1] at hW
  have hS := am_S hK.2.1 hW hlo
  obtain ⟨a9, rfl, rfl⟩ : ∃ a9, v = .retAddr a9 ∧ w = .retAddr a9 := p1_eq_ok heq
  refine W.eq (g2 := F0 m 196 ls [.int (nI a9)]) rfl ?_
  refine lv_aload_n hx hb d_law_196 rfl (lv_at hl 1 rfl) ?_
  refine lv_aload_n hx hb d_law_197 rfl (lv_at hl 3 rfl) ?_
  refine lv_iload_n hx hb d_law_198 rfl (lv_at hl 0 rfl) ?_
  refine lv_iconst (v := 1) hx hb d_law_199 (by decide) ?_
  refine lv_iadd hx hb d_law_200 ?_
  refine va_sld hx hb hX hbl hbA hS (i := 0 + 1) p1_in1 d_law_201 ?_
  obtain ⟨fs9, hfs9⟩ : ∃ fs, ri_get L3.2.2 106 = some (.inr (9, fs)) := hc9
  refine gw_callV (G := (p1_G l s dC dI aC pl xs)) (cc := code) (own := R_law) (nL := 4) (y2 := (ri_M 116).1) (n2 := (ri_M 116).2.1) (d2 := 20) (a := 106) (ci := 9) (q := (RX9, TX9, 28)) (as := p1_vals 0 [q1]) (rest := [.int (nI a9)]) hx hb hml hown hts2 hK hW hlo hl.1 d_law_202 (ri_all 116).1 (by decide +kernel) ((ri_all 116).2.2.1 (by decide +kernel)).1 ((ri_all 116).2.2.1 (by decide +kernel)).2 rfl (by decide +kernel) (by decide) (ri_h_at hfs9) (by rw [hlen]; decide +kernel) (Nat.le_of_ble_eq_true rfl) (by decide) (by decide) (by show _ ≤ 600000; omega) (by show _ ≤ 7302250; omega) c2 (by rw [hargs]; rfl) (fun r N2 h2 H locs hp hW hlo => ?_)
  obtain ⟨rfl, rfl, rfl⟩ := hp
  refine W.eq (g2 := F0 m 205 ls [.int (nI a9), .int (nI a9)]) rfl ?_
  refine lv_icmp_eq (tgt := 1112) hx hb d_law_205 (by decide) (fun _ => ?_) (fun q => absurd rfl q)
  exact p1_fin C1 hK hW hlo (by omega) (by omega) hl
theorem p1_op2 {p : Program} {e : Env} {s : State} {m : MethodId} {below : List Frame} {meth : Method} {c : Code} {b : Nat} {xs : Nat → Int32} {l : Launch} {dC : Nat → ClassId} {dI : Nat → Nat → Nat} {aC : Nat → ClassId} {pl : Nat} (C0 : lw_At p s m meth c b 5 xs) (hK : am_K (p1_G l s dC dI aC pl xs) s) {H : Heap} {locs : List Loc} {ls : Array Slot} {n : Nat} (hW : am_W (p1_G l s dC dI aC pl xs) 122 (ri_h p1_lit) H) (hlo : ∀ q ∈ locs, s.heap.size ≤ q.base) (hn : n ≤ 1000000) (hl : lv_has ls 4 [(3, .int 0), (2, .ref (s.heap.size + 106)), (1, .ref (s.heap.size + 0)), (0, .ref b)]) : W p l e room_1 s m #[Value.ref b] below meth c H locs 122 n (lw_Z below #[Value.ref b] s) (F0 m 210 ls []) := by
  have C1 := C0
  obtain ⟨hx, hb, hr, hml, hown, hts, hX, hbl, hlocks, hgv⟩ := C0
  have hts2 := am_hts hts
  have hS := am_S hK.2.1 hW hlo
  have hbA : ¬ (fun q : Nat => s.heap.size ≤ q) b := Nat.not_le.mpr hbl
  have hchk : p1_chk 70 117 [] = true := p1_k2
  have hE : am_Env (p1_G l s dC dI aC pl xs) [] := p1_env (fun j q hq => by
    match j, hq with
    | j + 0, hq => simp at hq)
  have hargs : (p1_vals 0 []).map (am_cv (p1_G l s dC dI aC pl xs)) = [] := by
    rfl
  have hlen : (p1_vals 0 []).length = 0 := rfl
  obtain ⟨v, w, L3, L4, heq, hc9, g1, g2, g3, g4, c1, c2⟩ := p1_pair hchk hE
  refine lv_aload_n hx hb d_law_210 rfl (lv_at hl 2 rfl) ?_
  refine gw_callV (G := (p1_G l s dC dI aC pl xs)) (cc := code) (own := R_law) (nL := 4) (y2 := (ri_M 70).1) (n2 := (ri_M 70).2.1) (d2 := 20) (a := 0) (ci := 8) (q := (RX8, TX8, 13)) (as := p1_vals 0 []) (rest := []) hx hb hml hown hts2 hK hW hlo hl.1 d_law_211 (ri_all 70).1 (by decide +kernel) ((ri_all 70).2.2.1 (by decide +kernel)).1 ((ri_all 70).2.2.1 (by decide +kernel)).2 rfl (by decide +kernel) (by decide) (ri_h_at (L := p1_lit) (a := 0) (e := .inr (8, _)) rfl) (by rw [hlen]; decide +kernel) (by decide) (by decide) (by decide) (by show _ ≤ 600000; omega) (by show _ ≤ 7302250; omega) c1 (by rw [hargs]; rfl) (fun r N2 h2 H locs hp hW hlo => ?_)
  obtain ⟨rfl, rfl, rfl⟩ := hp
  rw [g1] at hW
  have hS := am_S hK.2.1 hW hlo
  obtain ⟨a9, rfl, rfl⟩ : ∃ a9, v = .retAddr a9 ∧ w = .retAddr a9 := p1_eq_ok heq
  refine W.eq (g2 := F0 m 214 ls [.int (nI a9)]) rfl ?_
  refine lv_aload_n hx hb d_law_214 rfl (lv_at hl 1 rfl) ?_
  obtain ⟨fs9, hfs9⟩ : ∃ fs, ri_get L3.2.2 106 = some (.inr (9, fs)) := hc9
  refine gw_callV (G := (p1_G l s dC dI aC pl xs)) (cc := code) (own := R_law) (nL := 4) (y2 := (ri_M 117).1) (n2 := (ri_M 117).2.1) (d2 := 20) (a := 106) (ci := 9) (q := (RX9, TX9, 28)) (as := p1_vals 0 []) (rest := [.int (nI a9)]) hx hb hml hown hts2 hK hW hlo hl.1 d_law_215 (ri_all 117).1 (by decide +kernel) ((ri_all 117).2.2.1 (by decide +kernel)).1 ((ri_all 117).2.2.1 (by decide +kernel)).2 rfl (by decide +kernel) (by decide) (ri_h_at hfs9) (by rw [hlen]; decide +kernel) (Nat.le_of_ble_eq_true rfl) (by decide) (by decide) (by show _ ≤ 600000; omega) (by show _ ≤ 7302250; omega) c2 (by rw [hargs]; rfl) (fun r N2 h2 H locs hp hW hlo => ?_)
  obtain ⟨rfl, rfl, rfl⟩ := hp
  refine W.eq (g2 := F0 m 218 ls [.int (nI a9), .int (nI a9)]) rfl ?_
  refine lv_icmp_eq (tgt := 1112) hx hb d_law_218 (by decide) (fun _ => ?_) (fun q => absurd rfl q)
  exact p1_fin C1 hK hW hlo (by omega) (by omega) hl
theorem p1_op3 {p : Program} {e : Env} {s : State} {m : MethodId} {below : List Frame} {meth : Method} {c : Code} {b : Nat} {xs : Nat → Int32} {l : Launch} {dC : Nat → ClassId} {dI : Nat → Nat → Nat} {aC : Nat → ClassId} {pl : Nat} (C0 : lw_At p s m meth c b 5 xs) (hK : am_K (p1_G l s dC dI aC pl xs) s) {H : Heap} {locs : List Loc} {ls : Array Slot} {n : Nat} (hW : am_W (p1_G l s dC dI aC pl xs) 122 (ri_h p1_lit) H) (hlo : ∀ q ∈ locs, s.heap.size ≤ q.base) (hn : n ≤ 1000000) (hl : lv_has ls 4 [(3, .int 0), (2, .ref (s.heap.size + 106)), (1, .ref (s.heap.size + 0)), (0, .ref b)]) : W p l e room_1 s m #[Value.ref b] below meth c H locs 122 n (lw_Z below #[Value.ref b] s) (F0 m 223 ls []) := by
  have C1 := C0
  obtain ⟨hx, hb, hr, hml, hown, hts, hX, hbl, hlocks, hgv⟩ := C0
  have hts2 := am_hts hts
  have hS := am_S hK.2.1 hW hlo
  have hbA : ¬ (fun q : Nat => s.heap.size ≤ q) b := Nat.not_le.mpr hbl
  obtain ⟨q1, q2, f1, f2, hchk⟩ := p1_u2 p1_k3 (by decide +kernel) (xs 1) (xs 2)
  have hE : am_Env (p1_G l s dC dI aC pl xs) [q1, q2] := p1_env (fun j q hq => by
    match j, hq with
    | 0, hq => cases hq; exact f1
    | 1, hq => cases hq; exact f2
    | j + 2, hq => simp at hq)
  have hargs : (p1_vals 0 [q1, q2]).map (am_cv (p1_G l s dC dI aC pl xs)) = [.int (xs 1), .int (xs 2)] := by
    simp only [p1_vals, List.map_cons, List.map_nil]
    rw [p1_val_cv (G := (p1_G l s dC dI aC pl xs)) (i := 0) (by decide) f1, p1_val_cv (G := (p1_G l s dC dI aC pl xs)) (i := 1) (by decide) f2]
  have hlen : (p1_vals 0 [q1, q2]).length = 2 := rfl
  obtain ⟨v, w, L3, L4, heq, hc9, g1, g2, g3, g4, c1, c2⟩ := p1_pair hchk hE
  refine lv_aload_n hx hb d_law_223 rfl (lv_at hl 2 rfl) ?_
  refine lv_aload_n hx hb d_law_224 rfl (lv_at hl 3 rfl) ?_
  refine lv_iload_n hx hb d_law_225 rfl (lv_at hl 0 rfl) ?_
  refine lv_iconst (v := 1) hx hb d_law_226 (by decide) ?_
  refine lv_iadd hx hb d_law_227 ?_
  refine va_sld hx hb hX hbl hbA hS (i := 0 + 1) p1_in1 d_law_228 ?_
  refine lv_aload_n hx hb d_law_229 rfl (lv_at hl 3 rfl) ?_
  refine lv_iload_n hx hb d_law_230 rfl (lv_at hl 0 rfl) ?_
  refine lv_iconst (v := 2) hx hb d_law_231 (by decide) ?_
  refine lv_iadd hx hb d_law_232 ?_
  refine va_sld hx hb hX hbl hbA hS (i := 0 + 2) p1_in2 d_law_233 ?_
  refine gw_callV (G := (p1_G l s dC dI aC pl xs)) (cc := code) (own := R_law) (nL := 4) (y2 := (ri_M 71).1) (n2 := (ri_M 71).2.1) (d2 := 20) (a := 0) (ci := 8) (q := (RX8, TX8, 13)) (as := p1_vals 0 [q1, q2]) (rest := []) hx hb hml hown hts2 hK hW hlo hl.1 d_law_234 (ri_all 71).1 (by decide +kernel) ((ri_all 71).2.2.1 (by decide +kernel)).1 ((ri_all 71).2.2.1 (by decide +kernel)).2 rfl (by decide +kernel) (by decide) (ri_h_at (L := p1_lit) (a := 0) (e := .inr (8, _)) rfl) (by rw [hlen]; decide +kernel) (by decide) (by decide) (by decide) (by show _ ≤ 600000; omega) (by show _ ≤ 7302250; omega) c1 (by rw [hargs]; rfl) (fun r N2 h2 H locs hp hW hlo => ?_)
  obtain ⟨rfl, rfl, rfl⟩ := hp
  rw [g1] at hW
  have hS := am_S hK.2.1 hW hlo
  obtain ⟨a9, rfl, rfl⟩ : ∃ a9, v = .retAddr a9 ∧ w = .retAddr a9 := p1_eq_ok heq
  refine W.eq (g2 := F0 m 237 ls [.int (nI a9)]) rfl ?_
  refine lv_aload_n hx hb d_law_237 rfl (lv_at hl 1 rfl) ?_
  refine lv_aload_n hx hb d_law_238 rfl (lv_at hl 3 rfl) ?_
  refine lv_iload_n hx hb d_law_239 rfl (lv_at hl 0 rfl) ?_
  refine lv_iconst (v := 1) hx hb d_law_240 (by decide) ?_
  refine lv_iadd hx hb d_law_241 ?_
  refine va_sld hx hb hX hbl hbA hS (i := 0 + 1) p1_in1 d_law_242 ?_
  refine lv_aload_n hx hb d_law_243 rfl (lv_at hl 3 rfl) ?_
  refine lv_iload_n hx hb d_law_244 rfl (lv_at hl 0 rfl) ?_
  refine lv_iconst (v := 2) hx hb d_law_245 (by decide) ?_
  refine lv_iadd hx hb d_law_246 ?_
  refine va_sld hx hb hX hbl hbA hS (i := 0 + 2) p1_in2 d_law_247 ?_
  obtain ⟨fs9, hfs9⟩ : ∃ fs, ri_get L3.2.2 106 = some (.inr (9, fs)) := hc9
  refine gw_callV (G := (p1_G l s dC dI aC pl xs)) (cc := code) (own := R_law) (nL := 4) (y2 := (ri_M 139).1) (n2 := (ri_M 139).2.1) (d2 := 20) (a := 106) (ci := 9) (q := (RX9, TX9, 28)) (as := p1_vals 0 [q1, q2]) (rest := [.int (nI a9)]) hx hb hml hown hts2 hK hW hlo hl.1 d_law_248 (ri_all 139).1 (by decide +kernel) ((ri_all 139).2.2.1 (by decide +kernel)).1 ((ri_all 139).2.2.1 (by decide +kernel)).2 rfl (by decide +kernel) (by decide) (ri_h_at hfs9) (by rw [hlen]; decide +kernel) (Nat.le_of_ble_eq_true rfl) (by decide) (by decide) (by show _ ≤ 600000; omega) (by show _ ≤ 7302250; omega) c2 (by rw [hargs]; rfl) (fun r N2 h2 H locs hp hW hlo => ?_)
  obtain ⟨rfl, rfl, rfl⟩ := hp
  refine W.eq (g2 := F0 m 251 ls [.int (nI a9), .int (nI a9)]) rfl ?_
  refine lv_icmp_eq (tgt := 1112) hx hb d_law_251 (by decide) (fun _ => ?_) (fun q => absurd rfl q)
  exact p1_fin C1 hK hW hlo (by omega) (by omega) hl
theorem p1_op4 {p : Program} {e : Env} {s : State} {m : MethodId} {below : List Frame} {meth : Method} {c : Code} {b : Nat} {xs : Nat → Int32} {l : Launch} {dC : Nat → ClassId} {dI : Nat → Nat → Nat} {aC : Nat → ClassId} {pl : Nat} (C0 : lw_At p s m meth c b 5 xs) (hK : am_K (p1_G l s dC dI aC pl xs) s) {H : Heap} {locs : List Loc} {ls : Array Slot} {n : Nat} (hW : am_W (p1_G l s dC dI aC pl xs) 122 (ri_h p1_lit) H) (hlo : ∀ q ∈ locs, s.heap.size ≤ q.base) (hn : n ≤ 1000000) (hl : lv_has ls 4 [(3, .int 0), (2, .ref (s.heap.size + 106)), (1, .ref (s.heap.size + 0)), (0, .ref b)]) : W p l e room_1 s m #[Value.ref b] below meth c H locs 122 n (lw_Z below #[Value.ref b] s) (F0 m 256 ls []) := by
  have C1 := C0
  obtain ⟨hx, hb, hr, hml, hown, hts, hX, hbl, hlocks, hgv⟩ := C0
  have hts2 := am_hts hts
  have hS := am_S hK.2.1 hW hlo
  have hbA : ¬ (fun q : Nat => s.heap.size ≤ q) b := Nat.not_le.mpr hbl
  obtain ⟨q1, q2, f1, f2, hchk⟩ := p1_u2 p1_k4 (by decide +kernel) (xs 1) (xs 2)
  have hE : am_Env (p1_G l s dC dI aC pl xs) [q1, q2] := p1_env (fun j q hq => by
    match j, hq with
    | 0, hq => cases hq; exact f1
    | 1, hq => cases hq; exact f2
    | j + 2, hq => simp at hq)
  have hargs : (p1_vals 0 [q1, q2]).map (am_cv (p1_G l s dC dI aC pl xs)) = [.int (xs 1), .int (xs 2)] := by
    simp only [p1_vals, List.map_cons, List.map_nil]
    rw [p1_val_cv (G := (p1_G l s dC dI aC pl xs)) (i := 0) (by decide) f1, p1_val_cv (G := (p1_G l s dC dI aC pl xs)) (i := 1) (by decide) f2]
  have hlen : (p1_vals 0 [q1, q2]).length = 2 := rfl
  obtain ⟨v, w, L3, L4, heq, hc9, g1, g2, g3, g4, c1, c2⟩ := p1_pair hchk hE
  refine lv_aload_n hx hb d_law_256 rfl (lv_at hl 2 rfl) ?_
  refine lv_aload_n hx hb d_law_257 rfl (lv_at hl 3 rfl) ?_
  refine lv_iload_n hx hb d_law_258 rfl (lv_at hl 0 rfl) ?_
  refine lv_iconst (v := 1) hx hb d_law_259 (by decide) ?_
  refine lv_iadd hx hb d_law_260 ?_
  refine va_sld hx hb hX hbl hbA hS (i := 0 + 1) p1_in1 d_law_261 ?_
  refine lv_aload_n hx hb d_law_262 rfl (lv_at hl 3 rfl) ?_
  refine lv_iload_n hx hb d_law_263 rfl (lv_at hl 0 rfl) ?_
  refine lv_iconst (v := 2) hx hb d_law_264 (by decide) ?_
  refine lv_iadd hx hb d_law_265 ?_
  refine va_sld hx hb hX hbl hbA hS (i := 0 + 2) p1_in2 d_law_266 ?_
  refine gw_callV (G := (p1_G l s dC dI aC pl xs)) (cc := code) (own := R_law) (nL := 4) (y2 := (ri_M 72).1) (n2 := (ri_M 72).2.1) (d2 := 20) (a := 0) (ci := 8) (q := (RX8, TX8, 13)) (as := p1_vals 0 [q1, q2]) (rest := []) hx hb hml hown hts2 hK hW hlo hl.1 d_law_267 (ri_all 72).1 (by decide +kernel) ((ri_all 72).2.2.1 (by decide +kernel)).1 ((ri_all 72).2.2.1 (by decide +kernel)).2 rfl (by decide +kernel) (by decide) (ri_h_at (L := p1_lit) (a := 0) (e := .inr (8, _)) rfl) (by rw [hlen]; decide +kernel) (by decide) (by decide) (by decide) (by show _ ≤ 600000; omega) (by show _ ≤ 7302250; omega) c1 (by rw [hargs]; rfl) (fun r N2 h2 H locs hp hW hlo => ?_)
  obtain ⟨rfl, rfl, rfl⟩ := hp
  rw [g1] at hW
  have hS := am_S hK.2.1 hW hlo
  obtain ⟨a9, rfl, rfl⟩ : ∃ a9, v = .retAddr a9 ∧ w = .retAddr a9 := p1_eq_ok heq
  refine W.eq (g2 := F0 m 270 ls [.int (nI a9)]) rfl ?_
  refine lv_aload_n hx hb d_law_270 rfl (lv_at hl 1 rfl) ?_
  refine lv_aload_n hx hb d_law_271 rfl (lv_at hl 3 rfl) ?_
  refine lv_iload_n hx hb d_law_272 rfl (lv_at hl 0 rfl) ?_
  refine lv_iconst (v := 1) hx hb d_law_273 (by decide) ?_
  refine lv_iadd hx hb d_law_274 ?_
  refine va_sld hx hb hX hbl hbA hS (i := 0 + 1) p1_in1 d_law_275 ?_
  refine lv_aload_n hx hb d_law_276 rfl (lv_at hl 3 rfl) ?_
  refine lv_iload_n hx hb d_law_277 rfl (lv_at hl 0 rfl) ?_
  refine lv_iconst (v := 2) hx hb d_law_278 (by decide) ?_
  refine lv_iadd hx hb d_law_279 ?_
  refine va_sld hx hb hX hbl hbA hS (i := 0 + 2) p1_in2 d_law_280 ?_
  obtain ⟨fs9, hfs9⟩ : ∃ fs, ri_get L3.2.2 106 = some (.inr (9, fs)) := hc9
  refine gw_callV (G := (p1_G l s dC dI aC pl xs)) (cc := code) (own := R_law) (nL := 4) (y2 := (ri_M 140).1) (n2 := (ri_M 140).2.1) (d2 := 20) (a := 106) (ci := 9) (q := (RX9, TX9, 28)) (as := p1_vals 0 [q1, q2]) (rest := [.int (nI a9)]) hx hb hml hown hts2 hK hW hlo hl.1 d_law_281 (ri_all 140).1 (by decide +kernel) ((ri_all 140).2.2.1 (by decide +kernel)).1 ((ri_all 140).2.2.1 (by decide +kernel)).2 rfl (by decide +kernel) (by decide) (ri_h_at hfs9) (by rw [hlen]; decide +kernel) (Nat.le_of_ble_eq_true rfl) (by decide) (by decide) (by show _ ≤ 600000; omega) (by show _ ≤ 7302250; omega) c2 (by rw [hargs]; rfl) (fun r N2 h2 H locs hp hW hlo => ?_)
  obtain ⟨rfl, rfl, rfl⟩ := hp
  refine W.eq (g2 := F0 m 284 ls [.int (nI a9), .int (nI a9)]) rfl ?_
  refine lv_icmp_eq (tgt := 1112) hx hb d_law_284 (by decide) (fun _ => ?_) (fun q => absurd rfl q)
  exact p1_fin C1 hK hW hlo (by omega) (by omega) hl
theorem p1_op5 {p : Program} {e : Env} {s : State} {m : MethodId} {below : List Frame} {meth : Method} {c : Code} {b : Nat} {xs : Nat → Int32} {l : Launch} {dC : Nat → ClassId} {dI : Nat → Nat → Nat} {aC : Nat → ClassId} {pl : Nat} (C0 : lw_At p s m meth c b 5 xs) (hK : am_K (p1_G l s dC dI aC pl xs) s) {H : Heap} {locs : List Loc} {ls : Array Slot} {n : Nat} (hW : am_W (p1_G l s dC dI aC pl xs) 122 (ri_h p1_lit) H) (hlo : ∀ q ∈ locs, s.heap.size ≤ q.base) (hn : n ≤ 1000000) (hl : lv_has ls 4 [(3, .int 0), (2, .ref (s.heap.size + 106)), (1, .ref (s.heap.size + 0)), (0, .ref b)]) : W p l e room_1 s m #[Value.ref b] below meth c H locs 122 n (lw_Z below #[Value.ref b] s) (F0 m 289 ls []) := by
  have C1 := C0
  obtain ⟨hx, hb, hr, hml, hown, hts, hX, hbl, hlocks, hgv⟩ := C0
  have hts2 := am_hts hts
  have hS := am_S hK.2.1 hW hlo
  have hbA : ¬ (fun q : Nat => s.heap.size ≤ q) b := Nat.not_le.mpr hbl
  obtain ⟨q1, q2, f1, f2, hchk⟩ := p1_u2 p1_k5 (by decide +kernel) (xs 1) (xs 2)
  have hE : am_Env (p1_G l s dC dI aC pl xs) [q1, q2] := p1_env (fun j q hq => by
    match j, hq with
    | 0, hq => cases hq; exact f1
    | 1, hq => cases hq; exact f2
    | j + 2, hq => simp at hq)
  have hargs : (p1_vals 0 [q1, q2]).map (am_cv (p1_G l s dC dI aC pl xs)) = [.int (xs 1), .int (xs 2)] := by
    simp only [p1_vals, List.map_cons, List.map_nil]
    rw [p1_val_cv (G := (p1_G l s dC dI aC pl xs)) (i := 0) (by decide) f1, p1_val_cv (G := (p1_G l s dC dI aC pl xs)) (i := 1) (by decide) f2]
  have hlen : (p1_vals 0 [q1, q2]).length = 2 := rfl
  obtain ⟨v, w, L3, L4, heq, hc9, g1, g2, g3, g4, c1, c2⟩ := p1_pair hchk hE
  refine lv_aload_n hx hb d_law_289 rfl (lv_at hl 2 rfl) ?_
  refine lv_aload_n hx hb d_law_290 rfl (lv_at hl 3 rfl) ?_
  refine lv_iload_n hx hb d_law_291 rfl (lv_at hl 0 rfl) ?_
  refine lv_iconst (v := 1) hx hb d_law_292 (by decide) ?_
  refine lv_iadd hx hb d_law_293 ?_
  refine va_sld hx hb hX hbl hbA hS (i := 0 + 1) p1_in1 d_law_294 ?_
  refine lv_aload_n hx hb d_law_295 rfl (lv_at hl 3 rfl) ?_
  refine lv_iload_n hx hb d_law_296 rfl (lv_at hl 0 rfl) ?_
  refine lv_iconst (v := 2) hx hb d_law_297 (by decide) ?_
  refine lv_iadd hx hb d_law_298 ?_
  refine va_sld hx hb hX hbl hbA hS (i := 0 + 2) p1_in2 d_law_299 ?_
  refine gw_callV (G := (p1_G l s dC dI aC pl xs)) (cc := code) (own := R_law) (nL := 4) (y2 := (ri_M 73).1) (n2 := (ri_M 73).2.1) (d2 := 20) (a := 0) (ci := 8) (q := (RX8, TX8, 13)) (as := p1_vals 0 [q1, q2]) (rest := []) hx hb hml hown hts2 hK hW hlo hl.1 d_law_300 (ri_all 73).1 (by decide +kernel) ((ri_all 73).2.2.1 (by decide +kernel)).1 ((ri_all 73).2.2.1 (by decide +kernel)).2 rfl (by decide +kernel) (by decide) (ri_h_at (L := p1_lit) (a := 0) (e := .inr (8, _)) rfl) (by rw [hlen]; decide +kernel) (by decide) (by decide) (by decide) (by show _ ≤ 600000; omega) (by show _ ≤ 7302250; omega) c1 (by rw [hargs]; rfl) (fun r N2 h2 H locs hp hW hlo => ?_)
  obtain ⟨rfl, rfl, rfl⟩ := hp
  rw [g1] at hW
  have hS := am_S hK.2.1 hW hlo
  obtain ⟨a9, rfl, rfl⟩ : ∃ a9, v = .retAddr a9 ∧ w = .retAddr a9 := p1_eq_ok heq
  refine W.eq (g2 := F0 m 303 ls [.int (nI a9)]) rfl ?_
  refine lv_aload_n hx hb d_law_303 rfl (lv_at hl 1 rfl) ?_
  refine lv_aload_n hx hb d_law_304 rfl (lv_at hl 3 rfl) ?_
  refine lv_iload_n hx hb d_law_305 rfl (lv_at hl 0 rfl) ?_
  refine lv_iconst (v := 1) hx hb d_law_306 (by decide) ?_
  refine lv_iadd hx hb d_law_307 ?_
  refine va_sld hx hb hX hbl hbA hS (i := 0 + 1) p1_in1 d_law_308 ?_
  refine lv_aload_n hx hb d_law_309 rfl (lv_at hl 3 rfl) ?_
  refine lv_iload_n hx hb d_law_310 rfl (lv_at hl 0 rfl) ?_
  refine lv_iconst (v := 2) hx hb d_law_311 (by decide) ?_
  refine lv_iadd hx hb d_law_312 ?_
  refine va_sld hx hb hX hbl hbA hS (i := 0 + 2) p1_in2 d_law_313 ?_
  obtain ⟨fs9, hfs9⟩ : ∃ fs, ri_get L3.2.2 106 = some (.inr (9, fs)) := hc9
  refine gw_callV (G := (p1_G l s dC dI aC pl xs)) (cc := code) (own := R_law) (nL := 4) (y2 := (ri_M 138).1) (n2 := (ri_M 138).2.1) (d2 := 20) (a := 106) (ci := 9) (q := (RX9, TX9, 28)) (as := p1_vals 0 [q1, q2]) (rest := [.int (nI a9)]) hx hb hml hown hts2 hK hW hlo hl.1 d_law_314 (ri_all 138).1 (by decide +kernel) ((ri_all 138).2.2.1 (by decide +kernel)).1 ((ri_all 138).2.2.1 (by decide +kernel)).2 rfl (by decide +kernel) (by decide) (ri_h_at hfs9) (by rw [hlen]; decide +kernel) (Nat.le_of_ble_eq_true rfl) (by decide) (by decide) (by show _ ≤ 600000; omega) (by show _ ≤ 7302250; omega) c2 (by rw [hargs]; rfl) (fun r N2 h2 H locs hp hW hlo => ?_)
  obtain ⟨rfl, rfl, rfl⟩ := hp
  refine W.eq (g2 := F0 m 317 ls [.int (nI a9), .int (nI a9)]) rfl ?_
  refine lv_icmp_eq (tgt := 1112) hx hb d_law_317 (by decide) (fun _ => ?_) (fun q => absurd rfl q)
  exact p1_fin C1 hK hW hlo (by omega) (by omega) hl
theorem p1_op6 {p : Program} {e : Env} {s : State} {m : MethodId} {below : List Frame} {meth : Method} {c : Code} {b : Nat} {xs : Nat → Int32} {l : Launch} {dC : Nat → ClassId} {dI : Nat → Nat → Nat} {aC : Nat → ClassId} {pl : Nat} (C0 : lw_At p s m meth c b 5 xs) (hK : am_K (p1_G l s dC dI aC pl xs) s) {H : Heap} {locs : List Loc} {ls : Array Slot} {n : Nat} (hW : am_W (p1_G l s dC dI aC pl xs) 122 (ri_h p1_lit) H) (hlo : ∀ q ∈ locs, s.heap.size ≤ q.base) (hn : n ≤ 1000000) (hl : lv_has ls 4 [(3, .int 0), (2, .ref (s.heap.size + 106)), (1, .ref (s.heap.size + 0)), (0, .ref b)]) : W p l e room_1 s m #[Value.ref b] below meth c H locs 122 n (lw_Z below #[Value.ref b] s) (F0 m 322 ls []) := by
  have C1 := C0
  obtain ⟨hx, hb, hr, hml, hown, hts, hX, hbl, hlocks, hgv⟩ := C0
  have hts2 := am_hts hts
  have hS := am_S hK.2.1 hW hlo
  have hbA : ¬ (fun q : Nat => s.heap.size ≤ q) b := Nat.not_le.mpr hbl
  obtain ⟨q1, q2, f1, f2, hchk⟩ := p1_u2 p1_k6 (by decide +kernel) (xs 1) (xs 2)
  have hE : am_Env (p1_G l s dC dI aC pl xs) [q1, q2] := p1_env (fun j q hq => by
    match j, hq with
    | 0, hq => cases hq; exact f1
    | 1, hq => cases hq; exact f2
    | j + 2, hq => simp at hq)
  have hargs : (p1_vals 0 [q1, q2]).map (am_cv (p1_G l s dC dI aC pl xs)) = [.int (xs 1), .int (xs 2)] := by
    simp only [p1_vals, List.map_cons, List.map_nil]
    rw [p1_val_cv (G := (p1_G l s dC dI aC pl xs)) (i := 0) (by decide) f1, p1_val_cv (G := (p1_G l s dC dI aC pl xs)) (i := 1) (by decide) f2]
  have hlen : (p1_vals 0 [q1, q2]).length = 2 := rfl
  obtain ⟨v, w, L3, L4, heq, hc9, g1, g2, g3, g4, c1, c2⟩ := p1_pair hchk hE
  refine lv_aload_n hx hb d_law_322 rfl (lv_at hl 2 rfl) ?_
  refine lv_aload_n hx hb d_law_323 rfl (lv_at hl 3 rfl) ?_
  refine lv_iload_n hx hb d_law_324 rfl (lv_at hl 0 rfl) ?_
  refine lv_iconst (v := 1) hx hb d_law_325 (by decide) ?_
  refine lv_iadd hx hb d_law_326 ?_
  refine va_sld hx hb hX hbl hbA hS (i := 0 + 1) p1_in1 d_law_327 ?_
  refine lv_aload_n hx hb d_law_328 rfl (lv_at hl 3 rfl) ?_
  refine lv_iload_n hx hb d_law_329 rfl (lv_at hl 0 rfl) ?_
  refine lv_iconst (v := 2) hx hb d_law_330 (by decide) ?_
  refine lv_iadd hx hb d_law_331 ?_
  refine va_sld hx hb hX hbl hbA hS (i := 0 + 2) p1_in2 d_law_332 ?_
  refine gw_callV (G := (p1_G l s dC dI aC pl xs)) (cc := code) (own := R_law) (nL := 4) (y2 := (ri_M 74).1) (n2 := (ri_M 74).2.1) (d2 := 20) (a := 0) (ci := 8) (q := (RX8, TX8, 13)) (as := p1_vals 0 [q1, q2]) (rest := []) hx hb hml hown hts2 hK hW hlo hl.1 d_law_333 (ri_all 74).1 (by decide +kernel) ((ri_all 74).2.2.1 (by decide +kernel)).1 ((ri_all 74).2.2.1 (by decide +kernel)).2 rfl (by decide +kernel) (by decide) (ri_h_at (L := p1_lit) (a := 0) (e := .inr (8, _)) rfl) (by rw [hlen]; decide +kernel) (by decide) (by decide) (by decide) (by show _ ≤ 600000; omega) (by show _ ≤ 7302250; omega) c1 (by rw [hargs]; rfl) (fun r N2 h2 H locs hp hW hlo => ?_)
  obtain ⟨rfl, rfl, rfl⟩ := hp
  rw [g1] at hW
  have hS := am_S hK.2.1 hW hlo
  obtain ⟨a9, rfl, rfl⟩ : ∃ a9, v = .retAddr a9 ∧ w = .retAddr a9 := p1_eq_ok heq
  refine W.eq (g2 := F0 m 336 ls [.int (nI a9)]) rfl ?_
  refine lv_aload_n hx hb d_law_336 rfl (lv_at hl 1 rfl) ?_
  refine lv_aload_n hx hb d_law_337 rfl (lv_at hl 3 rfl) ?_
  refine lv_iload_n hx hb d_law_338 rfl (lv_at hl 0 rfl) ?_
  refine lv_iconst (v := 1) hx hb d_law_339 (by decide) ?_
  refine lv_iadd hx hb d_law_340 ?_
  refine va_sld hx hb hX hbl hbA hS (i := 0 + 1) p1_in1 d_law_341 ?_
  refine lv_aload_n hx hb d_law_342 rfl (lv_at hl 3 rfl) ?_
  refine lv_iload_n hx hb d_law_343 rfl (lv_at hl 0 rfl) ?_
  refine lv_iconst (v := 2) hx hb d_law_344 (by decide) ?_
  refine lv_iadd hx hb d_law_345 ?_
  refine va_sld hx hb hX hbl hbA hS (i := 0 + 2) p1_in2 d_law_346 ?_
  obtain ⟨fs9, hfs9⟩ : ∃ fs, ri_get L3.2.2 106 = some (.inr (9, fs)) := hc9
  refine gw_callV (G := (p1_G l s dC dI aC pl xs)) (cc := code) (own := R_law) (nL := 4) (y2 := (ri_M 127).1) (n2 := (ri_M 127).2.1) (d2 := 20) (a := 106) (ci := 9) (q := (RX9, TX9, 28)) (as := p1_vals 0 [q1, q2]) (rest := [.int (nI a9)]) hx hb hml hown hts2 hK hW hlo hl.1 d_law_347 (ri_all 127).1 (by decide +kernel) ((ri_all 127).2.2.1 (by decide +kernel)).1 ((ri_all 127).2.2.1 (by decide +kernel)).2 rfl (by decide +kernel) (by decide) (ri_h_at hfs9) (by rw [hlen]; decide +kernel) (Nat.le_of_ble_eq_true rfl) (by decide) (by decide) (by show _ ≤ 600000; omega) (by show _ ≤ 7302250; omega) c2 (by rw [hargs]; rfl) (fun r N2 h2 H locs hp hW hlo => ?_)
  obtain ⟨rfl, rfl, rfl⟩ := hp
  refine W.eq (g2 := F0 m 350 ls [.int (nI a9), .int (nI a9)]) rfl ?_
  refine lv_icmp_eq (tgt := 1112) hx hb d_law_350 (by decide) (fun _ => ?_) (fun q => absurd rfl q)
  exact p1_fin C1 hK hW hlo (by omega) (by omega) hl
theorem p1_op7 {p : Program} {e : Env} {s : State} {m : MethodId} {below : List Frame} {meth : Method} {c : Code} {b : Nat} {xs : Nat → Int32} {l : Launch} {dC : Nat → ClassId} {dI : Nat → Nat → Nat} {aC : Nat → ClassId} {pl : Nat} (C0 : lw_At p s m meth c b 5 xs) (hK : am_K (p1_G l s dC dI aC pl xs) s) {H : Heap} {locs : List Loc} {ls : Array Slot} {n : Nat} (hW : am_W (p1_G l s dC dI aC pl xs) 122 (ri_h p1_lit) H) (hlo : ∀ q ∈ locs, s.heap.size ≤ q.base) (hn : n ≤ 1000000) (hl : lv_has ls 4 [(3, .int 0), (2, .ref (s.heap.size + 106)), (1, .ref (s.heap.size + 0)), (0, .ref b)]) : W p l e room_1 s m #[Value.ref b] below meth c H locs 122 n (lw_Z below #[Value.ref b] s) (F0 m 355 ls []) := by
  have C1 := C0
  obtain ⟨hx, hb, hr, hml, hown, hts, hX, hbl, hlocks, hgv⟩ := C0
  have hts2 := am_hts hts
  have hS := am_S hK.2.1 hW hlo
  have hbA : ¬ (fun q : Nat => s.heap.size ≤ q) b := Nat.not_le.mpr hbl
  obtain ⟨q1, f1, hchk⟩ := p1_u1 p1_k7 (by decide +kernel) (xs 1)
  have hE : am_Env (p1_G l s dC dI aC pl xs) [q1] := p1_env (fun j q hq => by
    match j, hq with
    | 0, hq => cases hq; exact f1
    | j + 1, hq => simp at hq)
  have hargs : (p1_vals 0 [q1]).map (am_cv (p1_G l s dC dI aC pl xs)) = [.int (xs 1)] := by
    simp only [p1_vals, List.map_cons, List.map_nil]
    rw [p1_val_cv (G := (p1_G l s dC dI aC pl xs)) (i := 0) (by decide) f1]
  have hlen : (p1_vals 0 [q1]).length = 1 := rfl
  obtain ⟨v, w, L3, L4, heq, hc9, g1, g2, g3, g4, c1, c2⟩ := p1_pair hchk hE
  refine lv_aload_n hx hb d_law_355 rfl (lv_at hl 2 rfl) ?_
  refine lv_aload_n hx hb d_law_356 rfl (lv_at hl 3 rfl) ?_
  refine lv_iload_n hx hb d_law_357 rfl (lv_at hl 0 rfl) ?_
  refine lv_iconst (v := 1) hx hb d_law_358 (by decide) ?_
  refine lv_iadd hx hb d_law_359 ?_
  refine va_sld hx hb hX hbl hbA hS (i := 0 + 1) p1_in1 d_law_360 ?_
  refine gw_callV (G := (p1_G l s dC dI aC pl xs)) (cc := code) (own := R_law) (nL := 4) (y2 := (ri_M 75).1) (n2 := (ri_M 75).2.1) (d2 := 20) (a := 0) (ci := 8) (q := (RX8, TX8, 13)) (as := p1_vals 0 [q1]) (rest := []) hx hb hml hown hts2 hK hW hlo hl.1 d_law_361 (ri_all 75).1 (by decide +kernel) ((ri_all 75).2.2.1 (by decide +kernel)).1 ((ri_all 75).2.2.1 (by decide +kernel)).2 rfl (by decide +kernel) (by decide) (ri_h_at (L := p1_lit) (a := 0) (e := .inr (8, _)) rfl) (by rw [hlen]; decide +kernel) (by decide) (by decide) (by decide) (by show _ ≤ 600000; omega) (by show _ ≤ 7302250; omega) c1 (by rw [hargs]; rfl) (fun r N2 h2 H locs hp hW hlo => ?_)
  obtain ⟨rfl, rfl, rfl⟩ := hp
  rw [g1] at hW
  have hS := am_S hK.2.1 hW hlo
  obtain ⟨a9, rfl, rfl⟩ : ∃ a9, v = .retAddr a9 ∧ w = .retAddr a9 := p1_eq_ok heq
  refine W.eq (g2 := F0 m 364 ls [.int (nI a9)]) rfl ?_
  refine lv_aload_n hx hb d_law_364 rfl (lv_at hl 1 rfl) ?_
  refine lv_aload_n hx hb d_law_365 rfl (lv_at hl 3 rfl) ?_
  refine lv_iload_n hx hb d_law_366 rfl (lv_at hl 0 rfl) ?_
  refine lv_iconst (v := 1) hx hb d_law_367 (by decide) ?_
  refine lv_iadd hx hb d_law_368 ?_
  refine va_sld hx hb hX hbl hbA hS (i := 0 + 1) p1_in1 d_law_369 ?_
  obtain ⟨fs9, hfs9⟩ : ∃ fs, ri_get L3.2.2 106 = some (.inr (9, fs)) := hc9
  refine gw_callV (G := (p1_G l s dC dI aC pl xs)) (cc := code) (own := R_law) (nL := 4) (y2 := (ri_M 141).1) (n2 := (ri_M 141).2.1) (d2 := 20) (a := 106) (ci := 9) (q := (RX9, TX9, 28)) (as := p1_vals 0 [q1]) (rest := [.int (nI a9)]) hx hb hml hown hts2 hK hW hlo hl.1 d_law_370 (ri_all 141).1 (by decide +kernel) ((ri_all 141).2.2.1 (by decide +kernel)).1 ((ri_all 141).2.2.1 (by decide +kernel)).2 rfl (by decide +kernel) (by decide) (ri_h_at hfs9) (by rw [hlen]; decide +kernel) (Nat.le_of_ble_eq_true rfl) (by decide) (by decide) (by show _ ≤ 600000; omega) (by show _ ≤ 7302250; omega) c2 (by rw [hargs]; rfl) (fun r N2 h2 H locs hp hW hlo => ?_)
  obtain ⟨rfl, rfl, rfl⟩ := hp
  refine W.eq (g2 := F0 m 373 ls [.int (nI a9), .int (nI a9)]) rfl ?_
  refine lv_icmp_eq (tgt := 1112) hx hb d_law_373 (by decide) (fun _ => ?_) (fun q => absurd rfl q)
  exact p1_fin C1 hK hW hlo (by omega) (by omega) hl
theorem p1_op8 {p : Program} {e : Env} {s : State} {m : MethodId} {below : List Frame} {meth : Method} {c : Code} {b : Nat} {xs : Nat → Int32} {l : Launch} {dC : Nat → ClassId} {dI : Nat → Nat → Nat} {aC : Nat → ClassId} {pl : Nat} (C0 : lw_At p s m meth c b 5 xs) (hK : am_K (p1_G l s dC dI aC pl xs) s) {H : Heap} {locs : List Loc} {ls : Array Slot} {n : Nat} (hW : am_W (p1_G l s dC dI aC pl xs) 122 (ri_h p1_lit) H) (hlo : ∀ q ∈ locs, s.heap.size ≤ q.base) (hn : n ≤ 1000000) (hl : lv_has ls 4 [(3, .int 0), (2, .ref (s.heap.size + 106)), (1, .ref (s.heap.size + 0)), (0, .ref b)]) : W p l e room_1 s m #[Value.ref b] below meth c H locs 122 n (lw_Z below #[Value.ref b] s) (F0 m 378 ls []) := by
  have C1 := C0
  obtain ⟨hx, hb, hr, hml, hown, hts, hX, hbl, hlocks, hgv⟩ := C0
  have hts2 := am_hts hts
  have hS := am_S hK.2.1 hW hlo
  have hbA : ¬ (fun q : Nat => s.heap.size ≤ q) b := Nat.not_le.mpr hbl
  have hchk : p1_chk 76 119 [] = true := p1_k8
  have hE : am_Env (p1_G l s dC dI aC pl xs) [] := p1_env (fun j q hq => by
    match j, hq with
    | j + 0, hq => simp at hq)
  have hargs : (p1_vals 0 []).map (am_cv (p1_G l s dC dI aC pl xs)) = [] := by
    rfl
  have hlen : (p1_vals 0 []).length = 0 := rfl
  obtain ⟨v, w, L3, L4, heq, hc9, g1, g2, g3, g4, c1, c2⟩ := p1_pair hchk hE
  refine lv_aload_n hx hb d_law_378 rfl (lv_at hl 2 rfl) ?_
  refine gw_callV (G := (p1_G l s dC dI aC pl xs)) (cc := code) (own := R_law) (nL := 4) (y2 := (ri_M 76).1) (n2 := (ri_M 76).2.1) (d2 := 20) (a := 0) (ci := 8) (q := (RX8, TX8, 13)) (as := p1_vals 0 []) (rest := []) hx hb hml hown hts2 hK hW hlo hl.1 d_law_379 (ri_all 76).1 (by decide +kernel) ((ri_all 76).2.2.1 (by decide +kernel)).1 ((ri_all 76).2.2.1 (by decide +kernel)).2 rfl (by decide +kernel) (by decide) (ri_h_at (L := p1_lit) (a := 0) (e := .inr (8, _)) rfl) (by rw [hlen]; decide +kernel) (by decide) (by decide) (by decide) (by show _ ≤ 600000; omega) (by show _ ≤ 7302250; omega) c1 (by rw [hargs]; rfl) (fun r N2 h2 H locs hp hW hlo => ?_)
  obtain ⟨rfl, rfl, rfl⟩ := hp
  rw [g1] at hW
  have hS := am_S hK.2.1 hW hlo
  obtain ⟨a9, rfl, rfl⟩ : ∃ a9, v = .retAddr a9 ∧ w = .retAddr a9 := p1_eq_ok heq
  refine W.eq (g2 := F0 m 382 ls [.int (nI a9)]) rfl ?_
  refine lv_aload_n hx hb d_law_382 rfl (lv_at hl 1 rfl) ?_
  obtain ⟨fs9, hfs9⟩ : ∃ fs, ri_get L3.2.2 106 = some (.inr (9, fs)) := hc9
  refine gw_callV (G := (p1_G l s dC dI aC pl xs)) (cc := code) (own := R_law) (nL := 4) (y2 := (ri_M 119).1) (n2 := (ri_M 119).2.1) (d2 := 20) (a := 106) (ci := 9) (q := (RX9, TX9, 28)) (as := p1_vals 0 []) (rest := [.int (nI a9)]) hx hb hml hown hts2 hK hW hlo hl.1 d_law_383 (ri_all 119).1 (by decide +kernel) ((ri_all 119).2.2.1 (by decide +kernel)).1 ((ri_all 119).2.2.1 (by decide +kernel)).2 rfl (by decide +kernel) (by decide) (ri_h_at hfs9) (by rw [hlen]; decide +kernel) (Nat.le_of_ble_eq_true rfl) (by decide) (by decide) (by show _ ≤ 600000; omega) (by show _ ≤ 7302250; omega) c2 (by rw [hargs]; rfl) (fun r N2 h2 H locs hp hW hlo => ?_)
  obtain ⟨rfl, rfl, rfl⟩ := hp
  refine W.eq (g2 := F0 m 386 ls [.int (nI a9), .int (nI a9)]) rfl ?_
  refine lv_icmp_eq (tgt := 1112) hx hb d_law_386 (by decide) (fun _ => ?_) (fun q => absurd rfl q)
  exact p1_fin C1 hK hW hlo (by omega) (by omega) hl
theorem p1_op9 {p : Program} {e : Env} {s : State} {m : MethodId} {below : List Frame} {meth : Method} {c : Code} {b : Nat} {xs : Nat → Int32} {l : Launch} {dC : Nat → ClassId} {dI : Nat → Nat → Nat} {aC : Nat → ClassId} {pl : Nat} (C0 : lw_At p s m meth c b 5 xs) (hK : am_K (p1_G l s dC dI aC pl xs) s) {H : Heap} {locs : List Loc} {ls : Array Slot} {n : Nat} (hW : am_W (p1_G l s dC dI aC pl xs) 122 (ri_h p1_lit) H) (hlo : ∀ q ∈ locs, s.heap.size ≤ q.base) (hn : n ≤ 1000000) (hl : lv_has ls 4 [(3, .int 0), (2, .ref (s.heap.size + 106)), (1, .ref (s.heap.size + 0)), (0, .ref b)]) : W p l e room_1 s m #[Value.ref b] below meth c H locs 122 n (lw_Z below #[Value.ref b] s) (F0 m 391 ls []) := by
  have C1 := C0
  obtain ⟨hx, hb, hr, hml, hown, hts, hX, hbl, hlocks, hgv⟩ := C0
  have hts2 := am_hts hts
  have hS := am_S hK.2.1 hW hlo
  have hbA : ¬ (fun q : Nat => s.heap.size ≤ q) b := Nat.not_le.mpr hbl
  obtain ⟨q1, f1, hchk⟩ := p1_u1 p1_k9 (by decide +kernel) (xs 1)
  have hE : am_Env (p1_G l s dC dI aC pl xs) [q1] := p1_env (fun j q hq => by
    match j, hq with
    | 0, hq => cases hq; exact f1
    | j + 1, hq => simp at hq)
  have hargs : (p1_vals 0 [q1]).map (am_cv (p1_G l s dC dI aC pl xs)) = [.int (xs 1)] := by
    simp only [p1_vals, List.map_cons, List.map_nil]
    rw [p1_val_cv (G := (p1_G l s dC dI aC pl xs)) (i := 0) (by decide) f1]
  have hlen : (p1_vals 0 [q1]).length = 1 := rfl
  obtain ⟨v, w, L3, L4, heq, hc9, g1, g2, g3, g4, c1, c2⟩ := p1_pair hchk hE
  refine lv_aload_n hx hb d_law_391 rfl (lv_at hl 2 rfl) ?_
  refine lv_aload_n hx hb d_law_392 rfl (lv_at hl 3 rfl) ?_
  refine lv_iload_n hx hb d_law_393 rfl (lv_at hl 0 rfl) ?_
  refine lv_iconst (v := 1) hx hb d_law_394 (by decide) ?_
  refine lv_iadd hx hb d_law_395 ?_
  refine va_sld hx hb hX hbl hbA hS (i := 0 + 1) p1_in1 d_law_396 ?_
  refine gw_callV (G := (p1_G l s dC dI aC pl xs)) (cc := code) (own := R_law) (nL := 4) (y2 := (ri_M 77).1) (n2 := (ri_M 77).2.1) (d2 := 20) (a := 0) (ci := 8) (q := (RX8, TX8, 13)) (as := p1_vals 0 [q1]) (rest := []) hx hb hml hown hts2 hK hW hlo hl.1 d_law_397 (ri_all 77).1 (by decide +kernel) ((ri_all 77).2.2.1 (by decide +kernel)).1 ((ri_all 77).2.2.1 (by decide +kernel)).2 rfl (by decide +kernel) (by decide) (ri_h_at (L := p1_lit) (a := 0) (e := .inr (8, _)) rfl) (by rw [hlen]; decide +kernel) (by decide) (by decide) (by decide) (by show _ ≤ 600000; omega) (by show _ ≤ 7302250; omega) c1 (by rw [hargs]; rfl) (fun r N2 h2 H locs hp hW hlo => ?_)
  obtain ⟨rfl, rfl, rfl⟩ := hp
  rw [g1] at hW
  have hS := am_S hK.2.1 hW hlo
  obtain ⟨a9, rfl, rfl⟩ : ∃ a9, v = .retAddr a9 ∧ w = .retAddr a9 := p1_eq_ok heq
  refine W.eq (g2 := F0 m 400 ls [.int (nI a9)]) rfl ?_
  refine lv_aload_n hx hb d_law_400 rfl (lv_at hl 1 rfl) ?_
  refine lv_aload_n hx hb d_law_401 rfl (lv_at hl 3 rfl) ?_
  refine lv_iload_n hx hb d_law_402 rfl (lv_at hl 0 rfl) ?_
  refine lv_iconst (v := 1) hx hb d_law_403 (by decide) ?_
  refine lv_iadd hx hb d_law_404 ?_
  refine va_sld hx hb hX hbl hbA hS (i := 0 + 1) p1_in1 d_law_405 ?_
  obtain ⟨fs9, hfs9⟩ : ∃ fs, ri_get L3.2.2 106 = some (.inr (9, fs)) := hc9
  refine gw_callV (G := (p1_G l s dC dI aC pl xs)) (cc := code) (own := R_law) (nL := 4) (y2 := (ri_M 194).1) (n2 := (ri_M 194).2.1) (d2 := 20) (a := 106) (ci := 9) (q := (RX9, TX9, 28)) (as := p1_vals 0 [q1]) (rest := [.int (nI a9)]) hx hb hml hown hts2 hK hW hlo hl.1 d_law_406 (ri_all 194).1 (by decide +kernel) ((ri_all 194).2.2.1 (by decide +kernel)).1 ((ri_all 194).2.2.1 (by decide +kernel)).2 rfl (by decide +kernel) (by decide) (ri_h_at hfs9) (by rw [hlen]; decide +kernel) (Nat.le_of_ble_eq_true rfl) (by decide) (by decide) (by show _ ≤ 600000; omega) (by show _ ≤ 7302250; omega) c2 (by rw [hargs]; rfl) (fun r N2 h2 H locs hp hW hlo => ?_)
  obtain ⟨rfl, rfl, rfl⟩ := hp
  refine W.eq (g2 := F0 m 409 ls [.int (nI a9), .int (nI a9)]) rfl ?_
  refine lv_icmp_eq (tgt := 1112) hx hb d_law_409 (by decide) (fun _ => ?_) (fun q => absurd rfl q)
  exact p1_fin C1 hK hW hlo (by omega) (by omega) hl
theorem p1_op11 {p : Program} {e : Env} {s : State} {m : MethodId} {below : List Frame} {meth : Method} {c : Code} {b : Nat} {xs : Nat → Int32} {l : Launch} {dC : Nat → ClassId} {dI : Nat → Nat → Nat} {aC : Nat → ClassId} {pl : Nat} (C0 : lw_At p s m meth c b 5 xs) (hK : am_K (p1_G l s dC dI aC pl xs) s) {H : Heap} {locs : List Loc} {ls : Array Slot} {n : Nat} (hW : am_W (p1_G l s dC dI aC pl xs) 122 (ri_h p1_lit) H) (hlo : ∀ q ∈ locs, s.heap.size ≤ q.base) (hn : n ≤ 1000000) (hl : lv_has ls 4 [(3, .int 0), (2, .ref (s.heap.size + 106)), (1, .ref (s.heap.size + 0)), (0, .ref b)]) : W p l e room_1 s m #[Value.ref b] below meth c H locs 122 n (lw_Z below #[Value.ref b] s) (F0 m 477 ls []) := by
  have C1 := C0
  obtain ⟨hx, hb, hr, hml, hown, hts, hX, hbl, hlocks, hgv⟩ := C0
  have hts2 := am_hts hts
  have hS := am_S hK.2.1 hW hlo
  have hbA : ¬ (fun q : Nat => s.heap.size ≤ q) b := Nat.not_le.mpr hbl
  obtain ⟨q1, f1, hchk⟩ := p1_u1 p1_k11 (by decide +kernel) (xs 1)
  have hE : am_Env (p1_G l s dC dI aC pl xs) [q1] := p1_env (fun j q hq => by
    match j, hq with
    | 0, hq => cases hq; exact f1
    | j + 1, hq => simp at hq)
  have hargs : (p1_vals 0 [q1]).map (am_cv (p1_G l s dC dI aC pl xs)) = [.int (xs 1)] := by
    simp only [p1_vals, List.map_cons, List.map_nil]
    rw [p1_val_cv (G := (p1_G l s dC dI aC pl xs)) (i := 0) (by decide) f1]
  have hlen : (p1_vals 0 [q1]).length = 1 := rfl
  obtain ⟨v, w, L3, L4, heq, hc9, g1, g2, g3, g4, c1, c2⟩ := p1_pair hchk hE
  refine lv_aload_n hx hb d_law_477 rfl (lv_at hl 2 rfl) ?_
  refine lv_aload_n hx hb d_law_478 rfl (lv_at hl 3 rfl) ?_
  refine lv_iload_n hx hb d_law_479 rfl (lv_at hl 0 rfl) ?_
  refine lv_iconst (v := 1) hx hb d_law_480 (by decide) ?_
  refine lv_iadd hx hb d_law_481 ?_
  refine va_sld hx hb hX hbl hbA hS (i := 0 + 1) p1_in1 d_law_482 ?_
  refine gw_callV (G := (p1_G l s dC dI aC pl xs)) (cc := code) (own := R_law) (nL := 4) (y2 := (ri_M 79).1) (n2 := (ri_M 79).2.1) (d2 := 20) (a := 0) (ci := 8) (q := (RX8, TX8, 13)) (as := p1_vals 0 [q1]) (rest := []) hx hb hml hown hts2 hK hW hlo hl.1 d_law_483 (ri_all 79).1 (by decide +kernel) ((ri_all 79).2.2.1 (by decide +kernel)).1 ((ri_all 79).2.2.1 (by decide +kernel)).2 rfl (by decide +kernel) (by decide) (ri_h_at (L := p1_lit) (a := 0) (e := .inr (8, _)) rfl) (by rw [hlen]; decide +kernel) (by decide) (by decide) (by decide) (by show _ ≤ 600000; omega) (by show _ ≤ 7302250; omega) c1 (by rw [hargs]; rfl) (fun r N2 h2 H locs hp hW hlo => ?_)
  obtain ⟨rfl, rfl, rfl⟩ := hp
  rw [g1] at hW
  have hS := am_S hK.2.1 hW hlo
  obtain ⟨a9, rfl, rfl⟩ : ∃ a9, v = .retAddr a9 ∧ w = .retAddr a9 := p1_eq_ok heq
  refine W.eq (g2 := F0 m 486 ls [.int (nI a9)]) rfl ?_
  refine lv_aload_n hx hb d_law_486 rfl (lv_at hl 1 rfl) ?_
  refine lv_aload_n hx hb d_law_487 rfl (lv_at hl 3 rfl) ?_
  refine lv_iload_n hx hb d_law_488 rfl (lv_at hl 0 rfl) ?_
  refine lv_iconst (v := 1) hx hb d_law_489 (by decide) ?_
  refine lv_iadd hx hb d_law_490 ?_
  refine va_sld hx hb hX hbl hbA hS (i := 0 + 1) p1_in1 d_law_491 ?_
  obtain ⟨fs9, hfs9⟩ : ∃ fs, ri_get L3.2.2 106 = some (.inr (9, fs)) := hc9
  refine gw_callV (G := (p1_G l s dC dI aC pl xs)) (cc := code) (own := R_law) (nL := 4) (y2 := (ri_M 158).1) (n2 := (ri_M 158).2.1) (d2 := 20) (a := 106) (ci := 9) (q := (RX9, TX9, 28)) (as := p1_vals 0 [q1]) (rest := [.int (nI a9)]) hx hb hml hown hts2 hK hW hlo hl.1 d_law_492 (ri_all 158).1 (by decide +kernel) ((ri_all 158).2.2.1 (by decide +kernel)).1 ((ri_all 158).2.2.1 (by decide +kernel)).2 rfl (by decide +kernel) (by decide) (ri_h_at hfs9) (by rw [hlen]; decide +kernel) (Nat.le_of_ble_eq_true rfl) (by decide) (by decide) (by show _ ≤ 600000; omega) (by show _ ≤ 7302250; omega) c2 (by rw [hargs]; rfl) (fun r N2 h2 H locs hp hW hlo => ?_)
  obtain ⟨rfl, rfl, rfl⟩ := hp
  refine W.eq (g2 := F0 m 495 ls [.int (nI a9), .int (nI a9)]) rfl ?_
  refine lv_icmp_eq (tgt := 1112) hx hb d_law_495 (by decide) (fun _ => ?_) (fun q => absurd rfl q)
  exact p1_fin C1 hK hW hlo (by omega) (by omega) hl
theorem p1_op12 {p : Program} {e : Env} {s : State} {m : MethodId} {below : List Frame} {meth : Method} {c : Code} {b : Nat} {xs : Nat → Int32} {l : Launch} {dC : Nat → ClassId} {dI : Nat → Nat → Nat} {aC : Nat → ClassId} {pl : Nat} (C0 : lw_At p s m meth c b 5 xs) (hK : am_K (p1_G l s dC dI aC pl xs) s) {H : Heap} {locs : List Loc} {ls : Array Slot} {n : Nat} (hW : am_W (p1_G l s dC dI aC pl xs) 122 (ri_h p1_lit) H) (hlo : ∀ q ∈ locs, s.heap.size ≤ q.base) (hn : n ≤ 1000000) (hl : lv_has ls 4 [(3, .int 0), (2, .ref (s.heap.size + 106)), (1, .ref (s.heap.size + 0)), (0, .ref b)]) : W p l e room_1 s m #[Value.ref b] below meth c H locs 122 n (lw_Z below #[Value.ref b] s) (F0 m 500 ls []) := by
  have C1 := C0
  obtain ⟨hx, hb, hr, hml, hown, hts, hX, hbl, hlocks, hgv⟩ := C0
  have hts2 := am_hts hts
  have hS := am_S hK.2.1 hW hlo
  have hbA : ¬ (fun q : Nat => s.heap.size ≤ q) b := Nat.not_le.mpr hbl
  have hchk : p1_chk 80 159 [] = true := p1_k12
  have hE : am_Env (p1_G l s dC dI aC pl xs) [] := p1_env (fun j q hq => by
    match j, hq with
    | j + 0, hq => simp at hq)
  have hargs : (p1_vals 0 []).map (am_cv (p1_G l s dC dI aC pl xs)) = [] := by
    rfl
  have hlen : (p1_vals 0 []).length = 0 := rfl
  obtain ⟨v, w, L3, L4, heq, hc9, g1, g2, g3, g4, c1, c2⟩ := p1_pair hchk hE
  refine lv_aload_n hx hb d_law_500 rfl (lv_at hl 2 rfl) ?_
  refine gw_callV (G := (p1_G l s dC dI aC pl xs)) (cc := code) (own := R_law) (nL := 4) (y2 := (ri_M 80).1) (n2 := (ri_M 80).2.1) (d2 := 20) (a := 0) (ci := 8) (q := (RX8, TX8, 13)) (as := p1_vals 0 []) (rest := []) hx hb hml hown hts2 hK hW hlo hl.1 d_law_501 (ri_all 80).1 (by decide +kernel) ((ri_all 80).2.2.1 (by decide +kernel)).1 ((ri_all 80).2.2.1 (by decide +kernel)).2 rfl (by decide +kernel) (by decide) (ri_h_at (L := p1_lit) (a := 0) (e := .inr (8, _)) rfl) (by rw [hlen]; decide +kernel) (by decide) (by decide) (by decide) (by show _ ≤ 600000; omega) (by show _ ≤ 7302250; omega) c1 (by rw [hargs]; rfl) (fun r N2 h2 H locs hp hW hlo => ?_)
  obtain ⟨rfl, rfl, rfl⟩ := hp
  rw [g1] at hW
  have hS := am_S hK.2.1 hW hlo
  obtain ⟨a9, rfl, rfl⟩ : ∃ a9, v = .retAddr a9 ∧ w = .retAddr a9 := p1_eq_ok heq
  refine W.eq (g2 := F0 m 504 ls [.int (nI a9)]) rfl ?_
  refine lv_aload_n hx hb d_law_504 rfl (lv_at hl 1 rfl) ?_
  obtain ⟨fs9, hfs9⟩ : ∃ fs, ri_get L3.2.2 106 = some (.inr (9, fs)) := hc9
  refine gw_callV (G := (p1_G l s dC dI aC pl xs)) (cc := code) (own := R_law) (nL := 4) (y2 := (ri_M 159).1) (n2 := (ri_M 159).2.1) (d2 := 20) (a := 106) (ci := 9) (q := (RX9, TX9, 28)) (as := p1_vals 0 []) (rest := [.int (nI a9)]) hx hb hml hown hts2 hK hW hlo hl.1 d_law_505 (ri_all 159).1 (by decide +kernel) ((ri_all 159).2.2.1 (by decide +kernel)).1 ((ri_all 159).2.2.1 (by decide +kernel)).2 rfl (by decide +kernel) (by decide) (ri_h_at hfs9) (by rw [hlen]; decide +kernel) (Nat.le_of_ble_eq_true rfl) (by decide) (by decide) (by show _ ≤ 600000; omega) (by show _ ≤ 7302250; omega) c2 (by rw [hargs]; rfl) (fun r N2 h2 H locs hp hW hlo => ?_)
  obtain ⟨rfl, rfl, rfl⟩ := hp
  refine W.eq (g2 := F0 m 508 ls [.int (nI a9), .int (nI a9)]) rfl ?_
  refine lv_icmp_eq (tgt := 1112) hx hb d_law_508 (by decide) (fun _ => ?_) (fun q => absurd rfl q)
  exact p1_fin C1 hK hW hlo (by omega) (by omega) hl
theorem p1_op13 {p : Program} {e : Env} {s : State} {m : MethodId} {below : List Frame} {meth : Method} {c : Code} {b : Nat} {xs : Nat → Int32} {l : Launch} {dC : Nat → ClassId} {dI : Nat → Nat → Nat} {aC : Nat → ClassId} {pl : Nat} (C0 : lw_At p s m meth c b 5 xs) (hK : am_K (p1_G l s dC dI aC pl xs) s) {H : Heap} {locs : List Loc} {ls : Array Slot} {n : Nat} (hW : am_W (p1_G l s dC dI aC pl xs) 122 (ri_h p1_lit) H) (hlo : ∀ q ∈ locs, s.heap.size ≤ q.base) (hn : n ≤ 1000000) (hl : lv_has ls 4 [(3, .int 0), (2, .ref (s.heap.size + 106)), (1, .ref (s.heap.size + 0)), (0, .ref b)]) : W p l e room_1 s m #[Value.ref b] below meth c H locs 122 n (lw_Z below #[Value.ref b] s) (F0 m 513 ls []) := by
  have C1 := C0
  obtain ⟨hx, hb, hr, hml, hown, hts, hX, hbl, hlocks, hgv⟩ := C0
  have hts2 := am_hts hts
  have hS := am_S hK.2.1 hW hlo
  have hbA : ¬ (fun q : Nat => s.heap.size ≤ q) b := Nat.not_le.mpr hbl
  obtain ⟨q1, q2, f1, f2, hchk⟩ := p1_u2 p1_k13 (by decide +kernel) (xs 1) (xs 2)
  have hE : am_Env (p1_G l s dC dI aC pl xs) [q1, q2] := p1_env (fun j q hq => by
    match j, hq with
    | 0, hq => cases hq; exact f1
    | 1, hq => cases hq; exact f2
    | j + 2, hq => simp at hq)
  have hargs : (p1_vals 0 [q1, q2]).map (am_cv (p1_G l s dC dI aC pl xs)) = [.int (xs 1), .int (xs 2)] := by
    simp only [p1_vals, List.map_cons, List.map_nil]
    rw [p1_val_cv (G := (p1_G l s dC dI aC pl xs)) (i := 0) (by decide) f1, p1_val_cv (G := (p1_G l s dC dI aC pl xs)) (i := 1) (by decide) f2]
  have hlen : (p1_vals 0 [q1, q2]).length = 2 := rfl
  obtain ⟨v, w, L3, L4, heq, hc9, g1, g2, g3, g4, c1, c2⟩ := p1_pair hchk hE
  refine lv_aload_n hx hb d_law_513 rfl (lv_at hl 2 rfl) ?_
  refine lv_aload_n hx hb d_law_514 rfl (lv_at hl 3 rfl) ?_
  refine lv_iload_n hx hb d_law_515 rfl (lv_at hl 0 rfl) ?_
  refine lv_iconst (v := 1) hx hb d_law_516 (by decide) ?_
  refine lv_iadd hx hb d_law_517 ?_
  refine va_sld hx hb hX hbl hbA hS (i := 0 + 1) p1_in1 d_law_518 ?_
  refine lv_aload_n hx hb d_law_519 rfl (lv_at hl 3 rfl) ?_
  refine lv_iload_n hx hb d_law_520 rfl (lv_at hl 0 rfl) ?_
  refine lv_iconst (v := 2) hx hb d_law_521 (by decide) ?_
  refine lv_iadd hx hb d_law_522 ?_
  refine va_sld hx hb hX hbl hbA hS (i := 0 + 2) p1_in2 d_law_523 ?_
  refine gw_callV (G := (p1_G l s dC dI aC pl xs)) (cc := code) (own := R_law) (nL := 4) (y2 := (ri_M 81).1) (n2 := (ri_M 81).2.1) (d2 := 20) (a := 0) (ci := 8) (q := (RX8, TX8, 13)) (as := p1_vals 0 [q1, q2]) (rest := []) hx hb hml hown hts2 hK hW hlo hl.1 d_law_524 (ri_all 81).1 (by decide +kernel) ((ri_all 81).2.2.1 (by decide +kernel)).1 ((ri_all 81).2.2.1 (by decide +kernel)).2 rfl (by decide +kernel) (by decide) (ri_h_at (L := p1_lit) (a := 0) (e := .inr (8, _)) rfl) (by rw [hlen]; decide +kernel) (by decide) (by decide) (by decide) (by show _ ≤ 600000; omega) (by show _ ≤ 7302250; omega) c1 (by rw [hargs]; rfl) (fun r N2 h2 H locs hp hW hlo => ?_)
  obtain ⟨rfl, rfl, rfl⟩ := hp
  rw [g1] at hW
  have hS := am_S hK.2.1 hW hlo
  obtain ⟨a9, rfl, rfl⟩ : ∃ a9, v = .retAddr a9 ∧ w = .retAddr a9 := p1_eq_ok heq
  refine W.eq (g2 := F0 m 527 ls [.int (nI a9)]) rfl ?_
  refine lv_aload_n hx hb d_law_527 rfl (lv_at hl 1 rfl) ?_
  refine lv_aload_n hx hb d_law_528 rfl (lv_at hl 3 rfl) ?_
  refine lv_iload_n hx hb d_law_529 rfl (lv_at hl 0 rfl) ?_
  refine lv_iconst (v := 1) hx hb d_law_530 (by decide) ?_
  refine lv_iadd hx hb d_law_531 ?_
  refine va_sld hx hb hX hbl hbA hS (i := 0 + 1) p1_in1 d_law_532 ?_
  refine lv_aload_n hx hb d_law_533 rfl (lv_at hl 3 rfl) ?_
  refine lv_iload_n hx hb d_law_534 rfl (lv_at hl 0 rfl) ?_
  refine lv_iconst (v := 2) hx hb d_law_535 (by decide) ?_
  refine lv_iadd hx hb d_law_536 ?_
  refine va_sld hx hb hX hbl hbA hS (i := 0 + 2) p1_in2 d_law_537 ?_
  obtain ⟨fs9, hfs9⟩ : ∃ fs, ri_get L3.2.2 106 = some (.inr (9, fs)) := hc9
  refine gw_callV (G := (p1_G l s dC dI aC pl xs)) (cc := code) (own := R_law) (nL := 4) (y2 := (ri_M 160).1) (n2 := (ri_M 160).2.1) (d2 := 20) (a := 106) (ci := 9) (q := (RX9, TX9, 28)) (as := p1_vals 0 [q1, q2]) (rest := [.int (nI a9)]) hx hb hml hown hts2 hK hW hlo hl.1 d_law_538 (ri_all 160).1 (by decide +kernel) ((ri_all 160).2.2.1 (by decide +kernel)).1 ((ri_all 160).2.2.1 (by decide +kernel)).2 rfl (by decide +kernel) (by decide) (ri_h_at hfs9) (by rw [hlen]; decide +kernel) (Nat.le_of_ble_eq_true rfl) (by decide) (by decide) (by show _ ≤ 600000; omega) (by show _ ≤ 7302250; omega) c2 (by rw [hargs]; rfl) (fun r N2 h2 H locs hp hW hlo => ?_)
  obtain ⟨rfl, rfl, rfl⟩ := hp
  refine W.eq (g2 := F0 m 541 ls [.int (nI a9), .int (nI a9)]) rfl ?_
  refine lv_icmp_eq (tgt := 1112) hx hb d_law_541 (by decide) (fun _ => ?_) (fun q => absurd rfl q)
  exact p1_fin C1 hK hW hlo (by omega) (by omega) hl
theorem p1_op14 {p : Program} {e : Env} {s : State} {m : MethodId} {below : List Frame} {meth : Method} {c : Code} {b : Nat} {xs : Nat → Int32} {l : Launch} {dC : Nat → ClassId} {dI : Nat → Nat → Nat} {aC : Nat → ClassId} {pl : Nat} (C0 : lw_At p s m meth c b 5 xs) (hK : am_K (p1_G l s dC dI aC pl xs) s) {H : Heap} {locs : List Loc} {ls : Array Slot} {n : Nat} (hW : am_W (p1_G l s dC dI aC pl xs) 122 (ri_h p1_lit) H) (hlo : ∀ q ∈ locs, s.heap.size ≤ q.base) (hn : n ≤ 1000000) (hl : lv_has ls 4 [(3, .int 0), (2, .ref (s.heap.size + 106)), (1, .ref (s.heap.size + 0)), (0, .ref b)]) : W p l e room_1 s m #[Value.ref b] below meth c H locs 122 n (lw_Z below #[Value.ref b] s) (F0 m 546 ls []) := by
  have C1 := C0
  obtain ⟨hx, hb, hr, hml, hown, hts, hX, hbl, hlocks, hgv⟩ := C0
  have hts2 := am_hts hts
  have hS := am_S hK.2.1 hW hlo
  have hbA : ¬ (fun q : Nat => s.heap.size ≤ q) b := Nat.not_le.mpr hbl
  obtain ⟨q1, q2, q3, f1, f2, f3, hchk⟩ := p1_u3 p1_k14 (by decide +kernel) (xs 1) (xs 2) (xs 3)
  have hE : am_Env (p1_G l s dC dI aC pl xs) [q1, q2, q3] := p1_env (fun j q hq => by
    match j, hq with
    | 0, hq => cases hq; exact f1
    | 1, hq => cases hq; exact f2
    | 2, hq => cases hq; exact f3
    | j + 3, hq => simp at hq)
  have hargs : (p1_vals 0 [q1, q2, q3]).map (am_cv (p1_G l s dC dI aC pl xs)) = [.int (xs 1), .int (xs 2), .int (xs 3)] := by
    simp only [p1_vals, List.map_cons, List.map_nil]
    rw [p1_val_cv (G := (p1_G l s dC dI aC pl xs)) (i := 0) (by decide) f1, p1_val_cv (G := (p1_G l s dC dI aC pl xs)) (i := 1) (by decide) f2, p1_val_cv (G := (p1_G l s dC dI aC pl xs)) (i := 2) (by decide) f3]
  have hlen : (p1_vals 0 [q1, q2, q3]).length = 3 := rfl
  obtain ⟨v, w, L3, L4, heq, hc9, g1, g2, g3, g4, c1, c2⟩ := p1_pair hchk hE
  refine lv_aload_n hx hb d_law_546 rfl (lv_at hl 2 rfl) ?_
  refine lv_aload_n hx hb d_law_547 rfl (lv_at hl 3 rfl) ?_
  refine lv_iload_n hx hb d_law_548 rfl (lv_at hl 0 rfl) ?_
  refine lv_iconst (v := 1) hx hb d_law_549 (by decide) ?_
  refine lv_iadd hx hb d_law_550 ?_
  refine va_sld hx hb hX hbl hbA hS (i := 0 + 1) p1_in1 d_law_551 ?_
  refine lv_aload_n hx hb d_law_552 rfl (lv_at hl 3 rfl) ?_
  refine lv_iload_n hx hb d_law_553 rfl (lv_at hl 0 rfl) ?_
  refine lv_iconst (v := 2) hx hb d_law_554 (by decide) ?_
  refine lv_iadd hx hb d_law_555 ?_
  refine va_sld hx hb hX hbl hbA hS (i := 0 + 2) p1_in2 d_law_556 ?_
  refine lv_aload_n hx hb d_law_557 rfl (lv_at hl 3 rfl) ?_
  refine lv_iload_n hx hb d_law_558 rfl (lv_at hl 0 rfl) ?_
  refine lv_iconst (v := 3) hx hb d_law_559 (by decide) ?_
  refine lv_iadd hx hb d_law_560 ?_
  refine va_sld hx hb hX hbl hbA hS (i := 0 + 3) p1_in3 d_law_561 ?_
  refine gw_callV (G := (p1_G l s dC dI aC pl xs)) (cc := code) (own := R_law) (nL := 4) (y2 := (ri_M 82).1) (n2 := (ri_M 82).2.1) (d2 := 20) (a := 0) (ci := 8) (q := (RX8, TX8, 13)) (as := p1_vals 0 [q1, q2, q3]) (rest := []) hx hb hml hown hts2 hK hW hlo hl.1 d_law_562 (ri_all 82).1 (by decide +kernel) ((ri_all 82).2.2.1 (by decide +kernel)).1 ((ri_all 82).2.2.1 (by decide +kernel)).2 rfl (by decide +kernel) (by decide) (ri_h_at (L := p1_lit) (a := 0) (e := .inr (8, _)) rfl) (by rw [hlen]; decide +kernel) (by decide) (by decide) (by decide) (by show _ ≤ 600000; omega) (by show _ ≤ 7302250; omega) c1 (by rw [hargs]; rfl) (fun r N2 h2 H locs hp hW hlo => ?_)
  obtain ⟨rfl, rfl, rfl⟩ := hp
  rw [g1] at hW
  have hS := am_S hK.2.1 hW hlo
  obtain ⟨a9, rfl, rfl⟩ : ∃ a9, v = .retAddr a9 ∧ w = .retAddr a9 := p1_eq_ok heq
  refine W.eq (g2 := F0 m 565 ls [.int (nI a9)]) rfl ?_
  refine lv_aload_n hx hb d_law_565 rfl (lv_at hl 1 rfl) ?_
  refine lv_aload_n hx hb d_law_566 rfl (lv_at hl 3 rfl) ?_
  refine lv_iload_n hx hb d_law_567 rfl (lv_at hl 0 rfl) ?_
  refine lv_iconst (v := 1) hx hb d_law_568 (by decide) ?_
  refine lv_iadd hx hb d_law_569 ?_
  refine va_sld hx hb hX hbl hbA hS (i := 0 + 1) p1_in1 d_law_570 ?_
  refine lv_aload_n hx hb d_law_571 rfl (lv_at hl 3 rfl) ?_
  refine lv_iload_n hx hb d_law_572 rfl (lv_at hl 0 rfl) ?_
  refine lv_iconst (v := 2) hx hb d_law_573 (by decide) ?_
  refine lv_iadd hx hb d_law_574 ?_
  refine va_sld hx hb hX hbl hbA hS (i := 0 + 2) p1_in2 d_law_575 ?_
  refine lv_aload_n hx hb d_law_576 rfl (lv_at hl 3 rfl) ?_
  refine lv_iload_n hx hb d_law_577 rfl (lv_at hl 0 rfl) ?_
  refine lv_iconst (v := 3) hx hb d_law_578 (by decide) ?_
  refine lv_iadd hx hb d_law_579 ?_
  refine va_sld hx hb hX hbl hbA hS (i := 0 + 3) p1_in3 d_law_580 ?_
  obtain ⟨fs9, hfs9⟩ : ∃ fs, ri_get L3.2.2 106 = some (.inr (9, fs)) := hc9
  refine gw_callV (G := (p1_G l s dC dI aC pl xs)) (cc := code) (own := R_law) (nL := 4) (y2 := (ri_M 161).1) (n2 := (ri_M 161).2.1) (d2 := 20) (a := 106) (ci := 9) (q := (RX9, TX9, 28)) (as := p1_vals 0 [q1, q2, q3]) (rest := [.int (nI a9)]) hx hb hml hown hts2 hK hW hlo hl.1 d_law_581 (ri_all 161).1 (by decide +kernel) ((ri_all 161).2.2.1 (by decide +kernel)).1 ((ri_all 161).2.2.1 (by decide +kernel)).2 rfl (by decide +kernel) (by decide) (ri_h_at hfs9) (by rw [hlen]; decide +kernel) (Nat.le_of_ble_eq_true rfl) (by decide) (by decide) (by show _ ≤ 600000; omega) (by show _ ≤ 7302250; omega) c2 (by rw [hargs]; rfl) (fun r N2 h2 H locs hp hW hlo => ?_)
  obtain ⟨rfl, rfl, rfl⟩ := hp
  refine W.eq (g2 := F0 m 584 ls [.int (nI a9), .int (nI a9)]) rfl ?_
  refine lv_icmp_eq (tgt := 1112) hx hb d_law_584 (by decide) (fun _ => ?_) (fun q => absurd rfl q)
  exact p1_fin C1 hK hW hlo (by omega) (by omega) hl
theorem p1_op15 {p : Program} {e : Env} {s : State} {m : MethodId} {below : List Frame} {meth : Method} {c : Code} {b : Nat} {xs : Nat → Int32} {l : Launch} {dC : Nat → ClassId} {dI : Nat → Nat → Nat} {aC : Nat → ClassId} {pl : Nat} (C0 : lw_At p s m meth c b 5 xs) (hK : am_K (p1_G l s dC dI aC pl xs) s) {H : Heap} {locs : List Loc} {ls : Array Slot} {n : Nat} (hW : am_W (p1_G l s dC dI aC pl xs) 122 (ri_h p1_lit) H) (hlo : ∀ q ∈ locs, s.heap.size ≤ q.base) (hn : n ≤ 1000000) (hl : lv_has ls 4 [(3, .int 0), (2, .ref (s.heap.size + 106)), (1, .ref (s.heap.size + 0)), (0, .ref b)]) : W p l e room_1 s m #[Value.ref b] below meth c H locs 122 n (lw_Z below #[Value.ref b] s) (F0 m 589 ls []) := by
  have C1 := C0
  obtain ⟨hx, hb, hr, hml, hown, hts, hX, hbl, hlocks, hgv⟩ := C0
  have hts2 := am_hts hts
  have hS := am_S hK.2.1 hW hlo
  have hbA : ¬ (fun q : Nat => s.heap.size ≤ q) b := Nat.not_le.mpr hbl
  obtain ⟨q1, q2, f1, f2, hchk⟩ := p1_u2 p1_k15 (by decide +kernel) (xs 1) (xs 2)
  have hE : am_Env (p1_G l s dC dI aC pl xs) [q1, q2] := p1_env (fun j q hq => by
    match j, hq with
    | 0, hq => cases hq; exact f1
    | 1, hq => cases hq; exact f2
    | j + 2, hq => simp at hq)
  have hargs : (p1_vals 0 [q1, q2]).map (am_cv (p1_G l s dC dI aC pl xs)) = [.int (xs 1), .int (xs 2)] := by
    simp only [p1_vals, List.map_cons, List.map_nil]
    rw [p1_val_cv (G := (p1_G l s dC dI aC pl xs)) (i := 0) (by decide) f1, p1_val_cv (G := (p1_G l s dC dI aC pl xs)) (i := 1) (by decide) f2]
  have hlen : (p1_vals 0 [q1, q2]).length = 2 := rfl
  obtain ⟨v, w, L3, L4, heq, hc9, g1, g2, g3, g4, c1, c2⟩ := p1_pair hchk hE
  refine lv_aload_n hx hb d_law_589 rfl (lv_at hl 2 rfl) ?_
  refine lv_aload_n hx hb d_law_590 rfl (lv_at hl 3 rfl) ?_
  refine lv_iload_n hx hb d_law_591 rfl (lv_at hl 0 rfl) ?_
  refine lv_iconst (v := 1) hx hb d_law_592 (by decide) ?_
  refine lv_iadd hx hb d_law_593 ?_
  refine va_sld hx hb hX hbl hbA hS (i := 0 + 1) p1_in1 d_law_594 ?_
  refine lv_aload_n hx hb d_law_595 rfl (lv_at hl 3 rfl) ?_
  refine lv_iload_n hx hb d_law_596 rfl (lv_at hl 0 rfl) ?_
  refine lv_iconst (v := 2) hx hb d_law_597 (by decide) ?_
  refine lv_iadd hx hb d_law_598 ?_
  refine va_sld hx hb hX hbl hbA hS (i := 0 + 2) p1_in2 d_law_599 ?_
  refine gw_callV (G := (p1_G l s dC dI aC pl xs)) (cc := code) (own := R_law) (nL := 4) (y2 := (ri_M 83).1) (n2 := (ri_M 83).2.1) (d2 := 20) (a := 0) (ci := 8) (q := (RX8, TX8, 13)) (as := p1_vals 0 [q1, q2]) (rest := []) hx hb hml hown hts2 hK hW hlo hl.1 d_law_600 (ri_all 83).1 (by decide +kernel) ((ri_all 83).2.2.1 (by decide +kernel)).1 ((ri_all 83).2.2.1 (by decide +kernel)).2 rfl (by decide +kernel) (by decide) (ri_h_at (L := p1_lit) (a := 0) (e := .inr (8, _)) rfl) (by rw [hlen]; decide +kernel) (by decide) (by decide) (by decide) (by show _ ≤ 600000; omega) (by show _ ≤ 7302250; omega) c1 (by rw [hargs]; rfl) (fun r N2 h2 H locs hp hW hlo => ?_)
  obtain ⟨rfl, rfl, rfl⟩ := hp
  rw [g1] at hW
  have hS := am_S hK.2.1 hW hlo
  obtain ⟨a9, rfl, rfl⟩ : ∃ a9, v = .retAddr a9 ∧ w = .retAddr a9 := p1_eq_ok heq
  refine W.eq (g2 := F0 m 603 ls [.int (nI a9)]) rfl ?_
  refine lv_aload_n hx hb d_law_603 rfl (lv_at hl 1 rfl) ?_
  refine lv_aload_n hx hb d_law_604 rfl (lv_at hl 3 rfl) ?_
  refine lv_iload_n hx hb d_law_605 rfl (lv_at hl 0 rfl) ?_
  refine lv_iconst (v := 1) hx hb d_law_606 (by decide) ?_
  refine lv_iadd hx hb d_law_607 ?_
  refine va_sld hx hb hX hbl hbA hS (i := 0 + 1) p1_in1 d_law_608 ?_
  refine lv_aload_n hx hb d_law_609 rfl (lv_at hl 3 rfl) ?_
  refine lv_iload_n hx hb d_law_610 rfl (lv_at hl 0 rfl) ?_
  refine lv_iconst (v := 2) hx hb d_law_611 (by decide) ?_
  refine lv_iadd hx hb d_law_612 ?_
  refine va_sld hx hb hX hbl hbA hS (i := 0 + 2) p1_in2 d_law_613 ?_
  obtain ⟨fs9, hfs9⟩ : ∃ fs, ri_get L3.2.2 106 = some (.inr (9, fs)) := hc9
  refine gw_callV (G := (p1_G l s dC dI aC pl xs)) (cc := code) (own := R_law) (nL := 4) (y2 := (ri_M 162).1) (n2 := (ri_M 162).2.1) (d2 := 20) (a := 106) (ci := 9) (q := (RX9, TX9, 28)) (as := p1_vals 0 [q1, q2]) (rest := [.int (nI a9)]) hx hb hml hown hts2 hK hW hlo hl.1 d_law_614 (ri_all 162).1 (by decide +kernel) ((ri_all 162).2.2.1 (by decide +kernel)).1 ((ri_all 162).2.2.1 (by decide +kernel)).2 rfl (by decide +kernel) (by decide) (ri_h_at hfs9) (by rw [hlen]; decide +kernel) (Nat.le_of_ble_eq_true rfl) (by decide) (by decide) (by show _ ≤ 600000; omega) (by show _ ≤ 7302250; omega) c2 (by rw [hargs]; rfl) (fun r N2 h2 H locs hp hW hlo => ?_)
  obtain ⟨rfl, rfl, rfl⟩ := hp
  refine W.eq (g2 := F0 m 617 ls [.int (nI a9), .int (nI a9)]) rfl ?_
  refine lv_icmp_eq (tgt := 1112) hx hb d_law_617 (by decide) (fun _ => ?_) (fun q => absurd rfl q)
  exact p1_fin C1 hK hW hlo (by omega) (by omega) hl
theorem p1_op16 {p : Program} {e : Env} {s : State} {m : MethodId} {below : List Frame} {meth : Method} {c : Code} {b : Nat} {xs : Nat → Int32} {l : Launch} {dC : Nat → ClassId} {dI : Nat → Nat → Nat} {aC : Nat → ClassId} {pl : Nat} (C0 : lw_At p s m meth c b 5 xs) (hK : am_K (p1_G l s dC dI aC pl xs) s) {H : Heap} {locs : List Loc} {ls : Array Slot} {n : Nat} (hW : am_W (p1_G l s dC dI aC pl xs) 122 (ri_h p1_lit) H) (hlo : ∀ q ∈ locs, s.heap.size ≤ q.base) (hn : n ≤ 1000000) (hl : lv_has ls 4 [(3, .int 0), (2, .ref (s.heap.size + 106)), (1, .ref (s.heap.size + 0)), (0, .ref b)]) : W p l e room_1 s m #[Value.ref b] below meth c H locs 122 n (lw_Z below #[Value.ref b] s) (F0 m 622 ls []) := by
  have C1 := C0
  obtain ⟨hx, hb, hr, hml, hown, hts, hX, hbl, hlocks, hgv⟩ := C0
  have hts2 := am_hts hts
  have hS := am_S hK.2.1 hW hlo
  have hbA : ¬ (fun q : Nat => s.heap.size ≤ q) b := Nat.not_le.mpr hbl
  obtain ⟨q1, q2, q3, f1, f2, f3, hchk⟩ := p1_u3 p1_k16 (by decide +kernel) (xs 1) (xs 2) (xs 3)
  have hE : am_Env (p1_G l s dC dI aC pl xs) [q1, q2, q3] := p1_env (fun j q hq => by
    match j, hq with
    | 0, hq => cases hq; exact f1
    | 1, hq => cases hq; exact f2
    | 2, hq => cases hq; exact f3
    | j + 3, hq => simp at hq)
  have hargs : (p1_vals 0 [q1, q2, q3]).map (am_cv (p1_G l s dC dI aC pl xs)) = [.int (xs 1), .int (xs 2), .int (xs 3)] := by
    simp only [p1_vals, List.map_cons, List.map_nil]
    rw [p1_val_cv (G := (p1_G l s dC dI aC pl xs)) (i := 0) (by decide) f1, p1_val_cv (G := (p1_G l s dC dI aC pl xs)) (i := 1) (by decide) f2, p1_val_cv (G := (p1_G l s dC dI aC pl xs)) (i := 2) (by decide) f3]
  have hlen : (p1_vals 0 [q1, q2, q3]).length = 3 := rfl
  obtain ⟨v, w, L3, L4, heq, hc9, g1, g2, g3, g4, c1, c2⟩ := p1_pair hchk hE
  refine lv_aload_n hx hb d_law_622 rfl (lv_at hl 2 rfl) ?_
  refine lv_aload_n hx hb d_law_623 rfl (lv_at hl 3 rfl) ?_
  refine lv_iload_n hx hb d_law_624 rfl (lv_at hl 0 rfl) ?_
  refine lv_iconst (v := 1) hx hb d_law_625 (by decide) ?_
  refine lv_iadd hx hb d_law_626 ?_
  refine va_sld hx hb hX hbl hbA hS (i := 0 + 1) p1_in1 d_law_627 ?_
  refine lv_aload_n hx hb d_law_628 rfl (lv_at hl 3 rfl) ?_
  refine lv_iload_n hx hb d_law_629 rfl (lv_at hl 0 rfl) ?_
  refine lv_iconst (v := 2) hx hb d_law_630 (by decide) ?_
  refine lv_iadd hx hb d_law_631 ?_
  refine va_sld hx hb hX hbl hbA hS (i := 0 + 2) p1_in2 d_law_632 ?_
  refine lv_aload_n hx hb d_law_633 rfl (lv_at hl 3 rfl) ?_
  refine lv_iload_n hx hb d_law_634 rfl (lv_at hl 0 rfl) ?_
  refine lv_iconst (v := 3) hx hb d_law_635 (by decide) ?_
  refine lv_iadd hx hb d_law_636 ?_
  refine va_sld hx hb hX hbl hbA hS (i := 0 + 3) p1_in3 d_law_637 ?_
  refine gw_callV (G := (p1_G l s dC dI aC pl xs)) (cc := code) (own := R_law) (nL := 4) (y2 := (ri_M 84).1) (n2 := (ri_M 84).2.1) (d2 := 20) (a := 0) (ci := 8) (q := (RX8, TX8, 13)) (as := p1_vals 0 [q1, q2, q3]) (rest := []) hx hb hml hown hts2 hK hW hlo hl.1 d_law_638 (ri_all 84).1 (by decide +kernel) ((ri_all 84).2.2.1 (by decide +kernel)).1 ((ri_all 84).2.2.1 (by decide +kernel)).2 rfl (by decide +kernel) (by decide) (ri_h_at (L := p1_lit) (a := 0) (e := .inr (8, _)) rfl) (by rw [hlen]; decide +kernel) (by decide) (by decide) (by decide) (by show _ ≤ 600000; omega) (by show _ ≤ 7302250; omega) c1 (by rw [hargs]; rfl) (fun r N2 h2 H locs hp hW hlo => ?_)
  obtain ⟨rfl, rfl, rfl⟩ := hp
  rw [g1] at hW
  have hS := am_S hK.2.1 hW hlo
  obtain ⟨a9, rfl, rfl⟩ : ∃ a9, v = .retAddr a9 ∧ w = .retAddr a9 := p1_eq_ok heq
  refine W.eq (g2 := F0 m 641 ls [.int (nI a9)]) rfl ?_
  refine lv_aload_n hx hb d_law_641 rfl (lv_at hl 1 rfl) ?_
  refine lv_aload_n hx hb d_law_642 rfl (lv_at hl 3 rfl) ?_
  refine lv_iload_n hx hb d_law_643 rfl (lv_at hl 0 rfl) ?_
  refine lv_iconst (v := 1) hx hb d_law_644 (by decide) ?_
  refine lv_iadd hx hb d_law_645 ?_
  refine va_sld hx hb hX hbl hbA hS (i := 0 + 1) p1_in1 d_law_646 ?_
  refine lv_aload_n hx hb d_law_647 rfl (lv_at hl 3 rfl) ?_
  refine lv_iload_n hx hb d_law_648 rfl (lv_at hl 0 rfl) ?_
  refine lv_iconst (v := 2) hx hb d_law_649 (by decide) ?_
  refine lv_iadd hx hb d_law_650 ?_
  refine va_sld hx hb hX hbl hbA hS (i := 0 + 2) p1_in2 d_law_651 ?_
  refine lv_aload_n hx hb d_law_652 rfl (lv_at hl 3 rfl) ?_
  refine lv_iload_n hx hb d_law_653 rfl (lv_at hl 0 rfl) ?_
  refine lv_iconst (v := 3) hx hb d_law_654 (by decide) ?_
  refine lv_iadd hx hb d_law_655 ?_
  refine va_sld hx hb hX hbl hbA hS (i := 0 + 3) p1_in3 d_law_656 ?_
  obtain ⟨fs9, hfs9⟩ : ∃ fs, ri_get L3.2.2 106 = some (.inr (9, fs)) := hc9
  refine gw_callV (G := (p1_G l s dC dI aC pl xs)) (cc := code) (own := R_law) (nL := 4) (y2 := (ri_M 163).1) (n2 := (ri_M 163).2.1) (d2 := 20) (a := 106) (ci := 9) (q := (RX9, TX9, 28)) (as := p1_vals 0 [q1, q2, q3]) (rest := [.int (nI a9)]) hx hb hml hown hts2 hK hW hlo hl.1 d_law_657 (ri_all 163).1 (by decide +kernel) ((ri_all 163).2.2.1 (by decide +kernel)).1 ((ri_all 163).2.2.1 (by decide +kernel)).2 rfl (by decide +kernel) (by decide) (ri_h_at hfs9) (by rw [hlen]; decide +kernel) (Nat.le_of_ble_eq_true rfl) (by decide) (by decide) (by show _ ≤ 600000; omega) (by show _ ≤ 7302250; omega) c2 (by rw [hargs]; rfl) (fun r N2 h2 H locs hp hW hlo => ?_)
  obtain ⟨rfl, rfl, rfl⟩ := hp
  refine W.eq (g2 := F0 m 660 ls [.int (nI a9), .int (nI a9)]) rfl ?_
  refine lv_icmp_eq (tgt := 1112) hx hb d_law_660 (by decide) (fun _ => ?_) (fun q => absurd rfl q)
  exact p1_fin C1 hK hW hlo (by omega) (by omega) hl
theorem p1_op17 {p : Program} {e : Env} {s : State} {m : MethodId} {below : List Frame} {meth : Method} {c : Code} {b : Nat} {xs : Nat → Int32} {l : Launch} {dC : Nat → ClassId} {dI : Nat → Nat → Nat} {aC : Nat → ClassId} {pl : Nat} (C0 : lw_At p s m meth c b 5 xs) (hK : am_K (p1_G l s dC dI aC pl xs) s) {H : Heap} {locs : List Loc} {ls : Array Slot} {n : Nat} (hW : am_W (p1_G l s dC dI aC pl xs) 122 (ri_h p1_lit) H) (hlo : ∀ q ∈ locs, s.heap.size ≤ q.base) (hn : n ≤ 1000000) (hl : lv_has ls 4 [(3, .int 0), (2, .ref (s.heap.size + 106)), (1, .ref (s.heap.size + 0)), (0, .ref b)]) : W p l e room_1 s m #[Value.ref b] below meth c H locs 122 n (lw_Z below #[Value.ref b] s) (F0 m 665 ls []) := by
  have C1 := C0
  obtain ⟨hx, hb, hr, hml, hown, hts, hX, hbl, hlocks, hgv⟩ := C0
  have hts2 := am_hts hts
  have hS := am_S hK.2.1 hW hlo
  have hbA : ¬ (fun q : Nat => s.heap.size ≤ q) b := Nat.not_le.mpr hbl
  obtain ⟨q1, q2, q3, f1, f2, f3, hchk⟩ := p1_u3 p1_k17 (by decide +kernel) (xs 1) (xs 2) (xs 3)
  have hE : am_Env (p1_G l s dC dI aC pl xs) [q1, q2, q3] := p1_env (fun j q hq => by
    match j, hq with
    | 0, hq => cases hq; exact f1
    | 1, hq => cases hq; exact f2
    | 2, hq => cases hq; exact f3
    | j + 3, hq => simp at hq)
  have hargs : (p1_vals 0 [q1, q2, q3]).map (am_cv (p1_G l s dC dI aC pl xs)) = [.int (xs 1), .int (xs 2), .int (xs 3)] := by
    simp only [p1_vals, List.map_cons, List.map_nil]
    rw [p1_val_cv (G := (p1_G l s dC dI aC pl xs)) (i := 0) (by decide) f1, p1_val_cv (G := (p1_G l s dC dI aC pl xs)) (i := 1) (by decide) f2, p1_val_cv (G := (p1_G l s dC dI aC pl xs)) (i := 2) (by decide) f3]
  have hlen : (p1_vals 0 [q1, q2, q3]).length = 3 := rfl
  obtain ⟨v, w, L3, L4, heq, hc9, g1, g2, g3, g4, c1, c2⟩ := p1_pair hchk hE
  refine lv_aload_n hx hb d_law_665 rfl (lv_at hl 2 rfl) ?_
  refine lv_aload_n hx hb d_law_666 rfl (lv_at hl 3 rfl) ?_
  refine lv_iload_n hx hb d_law_667 rfl (lv_at hl 0 rfl) ?_
  refine lv_iconst (v := 1) hx hb d_law_668 (by decide) ?_
  refine lv_iadd hx hb d_law_669 ?_
  refine va_sld hx hb hX hbl hbA hS (i := 0 + 1) p1_in1 d_law_670 ?_
  refine lv_aload_n hx hb d_law_671 rfl (lv_at hl 3 rfl) ?_
  refine lv_iload_n hx hb d_law_672 rfl (lv_at hl 0 rfl) ?_
  refine lv_iconst (v := 2) hx hb d_law_673 (by decide) ?_
  refine lv_iadd hx hb d_law_674 ?_
  refine va_sld hx hb hX hbl hbA hS (i := 0 + 2) p1_in2 d_law_675 ?_
  refine lv_aload_n hx hb d_law_676 rfl (lv_at hl 3 rfl) ?_
  refine lv_iload_n hx hb d_law_677 rfl (lv_at hl 0 rfl) ?_
  refine lv_iconst (v := 3) hx hb d_law_678 (by decide) ?_
  refine lv_iadd hx hb d_law_679 ?_
  refine va_sld hx hb hX hbl hbA hS (i := 0 + 3) p1_in3 d_law_680 ?_
  refine gw_callV (G := (p1_G l s dC dI aC pl xs)) (cc := code) (own := R_law) (nL := 4) (y2 := (ri_M 85).1) (n2 := (ri_M 85).2.1) (d2 := 20) (a := 0) (ci := 8) (q := (RX8, TX8, 13)) (as := p1_vals 0 [q1, q2, q3]) (rest := []) hx hb hml hown hts2 hK hW hlo hl.1 d_law_681 (ri_all 85).1 (by decide +kernel) ((ri_all 85).2.2.1 (by decide +kernel)).1 ((ri_all 85).2.2.1 (by decide +kernel)).2 rfl (by decide +kernel) (by decide) (ri_h_at (L := p1_lit) (a := 0) (e := .inr (8, _)) rfl) (by rw [hlen]; decide +kernel) (by decide) (by decide) (by decide) (by show _ ≤ 600000; omega) (by show _ ≤ 7302250; omega) c1 (by rw [hargs]; rfl) (fun r N2 h2 H locs hp hW hlo => ?_)
  obtain ⟨rfl, rfl, rfl⟩ := hp
  rw [g1] at hW
  have hS := am_S hK.2.1 hW hlo
  obtain ⟨a9, rfl, rfl⟩ : ∃ a9, v = .retAddr a9 ∧ w = .retAddr a9 := p1_eq_ok heq
  refine W.eq (g2 := F0 m 684 ls [.int (nI a9)]) rfl ?_
  refine lv_aload_n hx hb d_law_684 rfl (lv_at hl 1 rfl) ?_
  refine lv_aload_n hx hb d_law_685 rfl (lv_at hl 3 rfl) ?_
  refine lv_iload_n hx hb d_law_686 rfl (lv_at hl 0 rfl) ?_
  refine lv_iconst (v := 1) hx hb d_law_687 (by decide) ?_
  refine lv_iadd hx hb d_law_688 ?_
  refine va_sld hx hb hX hbl hbA hS (i := 0 + 1) p1_in1 d_law_689 ?_
  refine lv_aload_n hx hb d_law_690 rfl (lv_at hl 3 rfl) ?_
  refine lv_iload_n hx hb d_law_691 rfl (lv_at hl 0 rfl) ?_
  refine lv_iconst (v := 2) hx hb d_law_692 (by decide) ?_
  refine lv_iadd hx hb d_law_693 ?_
  refine va_sld hx hb hX hbl hbA hS (i := 0 + 2) p1_in2 d_law_694 ?_
  refine lv_aload_n hx hb d_law_695 rfl (lv_at hl 3 rfl) ?_
  refine lv_iload_n hx hb d_law_696 rfl (lv_at hl 0 rfl) ?_
  refine lv_iconst (v := 3) hx hb d_law_697 (by decide) ?_
  refine lv_iadd hx hb d_law_698 ?_
  refine va_sld hx hb hX hbl hbA hS (i := 0 + 3) p1_in3 d_law_699 ?_
  obtain ⟨fs9, hfs9⟩ : ∃ fs, ri_get L3.2.2 106 = some (.inr (9, fs)) := hc9
  refine gw_callV (G := (p1_G l s dC dI aC pl xs)) (cc := code) (own := R_law) (nL := 4) (y2 := (ri_M 164).1) (n2 := (ri_M 164).2.1) (d2 := 20) (a := 106) (ci := 9) (q := (RX9, TX9, 28)) (as := p1_vals 0 [q1, q2, q3]) (rest := [.int (nI a9)]) hx hb hml hown hts2 hK hW hlo hl.1 d_law_700 (ri_all 164).1 (by decide +kernel) ((ri_all 164).2.2.1 (by decide +kernel)).1 ((ri_all 164).2.2.1 (by decide +kernel)).2 rfl (by decide +kernel) (by decide) (ri_h_at hfs9) (by rw [hlen]; decide +kernel) (Nat.le_of_ble_eq_true rfl) (by decide) (by decide) (by show _ ≤ 600000; omega) (by show _ ≤ 7302250; omega) c2 (by rw [hargs]; rfl) (fun r N2 h2 H locs hp hW hlo => ?_)
  obtain ⟨rfl, rfl, rfl⟩ := hp
  refine W.eq (g2 := F0 m 703 ls [.int (nI a9), .int (nI a9)]) rfl ?_
  refine lv_icmp_eq (tgt := 1112) hx hb d_law_703 (by decide) (fun _ => ?_) (fun q => absurd rfl q)
  exact p1_fin C1 hK hW hlo (by omega) (by omega) hl
theorem p1_op18 {p : Program} {e : Env} {s : State} {m : MethodId} {below : List Frame} {meth : Method} {c : Code} {b : Nat} {xs : Nat → Int32} {l : Launch} {dC : Nat → ClassId} {dI : Nat → Nat → Nat} {aC : Nat → ClassId} {pl : Nat} (C0 : lw_At p s m meth c b 5 xs) (hK : am_K (p1_G l s dC dI aC pl xs) s) {H : Heap} {locs : List Loc} {ls : Array Slot} {n : Nat} (hW : am_W (p1_G l s dC dI aC pl xs) 122 (ri_h p1_lit) H) (hlo : ∀ q ∈ locs, s.heap.size ≤ q.base) (hn : n ≤ 1000000) (hl : lv_has ls 4 [(3, .int 0), (2, .ref (s.heap.size + 106)), (1, .ref (s.heap.size + 0)), (0, .ref b)]) : W p l e room_1 s m #[Value.ref b] below meth c H locs 122 n (lw_Z below #[Value.ref b] s) (F0 m 708 ls []) := by
  have C1 := C0
  obtain ⟨hx, hb, hr, hml, hown, hts, hX, hbl, hlocks, hgv⟩ := C0
  have hts2 := am_hts hts
  have hS := am_S hK.2.1 hW hlo
  have hbA : ¬ (fun q : Nat => s.heap.size ≤ q) b := Nat.not_le.mpr hbl
  obtain ⟨q1, q2, q3, f1, f2, f3, hchk⟩ := p1_u3 p1_k18 (by decide +kernel) (xs 1) (xs 2) (xs 3)
  have hE : am_Env (p1_G l s dC dI aC pl xs) [q1, q2, q3] := p1_env (fun j q hq => by
    match j, hq with
    | 0, hq => cases hq; exact f1
    | 1, hq => cases hq; exact f2
    | 2, hq => cases hq; exact f3
    | j + 3, hq => simp at hq)
  have hargs : (p1_vals 0 [q1, q2, q3]).map (am_cv (p1_G l s dC dI aC pl xs)) = [.int (xs 1), .int (xs 2), .int (xs 3)] := by
    simp only [p1_vals, List.map_cons, List.map_nil]
    rw [p1_val_cv (G := (p1_G l s dC dI aC pl xs)) (i := 0) (by decide) f1, p1_val_cv (G := (p1_G l s dC dI aC pl xs)) (i := 1) (by decide) f2, p1_val_cv (G := (p1_G l s dC dI aC pl xs)) (i := 2) (by decide) f3]
  have hlen : (p1_vals 0 [q1, q2, q3]).length = 3 := rfl
  obtain ⟨v, w, L3, L4, heq, hc9, g1, g2, g3, g4, c1, c2⟩ := p1_pair hchk hE
  refine lv_aload_n hx hb d_law_708 rfl (lv_at hl 2 rfl) ?_
  refine lv_aload_n hx hb d_law_709 rfl (lv_at hl 3 rfl) ?_
  refine lv_iload_n hx hb d_law_710 rfl (lv_at hl 0 rfl) ?_
  refine lv_iconst (v := 1) hx hb d_law_711 (by decide) ?_
  refine lv_iadd hx hb d_law_712 ?_
  refine va_sld hx hb hX hbl hbA hS (i := 0 + 1) p1_in1 d_law_713 ?_
  refine lv_aload_n hx hb d_law_714 rfl (lv_at hl 3 rfl) ?_
  refine lv_iload_n hx hb d_law_715 rfl (lv_at hl 0 rfl) ?_
  refine lv_iconst (v := 2) hx hb d_law_716 (by decide) ?_
  refine lv_iadd hx hb d_law_717 ?_
  refine va_sld hx hb hX hbl hbA hS (i := 0 + 2) p1_in2 d_law_718 ?_
  refine lv_aload_n hx hb d_law_719 rfl (lv_at hl 3 rfl) ?_
  refine lv_iload_n hx hb d_law_720 rfl (lv_at hl 0 rfl) ?_
  refine lv_iconst (v := 3) hx hb d_law_721 (by decide) ?_
  refine lv_iadd hx hb d_law_722 ?_
  refine va_sld hx hb hX hbl hbA hS (i := 0 + 3) p1_in3 d_law_723 ?_
  refine gw_callV (G := (p1_G l s dC dI aC pl xs)) (cc := code) (own := R_law) (nL := 4) (y2 := (ri_M 86).1) (n2 := (ri_M 86).2.1) (d2 := 20) (a := 0) (ci := 8) (q := (RX8, TX8, 13)) (as := p1_vals 0 [q1, q2, q3]) (rest := []) hx hb hml hown hts2 hK hW hlo hl.1 d_law_724 (ri_all 86).1 (by decide +kernel) ((ri_all 86).2.2.1 (by decide +kernel)).1 ((ri_all 86).2.2.1 (by decide +kernel)).2 rfl (by decide +kernel) (by decide) (ri_h_at (L := p1_lit) (a := 0) (e := .inr (8, _)) rfl) (by rw [hlen]; decide +kernel) (by decide) (by decide) (by decide) (by show _ ≤ 600000; omega) (by show _ ≤ 7302250; omega) c1 (by rw [hargs]; rfl) (fun r N2 h2 H locs hp hW hlo => ?_)
  obtain ⟨rfl, rfl, rfl⟩ := hp
  rw [g1] at hW
  have hS := am_S hK.2.1 hW hlo
  obtain ⟨a9, rfl, rfl⟩ : ∃ a9, v = .retAddr a9 ∧ w = .retAddr a9 := p1_eq_ok heq
  refine W.eq (g2 := F0 m 727 ls [.int (nI a9)]) rfl ?_
  refine lv_aload_n hx hb d_law_727 rfl (lv_at hl 1 rfl) ?_
  refine lv_aload_n hx hb d_law_728 rfl (lv_at hl 3 rfl) ?_
  refine lv_iload_n hx hb d_law_729 rfl (lv_at hl 0 rfl) ?_
  refine lv_iconst (v := 1) hx hb d_law_730 (by decide) ?_
  refine lv_iadd hx hb d_law_731 ?_
  refine va_sld hx hb hX hbl hbA hS (i := 0 + 1) p1_in1 d_law_732 ?_
  refine lv_aload_n hx hb d_law_733 rfl (lv_at hl 3 rfl) ?_
  refine lv_iload_n hx hb d_law_734 rfl (lv_at hl 0 rfl) ?_
  refine lv_iconst (v := 2) hx hb d_law_735 (by decide) ?_
  refine lv_iadd hx hb d_law_736 ?_
  refine va_sld hx hb hX hbl hbA hS (i := 0 + 2) p1_in2 d_law_737 ?_
  refine lv_aload_n hx hb d_law_738 rfl (lv_at hl 3 rfl) ?_
  refine lv_iload_n hx hb d_law_739 rfl (lv_at hl 0 rfl) ?_
  refine lv_iconst (v := 3) hx hb d_law_740 (by decide) ?_
  refine lv_iadd hx hb d_law_741 ?_
  refine va_sld hx hb hX hbl hbA hS (i := 0 + 3) p1_in3 d_law_742 ?_
  obtain ⟨fs9, hfs9⟩ : ∃ fs, ri_get L3.2.2 106 = some (.inr (9, fs)) := hc9
  refine gw_callV (G := (p1_G l s dC dI aC pl xs)) (cc := code) (own := R_law) (nL := 4) (y2 := (ri_M 165).1) (n2 := (ri_M 165).2.1) (d2 := 20) (a := 106) (ci := 9) (q := (RX9, TX9, 28)) (as := p1_vals 0 [q1, q2, q3]) (rest := [.int (nI a9)]) hx hb hml hown hts2 hK hW hlo hl.1 d_law_743 (ri_all 165).1 (by decide +kernel) ((ri_all 165).2.2.1 (by decide +kernel)).1 ((ri_all 165).2.2.1 (by decide +kernel)).2 rfl (by decide +kernel) (by decide) (ri_h_at hfs9) (by rw [hlen]; decide +kernel) (Nat.le_of_ble_eq_true rfl) (by decide) (by decide) (by show _ ≤ 600000; omega) (by show _ ≤ 7302250; omega) c2 (by rw [hargs]; rfl) (fun r N2 h2 H locs hp hW hlo => ?_)
  obtain ⟨rfl, rfl, rfl⟩ := hp
  refine W.eq (g2 := F0 m 746 ls [.int (nI a9), .int (nI a9)]) rfl ?_
  refine lv_icmp_eq (tgt := 1112) hx hb d_law_746 (by decide) (fun _ => ?_) (fun q => absurd rfl q)
  exact p1_fin C1 hK hW hlo (by omega) (by omega) hl
theorem p1_op19 {p : Program} {e : Env} {s : State} {m : MethodId} {below : List Frame} {meth : Method} {c : Code} {b : Nat} {xs : Nat → Int32} {l : Launch} {dC : Nat → ClassId} {dI : Nat → Nat → Nat} {aC : Nat → ClassId} {pl : Nat} (C0 : lw_At p s m meth c b 5 xs) (hK : am_K (p1_G l s dC dI aC pl xs) s) {H : Heap} {locs : List Loc} {ls : Array Slot} {n : Nat} (hW : am_W (p1_G l s dC dI aC pl xs) 122 (ri_h p1_lit) H) (hlo : ∀ q ∈ locs, s.heap.size ≤ q.base) (hn : n ≤ 1000000) (hl : lv_has ls 4 [(3, .int 0), (2, .ref (s.heap.size + 106)), (1, .ref (s.heap.size + 0)), (0, .ref b)]) : W p l e room_1 s m #[Value.ref b] below meth c H locs 122 n (lw_Z below #[Value.ref b] s) (F0 m 751 ls []) := by
  have C1 := C0
  obtain ⟨hx, hb, hr, hml, hown, hts, hX, hbl, hlocks, hgv⟩ := C0
  have hts2 := am_hts hts
  have hS := am_S hK.2.1 hW hlo
  have hbA : ¬ (fun q : Nat => s.heap.size ≤ q) b := Nat.not_le.mpr hbl
  obtain ⟨q1, q2, f1, f2, hchk⟩ := p1_u2 p1_k19 (by decide +kernel) (xs 1) (xs 2)
  have hE : am_Env (p1_G l s dC dI aC pl xs) [q1, q2] := p1_env (fun j q hq => by
    match j, hq with
    | 0, hq => cases hq; exact f1
    | 1, hq => cases hq; exact f2
    | j + 2, hq => simp at hq)
  have hargs : (p1_vals 0 [q1, q2]).map (am_cv (p1_G l s dC dI aC pl xs)) = [.int (xs 1), .int (xs 2)] := by
    simp only [p1_vals, List.map_cons, List.map_nil]
    rw [p1_val_cv (G := (p1_G l s dC dI aC pl xs)) (i := 0) (by decide) f1, p1_val_cv (G := (p1_G l s dC dI aC pl xs)) (i := 1) (by decide) f2]
  have hlen : (p1_vals 0 [q1, q2]).length = 2 := rfl
  obtain ⟨v, w, L3, L4, heq, hc9, g1, g2, g3, g4, c1, c2⟩ := p1_pair hchk hE
  refine lv_aload_n hx hb d_law_751 rfl (lv_at hl 2 rfl) ?_
  refine lv_aload_n hx hb d_law_752 rfl (lv_at hl 3 rfl) ?_
  refine lv_iload_n hx hb d_law_753 rfl (lv_at hl 0 rfl) ?_
  refine lv_iconst (v := 1) hx hb d_law_754 (by decide) ?_
  refine lv_iadd hx hb d_law_755 ?_
  refine va_sld hx hb hX hbl hbA hS (i := 0 + 1) p1_in1 d_law_756 ?_
  refine lv_aload_n hx hb d_law_757 rfl (lv_at hl 3 rfl) ?_
  refine lv_iload_n hx hb d_law_758 rfl (lv_at hl 0 rfl) ?_
  refine lv_iconst (v := 2) hx hb d_law_759 (by decide) ?_
  refine lv_iadd hx hb d_law_760 ?_
  refine va_sld hx hb hX hbl hbA hS (i := 0 + 2) p1_in2 d_law_761 ?_
  refine gw_callV (G := (p1_G l s dC dI aC pl xs)) (cc := code) (own := R_law) (nL := 4) (y2 := (ri_M 87).1) (n2 := (ri_M 87).2.1) (d2 := 20) (a := 0) (ci := 8) (q := (RX8, TX8, 13)) (as := p1_vals 0 [q1, q2]) (rest := []) hx hb hml hown hts2 hK hW hlo hl.1 d_law_762 (ri_all 87).1 (by decide +kernel) ((ri_all 87).2.2.1 (by decide +kernel)).1 ((ri_all 87).2.2.1 (by decide +kernel)).2 rfl (by decide +kernel) (by decide) (ri_h_at (L := p1_lit) (a := 0) (e := .inr (8, _)) rfl) (by rw [hlen]; decide +kernel) (by decide) (by decide) (by decide) (by show _ ≤ 600000; omega) (by show _ ≤ 7302250; omega) c1 (by rw [hargs]; rfl) (fun r N2 h2 H locs hp hW hlo => ?_)
  obtain ⟨rfl, rfl, rfl⟩ := hp
  rw [g1] at hW
  have hS := am_S hK.2.1 hW hlo
  obtain ⟨a9, rfl, rfl⟩ : ∃ a9, v = .retAddr a9 ∧ w = .retAddr a9 := p1_eq_ok heq
  refine W.eq (g2 := F0 m 765 ls [.int (nI a9)]) rfl ?_
  refine lv_aload_n hx hb d_law_765 rfl (lv_at hl 1 rfl) ?_
  refine lv_aload_n hx hb d_law_766 rfl (lv_at hl 3 rfl) ?_
  refine lv_iload_n hx hb d_law_767 rfl (lv_at hl 0 rfl) ?_
  refine lv_iconst (v := 1) hx hb d_law_768 (by decide) ?_
  refine lv_iadd hx hb d_law_769 ?_
  refine va_sld hx hb hX hbl hbA hS (i := 0 + 1) p1_in1 d_law_770 ?_
  refine lv_aload_n hx hb d_law_771 rfl (lv_at hl 3 rfl) ?_
  refine lv_iload_n hx hb d_law_772 rfl (lv_at hl 0 rfl) ?_
  refine lv_iconst (v := 2) hx hb d_law_773 (by decide) ?_
  refine lv_iadd hx hb d_law_774 ?_
  refine va_sld hx hb hX hbl hbA hS (i := 0 + 2) p1_in2 d_law_775 ?_
  obtain ⟨fs9, hfs9⟩ : ∃ fs, ri_get L3.2.2 106 = some (.inr (9, fs)) := hc9
  refine gw_callV (G := (p1_G l s dC dI aC pl xs)) (cc := code) (own := R_law) (nL := 4) (y2 := (ri_M 170).1) (n2 := (ri_M 170).2.1) (d2 := 20) (a := 106) (ci := 9) (q := (RX9, TX9, 28)) (as := p1_vals 0 [q1, q2]) (rest := [.int (nI a9)]) hx hb hml hown hts2 hK hW hlo hl.1 d_law_776 (ri_all 170).1 (by decide +kernel) ((ri_all 170).2.2.1 (by decide +kernel)).1 ((ri_all 170).2.2.1 (by decide +kernel)).2 rfl (by decide +kernel) (by decide) (ri_h_at hfs9) (by rw [hlen]; decide +kernel) (Nat.le_of_ble_eq_true rfl) (by decide) (by decide) (by show _ ≤ 600000; omega) (by show _ ≤ 7302250; omega) c2 (by rw [hargs]; rfl) (fun r N2 h2 H locs hp hW hlo => ?_)
  obtain ⟨rfl, rfl, rfl⟩ := hp
  refine W.eq (g2 := F0 m 779 ls [.int (nI a9), .int (nI a9)]) rfl ?_
  refine lv_icmp_eq (tgt := 1112) hx hb d_law_779 (by decide) (fun _ => ?_) (fun q => absurd rfl q)
  exact p1_fin C1 hK hW hlo (by omega) (by omega) hl
theorem p1_op20 {p : Program} {e : Env} {s : State} {m : MethodId} {below : List Frame} {meth : Method} {c : Code} {b : Nat} {xs : Nat → Int32} {l : Launch} {dC : Nat → ClassId} {dI : Nat → Nat → Nat} {aC : Nat → ClassId} {pl : Nat} (C0 : lw_At p s m meth c b 5 xs) (hK : am_K (p1_G l s dC dI aC pl xs) s) {H : Heap} {locs : List Loc} {ls : Array Slot} {n : Nat} (hW : am_W (p1_G l s dC dI aC pl xs) 122 (ri_h p1_lit) H) (hlo : ∀ q ∈ locs, s.heap.size ≤ q.base) (hn : n ≤ 1000000) (hl : lv_has ls 4 [(3, .int 0), (2, .ref (s.heap.size + 106)), (1, .ref (s.heap.size + 0)), (0, .ref b)]) : W p l e room_1 s m #[Value.ref b] below meth c H locs 122 n (lw_Z below #[Value.ref b] s) (F0 m 784 ls []) := by
  have C1 := C0
  obtain ⟨hx, hb, hr, hml, hown, hts, hX, hbl, hlocks, hgv⟩ := C0
  have hts2 := am_hts hts
  have hS := am_S hK.2.1 hW hlo
  have hbA : ¬ (fun q : Nat => s.heap.size ≤ q) b := Nat.not_le.mpr hbl
  obtain ⟨q1, f1, hchk⟩ := p1_u1 p1_k20 (by decide +kernel) (xs 1)
  have hE : am_Env (p1_G l s dC dI aC pl xs) [q1] := p1_env (fun j q hq => by
    match j, hq with
    | 0, hq => cases hq; exact f1
    | j + 1, hq => simp at hq)
  have hargs : (p1_vals 0 [q1]).map (am_cv (p1_G l s dC dI aC pl xs)) = [.int (xs 1)] := by
    simp only [p1_vals, List.map_cons, List.map_nil]
    rw [p1_val_cv (G := (p1_G l s dC dI aC pl xs)) (i := 0) (by decide) f1]
  have hlen : (p1_vals 0 [q1]).length = 1 := rfl
  obtain ⟨v, w, L3, L4, heq, hc9, g1, g2, g3, g4, c1, c2⟩ := p1_pair hchk hE
  refine lv_aload_n hx hb d_law_784 rfl (lv_at hl 2 rfl) ?_
  refine lv_aload_n hx hb d_law_785 rfl (lv_at hl 3 rfl) ?_
  refine lv_iload_n hx hb d_law_786 rfl (lv_at hl 0 rfl) ?_
  refine lv_iconst (v := 1) hx hb d_law_787 (by decide) ?_
  refine lv_iadd hx hb d_law_788 ?_
  refine va_sld hx hb hX hbl hbA hS (i := 0 + 1) p1_in1 d_law_789 ?_
  refine gw_callV (G := (p1_G l s dC dI aC pl xs)) (cc := code) (own := R_law) (nL := 4) (y2 := (ri_M 88).1) (n2 := (ri_M 88).2.1) (d2 := 20) (a := 0) (ci := 8) (q := (RX8, TX8, 13)) (as := p1_vals 0 [q1]) (rest := []) hx hb hml hown hts2 hK hW hlo hl.1 d_law_790 (ri_all 88).1 (by decide +kernel) ((ri_all 88).2.2.1 (by decide +kernel)).1 ((ri_all 88).2.2.1 (by decide +kernel)).2 rfl (by decide +kernel) (by decide) (ri_h_at (L := p1_lit) (a := 0) (e := .inr (8, _)) rfl) (by rw [hlen]; decide +kernel) (by decide) (by decide) (by decide) (by show _ ≤ 600000; omega) (by show _ ≤ 7302250; omega) c1 (by rw [hargs]; rfl) (fun r N2 h2 H locs hp hW hlo => ?_)
  obtain ⟨rfl, rfl, rfl⟩ := hp
  rw [g1] at hW
  have hS := am_S hK.2.1 hW hlo
  obtain ⟨a9, rfl, rfl⟩ : ∃ a9, v = .retAddr a9 ∧ w = .retAddr a9 := p1_eq_ok heq
  refine W.eq (g2 := F0 m 793 ls [.int (nI a9)]) rfl ?_
  refine lv_aload_n hx hb d_law_793 rfl (lv_at hl 1 rfl) ?_
  refine lv_aload_n hx hb d_law_794 rfl (lv_at hl 3 rfl) ?_
  refine lv_iload_n hx hb d_law_795 rfl (lv_at hl 0 rfl) ?_
  refine lv_iconst (v := 1) hx hb d_law_796 (by decide) ?_
  refine lv_iadd hx hb d_law_797 ?_
  refine va_sld hx hb hX hbl hbA hS (i := 0 + 1) p1_in1 d_law_798 ?_
  obtain ⟨fs9, hfs9⟩ : ∃ fs, ri_get L3.2.2 106 = some (.inr (9, fs)) := hc9
  refine gw_callV (G := (p1_G l s dC dI aC pl xs)) (cc := code) (own := R_law) (nL := 4) (y2 := (ri_M 174).1) (n2 := (ri_M 174).2.1) (d2 := 20) (a := 106) (ci := 9) (q := (RX9, TX9, 28)) (as := p1_vals 0 [q1]) (rest := [.int (nI a9)]) hx hb hml hown hts2 hK hW hlo hl.1 d_law_799 (ri_all 174).1 (by decide +kernel) ((ri_all 174).2.2.1 (by decide +kernel)).1 ((ri_all 174).2.2.1 (by decide +kernel)).2 rfl (by decide +kernel) (by decide) (ri_h_at hfs9) (by rw [hlen]; decide +kernel) (Nat.le_of_ble_eq_true rfl) (by decide) (by decide) (by show _ ≤ 600000; omega) (by show _ ≤ 7302250; omega) c2 (by rw [hargs]; rfl) (fun r N2 h2 H locs hp hW hlo => ?_)
  obtain ⟨rfl, rfl, rfl⟩ := hp
  refine W.eq (g2 := F0 m 802 ls [.int (nI a9), .int (nI a9)]) rfl ?_
  refine lv_icmp_eq (tgt := 1112) hx hb d_law_802 (by decide) (fun _ => ?_) (fun q => absurd rfl q)
  exact p1_fin C1 hK hW hlo (by omega) (by omega) hl
theorem p1_op21 {p : Program} {e : Env} {s : State} {m : MethodId} {below : List Frame} {meth : Method} {c : Code} {b : Nat} {xs : Nat → Int32} {l : Launch} {dC : Nat → ClassId} {dI : Nat → Nat → Nat} {aC : Nat → ClassId} {pl : Nat} (C0 : lw_At p s m meth c b 5 xs) (hK : am_K (p1_G l s dC dI aC pl xs) s) {H : Heap} {locs : List Loc} {ls : Array Slot} {n : Nat} (hW : am_W (p1_G l s dC dI aC pl xs) 122 (ri_h p1_lit) H) (hlo : ∀ q ∈ locs, s.heap.size ≤ q.base) (hn : n ≤ 1000000) (hl : lv_has ls 4 [(3, .int 0), (2, .ref (s.heap.size + 106)), (1, .ref (s.heap.size + 0)), (0, .ref b)]) : W p l e room_1 s m #[Value.ref b] below meth c H locs 122 n (lw_Z below #[Value.ref b] s) (F0 m 807 ls []) := by
  have C1 := C0
  obtain ⟨hx, hb, hr, hml, hown, hts, hX, hbl, hlocks, hgv⟩ := C0
  have hts2 := am_hts hts
  have hS := am_S hK.2.1 hW hlo
  have hbA : ¬ (fun q : Nat => s.heap.size ≤ q) b := Nat.not_le.mpr hbl
  obtain ⟨q1, q2, f1, f2, hchk⟩ := p1_u2 p1_k21 (by decide +kernel) (xs 1) (xs 2)
  have hE : am_Env (p1_G l s dC dI aC pl xs) [q1, q2] := p1_env (fun j q hq => by
    match j, hq with
    | 0, hq => cases hq; exact f1
    | 1, hq => cases hq; exact f2
    | j + 2, hq => simp at hq)
  have hargs : (p1_vals 0 [q1, q2]).map (am_cv (p1_G l s dC dI aC pl xs)) = [.int (xs 1), .int (xs 2)] := by
    simp only [p1_vals, List.map_cons, List.map_nil]
    rw [p1_val_cv (G := (p1_G l s dC dI aC pl xs)) (i := 0) (by decide) f1, p1_val_cv (G := (p1_G l s dC dI aC pl xs)) (i := 1) (by decide) f2]
  have hlen : (p1_vals 0 [q1, q2]).length = 2 := rfl
  obtain ⟨v, w, L3, L4, heq, hc9, g1, g2, g3, g4, c1, c2⟩ := p1_pair hchk hE
  refine lv_aload_n hx hb d_law_807 rfl (lv_at hl 2 rfl) ?_
  refine lv_aload_n hx hb d_law_808 rfl (lv_at hl 3 rfl) ?_
  refine lv_iload_n hx hb d_law_809 rfl (lv_at hl 0 rfl) ?_
  refine lv_iconst (v := 1) hx hb d_law_810 (by decide) ?_
  refine lv_iadd hx hb d_law_811 ?_
  refine va_sld hx hb hX hbl hbA hS (i := 0 + 1) p1_in1 d_law_812 ?_
  refine lv_aload_n hx hb d_law_813 rfl (lv_at hl 3 rfl) ?_
  refine lv_iload_n hx hb d_law_814 rfl (lv_at hl 0 rfl) ?_
  refine lv_iconst (v := 2) hx hb d_law_815 (by decide) ?_
  refine lv_iadd hx hb d_law_816 ?_
  refine va_sld hx hb hX hbl hbA hS (i := 0 + 2) p1_in2 d_law_817 ?_
  refine gw_callV (G := (p1_G l s dC dI aC pl xs)) (cc := code) (own := R_law) (nL := 4) (y2 := (ri_M 89).1) (n2 := (ri_M 89).2.1) (d2 := 20) (a := 0) (ci := 8) (q := (RX8, TX8, 13)) (as := p1_vals 0 [q1, q2]) (rest := []) hx hb hml hown hts2 hK hW hlo hl.1 d_law_818 (ri_all 89).1 (by decide +kernel) ((ri_all 89).2.2.1 (by decide +kernel)).1 ((ri_all 89).2.2.1 (by decide +kernel)).2 rfl (by decide +kernel) (by decide) (ri_h_at (L := p1_lit) (a := 0) (e := .inr (8, _)) rfl) (by rw [hlen]; decide +kernel) (by decide) (by decide) (by decide) (by show _ ≤ 600000; omega) (by show _ ≤ 7302250; omega) c1 (by rw [hargs]; rfl) (fun r N2 h2 H locs hp hW hlo => ?_)
  obtain ⟨rfl, rfl, rfl⟩ := hp
  rw [g1] at hW
  have hS := am_S hK.2.1 hW hlo
  obtain ⟨a9, rfl, rfl⟩ : ∃ a9, v = .retAddr a9 ∧ w = .retAddr a9 := p1_eq_ok heq
  refine W.eq (g2 := F0 m 821 ls [.int (nI a9)]) rfl ?_
  refine lv_aload_n hx hb d_law_821 rfl (lv_at hl 1 rfl) ?_
  refine lv_aload_n hx hb d_law_822 rfl (lv_at hl 3 rfl) ?_
  refine lv_iload_n hx hb d_law_823 rfl (lv_at hl 0 rfl) ?_
  refine lv_iconst (v := 1) hx hb d_law_824 (by decide) ?_
  refine lv_iadd hx hb d_law_825 ?_
  refine va_sld hx hb hX hbl hbA hS (i := 0 + 1) p1_in1 d_law_826 ?_
  refine lv_aload_n hx hb d_law_827 rfl (lv_at hl 3 rfl) ?_
  refine lv_iload_n hx hb d_law_828 rfl (lv_at hl 0 rfl) ?_
  refine lv_iconst (v := 2) hx hb d_law_829 (by decide) ?_
  refine lv_iadd hx hb d_law_830 ?_
  refine va_sld hx hb hX hbl hbA hS (i := 0 + 2) p1_in2 d_law_831 ?_
  obtain ⟨fs9, hfs9⟩ : ∃ fs, ri_get L3.2.2 106 = some (.inr (9, fs)) := hc9
  refine gw_callV (G := (p1_G l s dC dI aC pl xs)) (cc := code) (own := R_law) (nL := 4) (y2 := (ri_M 176).1) (n2 := (ri_M 176).2.1) (d2 := 20) (a := 106) (ci := 9) (q := (RX9, TX9, 28)) (as := p1_vals 0 [q1, q2]) (rest := [.int (nI a9)]) hx hb hml hown hts2 hK hW hlo hl.1 d_law_832 (ri_all 176).1 (by decide +kernel) ((ri_all 176).2.2.1 (by decide +kernel)).1 ((ri_all 176).2.2.1 (by decide +kernel)).2 rfl (by decide +kernel) (by decide) (ri_h_at hfs9) (by rw [hlen]; decide +kernel) (Nat.le_of_ble_eq_true rfl) (by decide) (by decide) (by show _ ≤ 600000; omega) (by show _ ≤ 7302250; omega) c2 (by rw [hargs]; rfl) (fun r N2 h2 H locs hp hW hlo => ?_)
  obtain ⟨rfl, rfl, rfl⟩ := hp
  refine W.eq (g2 := F0 m 835 ls [.int (nI a9), .int (nI a9)]) rfl ?_
  refine lv_icmp_eq (tgt := 1112) hx hb d_law_835 (by decide) (fun _ => ?_) (fun q => absurd rfl q)
  exact p1_fin C1 hK hW hlo (by omega) (by omega) hl
theorem p1_op22 {p : Program} {e : Env} {s : State} {m : MethodId} {below : List Frame} {meth : Method} {c : Code} {b : Nat} {xs : Nat → Int32} {l : Launch} {dC : Nat → ClassId} {dI : Nat → Nat → Nat} {aC : Nat → ClassId} {pl : Nat} (C0 : lw_At p s m meth c b 5 xs) (hK : am_K (p1_G l s dC dI aC pl xs) s) {H : Heap} {locs : List Loc} {ls : Array Slot} {n : Nat} (hW : am_W (p1_G l s dC dI aC pl xs) 122 (ri_h p1_lit) H) (hlo : ∀ q ∈ locs, s.heap.size ≤ q.base) (hn : n ≤ 1000000) (hl : lv_has ls 4 [(3, .int 0), (2, .ref (s.heap.size + 106)), (1, .ref (s.heap.size + 0)), (0, .ref b)]) : W p l e room_1 s m #[Value.ref b] below meth c H locs 122 n (lw_Z below #[Value.ref b] s) (F0 m 840 ls []) := by
  have C1 := C0
  obtain ⟨hx, hb, hr, hml, hown, hts, hX, hbl, hlocks, hgv⟩ := C0
  have hts2 := am_hts hts
  have hS := am_S hK.2.1 hW hlo
  have hbA : ¬ (fun q : Nat => s.heap.size ≤ q) b := Nat.not_le.mpr hbl
  obtain ⟨q1, q2, q3, f1, f2, f3, hchk⟩ := p1_u3 p1_k22 (by decide +kernel) (xs 1) (xs 2) (xs 3)
  have hE : am_Env (p1_G l s dC dI aC pl xs) [q1, q2, q3] := p1_env (fun j q hq => by
    match j, hq with
    | 0, hq => cases hq; exact f1
    | 1, hq => cases hq; exact f2
    | 2, hq => cases hq; exact f3
    | j + 3, hq => simp at hq)
  have hargs : (p1_vals 0 [q1, q2, q3]).map (am_cv (p1_G l s dC dI aC pl xs)) = [.int (xs 1), .int (xs 2), .int (xs 3)] := by
    simp only [p1_vals, List.map_cons, List.map_nil]
    rw [p1_val_cv (G := (p1_G l s dC dI aC pl xs)) (i := 0) (by decide) f1, p1_val_cv (G := (p1_G l s dC dI aC pl xs)) (i := 1) (by decide) f2, p1_val_cv (G := (p1_G l s dC dI aC pl xs)) (i := 2) (by decide) f3]
  have hlen : (p1_vals 0 [q1, q2, q3]).length = 3 := rfl
  obtain ⟨v, w, L3, L4, heq, hc9, g1, g2, g3, g4, c1, c2⟩ := p1_pair hchk hE
  refine lv_aload_n hx hb d_law_840 rfl (lv_at hl 2 rfl) ?_
  refine lv_aload_n hx hb d_law_841 rfl (lv_at hl 3 rfl) ?_
  refine lv_iload_n hx hb d_law_842 rfl (lv_at hl 0 rfl) ?_
  refine lv_iconst (v := 1) hx hb d_law_843 (by decide) ?_
  refine lv_iadd hx hb d_law_844 ?_
  refine va_sld hx hb hX hbl hbA hS (i := 0 + 1) p1_in1 d_law_845 ?_
  refine lv_aload_n hx hb d_law_846 rfl (lv_at hl 3 rfl) ?_
  refine lv_iload_n hx hb d_law_847 rfl (lv_at hl 0 rfl) ?_
  refine lv_iconst (v := 2) hx hb d_law_848 (by decide) ?_
  refine lv_iadd hx hb d_law_849 ?_
  refine va_sld hx hb hX hbl hbA hS (i := 0 + 2) p1_in2 d_law_850 ?_
  refine lv_aload_n hx hb d_law_851 rfl (lv_at hl 3 rfl) ?_
  refine lv_iload_n hx hb d_law_852 rfl (lv_at hl 0 rfl) ?_
  refine lv_iconst (v := 3) hx hb d_law_853 (by decide) ?_
  refine lv_iadd hx hb d_law_854 ?_
  refine va_sld hx hb hX hbl hbA hS (i := 0 + 3) p1_in3 d_law_855 ?_
  refine gw_callV (G := (p1_G l s dC dI aC pl xs)) (cc := code) (own := R_law) (nL := 4) (y2 := (ri_M 90).1) (n2 := (ri_M 90).2.1) (d2 := 20) (a := 0) (ci := 8) (q := (RX8, TX8, 13)) (as := p1_vals 0 [q1, q2, q3]) (rest := []) hx hb hml hown hts2 hK hW hlo hl.1 d_law_856 (ri_all 90).1 (by decide +kernel) ((ri_all 90).2.2.1 (by decide +kernel)).1 ((ri_all 90).2.2.1 (by decide +kernel)).2 rfl (by decide +kernel) (by decide) (ri_h_at (L := p1_lit) (a := 0) (e := .inr (8, _)) rfl) (by rw [hlen]; decide +kernel) (by decide) (by decide) (by decide) (by show _ ≤ 600000; omega) (by show _ ≤ 7302250; omega) c1 (by rw [hargs]; rfl) (fun r N2 h2 H locs hp hW hlo => ?_)
  obtain ⟨rfl, rfl, rfl⟩ := hp
  rw [g1] at hW
  have hS := am_S hK.2.1 hW hlo
  obtain ⟨a9, rfl, rfl⟩ : ∃ a9, v = .retAddr a9 ∧ w = .retAddr a9 := p1_eq_ok heq
  refine W.eq (g2 := F0 m 859 ls [.int (nI a9)]) rfl ?_
  refine lv_aload_n hx hb d_law_859 rfl (lv_at hl 1 rfl) ?_
  refine lv_aload_n hx hb d_law_860 rfl (lv_at hl 3 rfl) ?_
  refine lv_iload_n hx hb d_law_861 rfl (lv_at hl 0 rfl) ?_
  refine lv_iconst (v := 1) hx hb d_law_862 (by decide) ?_
  refine lv_iadd hx hb d_law_863 ?_
  refine va_sld hx hb hX hbl hbA hS (i := 0 + 1) p1_in1 d_law_864 ?_
  refine lv_aload_n hx hb d_law_865 rfl (lv_at hl 3 rfl) ?_
  refine lv_iload_n hx hb d_law_866 rfl (lv_at hl 0 rfl) ?_
  refine lv_iconst (v := 2) hx hb d_law_867 (by decide) ?_
  refine lv_iadd hx hb d_law_868 ?_
  refine va_sld hx hb hX hbl hbA hS (i := 0 + 2) p1_in2 d_law_869 ?_
  refine lv_aload_n hx hb d_law_870 rfl (lv_at hl 3 rfl) ?_
  refine lv_iload_n hx hb d_law_871 rfl (lv_at hl 0 rfl) ?_
  refine lv_iconst (v := 3) hx hb d_law_872 (by decide) ?_
  refine lv_iadd hx hb d_law_873 ?_
  refine va_sld hx hb hX hbl hbA hS (i := 0 + 3) p1_in3 d_law_874 ?_
  obtain ⟨fs9, hfs9⟩ : ∃ fs, ri_get L3.2.2 106 = some (.inr (9, fs)) := hc9
  refine gw_callV (G := (p1_G l s dC dI aC pl xs)) (cc := code) (own := R_law) (nL := 4) (y2 := (ri_M 178).1) (n2 := (ri_M 178).2.1) (d2 := 20) (a := 106) (ci := 9) (q := (RX9, TX9, 28)) (as := p1_vals 0 [q1, q2, q3]) (rest := [.int (nI a9)]) hx hb hml hown hts2 hK hW hlo hl.1 d_law_875 (ri_all 178).1 (by decide +kernel) ((ri_all 178).2.2.1 (by decide +kernel)).1 ((ri_all 178).2.2.1 (by decide +kernel)).2 rfl (by decide +kernel) (by decide) (ri_h_at hfs9) (by rw [hlen]; decide +kernel) (Nat.le_of_ble_eq_true rfl) (by decide) (by decide) (by show _ ≤ 600000; omega) (by show _ ≤ 7302250; omega) c2 (by rw [hargs]; rfl) (fun r N2 h2 H locs hp hW hlo => ?_)
  obtain ⟨rfl, rfl, rfl⟩ := hp
  refine W.eq (g2 := F0 m 878 ls [.int (nI a9), .int (nI a9)]) rfl ?_
  refine lv_icmp_eq (tgt := 1112) hx hb d_law_878 (by decide) (fun _ => ?_) (fun q => absurd rfl q)
  exact p1_fin C1 hK hW hlo (by omega) (by omega) hl
theorem p1_op23 {p : Program} {e : Env} {s : State} {m : MethodId} {below : List Frame} {meth : Method} {c : Code} {b : Nat} {xs : Nat → Int32} {l : Launch} {dC : Nat → ClassId} {dI : Nat → Nat → Nat} {aC : Nat → ClassId} {pl : Nat} (C0 : lw_At p s m meth c b 5 xs) (hK : am_K (p1_G l s dC dI aC pl xs) s) {H : Heap} {locs : List Loc} {ls : Array Slot} {n : Nat} (hW : am_W (p1_G l s dC dI aC pl xs) 122 (ri_h p1_lit) H) (hlo : ∀ q ∈ locs, s.heap.size ≤ q.base) (hn : n ≤ 1000000) (hl : lv_has ls 4 [(3, .int 0), (2, .ref (s.heap.size + 106)), (1, .ref (s.heap.size + 0)), (0, .ref b)]) : W p l e room_1 s m #[Value.ref b] below meth c H locs 122 n (lw_Z below #[Value.ref b] s) (F0 m 883 ls []) := by
  have C1 := C0
  obtain ⟨hx, hb, hr, hml, hown, hts, hX, hbl, hlocks, hgv⟩ := C0
  have hts2 := am_hts hts
  have hS := am_S hK.2.1 hW hlo
  have hbA : ¬ (fun q : Nat => s.heap.size ≤ q) b := Nat.not_le.mpr hbl
  obtain ⟨q1, q2, f1, f2, hchk⟩ := p1_u2 p1_k23 (by decide +kernel) (xs 1) (xs 2)
  have hE : am_Env (p1_G l s dC dI aC pl xs) [q1, q2] := p1_env (fun j q hq => by
    match j, hq with
    | 0, hq => cases hq; exact f1
    | 1, hq => cases hq; exact f2
    | j + 2, hq => simp at hq)
  have hargs : (p1_vals 0 [q1, q2]).map (am_cv (p1_G l s dC dI aC pl xs)) = [.int (xs 1), .int (xs 2)] := by
    simp only [p1_vals, List.map_cons, List.map_nil]
    rw [p1_val_cv (G := (p1_G l s dC dI aC pl xs)) (i := 0) (by decide) f1, p1_val_cv (G := (p1_G l s dC dI aC pl xs)) (i := 1) (by decide) f2]
  have hlen : (p1_vals 0 [q1, q2]).length = 2 := rfl
  obtain ⟨v, w, L3, L4, heq, hc9, g1, g2, g3, g4, c1, c2⟩ := p1_pairM hchk hE
  refine lv_aload_n hx hb d_law_883 rfl (lv_at hl 2 rfl) ?_
  refine lv_aload_n hx hb d_law_884 rfl (lv_at hl 3 rfl) ?_
  refine lv_iload_n hx hb d_law_885 rfl (lv_at hl 0 rfl) ?_
  refine lv_iconst (v := 1) hx hb d_law_886 (by decide) ?_
  refine lv_iadd hx hb d_law_887 ?_
  refine va_sld hx hb hX hbl hbA hS (i := 0 + 1) p1_in1 d_law_888 ?_
  refine lv_aload_n hx hb d_law_889 rfl (lv_at hl 3 rfl) ?_
  refine lv_iload_n hx hb d_law_890 rfl (lv_at hl 0 rfl) ?_
  refine lv_iconst (v := 2) hx hb d_law_891 (by decide) ?_
  refine lv_iadd hx hb d_law_892 ?_
  refine va_sld hx hb hX hbl hbA hS (i := 0 + 2) p1_in2 d_law_893 ?_
  refine gw_callV (G := (p1_G l s dC dI aC pl xs)) (cc := code) (own := R_law) (nL := 4) (y2 := (ri_M 91).1) (n2 := (ri_M 91).2.1) (d2 := 20) (a := 0) (ci := 8) (q := (RX8, TX8, 13)) (as := p1_vals 0 [q1, q2]) (rest := []) hx hb hml hown hts2 hK hW hlo hl.1 d_law_894 (ri_all 91).1 (by decide +kernel) ((ri_all 91).2.2.1 (by decide +kernel)).1 ((ri_all 91).2.2.1 (by decide +kernel)).2 rfl (by decide +kernel) (by decide) (ri_h_at (L := p1_lit) (a := 0) (e := .inr (8, _)) rfl) (by rw [hlen]; decide +kernel) (by decide) (by decide) (by decide) (by show _ ≤ 600000; omega) (by show _ ≤ 7302250; omega) c1 (by rw [hargs]; rfl) (fun r N2 h2 H locs hp hW hlo => ?_)
  obtain ⟨rfl, rfl, rfl⟩ := hp
  rw [g1] at hW
  have hS := am_S hK.2.1 hW hlo
  obtain ⟨a9, rfl, rfl⟩ : ∃ a9, v = .long a9 ∧ w = .long a9 := p1_eqL_ok heq
  refine W.eq (g2 := F0 m 897 ls [.long a9]) rfl ?_
  refine lv_aload_n hx hb d_law_897 rfl (lv_at hl 1 rfl) ?_
  refine lv_aload_n hx hb d_law_898 rfl (lv_at hl 3 rfl) ?_
  refine lv_iload_n hx hb d_law_899 rfl (lv_at hl 0 rfl) ?_
  refine lv_iconst (v := 1) hx hb d_law_900 (by decide) ?_
  refine lv_iadd hx hb d_law_901 ?_
  refine va_sld hx hb hX hbl hbA hS (i := 0 + 1) p1_in1 d_law_902 ?_
  refine lv_aload_n hx hb d_law_903 rfl (lv_at hl 3 rfl) ?_
  refine lv_iload_n hx hb d_law_904 rfl (lv_at hl 0 rfl) ?_
  refine lv_iconst (v := 2) hx hb d_law_905 (by decide) ?_
  refine lv_iadd hx hb d_law_906 ?_
  refine va_sld hx hb hX hbl hbA hS (i := 0 + 2) p1_in2 d_law_907 ?_
  obtain ⟨fs9, hfs9⟩ : ∃ fs, ri_get L3.2.2 106 = some (.inr (9, fs)) := hc9
  refine gw_callV (G := (p1_G l s dC dI aC pl xs)) (cc := code) (own := R_law) (nL := 4) (y2 := (ri_M 181).1) (n2 := (ri_M 181).2.1) (d2 := 20) (a := 106) (ci := 9) (q := (RX9, TX9, 28)) (as := p1_vals 0 [q1, q2]) (rest := [.long a9]) hx hb hml hown hts2 hK hW hlo hl.1 d_law_908 (ri_all 181).1 (by decide +kernel) ((ri_all 181).2.2.1 (by decide +kernel)).1 ((ri_all 181).2.2.1 (by decide +kernel)).2 rfl (by decide +kernel) (by decide) (ri_h_at hfs9) (by rw [hlen]; decide +kernel) (Nat.le_of_ble_eq_true rfl) (by decide) (by decide) (by show _ ≤ 600000; omega) (by show _ ≤ 7302250; omega) c2 (by rw [hargs]; rfl) (fun r N2 h2 H locs hp hW hlo => ?_)
  obtain ⟨rfl, rfl, rfl⟩ := hp
  refine W.eq (g2 := F0 m 911 ls [.long a9, .long a9]) rfl ?_
  refine W.lcmp hx hb d_law_911 ?_
  have e9 : lg_cmp a9 a9 = 0 := by simp [lg_cmp]
  rw [e9]
  refine lv_if_eq (tgt := 1112) hx hb d_law_912 (by decide) (fun _ => ?_) (fun q => absurd rfl q)
  exact p1_fin C1 hK hW hlo (by omega) (by omega) hl
theorem p1_op24 {p : Program} {e : Env} {s : State} {m : MethodId} {below : List Frame} {meth : Method} {c : Code} {b : Nat} {xs : Nat → Int32} {l : Launch} {dC : Nat → ClassId} {dI : Nat → Nat → Nat} {aC : Nat → ClassId} {pl : Nat} (C0 : lw_At p s m meth c b 5 xs) (hK : am_K (p1_G l s dC dI aC pl xs) s) {H : Heap} {locs : List Loc} {ls : Array Slot} {n : Nat} (hW : am_W (p1_G l s dC dI aC pl xs) 122 (ri_h p1_lit) H) (hlo : ∀ q ∈ locs, s.heap.size ≤ q.base) (hn : n ≤ 1000000) (hl : lv_has ls 4 [(3, .int 0), (2, .ref (s.heap.size + 106)), (1, .ref (s.heap.size + 0)), (0, .ref b)]) : W p l e room_1 s m #[Value.ref b] below meth c H locs 122 n (lw_Z below #[Value.ref b] s) (F0 m 917 ls []) := by
  have C1 := C0
  obtain ⟨hx, hb, hr, hml, hown, hts, hX, hbl, hlocks, hgv⟩ := C0
  have hts2 := am_hts hts
  have hS := am_S hK.2.1 hW hlo
  have hbA : ¬ (fun q : Nat => s.heap.size ≤ q) b := Nat.not_le.mpr hbl
  obtain ⟨q1, q2, f1, f2, hchk⟩ := p1_u2 p1_k24 (by decide +kernel) (xs 1) (xs 2)
  have hE : am_Env (p1_G l s dC dI aC pl xs) [q1, q2] := p1_env (fun j q hq => by
    match j, hq with
    | 0, hq => cases hq; exact f1
    | 1, hq => cases hq; exact f2
    | j + 2, hq => simp at hq)
  have hargs : (p1_vals 0 [q1, q2]).map (am_cv (p1_G l s dC dI aC pl xs)) = [.int (xs 1), .int (xs 2)] := by
    simp only [p1_vals, List.map_cons, List.map_nil]
    rw [p1_val_cv (G := (p1_G l s dC dI aC pl xs)) (i := 0) (by decide) f1, p1_val_cv (G := (p1_G l s dC dI aC pl xs)) (i := 1) (by decide) f2]
  have hlen : (p1_vals 0 [q1, q2]).length = 2 := rfl
  obtain ⟨v, w, L3, L4, heq, hc9, g1, g2, g3, g4, c1, c2⟩ := p1_pair hchk hE
  refine lv_aload_n hx hb d_law_917 rfl (lv_at hl 2 rfl) ?_
  refine lv_aload_n hx hb d_law_918 rfl (lv_at hl 3 rfl) ?_
  refine lv_iload_n hx hb d_law_919 rfl (lv_at hl 0 rfl) ?_
  refine lv_iconst (v := 1) hx hb d_law_920 (by decide) ?_
  refine lv_iadd hx hb d_law_921 ?_
  refine va_sld hx hb hX hbl hbA hS (i := 0 + 1) p1_in1 d_law_922 ?_
  refine lv_aload_n hx hb d_law_923 rfl (lv_at hl 3 rfl) ?_
  refine lv_iload_n hx hb d_law_924 rfl (lv_at hl 0 rfl) ?_
  refine lv_iconst (v := 2) hx hb d_law_925 (by decide) ?_
  refine lv_iadd hx hb d_law_926 ?_
  refine va_sld hx hb hX hbl hbA hS (i := 0 + 2) p1_in2 d_law_927 ?_
  refine gw_callV (G := (p1_G l s dC dI aC pl xs)) (cc := code) (own := R_law) (nL := 4) (y2 := (ri_M 92).1) (n2 := (ri_M 92).2.1) (d2 := 20) (a := 0) (ci := 8) (q := (RX8, TX8, 13)) (as := p1_vals 0 [q1, q2]) (rest := []) hx hb hml hown hts2 hK hW hlo hl.1 d_law_928 (ri_all 92).1 (by decide +kernel) ((ri_all 92).2.2.1 (by decide +kernel)).1 ((ri_all 92).2.2.1 (by decide +kernel)).2 rfl (by decide +kernel) (by decide) (ri_h_at (L := p1_lit) (a := 0) (e := .inr (8, _)) rfl) (by rw [hlen]; decide +kernel) (by decide) (by decide) (by decide) (by show _ ≤ 600000; omega) (by show _ ≤ 7302250; omega) c1 (by rw [hargs]; rfl) (fun r N2 h2 H locs hp hW hlo => ?_)
  obtain ⟨rfl, rfl, rfl⟩ := hp
  rw [g1] at hW
  have hS := am_S hK.2.1 hW hlo
  obtain ⟨a9, rfl, rfl⟩ : ∃ a9, v = .retAddr a9 ∧ w = .retAddr a9 := p1_eq_ok heq
  refine W.eq (g2 := F0 m 931 ls [.int (nI a9)]) rfl ?_
  refine lv_aload_n hx hb d_law_931 rfl (lv_at hl 1 rfl) ?_
  refine lv_aload_n hx hb d_law_932 rfl (lv_at hl 3 rfl) ?_
  refine lv_iload_n hx hb d_law_933 rfl (lv_at hl 0 rfl) ?_
  refine lv_iconst (v := 1) hx hb d_law_934 (by decide) ?_
  refine lv_iadd hx hb d_law_935 ?_
  refine va_sld hx hb hX hbl hbA hS (i := 0 + 1) p1_in1 d_law_936 ?_
  refine lv_aload_n hx hb d_law_937 rfl (lv_at hl 3 rfl) ?_
  refine lv_iload_n hx hb d_law_938 rfl (lv_at hl 0 rfl) ?_
  refine lv_iconst (v := 2) hx hb d_law_939 (by decide) ?_
  refine lv_iadd hx hb d_law_940 ?_
  refine va_sld hx hb hX hbl hbA hS (i := 0 + 2) p1_in2 d_law_941 ?_
  obtain ⟨fs9, hfs9⟩ : ∃ fs, ri_get L3.2.2 106 = some (.inr (9, fs)) := hc9
  refine gw_callV (G := (p1_G l s dC dI aC pl xs)) (cc := code) (own := R_law) (nL := 4) (y2 := (ri_M 183).1) (n2 := (ri_M 183).2.1) (d2 := 20) (a := 106) (ci := 9) (q := (RX9, TX9, 28)) (as := p1_vals 0 [q1, q2]) (rest := [.int (nI a9)]) hx hb hml hown hts2 hK hW hlo hl.1 d_law_942 (ri_all 183).1 (by decide +kernel) ((ri_all 183).2.2.1 (by decide +kernel)).1 ((ri_all 183).2.2.1 (by decide +kernel)).2 rfl (by decide +kernel) (by decide) (ri_h_at hfs9) (by rw [hlen]; decide +kernel) (Nat.le_of_ble_eq_true rfl) (by decide) (by decide) (by show _ ≤ 600000; omega) (by show _ ≤ 7302250; omega) c2 (by rw [hargs]; rfl) (fun r N2 h2 H locs hp hW hlo => ?_)
  obtain ⟨rfl, rfl, rfl⟩ := hp
  refine W.eq (g2 := F0 m 945 ls [.int (nI a9), .int (nI a9)]) rfl ?_
  refine lv_icmp_eq (tgt := 1112) hx hb d_law_945 (by decide) (fun _ => ?_) (fun q => absurd rfl q)
  exact p1_fin C1 hK hW hlo (by omega) (by omega) hl
theorem p1_op25 {p : Program} {e : Env} {s : State} {m : MethodId} {below : List Frame} {meth : Method} {c : Code} {b : Nat} {xs : Nat → Int32} {l : Launch} {dC : Nat → ClassId} {dI : Nat → Nat → Nat} {aC : Nat → ClassId} {pl : Nat} (C0 : lw_At p s m meth c b 5 xs) (hK : am_K (p1_G l s dC dI aC pl xs) s) {H : Heap} {locs : List Loc} {ls : Array Slot} {n : Nat} (hW : am_W (p1_G l s dC dI aC pl xs) 122 (ri_h p1_lit) H) (hlo : ∀ q ∈ locs, s.heap.size ≤ q.base) (hn : n ≤ 1000000) (hl : lv_has ls 4 [(3, .int 0), (2, .ref (s.heap.size + 106)), (1, .ref (s.heap.size + 0)), (0, .ref b)]) : W p l e room_1 s m #[Value.ref b] below meth c H locs 122 n (lw_Z below #[Value.ref b] s) (F0 m 950 ls []) := by
  have C1 := C0
  obtain ⟨hx, hb, hr, hml, hown, hts, hX, hbl, hlocks, hgv⟩ := C0
  have hts2 := am_hts hts
  have hS := am_S hK.2.1 hW hlo
  have hbA : ¬ (fun q : Nat => s.heap.size ≤ q) b := Nat.not_le.mpr hbl
  obtain ⟨q1, q2, f1, f2, hchk⟩ := p1_u2 p1_k25 (by decide +kernel) (xs 1) (xs 2)
  have hE : am_Env (p1_G l s dC dI aC pl xs) [q1, q2] := p1_env (fun j q hq => by
    match j, hq with
    | 0, hq => cases hq; exact f1
    | 1, hq => cases hq; exact f2
    | j + 2, hq => simp at hq)
  have hargs : (p1_vals 0 [q1, q2]).map (am_cv (p1_G l s dC dI aC pl xs)) = [.int (xs 1), .int (xs 2)] := by
    simp only [p1_vals, List.map_cons, List.map_nil]
    rw [p1_val_cv (G := (p1_G l s dC dI aC pl xs)) (i := 0) (by decide) f1, p1_val_cv (G := (p1_G l s dC dI aC pl xs)) (i := 1) (by decide) f2]
  have hlen : (p1_vals 0 [q1, q2]).length = 2 := rfl
  obtain ⟨v, w, L3, L4, heq, hc9, g1, g2, g3, g4, c1, c2⟩ := p1_pair hchk hE
  refine lv_aload_n hx hb d_law_950 rfl (lv_at hl 2 rfl) ?_
  refine lv_aload_n hx hb d_law_951 rfl (lv_at hl 3 rfl) ?_
  refine lv_iload_n hx hb d_law_952 rfl (lv_at hl 0 rfl) ?_
  refine lv_iconst (v := 1) hx hb d_law_953 (by decide) ?_
  refine lv_iadd hx hb d_law_954 ?_
  refine va_sld hx hb hX hbl hbA hS (i := 0 + 1) p1_in1 d_law_955 ?_
  refine lv_aload_n hx hb d_law_956 rfl (lv_at hl 3 rfl) ?_
  refine lv_iload_n hx hb d_law_957 rfl (lv_at hl 0 rfl) ?_
  refine lv_iconst (v := 2) hx hb d_law_958 (by decide) ?_
  refine lv_iadd hx hb d_law_959 ?_
  refine va_sld hx hb hX hbl hbA hS (i := 0 + 2) p1_in2 d_law_960 ?_
  refine gw_callV (G := (p1_G l s dC dI aC pl xs)) (cc := code) (own := R_law) (nL := 4) (y2 := (ri_M 93).1) (n2 := (ri_M 93).2.1) (d2 := 20) (a := 0) (ci := 8) (q := (RX8, TX8, 13)) (as := p1_vals 0 [q1, q2]) (rest := []) hx hb hml hown hts2 hK hW hlo hl.1 d_law_961 (ri_all 93).1 (by decide +kernel) ((ri_all 93).2.2.1 (by decide +kernel)).1 ((ri_all 93).2.2.1 (by decide +kernel)).2 rfl (by decide +kernel) (by decide) (ri_h_at (L := p1_lit) (a := 0) (e := .inr (8, _)) rfl) (by rw [hlen]; decide +kernel) (by decide) (by decide) (by decide) (by show _ ≤ 600000; omega) (by show _ ≤ 7302250; omega) c1 (by rw [hargs]; rfl) (fun r N2 h2 H locs hp hW hlo => ?_)
  obtain ⟨rfl, rfl, rfl⟩ := hp
  rw [g1] at hW
  have hS := am_S hK.2.1 hW hlo
  obtain ⟨a9, rfl, rfl⟩ : ∃ a9, v = .retAddr a9 ∧ w = .retAddr a9 := p1_eq_ok heq
  refine W.eq (g2 := F0 m 964 ls [.int (nI a9)]) rfl ?_
  refine lv_aload_n hx hb d_law_964 rfl (lv_at hl 1 rfl) ?_
  refine lv_aload_n hx hb d_law_965 rfl (lv_at hl 3 rfl) ?_
  refine lv_iload_n hx hb d_law_966 rfl (lv_at hl 0 rfl) ?_
  refine lv_iconst (v := 1) hx hb d_law_967 (by decide) ?_
  refine lv_iadd hx hb d_law_968 ?_
  refine va_sld hx hb hX hbl hbA hS (i := 0 + 1) p1_in1 d_law_969 ?_
  refine lv_aload_n hx hb d_law_970 rfl (lv_at hl 3 rfl) ?_
  refine lv_iload_n hx hb d_law_971 rfl (lv_at hl 0 rfl) ?_
  refine lv_iconst (v := 2) hx hb d_law_972 (by decide) ?_
  refine lv_iadd hx hb d_law_973 ?_
  refine va_sld hx hb hX hbl hbA hS (i := 0 + 2) p1_in2 d_law_974 ?_
  obtain ⟨fs9, hfs9⟩ : ∃ fs, ri_get L3.2.2 106 = some (.inr (9, fs)) := hc9
  refine gw_callV (G := (p1_G l s dC dI aC pl xs)) (cc := code) (own := R_law) (nL := 4) (y2 := (ri_M 185).1) (n2 := (ri_M 185).2.1) (d2 := 20) (a := 106) (ci := 9) (q := (RX9, TX9, 28)) (as := p1_vals 0 [q1, q2]) (rest := [.int (nI a9)]) hx hb hml hown hts2 hK hW hlo hl.1 d_law_975 (ri_all 185).1 (by decide +kernel) ((ri_all 185).2.2.1 (by decide +kernel)).1 ((ri_all 185).2.2.1 (by decide +kernel)).2 rfl (by decide +kernel) (by decide) (ri_h_at hfs9) (by rw [hlen]; decide +kernel) (Nat.le_of_ble_eq_true rfl) (by decide) (by decide) (by show _ ≤ 600000; omega) (by show _ ≤ 7302250; omega) c2 (by rw [hargs]; rfl) (fun r N2 h2 H locs hp hW hlo => ?_)
  obtain ⟨rfl, rfl, rfl⟩ := hp
  refine W.eq (g2 := F0 m 978 ls [.int (nI a9), .int (nI a9)]) rfl ?_
  refine lv_icmp_eq (tgt := 1112) hx hb d_law_978 (by decide) (fun _ => ?_) (fun q => absurd rfl q)
  exact p1_fin C1 hK hW hlo (by omega) (by omega) hl
theorem p1_op26 {p : Program} {e : Env} {s : State} {m : MethodId} {below : List Frame} {meth : Method} {c : Code} {b : Nat} {xs : Nat → Int32} {l : Launch} {dC : Nat → ClassId} {dI : Nat → Nat → Nat} {aC : Nat → ClassId} {pl : Nat} (C0 : lw_At p s m meth c b 5 xs) (hK : am_K (p1_G l s dC dI aC pl xs) s) {H : Heap} {locs : List Loc} {ls : Array Slot} {n : Nat} (hW : am_W (p1_G l s dC dI aC pl xs) 122 (ri_h p1_lit) H) (hlo : ∀ q ∈ locs, s.heap.size ≤ q.base) (hn : n ≤ 1000000) (hl : lv_has ls 4 [(3, .int 0), (2, .ref (s.heap.size + 106)), (1, .ref (s.heap.size + 0)), (0, .ref b)]) : W p l e room_1 s m #[Value.ref b] below meth c H locs 122 n (lw_Z below #[Value.ref b] s) (F0 m 983 ls []) := by
  have C1 := C0
  obtain ⟨hx, hb, hr, hml, hown, hts, hX, hbl, hlocks, hgv⟩ := C0
  have hts2 := am_hts hts
  have hS := am_S hK.2.1 hW hlo
  have hbA : ¬ (fun q : Nat => s.heap.size ≤ q) b := Nat.not_le.mpr hbl
  obtain ⟨q1, q2, f1, f2, hchk⟩ := p1_u2 p1_k26 (by decide +kernel) (xs 1) (xs 2)
  have hE : am_Env (p1_G l s dC dI aC pl xs) [q1, q2] := p1_env (fun j q hq => by
    match j, hq with
    | 0, hq => cases hq; exact f1
    | 1, hq => cases hq; exact f2
    | j + 2, hq => simp at hq)
  have hargs : (p1_vals 0 [q1, q2]).map (am_cv (p1_G l s dC dI aC pl xs)) = [.int (xs 1), .int (xs 2)] := by
    simp only [p1_vals, List.map_cons, List.map_nil]
    rw [p1_val_cv (G := (p1_G l s dC dI aC pl xs)) (i := 0) (by decide) f1, p1_val_cv (G := (p1_G l s dC dI aC pl xs)) (i := 1) (by decide) f2]
  have hlen : (p1_vals 0 [q1, q2]).length = 2 := rfl
  obtain ⟨v, w, L3, L4, heq, hc9, g1, g2, g3, g4, c1, c2⟩ := p1_pair hchk hE
  refine lv_aload_n hx hb d_law_983 rfl (lv_at hl 2 rfl) ?_
  refine lv_aload_n hx hb d_law_984 rfl (lv_at hl 3 rfl) ?_
  refine lv_iload_n hx hb d_law_985 rfl (lv_at hl 0 rfl) ?_
  refine lv_iconst (v := 1) hx hb d_law_986 (by decide) ?_
  refine lv_iadd hx hb d_law_987 ?_
  refine va_sld hx hb hX hbl hbA hS (i := 0 + 1) p1_in1 d_law_988 ?_
  refine lv_aload_n hx hb d_law_989 rfl (lv_at hl 3 rfl) ?_
  refine lv_iload_n hx hb d_law_990 rfl (lv_at hl 0 rfl) ?_
  refine lv_iconst (v := 2) hx hb d_law_991 (by decide) ?_
  refine lv_iadd hx hb d_law_992 ?_
  refine va_sld hx hb hX hbl hbA hS (i := 0 + 2) p1_in2 d_law_993 ?_
  refine gw_callV (G := (p1_G l s dC dI aC pl xs)) (cc := code) (own := R_law) (nL := 4) (y2 := (ri_M 94).1) (n2 := (ri_M 94).2.1) (d2 := 20) (a := 0) (ci := 8) (q := (RX8, TX8, 13)) (as := p1_vals 0 [q1, q2]) (rest := []) hx hb hml hown hts2 hK hW hlo hl.1 d_law_994 (ri_all 94).1 (by decide +kernel) ((ri_all 94).2.2.1 (by decide +kernel)).1 ((ri_all 94).2.2.1 (by decide +kernel)).2 rfl (by decide +kernel) (by decide) (ri_h_at (L := p1_lit) (a := 0) (e := .inr (8, _)) rfl) (by rw [hlen]; decide +kernel) (by decide) (by decide) (by decide) (by show _ ≤ 600000; omega) (by show _ ≤ 7302250; omega) c1 (by rw [hargs]; rfl) (fun r N2 h2 H locs hp hW hlo => ?_)
  obtain ⟨rfl, rfl, rfl⟩ := hp
  rw [g1] at hW
  have hS := am_S hK.2.1 hW hlo
  obtain ⟨a9, rfl, rfl⟩ : ∃ a9, v = .retAddr a9 ∧ w = .retAddr a9 := p1_eq_ok heq
  refine W.eq (g2 := F0 m 997 ls [.int (nI a9)]) rfl ?_
  refine lv_aload_n hx hb d_law_997 rfl (lv_at hl 1 rfl) ?_
  refine lv_aload_n hx hb d_law_998 rfl (lv_at hl 3 rfl) ?_
  refine lv_iload_n hx hb d_law_999 rfl (lv_at hl 0 rfl) ?_
  refine lv_iconst (v := 1) hx hb d_law_1000 (by decide) ?_
  refine lv_iadd hx hb d_law_1001 ?_
  refine va_sld hx hb hX hbl hbA hS (i := 0 + 1) p1_in1 d_law_1002 ?_
  refine lv_aload_n hx hb d_law_1003 rfl (lv_at hl 3 rfl) ?_
  refine lv_iload_n hx hb d_law_1004 rfl (lv_at hl 0 rfl) ?_
  refine lv_iconst (v := 2) hx hb d_law_1005 (by decide) ?_
  refine lv_iadd hx hb d_law_1006 ?_
  refine va_sld hx hb hX hbl hbA hS (i := 0 + 2) p1_in2 d_law_1007 ?_
  obtain ⟨fs9, hfs9⟩ : ∃ fs, ri_get L3.2.2 106 = some (.inr (9, fs)) := hc9
  refine gw_callV (G := (p1_G l s dC dI aC pl xs)) (cc := code) (own := R_law) (nL := 4) (y2 := (ri_M 188).1) (n2 := (ri_M 188).2.1) (d2 := 20) (a := 106) (ci := 9) (q := (RX9, TX9, 28)) (as := p1_vals 0 [q1, q2]) (rest := [.int (nI a9)]) hx hb hml hown hts2 hK hW hlo hl.1 d_law_1008 (ri_all 188).1 (by decide +kernel) ((ri_all 188).2.2.1 (by decide +kernel)).1 ((ri_all 188).2.2.1 (by decide +kernel)).2 rfl (by decide +kernel) (by decide) (ri_h_at hfs9) (by rw [hlen]; decide +kernel) (Nat.le_of_ble_eq_true rfl) (by decide) (by decide) (by show _ ≤ 600000; omega) (by show _ ≤ 7302250; omega) c2 (by rw [hargs]; rfl) (fun r N2 h2 H locs hp hW hlo => ?_)
  obtain ⟨rfl, rfl, rfl⟩ := hp
  refine W.eq (g2 := F0 m 1011 ls [.int (nI a9), .int (nI a9)]) rfl ?_
  refine lv_icmp_eq (tgt := 1112) hx hb d_law_1011 (by decide) (fun _ => ?_) (fun q => absurd rfl q)
  exact p1_fin C1 hK hW hlo (by omega) (by omega) hl
theorem p1_op27 {p : Program} {e : Env} {s : State} {m : MethodId} {below : List Frame} {meth : Method} {c : Code} {b : Nat} {xs : Nat → Int32} {l : Launch} {dC : Nat → ClassId} {dI : Nat → Nat → Nat} {aC : Nat → ClassId} {pl : Nat} (C0 : lw_At p s m meth c b 5 xs) (hK : am_K (p1_G l s dC dI aC pl xs) s) {H : Heap} {locs : List Loc} {ls : Array Slot} {n : Nat} (hW : am_W (p1_G l s dC dI aC pl xs) 122 (ri_h p1_lit) H) (hlo : ∀ q ∈ locs, s.heap.size ≤ q.base) (hn : n ≤ 1000000) (hl : lv_has ls 4 [(3, .int 0), (2, .ref (s.heap.size + 106)), (1, .ref (s.heap.size + 0)), (0, .ref b)]) : W p l e room_1 s m #[Value.ref b] below meth c H locs 122 n (lw_Z below #[Value.ref b] s) (F0 m 1016 ls []) := by
  have C1 := C0
  obtain ⟨hx, hb, hr, hml, hown, hts, hX, hbl, hlocks, hgv⟩ := C0
  have hts2 := am_hts hts
  have hS := am_S hK.2.1 hW hlo
  have hbA : ¬ (fun q : Nat => s.heap.size ≤ q) b := Nat.not_le.mpr hbl
  obtain ⟨q1, q2, q3, q4, f1, f2, f3, f4, hchk⟩ := p1_u4 p1_k27 (by decide +kernel) (xs 1) (xs 2) (xs 3) (xs 4)
  have hE : am_Env (p1_G l s dC dI aC pl xs) [q1, q2, q3, q4] := p1_env (fun j q hq => by
    match j, hq with
    | 0, hq => cases hq; exact f1
    | 1, hq => cases hq; exact f2
    | 2, hq => cases hq; exact f3
    | 3, hq => cases hq; exact f4
    | j + 4, hq => simp at hq)
  have hargs : (p1_vals 0 [q1, q2, q3, q4]).map (am_cv (p1_G l s dC dI aC pl xs)) = [.int (xs 1), .int (xs 2), .int (xs 3), .int (xs 4)] := by
    simp only [p1_vals, List.map_cons, List.map_nil]
    rw [p1_val_cv (G := (p1_G l s dC dI aC pl xs)) (i := 0) (by decide) f1, p1_val_cv (G := (p1_G l s dC dI aC pl xs)) (i := 1) (by decide) f2, p1_val_cv (G := (p1_G l s dC dI aC pl xs)) (i := 2) (by decide) f3, p1_val_cv (G := (p1_G l s dC dI aC pl xs)) (i := 3) (by decide) f4]
  have hlen : (p1_vals 0 [q1, q2, q3, q4]).length = 4 := rfl
  obtain ⟨v, w, L3, L4, heq, hc9, g1, g2, g3, g4, c1, c2⟩ := p1_pair hchk hE
  refine lv_aload_n hx hb d_law_1016 rfl (lv_at hl 2 rfl) ?_
  refine lv_aload_n hx hb d_law_1017 rfl (lv_at hl 3 rfl) ?_
  refine lv_iload_n hx hb d_law_1018 rfl (lv_at hl 0 rfl) ?_
  refine lv_iconst (v := 1) hx hb d_law_1019 (by decide) ?_
  refine lv_iadd hx hb d_law_1020 ?_
  refine va_sld hx hb hX hbl hbA hS (i := 0 + 1) p1_in1 d_law_1021 ?_
  refine lv_aload_n hx hb d_law_1022 rfl (lv_at hl 3 rfl) ?_
  refine lv_iload_n hx hb d_law_1023 rfl (lv_at hl 0 rfl) ?_
  refine lv_iconst (v := 2) hx hb d_law_1024 (by decide) ?_
  refine lv_iadd hx hb d_law_1025 ?_
  refine va_sld hx hb hX hbl hbA hS (i := 0 + 2) p1_in2 d_law_1026 ?_
  refine lv_aload_n hx hb d_law_1027 rfl (lv_at hl 3 rfl) ?_
  refine lv_iload_n hx hb d_law_1028 rfl (lv_at hl 0 rfl) ?_
  refine lv_iconst (v := 3) hx hb d_law_1029 (by decide) ?_
  refine lv_iadd hx hb d_law_1030 ?_
  refine va_sld hx hb hX hbl hbA hS (i := 0 + 3) p1_in3 d_law_1031 ?_
  refine lv_aload_n hx hb d_law_1032 rfl (lv_at hl 3 rfl) ?_
  refine lv_iload_n hx hb d_law_1033 rfl (lv_at hl 0 rfl) ?_
  refine lv_iconst (v := 4) hx hb d_law_1034 (by decide) ?_
  refine lv_iadd hx hb d_law_1035 ?_
  refine va_sld hx hb hX hbl hbA hS (i := 0 + 4) p1_in4 d_law_1036 ?_
  refine gw_callV (G := (p1_G l s dC dI aC pl xs)) (cc := code) (own := R_law) (nL := 4) (y2 := (ri_M 95).1) (n2 := (ri_M 95).2.1) (d2 := 20) (a := 0) (ci := 8) (q := (RX8, TX8, 13)) (as := p1_vals 0 [q1, q2, q3, q4]) (rest := []) hx hb hml hown hts2 hK hW hlo hl.1 d_law_1037 (ri_all 95).1 (by decide +kernel) ((ri_all 95).2.2.1 (by decide +kernel)).1 ((ri_all 95).2.2.1 (by decide +kernel)).2 rfl (by decide +kernel) (by decide) (ri_h_at (L := p1_lit) (a := 0) (e := .inr (8, _)) rfl) (by rw [hlen]; decide +kernel) (by decide) (by decide) (by decide) (by show _ ≤ 600000; omega) (by show _ ≤ 7302250; omega) c1 (by rw [hargs]; rfl) (fun r N2 h2 H locs hp hW hlo => ?_)
  obtain ⟨rfl, rfl, rfl⟩ := hp
  rw [g1] at hW
  have hS := am_S hK.2.1 hW hlo
  obtain ⟨a9, rfl, rfl⟩ : ∃ a9, v = .retAddr a9 ∧ w = .retAddr a9 := p1_eq_ok heq
  refine W.eq (g2 := F0 m 1040 ls [.int (nI a9)]) rfl ?_
  refine lv_aload_n hx hb d_law_1040 rfl (lv_at hl 1 rfl) ?_
  refine lv_aload_n hx hb d_law_1041 rfl (lv_at hl 3 rfl) ?_
  refine lv_iload_n hx hb d_law_1042 rfl (lv_at hl 0 rfl) ?_
  refine lv_iconst (v := 1) hx hb d_law_1043 (by decide) ?_
  refine lv_iadd hx hb d_law_1044 ?_
  refine va_sld hx hb hX hbl hbA hS (i := 0 + 1) p1_in1 d_law_1045 ?_
  refine lv_aload_n hx hb d_law_1046 rfl (lv_at hl 3 rfl) ?_
  refine lv_iload_n hx hb d_law_1047 rfl (lv_at hl 0 rfl) ?_
  refine lv_iconst (v := 2) hx hb d_law_1048 (by decide) ?_
  refine lv_iadd hx hb d_law_1049 ?_
  refine va_sld hx hb hX hbl hbA hS (i := 0 + 2) p1_in2 d_law_1050 ?_
  refine lv_aload_n hx hb d_law_1051 rfl (lv_at hl 3 rfl) ?_
  refine lv_iload_n hx hb d_law_1052 rfl (lv_at hl 0 rfl) ?_
  refine lv_iconst (v := 3) hx hb d_law_1053 (by decide) ?_
  refine lv_iadd hx hb d_law_1054 ?_
  refine va_sld hx hb hX hbl hbA hS (i := 0 + 3) p1_in3 d_law_1055 ?_
  refine lv_aload_n hx hb d_law_1056 rfl (lv_at hl 3 rfl) ?_
  refine lv_iload_n hx hb d_law_1057 rfl (lv_at hl 0 rfl) ?_
  refine lv_iconst (v := 4) hx hb d_law_1058 (by decide) ?_
  refine lv_iadd hx hb d_law_1059 ?_
  refine va_sld hx hb hX hbl hbA hS (i := 0 + 4) p1_in4 d_law_1060 ?_
  obtain ⟨fs9, hfs9⟩ : ∃ fs, ri_get L3.2.2 106 = some (.inr (9, fs)) := hc9
  refine gw_callV (G := (p1_G l s dC dI aC pl xs)) (cc := code) (own := R_law) (nL := 4) (y2 := (ri_M 192).1) (n2 := (ri_M 192).2.1) (d2 := 20) (a := 106) (ci := 9) (q := (RX9, TX9, 28)) (as := p1_vals 0 [q1, q2, q3, q4]) (rest := [.int (nI a9)]) hx hb hml hown hts2 hK hW hlo hl.1 d_law_1061 (ri_all 192).1 (by decide +kernel) ((ri_all 192).2.2.1 (by decide +kernel)).1 ((ri_all 192).2.2.1 (by decide +kernel)).2 rfl (by decide +kernel) (by decide) (ri_h_at hfs9) (by rw [hlen]; decide +kernel) (Nat.le_of_ble_eq_true rfl) (by decide) (by decide) (by show _ ≤ 600000; omega) (by show _ ≤ 7302250; omega) c2 (by rw [hargs]; rfl) (fun r N2 h2 H locs hp hW hlo => ?_)
  obtain ⟨rfl, rfl, rfl⟩ := hp
  refine W.eq (g2 := F0 m 1064 ls [.int (nI a9), .int (nI a9)]) rfl ?_
  refine lv_icmp_eq (tgt := 1112) hx hb d_law_1064 (by decide) (fun _ => ?_) (fun q => absurd rfl q)
  exact p1_fin C1 hK hW hlo (by omega) (by omega) hl
theorem p1_op28 {p : Program} {e : Env} {s : State} {m : MethodId} {below : List Frame} {meth : Method} {c : Code} {b : Nat} {xs : Nat → Int32} {l : Launch} {dC : Nat → ClassId} {dI : Nat → Nat → Nat} {aC : Nat → ClassId} {pl : Nat} (C0 : lw_At p s m meth c b 5 xs) (hK : am_K (p1_G l s dC dI aC pl xs) s) {H : Heap} {locs : List Loc} {ls : Array Slot} {n : Nat} (hW : am_W (p1_G l s dC dI aC pl xs) 122 (ri_h p1_lit) H) (hlo : ∀ q ∈ locs, s.heap.size ≤ q.base) (hn : n ≤ 1000000) (hl : lv_has ls 4 [(3, .int 0), (2, .ref (s.heap.size + 106)), (1, .ref (s.heap.size + 0)), (0, .ref b)]) : W p l e room_1 s m #[Value.ref b] below meth c H locs 122 n (lw_Z below #[Value.ref b] s) (F0 m 1069 ls []) := by
  have C1 := C0
  obtain ⟨hx, hb, hr, hml, hown, hts, hX, hbl, hlocks, hgv⟩ := C0
  have hts2 := am_hts hts
  have hS := am_S hK.2.1 hW hlo
  have hbA : ¬ (fun q : Nat => s.heap.size ≤ q) b := Nat.not_le.mpr hbl
  obtain ⟨q1, q2, q3, f1, f2, f3, hchk⟩ := p1_u3 p1_k28 (by decide +kernel) (xs 1) (xs 2) (xs 3)
  have hE : am_Env (p1_G l s dC dI aC pl xs) [q1, q2, q3] := p1_env (fun j q hq => by
    match j, hq with
    | 0, hq => cases hq; exact f1
    | 1, hq => cases hq; exact f2
    | 2, hq => cases hq; exact f3
    | j + 3, hq => simp at hq)
  have hargs : (p1_vals 0 [q1, q2, q3]).map (am_cv (p1_G l s dC dI aC pl xs)) = [.int (xs 1), .int (xs 2), .int (xs 3)] := by
    simp only [p1_vals, List.map_cons, List.map_nil]
    rw [p1_val_cv (G := (p1_G l s dC dI aC pl xs)) (i := 0) (by decide) f1, p1_val_cv (G := (p1_G l s dC dI aC pl xs)) (i := 1) (by decide) f2, p1_val_cv (G := (p1_G l s dC dI aC pl xs)) (i := 2) (by decide) f3]
  have hlen : (p1_vals 0 [q1, q2, q3]).length = 3 := rfl
  obtain ⟨v, w, L3, L4, heq, hc9, g1, g2, g3, g4, c1, c2⟩ := p1_pair hchk hE
  refine lv_aload_n hx hb d_law_1069 rfl (lv_at hl 2 rfl) ?_
  refine lv_aload_n hx hb d_law_1070 rfl (lv_at hl 3 rfl) ?_
  refine lv_iload_n hx hb d_law_1071 rfl (lv_at hl 0 rfl) ?_
  refine lv_iconst (v := 1) hx hb d_law_1072 (by decide) ?_
  refine lv_iadd hx hb d_law_1073 ?_
  refine va_sld hx hb hX hbl hbA hS (i := 0 + 1) p1_in1 d_law_1074 ?_
  refine lv_aload_n hx hb d_law_1075 rfl (lv_at hl 3 rfl) ?_
  refine lv_iload_n hx hb d_law_1076 rfl (lv_at hl 0 rfl) ?_
  refine lv_iconst (v := 2) hx hb d_law_1077 (by decide) ?_
  refine lv_iadd hx hb d_law_1078 ?_
  refine va_sld hx hb hX hbl hbA hS (i := 0 + 2) p1_in2 d_law_1079 ?_
  refine lv_aload_n hx hb d_law_1080 rfl (lv_at hl 3 rfl) ?_
  refine lv_iload_n hx hb d_law_1081 rfl (lv_at hl 0 rfl) ?_
  refine lv_iconst (v := 3) hx hb d_law_1082 (by decide) ?_
  refine lv_iadd hx hb d_law_1083 ?_
  refine va_sld hx hb hX hbl hbA hS (i := 0 + 3) p1_in3 d_law_1084 ?_
  refine gw_callV (G := (p1_G l s dC dI aC pl xs)) (cc := code) (own := R_law) (nL := 4) (y2 := (ri_M 96).1) (n2 := (ri_M 96).2.1) (d2 := 20) (a := 0) (ci := 8) (q := (RX8, TX8, 13)) (as := p1_vals 0 [q1, q2, q3]) (rest := []) hx hb hml hown hts2 hK hW hlo hl.1 d_law_1085 (ri_all 96).1 (by decide +kernel) ((ri_all 96).2.2.1 (by decide +kernel)).1 ((ri_all 96).2.2.1 (by decide +kernel)).2 rfl (by decide +kernel) (by decide) (ri_h_at (L := p1_lit) (a := 0) (e := .inr (8, _)) rfl) (by rw [hlen]; decide +kernel) (by decide) (by decide) (by decide) (by show _ ≤ 600000; omega) (by show _ ≤ 7302250; omega) c1 (by rw [hargs]; rfl) (fun r N2 h2 H locs hp hW hlo => ?_)
  obtain ⟨rfl, rfl, rfl⟩ := hp
  rw [g1] at hW
  have hS := am_S hK.2.1 hW hlo
  obtain ⟨a9, rfl, rfl⟩ : ∃ a9, v = .retAddr a9 ∧ w = .retAddr a9 := p1_eq_ok heq
  refine W.eq (g2 := F0 m 1088 ls [.int (nI a9)]) rfl ?_
  refine lv_aload_n hx hb d_law_1088 rfl (lv_at hl 1 rfl) ?_
  refine lv_aload_n hx hb d_law_1089 rfl (lv_at hl 3 rfl) ?_
  refine lv_iload_n hx hb d_law_1090 rfl (lv_at hl 0 rfl) ?_
  refine lv_iconst (v := 1) hx hb d_law_1091 (by decide) ?_
  refine lv_iadd hx hb d_law_1092 ?_
  refine va_sld hx hb hX hbl hbA hS (i := 0 + 1) p1_in1 d_law_1093 ?_
  refine lv_aload_n hx hb d_law_1094 rfl (lv_at hl 3 rfl) ?_
  refine lv_iload_n hx hb d_law_1095 rfl (lv_at hl 0 rfl) ?_
  refine lv_iconst (v := 2) hx hb d_law_1096 (by decide) ?_
  refine lv_iadd hx hb d_law_1097 ?_
  refine va_sld hx hb hX hbl hbA hS (i := 0 + 2) p1_in2 d_law_1098 ?_
  refine lv_aload_n hx hb d_law_1099 rfl (lv_at hl 3 rfl) ?_
  refine lv_iload_n hx hb d_law_1100 rfl (lv_at hl 0 rfl) ?_
  refine lv_iconst (v := 3) hx hb d_law_1101 (by decide) ?_
  refine lv_iadd hx hb d_law_1102 ?_
  refine va_sld hx hb hX hbl hbA hS (i := 0 + 3) p1_in3 d_law_1103 ?_
  obtain ⟨fs9, hfs9⟩ : ∃ fs, ri_get L3.2.2 106 = some (.inr (9, fs)) := hc9
  refine gw_callV (G := (p1_G l s dC dI aC pl xs)) (cc := code) (own := R_law) (nL := 4) (y2 := (ri_M 193).1) (n2 := (ri_M 193).2.1) (d2 := 20) (a := 106) (ci := 9) (q := (RX9, TX9, 28)) (as := p1_vals 0 [q1, q2, q3]) (rest := [.int (nI a9)]) hx hb hml hown hts2 hK hW hlo hl.1 d_law_1104 (ri_all 193).1 (by decide +kernel) ((ri_all 193).2.2.1 (by decide +kernel)).1 ((ri_all 193).2.2.1 (by decide +kernel)).2 rfl (by decide +kernel) (by decide) (ri_h_at hfs9) (by rw [hlen]; decide +kernel) (Nat.le_of_ble_eq_true rfl) (by decide) (by decide) (by show _ ≤ 600000; omega) (by show _ ≤ 7302250; omega) c2 (by rw [hargs]; rfl) (fun r N2 h2 H locs hp hW hlo => ?_)
  obtain ⟨rfl, rfl, rfl⟩ := hp
  refine W.eq (g2 := F0 m 1107 ls [.int (nI a9), .int (nI a9)]) rfl ?_
  refine lv_icmp_eq (tgt := 1112) hx hb d_law_1107 (by decide) (fun _ => ?_) (fun q => absurd rfl q)
  exact p1_fin C1 hK hW hlo (by omega) (by omega) hl
end
