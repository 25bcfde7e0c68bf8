noncomputable section
theorem d_law_164 : decode code 164 = .ok (.aload_n 1, 1) := by decide +kernel
theorem d_law_165 : decode code 165 = .ok (.aload_n 0, 1) := by decide +kernel
theorem d_law_166 : decode code 166 = .ok (.iload_n 3, 1) := by decide +kernel
theorem d_law_167 : decode code 167 = .ok (.iconst 1, 1) := by decide +kernel
theorem d_law_168 : decode code 168 = .ok (.iadd, 1) := by decide +kernel
theorem d_law_169 : decode code 169 = .ok (.iaload, 1) := by decide +kernel
theorem d_law_170 : decode code 170 = .ok (.invokevirtual 13, 3) := by decide +kernel
theorem d_law_173 : decode code 173 = .ok (.pop, 1) := by decide +kernel
theorem d_law_174 : decode code 174 = .ok (.aload_n 2, 1) := by decide +kernel
theorem d_law_175 : decode code 175 = .ok (.aload_n 0, 1) := by decide +kernel
theorem d_law_176 : decode code 176 = .ok (.iload_n 3, 1) := by decide +kernel
theorem d_law_177 : decode code 177 = .ok (.iconst 1, 1) := by decide +kernel
theorem d_law_178 : decode code 178 = .ok (.iadd, 1) := by decide +kernel
theorem d_law_179 : decode code 179 = .ok (.iaload, 1) := by decide +kernel
theorem d_law_180 : decode code 180 = .ok (.invokevirtual 17, 3) := by decide +kernel
theorem d_law_183 : decode code 183 = .ok (.pop, 1) := by decide +kernel
theorem d_law_184 : decode code 184 = .ok (.goto 927, 3) := by decide +kernel
theorem d_law_187 : decode code 187 = .ok (.aload_n 1, 1) := by decide +kernel
theorem d_law_188 : decode code 188 = .ok (.aload_n 0, 1) := by decide +kernel
theorem d_law_189 : decode code 189 = .ok (.iload_n 3, 1) := by decide +kernel
theorem d_law_190 : decode code 190 = .ok (.iconst 1, 1) := by decide +kernel
theorem d_law_191 : decode code 191 = .ok (.iadd, 1) := by decide +kernel
theorem d_law_192 : decode code 192 = .ok (.iaload, 1) := by decide +kernel
theorem d_law_193 : decode code 193 = .ok (.invokevirtual 18, 3) := by decide +kernel
theorem d_law_196 : decode code 196 = .ok (.pop, 1) := by decide +kernel
theorem d_law_197 : decode code 197 = .ok (.aload_n 2, 1) := by decide +kernel
theorem d_law_198 : decode code 198 = .ok (.aload_n 0, 1) := by decide +kernel
theorem d_law_199 : decode code 199 = .ok (.iload_n 3, 1) := by decide +kernel
theorem d_law_200 : decode code 200 = .ok (.iconst 1, 1) := by decide +kernel
theorem d_law_201 : decode code 201 = .ok (.iadd, 1) := by decide +kernel
theorem d_law_202 : decode code 202 = .ok (.iaload, 1) := by decide +kernel
theorem d_law_203 : decode code 203 = .ok (.invokevirtual 21, 3) := by decide +kernel
theorem d_law_206 : decode code 206 = .ok (.pop, 1) := by decide +kernel
theorem d_law_207 : decode code 207 = .ok (.goto 904, 3) := by decide +kernel
theorem d_law_210 : decode code 210 = .ok (.aload_n 1, 1) := by decide +kernel
theorem d_law_211 : decode code 211 = .ok (.invokevirtual 22, 3) := by decide +kernel
theorem d_law_214 : decode code 214 = .ok (.pop, 1) := by decide +kernel
theorem d_law_215 : decode code 215 = .ok (.aload_n 2, 1) := by decide +kernel
theorem d_law_216 : decode code 216 = .ok (.invokevirtual 26, 3) := by decide +kernel
theorem d_law_219 : decode code 219 = .ok (.pop, 1) := by decide +kernel
theorem d_law_220 : decode code 220 = .ok (.goto 891, 3) := by decide +kernel
theorem d_law_223 : decode code 223 = .ok (.aload_n 1, 1) := by decide +kernel
theorem d_law_224 : decode code 224 = .ok (.aload_n 0, 1) := by decide +kernel
theorem d_law_225 : decode code 225 = .ok (.iload_n 3, 1) := by decide +kernel
theorem d_law_226 : decode code 226 = .ok (.iconst 1, 1) := by decide +kernel
theorem d_law_227 : decode code 227 = .ok (.iadd, 1) := by decide +kernel
theorem d_law_228 : decode code 228 = .ok (.iaload, 1) := by decide +kernel
theorem d_law_229 : decode code 229 = .ok (.aload_n 0, 1) := by decide +kernel
theorem d_law_230 : decode code 230 = .ok (.iload_n 3, 1) := by decide +kernel
theorem d_law_231 : decode code 231 = .ok (.iconst 2, 1) := by decide +kernel
theorem d_law_232 : decode code 232 = .ok (.iadd, 1) := by decide +kernel
theorem d_law_233 : decode code 233 = .ok (.iaload, 1) := by decide +kernel
theorem d_law_234 : decode code 234 = .ok (.invokevirtual 27, 3) := by decide +kernel
theorem d_law_237 : decode code 237 = .ok (.pop, 1) := by decide +kernel
theorem d_law_238 : decode code 238 = .ok (.aload_n 2, 1) := by decide +kernel
theorem d_law_239 : decode code 239 = .ok (.aload_n 0, 1) := by decide +kernel
theorem d_law_240 : decode code 240 = .ok (.iload_n 3, 1) := by decide +kernel
theorem d_law_241 : decode code 241 = .ok (.iconst 1, 1) := by decide +kernel
theorem d_law_242 : decode code 242 = .ok (.iadd, 1) := by decide +kernel
theorem d_law_243 : decode code 243 = .ok (.iaload, 1) := by decide +kernel
theorem d_law_244 : decode code 244 = .ok (.aload_n 0, 1) := by decide +kernel
theorem d_law_245 : decode code 245 = .ok (.iload_n 3, 1) := by decide +kernel
theorem d_law_246 : decode code 246 = .ok (.iconst 2, 1) := by decide +kernel
theorem d_law_247 : decode code 247 = .ok (.iadd, 1) := by decide +kernel
theorem d_law_248 : decode code 248 = .ok (.iaload, 1) := by decide +kernel
theorem d_law_249 : decode code 249 = .ok (.invokevirtual 31, 3) := by decide +kernel
theorem d_law_252 : decode code 252 = .ok (.pop, 1) := by decide +kernel
theorem d_law_253 : decode code 253 = .ok (.goto 858, 3) := by decide +kernel
theorem d_law_256 : decode code 256 = .ok (.aload_n 1, 1) := by decide +kernel
theorem d_law_257 : decode code 257 = .ok (.aload_n 0, 1) := by decide +kernel
theorem d_law_258 : decode code 258 = .ok (.iload_n 3, 1) := by decide +kernel
theorem d_law_259 : decode code 259 = .ok (.iconst 1, 1) := by decide +kernel
theorem d_law_260 : decode code 260 = .ok (.iadd, 1) := by decide +kernel
theorem d_law_261 : decode code 261 = .ok (.iaload, 1) := by decide +kernel
theorem d_law_262 : decode code 262 = .ok (.aload_n 0, 1) := by decide +kernel
theorem d_law_263 : decode code 263 = .ok (.iload_n 3, 1) := by decide +kernel
theorem d_law_264 : decode code 264 = .ok (.iconst 2, 1) := by decide +kernel
theorem d_law_265 : decode code 265 = .ok (.iadd, 1) := by decide +kernel
theorem d_law_266 : decode code 266 = .ok (.iaload, 1) := by decide +kernel
theorem d_law_267 : decode code 267 = .ok (.invokevirtual 32, 3) := by decide +kernel
theorem d_law_270 : decode code 270 = .ok (.pop, 1) := by decide +kernel
theorem d_law_271 : decode code 271 = .ok (.aload_n 2, 1) := by decide +kernel
theorem d_law_272 : decode code 272 = .ok (.aload_n 0, 1) := by decide +kernel
theorem d_law_273 : decode code 273 = .ok (.iload_n 3, 1) := by decide +kernel
theorem d_law_274 : decode code 274 = .ok (.iconst 1, 1) := by decide +kernel
theorem d_law_275 : decode code 275 = .ok (.iadd, 1) := by decide +kernel
theorem d_law_276 : decode code 276 = .ok (.iaload, 1) := by decide +kernel
theorem d_law_277 : decode code 277 = .ok (.aload_n 0, 1) := by decide +kernel
theorem d_law_278 : decode code 278 = .ok (.iload_n 3, 1) := by decide +kernel
theorem d_law_279 : decode code 279 = .ok (.iconst 2, 1) := by decide +kernel
theorem d_law_280 : decode code 280 = .ok (.iadd, 1) := by decide +kernel
theorem d_law_281 : decode code 281 = .ok (.iaload, 1) := by decide +kernel
theorem d_law_282 : decode code 282 = .ok (.invokevirtual 35, 3) := by decide +kernel
theorem d_law_285 : decode code 285 = .ok (.pop, 1) := by decide +kernel
theorem d_law_286 : decode code 286 = .ok (.goto 825, 3) := by decide +kernel
theorem d_law_289 : decode code 289 = .ok (.aload_n 1, 1) := by decide +kernel
theorem d_law_290 : decode code 290 = .ok (.aload_n 0, 1) := by decide +kernel
theorem d_law_291 : decode code 291 = .ok (.iload_n 3, 1) := by decide +kernel
theorem d_law_292 : decode code 292 = .ok (.iconst 1, 1) := by decide +kernel
theorem d_law_293 : decode code 293 = .ok (.iadd, 1) := by decide +kernel
theorem d_law_294 : decode code 294 = .ok (.iaload, 1) := by decide +kernel
theorem d_law_295 : decode code 295 = .ok (.aload_n 0, 1) := by decide +kernel
theorem d_law_296 : decode code 296 = .ok (.iload_n 3, 1) := by decide +kernel
theorem d_law_297 : decode code 297 = .ok (.iconst 2, 1) := by decide +kernel
theorem d_law_298 : decode code 298 = .ok (.iadd, 1) := by decide +kernel
theorem d_law_299 : decode code 299 = .ok (.iaload, 1) := by decide +kernel
theorem d_law_300 : decode code 300 = .ok (.invokevirtual 36, 3) := by decide +kernel
theorem d_law_303 : decode code 303 = .ok (.pop, 1) := by decide +kernel
theorem d_law_304 : decode code 304 = .ok (.aload_n 2, 1) := by decide +kernel
theorem d_law_305 : decode code 305 = .ok (.aload_n 0, 1) := by decide +kernel
theorem d_law_306 : decode code 306 = .ok (.iload_n 3, 1) := by decide +kernel
theorem d_law_307 : decode code 307 = .ok (.iconst 1, 1) := by decide +kernel
theorem d_law_308 : decode code 308 = .ok (.iadd, 1) := by decide +kernel
theorem d_law_309 : decode code 309 = .ok (.iaload, 1) := by decide +kernel
theorem d_law_310 : decode code 310 = .ok (.aload_n 0, 1) := by decide +kernel
theorem d_law_311 : decode code 311 = .ok (.iload_n 3, 1) := by decide +kernel
theorem d_law_312 : decode code 312 = .ok (.iconst 2, 1) := by decide +kernel
theorem d_law_313 : decode code 313 = .ok (.iadd, 1) := by decide +kernel
theorem d_law_314 : decode code 314 = .ok (.iaload, 1) := by decide +kernel
theorem d_law_315 : decode code 315 = .ok (.invokevirtual 39, 3) := by decide +kernel
theorem d_law_318 : decode code 318 = .ok (.pop, 1) := by decide +kernel
theorem d_law_319 : decode code 319 = .ok (.goto 792, 3) := by decide +kernel
theorem d_law_322 : decode code 322 = .ok (.aload_n 1, 1) := by decide +kernel
theorem d_law_323 : decode code 323 = .ok (.aload_n 0, 1) := by decide +kernel
theorem d_law_324 : decode code 324 = .ok (.iload_n 3, 1) := by decide +kernel
theorem d_law_325 : decode code 325 = .ok (.iconst 1, 1) := by decide +kernel
theorem d_law_326 : decode code 326 = .ok (.iadd, 1) := by decide +kernel
theorem d_law_327 : decode code 327 = .ok (.iaload, 1) := by decide +kernel
theorem d_law_328 : decode code 328 = .ok (.aload_n 0, 1) := by decide +kernel
theorem d_law_329 : decode code 329 = .ok (.iload_n 3, 1) := by decide +kernel
theorem d_law_330 : decode code 330 = .ok (.iconst 2, 1) := by decide +kernel
theorem d_law_331 : decode code 331 = .ok (.iadd, 1) := by decide +kernel
theorem d_law_332 : decode code 332 = .ok (.iaload, 1) := by decide +kernel
theorem d_law_333 : decode code 333 = .ok (.invokevirtual 40, 3) := by decide +kernel
theorem d_law_336 : decode code 336 = .ok (.pop, 1) := by decide +kernel
theorem d_law_337 : decode code 337 = .ok (.aload_n 2, 1) := by decide +kernel
theorem d_law_338 : decode code 338 = .ok (.aload_n 0, 1) := by decide +kernel
theorem d_law_339 : decode code 339 = .ok (.iload_n 3, 1) := by decide +kernel
theorem d_law_340 : decode code 340 = .ok (.iconst 1, 1) := by decide +kernel
theorem d_law_341 : decode code 341 = .ok (.iadd, 1) := by decide +kernel
theorem d_law_342 : decode code 342 = .ok (.iaload, 1) := by decide +kernel
theorem d_law_343 : decode code 343 = .ok (.aload_n 0, 1) := by decide +kernel
theorem d_law_344 : decode code 344 = .ok (.iload_n 3, 1) := by decide +kernel
theorem d_law_345 : decode code 345 = .ok (.iconst 2, 1) := by decide +kernel
theorem d_law_346 : decode code 346 = .ok (.iadd, 1) := by decide +kernel
theorem d_law_347 : decode code 347 = .ok (.iaload, 1) := by decide +kernel
theorem d_law_348 : decode code 348 = .ok (.invokevirtual 43, 3) := by decide +kernel
theorem d_law_351 : decode code 351 = .ok (.pop, 1) := by decide +kernel
theorem d_law_352 : decode code 352 = .ok (.goto 759, 3) := by decide +kernel
theorem d_law_355 : decode code 355 = .ok (.aload_n 1, 1) := by decide +kernel
theorem d_law_356 : decode code 356 = .ok (.aload_n 0, 1) := by decide +kernel
theorem d_law_357 : decode code 357 = .ok (.iload_n 3, 1) := by decide +kernel
theorem d_law_358 : decode code 358 = .ok (.iconst 1, 1) := by decide +kernel
theorem d_law_359 : decode code 359 = .ok (.iadd, 1) := by decide +kernel
theorem d_law_360 : decode code 360 = .ok (.iaload, 1) := by decide +kernel
theorem d_law_361 : decode code 361 = .ok (.invokevirtual 44, 3) := by decide +kernel
theorem d_law_364 : decode code 364 = .ok (.pop, 1) := by decide +kernel
theorem d_law_365 : decode code 365 = .ok (.aload_n 2, 1) := by decide +kernel
theorem d_law_366 : decode code 366 = .ok (.aload_n 0, 1) := by decide +kernel
theorem d_law_367 : decode code 367 = .ok (.iload_n 3, 1) := by decide +kernel
theorem d_law_368 : decode code 368 = .ok (.iconst 1, 1) := by decide +kernel
theorem d_law_369 : decode code 369 = .ok (.iadd, 1) := by decide +kernel
theorem d_law_370 : decode code 370 = .ok (.iaload, 1) := by decide +kernel
theorem d_law_371 : decode code 371 = .ok (.invokevirtual 47, 3) := by decide +kernel
theorem d_law_374 : decode code 374 = .ok (.pop, 1) := by decide +kernel
theorem d_law_375 : decode code 375 = .ok (.goto 736, 3) := by decide +kernel
theorem d_law_378 : decode code 378 = .ok (.aload_n 1, 1) := by decide +kernel
theorem d_law_379 : decode code 379 = .ok (.invokevirtual 48, 3) := by decide +kernel
theorem d_law_382 : decode code 382 = .ok (.pop, 1) := by decide +kernel
theorem d_law_383 : decode code 383 = .ok (.aload_n 2, 1) := by decide +kernel
theorem d_law_384 : decode code 384 = .ok (.invokevirtual 51, 3) := by decide +kernel
theorem d_law_387 : decode code 387 = .ok (.pop, 1) := by decide +kernel
theorem d_law_388 : decode code 388 = .ok (.goto 723, 3) := by decide +kernel
theorem d_law_391 : decode code 391 = .ok (.aload_n 1, 1) := by decide +kernel
theorem d_law_392 : decode code 392 = .ok (.aload_n 0, 1) := by decide +kernel
theorem d_law_393 : decode code 393 = .ok (.iload_n 3, 1) := by decide +kernel
theorem d_law_394 : decode code 394 = .ok (.iconst 1, 1) := by decide +kernel
theorem d_law_395 : decode code 395 = .ok (.iadd, 1) := by decide +kernel
theorem d_law_396 : decode code 396 = .ok (.iaload, 1) := by decide +kernel
theorem d_law_397 : decode code 397 = .ok (.invokevirtual 52, 3) := by decide +kernel
theorem d_law_400 : decode code 400 = .ok (.pop, 1) := by decide +kernel
theorem d_law_401 : decode code 401 = .ok (.aload_n 2, 1) := by decide +kernel
theorem d_law_402 : decode code 402 = .ok (.aload_n 0, 1) := by decide +kernel
theorem d_law_403 : decode code 403 = .ok (.iload_n 3, 1) := by decide +kernel
theorem d_law_404 : decode code 404 = .ok (.iconst 1, 1) := by decide +kernel
theorem d_law_405 : decode code 405 = .ok (.iadd, 1) := by decide +kernel
theorem d_law_406 : decode code 406 = .ok (.iaload, 1) := by decide +kernel
theorem d_law_407 : decode code 407 = .ok (.invokevirtual 55, 3) := by decide +kernel
theorem d_law_410 : decode code 410 = .ok (.pop, 1) := by decide +kernel
theorem d_law_411 : decode code 411 = .ok (.goto 700, 3) := by decide +kernel
theorem d_law_414 : decode code 414 = .ok (.aload_n 1, 1) := by decide +kernel
theorem d_law_415 : decode code 415 = .ok (.aload_n 0, 1) := by decide +kernel
theorem d_law_416 : decode code 416 = .ok (.iload_n 3, 1) := by decide +kernel
theorem d_law_417 : decode code 417 = .ok (.iconst 1, 1) := by decide +kernel
theorem d_law_418 : decode code 418 = .ok (.iadd, 1) := by decide +kernel
theorem d_law_419 : decode code 419 = .ok (.iaload, 1) := by decide +kernel
theorem d_law_420 : decode code 420 = .ok (.aload_n 0, 1) := by decide +kernel
theorem d_law_421 : decode code 421 = .ok (.iload_n 3, 1) := by decide +kernel
theorem d_law_422 : decode code 422 = .ok (.iconst 2, 1) := by decide +kernel
theorem d_law_423 : decode code 423 = .ok (.iadd, 1) := by decide +kernel
theorem d_law_424 : decode code 424 = .ok (.iaload, 1) := by decide +kernel
theorem d_law_425 : decode code 425 = .ok (.i2l, 1) := by decide +kernel
theorem d_law_426 : decode code 426 = .ok (.bipush 32, 2) := by decide +kernel
theorem d_law_428 : decode code 428 = .ok (.lshl, 1) := by decide +kernel
theorem d_law_429 : decode code 429 = .ok (.aload_n 0, 1) := by decide +kernel
theorem d_law_430 : decode code 430 = .ok (.iload_n 3, 1) := by decide +kernel
theorem d_law_431 : decode code 431 = .ok (.iconst 3, 1) := by decide +kernel
theorem d_law_432 : decode code 432 = .ok (.iadd, 1) := by decide +kernel
theorem d_law_433 : decode code 433 = .ok (.iaload, 1) := by decide +kernel
theorem d_law_434 : decode code 434 = .ok (.i2l, 1) := by decide +kernel
theorem d_law_435 : decode code 435 = .ok (.ldc2_w 56, 3) := by decide +kernel
theorem d_law_438 : decode code 438 = .ok (.land, 1) := by decide +kernel
theorem d_law_439 : decode code 439 = .ok (.lor, 1) := by decide +kernel
theorem d_law_440 : decode code 440 = .ok (.invokevirtual 58, 3) := by decide +kernel
theorem d_law_443 : decode code 443 = .ok (.pop, 1) := by decide +kernel
theorem d_law_444 : decode code 444 = .ok (.aload_n 2, 1) := by decide +kernel
theorem d_law_445 : decode code 445 = .ok (.aload_n 0, 1) := by decide +kernel
theorem d_law_446 : decode code 446 = .ok (.iload_n 3, 1) := by decide +kernel
theorem d_law_447 : decode code 447 = .ok (.iconst 1, 1) := by decide +kernel
theorem d_law_448 : decode code 448 = .ok (.iadd, 1) := by decide +kernel
theorem d_law_449 : decode code 449 = .ok (.iaload, 1) := by decide +kernel
theorem d_law_450 : decode code 450 = .ok (.aload_n 0, 1) := by decide +kernel
theorem d_law_451 : decode code 451 = .ok (.iload_n 3, 1) := by decide +kernel
theorem d_law_452 : decode code 452 = .ok (.iconst 2, 1) := by decide +kernel
theorem d_law_453 : decode code 453 = .ok (.iadd, 1) := by decide +kernel
theorem d_law_454 : decode code 454 = .ok (.iaload, 1) := by decide +kernel
theorem d_law_455 : decode code 455 = .ok (.i2l, 1) := by decide +kernel
theorem d_law_456 : decode code 456 = .ok (.bipush 32, 2) := by decide +kernel
theorem d_law_458 : decode code 458 = .ok (.lshl, 1) := by decide +kernel
theorem d_law_459 : decode code 459 = .ok (.aload_n 0, 1) := by decide +kernel
theorem d_law_460 : decode code 460 = .ok (.iload_n 3, 1) := by decide +kernel
theorem d_law_461 : decode code 461 = .ok (.iconst 3, 1) := by decide +kernel
theorem d_law_462 : decode code 462 = .ok (.iadd, 1) := by decide +kernel
theorem d_law_463 : decode code 463 = .ok (.iaload, 1) := by decide +kernel
theorem d_law_464 : decode code 464 = .ok (.i2l, 1) := by decide +kernel
theorem d_law_465 : decode code 465 = .ok (.ldc2_w 56, 3) := by decide +kernel
theorem d_law_468 : decode code 468 = .ok (.land, 1) := by decide +kernel
theorem d_law_469 : decode code 469 = .ok (.lor, 1) := by decide +kernel
theorem d_law_470 : decode code 470 = .ok (.invokevirtual 62, 3) := by decide +kernel
theorem d_law_473 : decode code 473 = .ok (.pop, 1) := by decide +kernel
theorem d_law_474 : decode code 474 = .ok (.goto 637, 3) := by decide +kernel
theorem d_law_477 : decode code 477 = .ok (.aload_n 1, 1) := by decide +kernel
theorem d_law_478 : decode code 478 = .ok (.aload_n 0, 1) := by decide +kernel
theorem d_law_479 : decode code 479 = .ok (.iload_n 3, 1) := by decide +kernel
theorem d_law_480 : decode code 480 = .ok (.iconst 1, 1) := by decide +kernel
theorem d_law_481 : decode code 481 = .ok (.iadd, 1) := by decide +kernel
theorem d_law_482 : decode code 482 = .ok (.iaload, 1) := by decide +kernel
theorem d_law_483 : decode code 483 = .ok (.invokevirtual 63, 3) := by decide +kernel
theorem d_law_486 : decode code 486 = .ok (.pop, 1) := by decide +kernel
theorem d_law_487 : decode code 487 = .ok (.aload_n 2, 1) := by decide +kernel
theorem d_law_488 : decode code 488 = .ok (.aload_n 0, 1) := by decide +kernel
theorem d_law_489 : decode code 489 = .ok (.iload_n 3, 1) := by decide +kernel
theorem d_law_490 : decode code 490 = .ok (.iconst 1, 1) := by decide +kernel
theorem d_law_491 : decode code 491 = .ok (.iadd, 1) := by decide +kernel
theorem d_law_492 : decode code 492 = .ok (.iaload, 1) := by decide +kernel
theorem d_law_493 : decode code 493 = .ok (.invokevirtual 66, 3) := by decide +kernel
theorem d_law_496 : decode code 496 = .ok (.pop, 1) := by decide +kernel
theorem d_law_497 : decode code 497 = .ok (.goto 614, 3) := by decide +kernel
theorem d_law_500 : decode code 500 = .ok (.aload_n 1, 1) := by decide +kernel
theorem d_law_501 : decode code 501 = .ok (.invokevirtual 67, 3) := by decide +kernel
theorem d_law_504 : decode code 504 = .ok (.pop, 1) := by decide +kernel
theorem d_law_505 : decode code 505 = .ok (.aload_n 2, 1) := by decide +kernel
theorem d_law_506 : decode code 506 = .ok (.invokevirtual 70, 3) := by decide +kernel
theorem d_law_509 : decode code 509 = .ok (.pop, 1) := by decide +kernel
theorem d_law_510 : decode code 510 = .ok (.goto 601, 3) := by decide +kernel
theorem d_law_513 : decode code 513 = .ok (.aload_n 1, 1) := by decide +kernel
theorem d_law_514 : decode code 514 = .ok (.aload_n 0, 1) := by decide +kernel
theorem d_law_515 : decode code 515 = .ok (.iload_n 3, 1) := by decide +kernel
theorem d_law_516 : decode code 516 = .ok (.iconst 1, 1) := by decide +kernel
theorem d_law_517 : decode code 517 = .ok (.iadd, 1) := by decide +kernel
theorem d_law_518 : decode code 518 = .ok (.iaload, 1) := by decide +kernel
theorem d_law_519 : decode code 519 = .ok (.aload_n 0, 1) := by decide +kernel
theorem d_law_520 : decode code 520 = .ok (.iload_n 3, 1) := by decide +kernel
theorem d_law_521 : decode code 521 = .ok (.iconst 2, 1) := by decide +kernel
theorem d_law_522 : decode code 522 = .ok (.iadd, 1) := by decide +kernel
theorem d_law_523 : decode code 523 = .ok (.iaload, 1) := by decide +kernel
theorem d_law_524 : decode code 524 = .ok (.invokevirtual 71, 3) := by decide +kernel
theorem d_law_527 : decode code 527 = .ok (.pop, 1) := by decide +kernel
theorem d_law_528 : decode code 528 = .ok (.aload_n 2, 1) := by decide +kernel
theorem d_law_529 : decode code 529 = .ok (.aload_n 0, 1) := by decide +kernel
theorem d_law_530 : decode code 530 = .ok (.iload_n 3, 1) := by decide +kernel
theorem d_law_531 : decode code 531 = .ok (.iconst 1, 1) := by decide +kernel
theorem d_law_532 : decode code 532 = .ok (.iadd, 1) := by decide +kernel
theorem d_law_533 : decode code 533 = .ok (.iaload, 1) := by decide +kernel
theorem d_law_534 : decode code 534 = .ok (.aload_n 0, 1) := by decide +kernel
theorem d_law_535 : decode code 535 = .ok (.iload_n 3, 1) := by decide +kernel
theorem d_law_536 : decode code 536 = .ok (.iconst 2, 1) := by decide +kernel
theorem d_law_537 : decode code 537 = .ok (.iadd, 1) := by decide +kernel
theorem d_law_538 : decode code 538 = .ok (.iaload, 1) := by decide +kernel
theorem d_law_539 : decode code 539 = .ok (.invokevirtual 74, 3) := by decide +kernel
theorem d_law_542 : decode code 542 = .ok (.pop, 1) := by decide +kernel
theorem d_law_543 : decode code 543 = .ok (.goto 568, 3) := by decide +kernel
theorem d_law_546 : decode code 546 = .ok (.aload_n 1, 1) := by decide +kernel
theorem d_law_547 : decode code 547 = .ok (.aload_n 0, 1) := by decide +kernel
theorem d_law_548 : decode code 548 = .ok (.iload_n 3, 1) := by decide +kernel
theorem d_law_549 : decode code 549 = .ok (.iconst 1, 1) := by decide +kernel
theorem d_law_550 : decode code 550 = .ok (.iadd, 1) := by decide +kernel
theorem d_law_551 : decode code 551 = .ok (.iaload, 1) := by decide +kernel
theorem d_law_552 : decode code 552 = .ok (.aload_n 0, 1) := by decide +kernel
theorem d_law_553 : decode code 553 = .ok (.iload_n 3, 1) := by decide +kernel
theorem d_law_554 : decode code 554 = .ok (.iconst 2, 1) := by decide +kernel
theorem d_law_555 : decode code 555 = .ok (.iadd, 1) := by decide +kernel
theorem d_law_556 : decode code 556 = .ok (.iaload, 1) := by decide +kernel
theorem d_law_557 : decode code 557 = .ok (.aload_n 0, 1) := by decide +kernel
theorem d_law_558 : decode code 558 = .ok (.iload_n 3, 1) := by decide +kernel
theorem d_law_559 : decode code 559 = .ok (.iconst 3, 1) := by decide +kernel
theorem d_law_560 : decode code 560 = .ok (.iadd, 1) := by decide +kernel
theorem d_law_561 : decode code 561 = .ok (.iaload, 1) := by decide +kernel
theorem d_law_562 : decode code 562 = .ok (.invokevirtual 75, 3) := by decide +kernel
theorem d_law_565 : decode code 565 = .ok (.pop, 1) := by decide +kernel
theorem d_law_566 : decode code 566 = .ok (.aload_n 2, 1) := by decide +kernel
theorem d_law_567 : decode code 567 = .ok (.aload_n 0, 1) := by decide +kernel
theorem d_law_568 : decode code 568 = .ok (.iload_n 3, 1) := by decide +kernel
theorem d_law_569 : decode code 569 = .ok (.iconst 1, 1) := by decide +kernel
theorem d_law_570 : decode code 570 = .ok (.iadd, 1) := by decide +kernel
theorem d_law_571 : decode code 571 = .ok (.iaload, 1) := by decide +kernel
theorem d_law_572 : decode code 572 = .ok (.aload_n 0, 1) := by decide +kernel
theorem d_law_573 : decode code 573 = .ok (.iload_n 3, 1) := by decide +kernel
theorem d_law_574 : decode code 574 = .ok (.iconst 2, 1) := by decide +kernel
theorem d_law_575 : decode code 575 = .ok (.iadd, 1) := by decide +kernel
theorem d_law_576 : decode code 576 = .ok (.iaload, 1) := by decide +kernel
theorem d_law_577 : decode code 577 = .ok (.aload_n 0, 1) := by decide +kernel
theorem d_law_578 : decode code 578 = .ok (.iload_n 3, 1) := by decide +kernel
theorem d_law_579 : decode code 579 = .ok (.iconst 3, 1) := by decide +kernel
theorem d_law_580 : decode code 580 = .ok (.iadd, 1) := by decide +kernel
theorem d_law_581 : decode code 581 = .ok (.iaload, 1) := by decide +kernel
theorem d_law_582 : decode code 582 = .ok (.invokevirtual 79, 3) := by decide +kernel
theorem d_law_585 : decode code 585 = .ok (.pop, 1) := by decide +kernel
theorem d_law_586 : decode code 586 = .ok (.goto 525, 3) := by decide +kernel
theorem d_law_589 : decode code 589 = .ok (.aload_n 1, 1) := by decide +kernel
theorem d_law_590 : decode code 590 = .ok (.aload_n 0, 1) := by decide +kernel
theorem d_law_591 : decode code 591 = .ok (.iload_n 3, 1) := by decide +kernel
theorem d_law_592 : decode code 592 = .ok (.iconst 1, 1) := by decide +kernel
theorem d_law_593 : decode code 593 = .ok (.iadd, 1) := by decide +kernel
theorem d_law_594 : decode code 594 = .ok (.iaload, 1) := by decide +kernel
theorem d_law_595 : decode code 595 = .ok (.aload_n 0, 1) := by decide +kernel
theorem d_law_596 : decode code 596 = .ok (.iload_n 3, 1) := by decide +kernel
theorem d_law_597 : decode code 597 = .ok (.iconst 2, 1) := by decide +kernel
theorem d_law_598 : decode code 598 = .ok (.iadd, 1) := by decide +kernel
theorem d_law_599 : decode code 599 = .ok (.iaload, 1) := by decide +kernel
theorem d_law_600 : decode code 600 = .ok (.invokevirtual 80, 3) := by decide +kernel
theorem d_law_603 : decode code 603 = .ok (.pop, 1) := by decide +kernel
theorem d_law_604 : decode code 604 = .ok (.aload_n 2, 1) := by decide +kernel
theorem d_law_605 : decode code 605 = .ok (.aload_n 0, 1) := by decide +kernel
theorem d_law_606 : decode code 606 = .ok (.iload_n 3, 1) := by decide +kernel
theorem d_law_607 : decode code 607 = .ok (.iconst 1, 1) := by decide +kernel
theorem d_law_608 : decode code 608 = .ok (.iadd, 1) := by decide +kernel
theorem d_law_609 : decode code 609 = .ok (.iaload, 1) := by decide +kernel
theorem d_law_610 : decode code 610 = .ok (.aload_n 0, 1) := by decide +kernel
theorem d_law_611 : decode code 611 = .ok (.iload_n 3, 1) := by decide +kernel
theorem d_law_612 : decode code 612 = .ok (.iconst 2, 1) := by decide +kernel
theorem d_law_613 : decode code 613 = .ok (.iadd, 1) := by decide +kernel
theorem d_law_614 : decode code 614 = .ok (.iaload, 1) := by decide +kernel
theorem d_law_615 : decode code 615 = .ok (.invokevirtual 83, 3) := by decide +kernel
theorem d_law_618 : decode code 618 = .ok (.pop, 1) := by decide +kernel
theorem d_law_619 : decode code 619 = .ok (.goto 492, 3) := by decide +kernel
theorem d_law_622 : decode code 622 = .ok (.aload_n 1, 1) := by decide +kernel
theorem d_law_623 : decode code 623 = .ok (.aload_n 0, 1) := by decide +kernel
theorem d_law_624 : decode code 624 = .ok (.iload_n 3, 1) := by decide +kernel
theorem d_law_625 : decode code 625 = .ok (.iconst 1, 1) := by decide +kernel
theorem d_law_626 : decode code 626 = .ok (.iadd, 1) := by decide +kernel
theorem d_law_627 : decode code 627 = .ok (.iaload, 1) := by decide +kernel
theorem d_law_628 : decode code 628 = .ok (.aload_n 0, 1) := by decide +kernel
theorem d_law_629 : decode code 629 = .ok (.iload_n 3, 1) := by decide +kernel
theorem d_law_630 : decode code 630 = .ok (.iconst 2, 1) := by decide +kernel
theorem d_law_631 : decode code 631 = .ok (.iadd, 1) := by decide +kernel
theorem d_law_632 : decode code 632 = .ok (.iaload, 1) := by decide +kernel
theorem d_law_633 : decode code 633 = .ok (.aload_n 0, 1) := by decide +kernel
theorem d_law_634 : decode code 634 = .ok (.iload_n 3, 1) := by decide +kernel
theorem d_law_635 : decode code 635 = .ok (.iconst 3, 1) := by decide +kernel
theorem d_law_636 : decode code 636 = .ok (.iadd, 1) := by decide +kernel
theorem d_law_637 : decode code 637 = .ok (.iaload, 1) := by decide +kernel
theorem d_law_638 : decode code 638 = .ok (.invokevirtual 84, 3) := by decide +kernel
theorem d_law_641 : decode code 641 = .ok (.pop, 1) := by decide +kernel
theorem d_law_642 : decode code 642 = .ok (.aload_n 2, 1) := by decide +kernel
theorem d_law_643 : decode code 643 = .ok (.aload_n 0, 1) := by decide +kernel
theorem d_law_644 : decode code 644 = .ok (.iload_n 3, 1) := by decide +kernel
theorem d_law_645 : decode code 645 = .ok (.iconst 1, 1) := by decide +kernel
theorem d_law_646 : decode code 646 = .ok (.iadd, 1) := by decide +kernel
theorem d_law_647 : decode code 647 = .ok (.iaload, 1) := by decide +kernel
theorem d_law_648 : decode code 648 = .ok (.aload_n 0, 1) := by decide +kernel
theorem d_law_649 : decode code 649 = .ok (.iload_n 3, 1) := by decide +kernel
theorem d_law_650 : decode code 650 = .ok (.iconst 2, 1) := by decide +kernel
theorem d_law_651 : decode code 651 = .ok (.iadd, 1) := by decide +kernel
theorem d_law_652 : decode code 652 = .ok (.iaload, 1) := by decide +kernel
theorem d_law_653 : decode code 653 = .ok (.aload_n 0, 1) := by decide +kernel
theorem d_law_654 : decode code 654 = .ok (.iload_n 3, 1) := by decide +kernel
theorem d_law_655 : decode code 655 = .ok (.iconst 3, 1) := by decide +kernel
theorem d_law_656 : decode code 656 = .ok (.iadd, 1) := by decide +kernel
theorem d_law_657 : decode code 657 = .ok (.iaload, 1) := by decide +kernel
theorem d_law_658 : decode code 658 = .ok (.invokevirtual 87, 3) := by decide +kernel
theorem d_law_661 : decode code 661 = .ok (.pop, 1) := by decide +kernel
theorem d_law_662 : decode code 662 = .ok (.goto 449, 3) := by decide +kernel
theorem d_law_665 : decode code 665 = .ok (.aload_n 1, 1) := by decide +kernel
theorem d_law_666 : decode code 666 = .ok (.aload_n 0, 1) := by decide +kernel
theorem d_law_667 : decode code 667 = .ok (.iload_n 3, 1) := by decide +kernel
theorem d_law_668 : decode code 668 = .ok (.iconst 1, 1) := by decide +kernel
theorem d_law_669 : decode code 669 = .ok (.iadd, 1) := by decide +kernel
theorem d_law_670 : decode code 670 = .ok (.iaload, 1) := by decide +kernel
theorem d_law_671 : decode code 671 = .ok (.aload_n 0, 1) := by decide +kernel
theorem d_law_672 : decode code 672 = .ok (.iload_n 3, 1) := by decide +kernel
theorem d_law_673 : decode code 673 = .ok (.iconst 2, 1) := by decide +kernel
theorem d_law_674 : decode code 674 = .ok (.iadd, 1) := by decide +kernel
theorem d_law_675 : decode code 675 = .ok (.iaload, 1) := by decide +kernel
theorem d_law_676 : decode code 676 = .ok (.aload_n 0, 1) := by decide +kernel
theorem d_law_677 : decode code 677 = .ok (.iload_n 3, 1) := by decide +kernel
theorem d_law_678 : decode code 678 = .ok (.iconst 3, 1) := by decide +kernel
theorem d_law_679 : decode code 679 = .ok (.iadd, 1) := by decide +kernel
theorem d_law_680 : decode code 680 = .ok (.iaload, 1) := by decide +kernel
theorem d_law_681 : decode code 681 = .ok (.invokevirtual 88, 3) := by decide +kernel
theorem d_law_684 : decode code 684 = .ok (.pop, 1) := by decide +kernel
theorem d_law_685 : decode code 685 = .ok (.aload_n 2, 1) := by decide +kernel
theorem d_law_686 : decode code 686 = .ok (.aload_n 0, 1) := by decide +kernel
theorem d_law_687 : decode code 687 = .ok (.iload_n 3, 1) := by decide +kernel
theorem d_law_688 : decode code 688 = .ok (.iconst 1, 1) := by decide +kernel
theorem d_law_689 : decode code 689 = .ok (.iadd, 1) := by decide +kernel
theorem d_law_690 : decode code 690 = .ok (.iaload, 1) := by decide +kernel
theorem d_law_691 : decode code 691 = .ok (.aload_n 0, 1) := by decide +kernel
theorem d_law_692 : decode code 692 = .ok (.iload_n 3, 1) := by decide +kernel
theorem d_law_693 : decode code 693 = .ok (.iconst 2, 1) := by decide +kernel
theorem d_law_694 : decode code 694 = .ok (.iadd, 1) := by decide +kernel
theorem d_law_695 : decode code 695 = .ok (.iaload, 1) := by decide +kernel
theorem d_law_696 : decode code 696 = .ok (.aload_n 0, 1) := by decide +kernel
theorem d_law_697 : decode code 697 = .ok (.iload_n 3, 1) := by decide +kernel
theorem d_law_698 : decode code 698 = .ok (.iconst 3, 1) := by decide +kernel
theorem d_law_699 : decode code 699 = .ok (.iadd, 1) := by decide +kernel
theorem d_law_700 : decode code 700 = .ok (.iaload, 1) := by decide +kernel
theorem d_law_701 : decode code 701 = .ok (.invokevirtual 91, 3) := by decide +kernel
theorem d_law_704 : decode code 704 = .ok (.pop, 1) := by decide +kernel
theorem d_law_705 : decode code 705 = .ok (.goto 406, 3) := by decide +kernel
theorem d_law_708 : decode code 708 = .ok (.aload_n 1, 1) := by decide +kernel
theorem d_law_709 : decode code 709 = .ok (.aload_n 0, 1) := by decide +kernel
theorem d_law_710 : decode code 710 = .ok (.iload_n 3, 1) := by decide +kernel
theorem d_law_711 : decode code 711 = .ok (.iconst 1, 1) := by decide +kernel
theorem d_law_712 : decode code 712 = .ok (.iadd, 1) := by decide +kernel
theorem d_law_713 : decode code 713 = .ok (.iaload, 1) := by decide +kernel
theorem d_law_714 : decode code 714 = .ok (.aload_n 0, 1) := by decide +kernel
theorem d_law_715 : decode code 715 = .ok (.iload_n 3, 1) := by decide +kernel
theorem d_law_716 : decode code 716 = .ok (.iconst 2, 1) := by decide +kernel
theorem d_law_717 : decode code 717 = .ok (.iadd, 1) := by decide +kernel
theorem d_law_718 : decode code 718 = .ok (.iaload, 1) := by decide +kernel
theorem d_law_719 : decode code 719 = .ok (.aload_n 0, 1) := by decide +kernel
theorem d_law_720 : decode code 720 = .ok (.iload_n 3, 1) := by decide +kernel
theorem d_law_721 : decode code 721 = .ok (.iconst 3, 1) := by decide +kernel
theorem d_law_722 : decode code 722 = .ok (.iadd, 1) := by decide +kernel
theorem d_law_723 : decode code 723 = .ok (.iaload, 1) := by decide +kernel
theorem d_law_724 : decode code 724 = .ok (.invokevirtual 92, 3) := by decide +kernel
theorem d_law_727 : decode code 727 = .ok (.pop, 1) := by decide +kernel
theorem d_law_728 : decode code 728 = .ok (.aload_n 2, 1) := by decide +kernel
theorem d_law_729 : decode code 729 = .ok (.aload_n 0, 1) := by decide +kernel
theorem d_law_730 : decode code 730 = .ok (.iload_n 3, 1) := by decide +kernel
theorem d_law_731 : decode code 731 = .ok (.iconst 1, 1) := by decide +kernel
theorem d_law_732 : decode code 732 = .ok (.iadd, 1) := by decide +kernel
theorem d_law_733 : decode code 733 = .ok (.iaload, 1) := by decide +kernel
theorem d_law_734 : decode code 734 = .ok (.aload_n 0, 1) := by decide +kernel
theorem d_law_735 : decode code 735 = .ok (.iload_n 3, 1) := by decide +kernel
theorem d_law_736 : decode code 736 = .ok (.iconst 2, 1) := by decide +kernel
theorem d_law_737 : decode code 737 = .ok (.iadd, 1) := by decide +kernel
theorem d_law_738 : decode code 738 = .ok (.iaload, 1) := by decide +kernel
theorem d_law_739 : decode code 739 = .ok (.aload_n 0, 1) := by decide +kernel
theorem d_law_740 : decode code 740 = .ok (.iload_n 3, 1) := by decide +kernel
theorem d_law_741 : decode code 741 = .ok (.iconst 3, 1) := by decide +kernel
theorem d_law_742 : decode code 742 = .ok (.iadd, 1) := by decide +kernel
theorem d_law_743 : decode code 743 = .ok (.iaload, 1) := by decide +kernel
theorem d_law_744 : decode code 744 = .ok (.invokevirtual 95, 3) := by decide +kernel
theorem d_law_747 : decode code 747 = .ok (.pop, 1) := by decide +kernel
theorem d_law_748 : decode code 748 = .ok (.goto 363, 3) := by decide +kernel
theorem d_law_751 : decode code 751 = .ok (.aload_n 1, 1) := by decide +kernel
theorem d_law_752 : decode code 752 = .ok (.aload_n 0, 1) := by decide +kernel
theorem d_law_753 : decode code 753 = .ok (.iload_n 3, 1) := by decide +kernel
theorem d_law_754 : decode code 754 = .ok (.iconst 1, 1) := by decide +kernel
theorem d_law_755 : decode code 755 = .ok (.iadd, 1) := by decide +kernel
theorem d_law_756 : decode code 756 = .ok (.iaload, 1) := by decide +kernel
theorem d_law_757 : decode code 757 = .ok (.aload_n 0, 1) := by decide +kernel
theorem d_law_758 : decode code 758 = .ok (.iload_n 3, 1) := by decide +kernel
theorem d_law_759 : decode code 759 = .ok (.iconst 2, 1) := by decide +kernel
theorem d_law_760 : decode code 760 = .ok (.iadd, 1) := by decide +kernel
theorem d_law_761 : decode code 761 = .ok (.iaload, 1) := by decide +kernel
theorem d_law_762 : decode code 762 = .ok (.invokevirtual 96, 3) := by decide +kernel
theorem d_law_765 : decode code 765 = .ok (.pop, 1) := by decide +kernel
theorem d_law_766 : decode code 766 = .ok (.aload_n 2, 1) := by decide +kernel
theorem d_law_767 : decode code 767 = .ok (.aload_n 0, 1) := by decide +kernel
theorem d_law_768 : decode code 768 = .ok (.iload_n 3, 1) := by decide +kernel
theorem d_law_769 : decode code 769 = .ok (.iconst 1, 1) := by decide +kernel
theorem d_law_770 : decode code 770 = .ok (.iadd, 1) := by decide +kernel
theorem d_law_771 : decode code 771 = .ok (.iaload, 1) := by decide +kernel
theorem d_law_772 : decode code 772 = .ok (.aload_n 0, 1) := by decide +kernel
theorem d_law_773 : decode code 773 = .ok (.iload_n 3, 1) := by decide +kernel
theorem d_law_774 : decode code 774 = .ok (.iconst 2, 1) := by decide +kernel
theorem d_law_775 : decode code 775 = .ok (.iadd, 1) := by decide +kernel
theorem d_law_776 : decode code 776 = .ok (.iaload, 1) := by decide +kernel
theorem d_law_777 : decode code 777 = .ok (.invokevirtual 99, 3) := by decide +kernel
theorem d_law_780 : decode code 780 = .ok (.pop, 1) := by decide +kernel
theorem d_law_781 : decode code 781 = .ok (.goto 330, 3) := by decide +kernel
theorem d_law_784 : decode code 784 = .ok (.aload_n 1, 1) := by decide +kernel
theorem d_law_785 : decode code 785 = .ok (.aload_n 0, 1) := by decide +kernel
theorem d_law_786 : decode code 786 = .ok (.iload_n 3, 1) := by decide +kernel
theorem d_law_787 : decode code 787 = .ok (.iconst 1, 1) := by decide +kernel
theorem d_law_788 : decode code 788 = .ok (.iadd, 1) := by decide +kernel
theorem d_law_789 : decode code 789 = .ok (.iaload, 1) := by decide +kernel
theorem d_law_790 : decode code 790 = .ok (.invokevirtual 100, 3) := by decide +kernel
theorem d_law_793 : decode code 793 = .ok (.pop, 1) := by decide +kernel
theorem d_law_794 : decode code 794 = .ok (.aload_n 2, 1) := by decide +kernel
theorem d_law_795 : decode code 795 = .ok (.aload_n 0, 1) := by decide +kernel
theorem d_law_796 : decode code 796 = .ok (.iload_n 3, 1) := by decide +kernel
theorem d_law_797 : decode code 797 = .ok (.iconst 1, 1) := by decide +kernel
theorem d_law_798 : decode code 798 = .ok (.iadd, 1) := by decide +kernel
theorem d_law_799 : decode code 799 = .ok (.iaload, 1) := by decide +kernel
theorem d_law_800 : decode code 800 = .ok (.invokevirtual 103, 3) := by decide +kernel
theorem d_law_803 : decode code 803 = .ok (.pop, 1) := by decide +kernel
theorem d_law_804 : decode code 804 = .ok (.goto 307, 3) := by decide +kernel
theorem d_law_807 : decode code 807 = .ok (.aload_n 1, 1) := by decide +kernel
theorem d_law_808 : decode code 808 = .ok (.aload_n 0, 1) := by decide +kernel
theorem d_law_809 : decode code 809 = .ok (.iload_n 3, 1) := by decide +kernel
theorem d_law_810 : decode code 810 = .ok (.iconst 1, 1) := by decide +kernel
theorem d_law_811 : decode code 811 = .ok (.iadd, 1) := by decide +kernel
theorem d_law_812 : decode code 812 = .ok (.iaload, 1) := by decide +kernel
theorem d_law_813 : decode code 813 = .ok (.aload_n 0, 1) := by decide +kernel
theorem d_law_814 : decode code 814 = .ok (.iload_n 3, 1) := by decide +kernel
theorem d_law_815 : decode code 815 = .ok (.iconst 2, 1) := by decide +kernel
theorem d_law_816 : decode code 816 = .ok (.iadd, 1) := by decide +kernel
theorem d_law_817 : decode code 817 = .ok (.iaload, 1) := by decide +kernel
theorem d_law_818 : decode code 818 = .ok (.invokevirtual 104, 3) := by decide +kernel
theorem d_law_821 : decode code 821 = .ok (.pop, 1) := by decide +kernel
theorem d_law_822 : decode code 822 = .ok (.aload_n 2, 1) := by decide +kernel
theorem d_law_823 : decode code 823 = .ok (.aload_n 0, 1) := by decide +kernel
theorem d_law_824 : decode code 824 = .ok (.iload_n 3, 1) := by decide +kernel
theorem d_law_825 : decode code 825 = .ok (.iconst 1, 1) := by decide +kernel
theorem d_law_826 : decode code 826 = .ok (.iadd, 1) := by decide +kernel
theorem d_law_827 : decode code 827 = .ok (.iaload, 1) := by decide +kernel
theorem d_law_828 : decode code 828 = .ok (.aload_n 0, 1) := by decide +kernel
theorem d_law_829 : decode code 829 = .ok (.iload_n 3, 1) := by decide +kernel
theorem d_law_830 : decode code 830 = .ok (.iconst 2, 1) := by decide +kernel
theorem d_law_831 : decode code 831 = .ok (.iadd, 1) := by decide +kernel
theorem d_law_832 : decode code 832 = .ok (.iaload, 1) := by decide +kernel
theorem d_law_833 : decode code 833 = .ok (.invokevirtual 107, 3) := by decide +kernel
theorem d_law_836 : decode code 836 = .ok (.pop, 1) := by decide +kernel
theorem d_law_837 : decode code 837 = .ok (.goto 274, 3) := by decide +kernel
theorem d_law_840 : decode code 840 = .ok (.aload_n 1, 1) := by decide +kernel
theorem d_law_841 : decode code 841 = .ok (.aload_n 0, 1) := by decide +kernel
theorem d_law_842 : decode code 842 = .ok (.iload_n 3, 1) := by decide +kernel
theorem d_law_843 : decode code 843 = .ok (.iconst 1, 1) := by decide +kernel
theorem d_law_844 : decode code 844 = .ok (.iadd, 1) := by decide +kernel
theorem d_law_845 : decode code 845 = .ok (.iaload, 1) := by decide +kernel
theorem d_law_846 : decode code 846 = .ok (.aload_n 0, 1) := by decide +kernel
theorem d_law_847 : decode code 847 = .ok (.iload_n 3, 1) := by decide +kernel
theorem d_law_848 : decode code 848 = .ok (.iconst 2, 1) := by decide +kernel
theorem d_law_849 : decode code 849 = .ok (.iadd, 1) := by decide +kernel
theorem d_law_850 : decode code 850 = .ok (.iaload, 1) := by decide +kernel
theorem d_law_851 : decode code 851 = .ok (.aload_n 0, 1) := by decide +kernel
theorem d_law_852 : decode code 852 = .ok (.iload_n 3, 1) := by decide +kernel
theorem d_law_853 : decode code 853 = .ok (.iconst 3, 1) := by decide +kernel
theorem d_law_854 : decode code 854 = .ok (.iadd, 1) := by decide +kernel
theorem d_law_855 : decode code 855 = .ok (.iaload, 1) := by decide +kernel
theorem d_law_856 : decode code 856 = .ok (.invokevirtual 108, 3) := by decide +kernel
theorem d_law_859 : decode code 859 = .ok (.pop, 1) := by decide +kernel
theorem d_law_860 : decode code 860 = .ok (.aload_n 2, 1) := by decide +kernel
theorem d_law_861 : decode code 861 = .ok (.aload_n 0, 1) := by decide +kernel
theorem d_law_862 : decode code 862 = .ok (.iload_n 3, 1) := by decide +kernel
theorem d_law_863 : decode code 863 = .ok (.iconst 1, 1) := by decide +kernel
theorem d_law_864 : decode code 864 = .ok (.iadd, 1) := by decide +kernel
theorem d_law_865 : decode code 865 = .ok (.iaload, 1) := by decide +kernel
theorem d_law_866 : decode code 866 = .ok (.aload_n 0, 1) := by decide +kernel
theorem d_law_867 : decode code 867 = .ok (.iload_n 3, 1) := by decide +kernel
theorem d_law_868 : decode code 868 = .ok (.iconst 2, 1) := by decide +kernel
theorem d_law_869 : decode code 869 = .ok (.iadd, 1) := by decide +kernel
theorem d_law_870 : decode code 870 = .ok (.iaload, 1) := by decide +kernel
theorem d_law_871 : decode code 871 = .ok (.aload_n 0, 1) := by decide +kernel
theorem d_law_872 : decode code 872 = .ok (.iload_n 3, 1) := by decide +kernel
theorem d_law_873 : decode code 873 = .ok (.iconst 3, 1) := by decide +kernel
theorem d_law_874 : decode code 874 = .ok (.iadd, 1) := by decide +kernel
theorem d_law_875 : decode code 875 = .ok (.iaload, 1) := by decide +kernel
theorem d_law_876 : decode code 876 = .ok (.invokevirtual 111, 3) := by decide +kernel
theorem d_law_879 : decode code 879 = .ok (.pop, 1) := by decide +kernel
theorem d_law_880 : decode code 880 = .ok (.goto 231, 3) := by decide +kernel
theorem d_law_883 : decode code 883 = .ok (.aload_n 1, 1) := by decide +kernel
theorem d_law_884 : decode code 884 = .ok (.aload_n 0, 1) := by decide +kernel
theorem d_law_885 : decode code 885 = .ok (.iload_n 3, 1) := by decide +kernel
theorem d_law_886 : decode code 886 = .ok (.iconst 1, 1) := by decide +kernel
theorem d_law_887 : decode code 887 = .ok (.iadd, 1) := by decide +kernel
theorem d_law_888 : decode code 888 = .ok (.iaload, 1) := by decide +kernel
theorem d_law_889 : decode code 889 = .ok (.aload_n 0, 1) := by decide +kernel
theorem d_law_890 : decode code 890 = .ok (.iload_n 3, 1) := by decide +kernel
theorem d_law_891 : decode code 891 = .ok (.iconst 2, 1) := by decide +kernel
theorem d_law_892 : decode code 892 = .ok (.iadd, 1) := by decide +kernel
theorem d_law_893 : decode code 893 = .ok (.iaload, 1) := by decide +kernel
theorem d_law_894 : decode code 894 = .ok (.invokevirtual 112, 3) := by decide +kernel
theorem d_law_897 : decode code 897 = .ok (.pop2, 1) := by decide +kernel
theorem d_law_898 : decode code 898 = .ok (.aload_n 2, 1) := by decide +kernel
theorem d_law_899 : decode code 899 = .ok (.aload_n 0, 1) := by decide +kernel
theorem d_law_900 : decode code 900 = .ok (.iload_n 3, 1) := by decide +kernel
theorem d_law_901 : decode code 901 = .ok (.iconst 1, 1) := by decide +kernel
theorem d_law_902 : decode code 902 = .ok (.iadd, 1) := by decide +kernel
theorem d_law_903 : decode code 903 = .ok (.iaload, 1) := by decide +kernel
theorem d_law_904 : decode code 904 = .ok (.aload_n 0, 1) := by decide +kernel
theorem d_law_905 : decode code 905 = .ok (.iload_n 3, 1) := by decide +kernel
theorem d_law_906 : decode code 906 = .ok (.iconst 2, 1) := by decide +kernel
theorem d_law_907 : decode code 907 = .ok (.iadd, 1) := by decide +kernel
theorem d_law_908 : decode code 908 = .ok (.iaload, 1) := by decide +kernel
theorem d_law_909 : decode code 909 = .ok (.invokevirtual 116, 3) := by decide +kernel
theorem d_law_912 : decode code 912 = .ok (.pop2, 1) := by decide +kernel
theorem d_law_913 : decode code 913 = .ok (.goto 198, 3) := by decide +kernel
theorem d_law_916 : decode code 916 = .ok (.aload_n 1, 1) := by decide +kernel
theorem d_law_917 : decode code 917 = .ok (.aload_n 0, 1) := by decide +kernel
theorem d_law_918 : decode code 918 = .ok (.iload_n 3, 1) := by decide +kernel
theorem d_law_919 : decode code 919 = .ok (.iconst 1, 1) := by decide +kernel
theorem d_law_920 : decode code 920 = .ok (.iadd, 1) := by decide +kernel
theorem d_law_921 : decode code 921 = .ok (.iaload, 1) := by decide +kernel
theorem d_law_922 : decode code 922 = .ok (.aload_n 0, 1) := by decide +kernel
theorem d_law_923 : decode code 923 = .ok (.iload_n 3, 1) := by decide +kernel
theorem d_law_924 : decode code 924 = .ok (.iconst 2, 1) := by decide +kernel
theorem d_law_925 : decode code 925 = .ok (.iadd, 1) := by decide +kernel
theorem d_law_926 : decode code 926 = .ok (.iaload, 1) := by decide +kernel
theorem d_law_927 : decode code 927 = .ok (.invokevirtual 117, 3) := by decide +kernel
theorem d_law_930 : decode code 930 = .ok (.pop, 1) := by decide +kernel
theorem d_law_931 : decode code 931 = .ok (.aload_n 2, 1) := by decide +kernel
theorem d_law_932 : decode code 932 = .ok (.aload_n 0, 1) := by decide +kernel
theorem d_law_933 : decode code 933 = .ok (.iload_n 3, 1) := by decide +kernel
theorem d_law_934 : decode code 934 = .ok (.iconst 1, 1) := by decide +kernel
theorem d_law_935 : decode code 935 = .ok (.iadd, 1) := by decide +kernel
theorem d_law_936 : decode code 936 = .ok (.iaload, 1) := by decide +kernel
theorem d_law_937 : decode code 937 = .ok (.aload_n 0, 1) := by decide +kernel
theorem d_law_938 : decode code 938 = .ok (.iload_n 3, 1) := by decide +kernel
theorem d_law_939 : decode code 939 = .ok (.iconst 2, 1) := by decide +kernel
theorem d_law_940 : decode code 940 = .ok (.iadd, 1) := by decide +kernel
theorem d_law_941 : decode code 941 = .ok (.iaload, 1) := by decide +kernel
theorem d_law_942 : decode code 942 = .ok (.invokevirtual 120, 3) := by decide +kernel
theorem d_law_945 : decode code 945 = .ok (.pop, 1) := by decide +kernel
theorem d_law_946 : decode code 946 = .ok (.goto 165, 3) := by decide +kernel
theorem d_law_949 : decode code 949 = .ok (.aload_n 1, 1) := by decide +kernel
theorem d_law_950 : decode code 950 = .ok (.aload_n 0, 1) := by decide +kernel
theorem d_law_951 : decode code 951 = .ok (.iload_n 3, 1) := by decide +kernel
theorem d_law_952 : decode code 952 = .ok (.iconst 1, 1) := by decide +kernel
theorem d_law_953 : decode code 953 = .ok (.iadd, 1) := by decide +kernel
theorem d_law_954 : decode code 954 = .ok (.iaload, 1) := by decide +kernel
theorem d_law_955 : decode code 955 = .ok (.aload_n 0, 1) := by decide +kernel
theorem d_law_956 : decode code 956 = .ok (.iload_n 3, 1) := by decide +kernel
theorem d_law_957 : decode code 957 = .ok (.iconst 2, 1) := by decide +kernel
theorem d_law_958 : decode code 958 = .ok (.iadd, 1) := by decide +kernel
theorem d_law_959 : decode code 959 = .ok (.iaload, 1) := by decide +kernel
theorem d_law_960 : decode code 960 = .ok (.invokevirtual 121, 3) := by decide +kernel
theorem d_law_963 : decode code 963 = .ok (.pop, 1) := by decide +kernel
theorem d_law_964 : decode code 964 = .ok (.aload_n 2, 1) := by decide +kernel
theorem d_law_965 : decode code 965 = .ok (.aload_n 0, 1) := by decide +kernel
theorem d_law_966 : decode code 966 = .ok (.iload_n 3, 1) := by decide +kernel
theorem d_law_967 : decode code 967 = .ok (.iconst 1, 1) := by decide +kernel
theorem d_law_968 : decode code 968 = .ok (.iadd, 1) := by decide +kernel
theorem d_law_969 : decode code 969 = .ok (.iaload, 1) := by decide +kernel
theorem d_law_970 : decode code 970 = .ok (.aload_n 0, 1) := by decide +kernel
theorem d_law_971 : decode code 971 = .ok (.iload_n 3, 1) := by decide +kernel
theorem d_law_972 : decode code 972 = .ok (.iconst 2, 1) := by decide +kernel
theorem d_law_973 : decode code 973 = .ok (.iadd, 1) := by decide +kernel
theorem d_law_974 : decode code 974 = .ok (.iaload, 1) := by decide +kernel
theorem d_law_975 : decode code 975 = .ok (.invokevirtual 124, 3) := by decide +kernel
theorem d_law_978 : decode code 978 = .ok (.pop, 1) := by decide +kernel
theorem d_law_979 : decode code 979 = .ok (.goto 132, 3) := by decide +kernel
theorem d_law_982 : decode code 982 = .ok (.aload_n 1, 1) := by decide +kernel
theorem d_law_983 : decode code 983 = .ok (.aload_n 0, 1) := by decide +kernel
theorem d_law_984 : decode code 984 = .ok (.iload_n 3, 1) := by decide +kernel
theorem d_law_985 : decode code 985 = .ok (.iconst 1, 1) := by decide +kernel
theorem d_law_986 : decode code 986 = .ok (.iadd, 1) := by decide +kernel
theorem d_law_987 : decode code 987 = .ok (.iaload, 1) := by decide +kernel
theorem d_law_988 : decode code 988 = .ok (.aload_n 0, 1) := by decide +kernel
theorem d_law_989 : decode code 989 = .ok (.iload_n 3, 1) := by decide +kernel
theorem d_law_990 : decode code 990 = .ok (.iconst 2, 1) := by decide +kernel
theorem d_law_991 : decode code 991 = .ok (.iadd, 1) := by decide +kernel
theorem d_law_992 : decode code 992 = .ok (.iaload, 1) := by decide +kernel
theorem d_law_993 : decode code 993 = .ok (.invokevirtual 125, 3) := by decide +kernel
theorem d_law_996 : decode code 996 = .ok (.pop, 1) := by decide +kernel
theorem d_law_997 : decode code 997 = .ok (.aload_n 2, 1) := by decide +kernel
theorem d_law_998 : decode code 998 = .ok (.aload_n 0, 1) := by decide +kernel
theorem d_law_999 : decode code 999 = .ok (.iload_n 3, 1) := by decide +kernel
theorem d_law_1000 : decode code 1000 = .ok (.iconst 1, 1) := by decide +kernel
theorem d_law_1001 : decode code 1001 = .ok (.iadd, 1) := by decide +kernel
theorem d_law_1002 : decode code 1002 = .ok (.iaload, 1) := by decide +kernel
theorem d_law_1003 : decode code 1003 = .ok (.aload_n 0, 1) := by decide +kernel
theorem d_law_1004 : decode code 1004 = .ok (.iload_n 3, 1) := by decide +kernel
theorem d_law_1005 : decode code 1005 = .ok (.iconst 2, 1) := by decide +kernel
theorem d_law_1006 : decode code 1006 = .ok (.iadd, 1) := by decide +kernel
theorem d_law_1007 : decode code 1007 = .ok (.iaload, 1) := by decide +kernel
theorem d_law_1008 : decode code 1008 = .ok (.invokevirtual 128, 3) := by decide +kernel
theorem d_law_1011 : decode code 1011 = .ok (.pop, 1) := by decide +kernel
theorem d_law_1012 : decode code 1012 = .ok (.goto 99, 3) := by decide +kernel
theorem d_law_1015 : decode code 1015 = .ok (.aload_n 1, 1) := by decide +kernel
theorem d_law_1016 : decode code 1016 = .ok (.aload_n 0, 1) := by decide +kernel
theorem d_law_1017 : decode code 1017 = .ok (.iload_n 3, 1) := by decide +kernel
theorem d_law_1018 : decode code 1018 = .ok (.iconst 1, 1) := by decide +kernel
theorem d_law_1019 : decode code 1019 = .ok (.iadd, 1) := by decide +kernel
theorem d_law_1020 : decode code 1020 = .ok (.iaload, 1) := by decide +kernel
theorem d_law_1021 : decode code 1021 = .ok (.aload_n 0, 1) := by decide +kernel
theorem d_law_1022 : decode code 1022 = .ok (.iload_n 3, 1) := by decide +kernel
theorem d_law_1023 : decode code 1023 = .ok (.iconst 2, 1) := by decide +kernel
theorem d_law_1024 : decode code 1024 = .ok (.iadd, 1) := by decide +kernel
theorem d_law_1025 : decode code 1025 = .ok (.iaload, 1) := by decide +kernel
theorem d_law_1026 : decode code 1026 = .ok (.aload_n 0, 1) := by decide +kernel
theorem d_law_1027 : decode code 1027 = .ok (.iload_n 3, 1) := by decide +kernel
theorem d_law_1028 : decode code 1028 = .ok (.iconst 3, 1) := by decide +kernel
theorem d_law_1029 : decode code 1029 = .ok (.iadd, 1) := by decide +kernel
theorem d_law_1030 : decode code 1030 = .ok (.iaload, 1) := by decide +kernel
theorem d_law_1031 : decode code 1031 = .ok (.aload_n 0, 1) := by decide +kernel
theorem d_law_1032 : decode code 1032 = .ok (.iload_n 3, 1) := by decide +kernel
theorem d_law_1033 : decode code 1033 = .ok (.iconst 4, 1) := by decide +kernel
theorem d_law_1034 : decode code 1034 = .ok (.iadd, 1) := by decide +kernel
theorem d_law_1035 : decode code 1035 = .ok (.iaload, 1) := by decide +kernel
theorem d_law_1036 : decode code 1036 = .ok (.invokevirtual 129, 3) := by decide +kernel
theorem d_law_1039 : decode code 1039 = .ok (.aload_n 2, 1) := by decide +kernel
theorem d_law_1040 : decode code 1040 = .ok (.aload_n 0, 1) := by decide +kernel
theorem d_law_1041 : decode code 1041 = .ok (.iload_n 3, 1) := by decide +kernel
theorem d_law_1042 : decode code 1042 = .ok (.iconst 1, 1) := by decide +kernel
theorem d_law_1043 : decode code 1043 = .ok (.iadd, 1) := by decide +kernel
theorem d_law_1044 : decode code 1044 = .ok (.iaload, 1) := by decide +kernel
theorem d_law_1045 : decode code 1045 = .ok (.aload_n 0, 1) := by decide +kernel
theorem d_law_1046 : decode code 1046 = .ok (.iload_n 3, 1) := by decide +kernel
theorem d_law_1047 : decode code 1047 = .ok (.iconst 2, 1) := by decide +kernel
theorem d_law_1048 : decode code 1048 = .ok (.iadd, 1) := by decide +kernel
theorem d_law_1049 : decode code 1049 = .ok (.iaload, 1) := by decide +kernel
theorem d_law_1050 : decode code 1050 = .ok (.aload_n 0, 1) := by decide +kernel
theorem d_law_1051 : decode code 1051 = .ok (.iload_n 3, 1) := by decide +kernel
theorem d_law_1052 : decode code 1052 = .ok (.iconst 3, 1) := by decide +kernel
theorem d_law_1053 : decode code 1053 = .ok (.iadd, 1) := by decide +kernel
theorem d_law_1054 : decode code 1054 = .ok (.iaload, 1) := by decide +kernel
theorem d_law_1055 : decode code 1055 = .ok (.aload_n 0, 1) := by decide +kernel
theorem d_law_1056 : decode code 1056 = .ok (.iload_n 3, 1) := by decide +kernel
theorem d_law_1057 : decode code 1057 = .ok (.iconst 4, 1) := by decide +kernel
theorem d_law_1058 : decode code 1058 = .ok (.iadd, 1) := by decide +kernel
theorem d_law_1059 : decode code 1059 = .ok (.iaload, 1) := by decide +kernel
theorem d_law_1060 : decode code 1060 = .ok (.invokevirtual 133, 3) := by decide +kernel
theorem d_law_1063 : decode code 1063 = .ok (.if_icmp .eq 48, 3) := by decide +kernel
theorem d_law_1068 : decode code 1068 = .ok (.aload_n 1, 1) := by decide +kernel
theorem d_law_1069 : decode code 1069 = .ok (.aload_n 0, 1) := by decide +kernel
theorem d_law_1070 : decode code 1070 = .ok (.iload_n 3, 1) := by decide +kernel
theorem d_law_1071 : decode code 1071 = .ok (.iconst 1, 1) := by decide +kernel
theorem d_law_1072 : decode code 1072 = .ok (.iadd, 1) := by decide +kernel
theorem d_law_1073 : decode code 1073 = .ok (.iaload, 1) := by decide +kernel
theorem d_law_1074 : decode code 1074 = .ok (.aload_n 0, 1) := by decide +kernel
theorem d_law_1075 : decode code 1075 = .ok (.iload_n 3, 1) := by decide +kernel
theorem d_law_1076 : decode code 1076 = .ok (.iconst 2, 1) := by decide +kernel
theorem d_law_1077 : decode code 1077 = .ok (.iadd, 1) := by decide +kernel
theorem d_law_1078 : decode code 1078 = .ok (.iaload, 1) := by decide +kernel
theorem d_law_1079 : decode code 1079 = .ok (.aload_n 0, 1) := by decide +kernel
theorem d_law_1080 : decode code 1080 = .ok (.iload_n 3, 1) := by decide +kernel
theorem d_law_1081 : decode code 1081 = .ok (.iconst 3, 1) := by decide +kernel
theorem d_law_1082 : decode code 1082 = .ok (.iadd, 1) := by decide +kernel
theorem d_law_1083 : decode code 1083 = .ok (.iaload, 1) := by decide +kernel
theorem d_law_1084 : decode code 1084 = .ok (.invokevirtual 134, 3) := by decide +kernel
theorem d_law_1087 : decode code 1087 = .ok (.pop, 1) := by decide +kernel
theorem d_law_1088 : decode code 1088 = .ok (.aload_n 2, 1) := by decide +kernel
theorem d_law_1089 : decode code 1089 = .ok (.aload_n 0, 1) := by decide +kernel
theorem d_law_1090 : decode code 1090 = .ok (.iload_n 3, 1) := by decide +kernel
theorem d_law_1091 : decode code 1091 = .ok (.iconst 1, 1) := by decide +kernel
theorem d_law_1092 : decode code 1092 = .ok (.iadd, 1) := by decide +kernel
theorem d_law_1093 : decode code 1093 = .ok (.iaload, 1) := by decide +kernel
theorem d_law_1094 : decode code 1094 = .ok (.aload_n 0, 1) := by decide +kernel
theorem d_law_1095 : decode code 1095 = .ok (.iload_n 3, 1) := by decide +kernel
theorem d_law_1096 : decode code 1096 = .ok (.iconst 2, 1) := by decide +kernel
theorem d_law_1097 : decode code 1097 = .ok (.iadd, 1) := by decide +kernel
theorem d_law_1098 : decode code 1098 = .ok (.iaload, 1) := by decide +kernel
theorem d_law_1099 : decode code 1099 = .ok (.aload_n 0, 1) := by decide +kernel
theorem d_law_1100 : decode code 1100 = .ok (.iload_n 3, 1) := by decide +kernel
theorem d_law_1101 : decode code 1101 = .ok (.iconst 3, 1) := by decide +kernel
theorem d_law_1102 : decode code 1102 = .ok (.iadd, 1) := by decide +kernel
theorem d_law_1103 : decode code 1103 = .ok (.iaload, 1) := by decide +kernel
theorem d_law_1104 : decode code 1104 = .ok (.invokevirtual 137, 3) := by decide +kernel
theorem d_law_1107 : decode code 1107 = .ok (.pop, 1) := by decide +kernel
theorem d_law_1108 : decode code 1108 = .ok (.goto 3, 3) := by decide +kernel
abbrev q_G (l : Launch) (s : State) (dC : Nat → ClassId) (dI : Nat → Nat → Nat) (aC : Nat → ClassId) (pl : Nat) : am_G := (l, s.heap.size, s.heap, dC, dI, aC, pl, fun _ => 0)
theorem q_in1 {i : Int} {L : Nat} (h : 0 ≤ i ∧ i + 5 ≤ L) (hL : L ≤ 2147483647) : vp_in (Int32.ofInt i + 1) L := by
  have e : Int32.ofInt i + 1 = Int32.ofInt (i + 1) := by rw [Int32.ofInt_add]; rfl
  rw [e]
  exact gs_vp (by omega) hL
theorem q_in2 {i : Int} {L : Nat} (h : 0 ≤ i ∧ i + 5 ≤ L) (hL : L ≤ 2147483647) : vp_in (Int32.ofInt i + 2) L := by
  have e : Int32.ofInt i + 2 = Int32.ofInt (i + 2) := by rw [Int32.ofInt_add]; rfl
  rw [e]
  exact gs_vp (by omega) hL
theorem q_in3 {i : Int} {L : Nat} (h : 0 ≤ i ∧ i + 5 ≤ L) (hL : L ≤ 2147483647) : vp_in (Int32.ofInt i + 3) L := by
  have e : Int32.ofInt i + 3 = Int32.ofInt (i + 3) := by rw [Int32.ofInt_add]; rfl
  rw [e]
  exact gs_vp (by omega) hL
theorem q_in4 {i : Int} {L : Nat} (h : 0 ≤ i ∧ i + 5 ≤ L) (hL : L ≤ 2147483647) : vp_in (Int32.ofInt i + 4) L := by
  have e : Int32.ofInt i + 4 = Int32.ofInt (i + 4) := by rw [Int32.ofInt_add]; rfl
  rw [e]
  exact gs_vp (by omega) hL
theorem q_val (x : Int32) : ∃ z : Int, x = Int32.ofInt z ∧ -2147483648 ≤ z ∧ z ≤ 2147483647 := ⟨gs_t x, (gs_t_iv x).symm, gs_t_rng x⟩
theorem q_op0 {p : Program} {e : Env} {s : State} {m : MethodId} {below : List Frame} {meth : Method} {c : Code} {b L : Nat} {xs : Nat → Int32} {l : Launch} {dC : Nat → ClassId} {dI : Nat → Nat → Nat} {aC : Nat → ClassId} {pl : Nat} (hL : L ≤ 2560) (C0 : lw_At p s m meth c b L xs) (hK : am_K (q_G l s dC dI aC pl) s) {n : Nat} (hn : n ≤ 1000000) {i : Int} (hi : 0 ≤ i ∧ i + 5 ≤ L) (kk : (∀ (F A : gs_F) (H : Heap) (locs : List Loc) (ls : Array Slot), gs_I F A → ((∀ r : Nat, (r : Int) < F 106 3 → 1 ≤ A 108 r) ∧ gs_R5m F A) → am_W (q_G l s dC dI aC pl) 122 (gs_en F A) H → (∀ q ∈ locs, s.heap.size ≤ q.base) → lv_has ls 4 [(3, .int (Int32.ofInt i)), (2, .ref (s.heap.size + 106)), (1, .ref (s.heap.size + 0)), (0, .ref b)] → W p l e room_1 s m #[Value.ref b] below meth c H locs 122 n (lw_Z below #[Value.ref b] s) (F0 m 1111 ls []))) {F A : gs_F} {H : Heap} {locs : List Loc} {ls : Array Slot} (hI : gs_I F A) (hX : (∀ r : Nat, (r : Int) < F 106 3 → 1 ≤ A 108 r) ∧ gs_R5m F A) (hW : am_W (q_G l s dC dI aC pl) 122 (gs_en F A) H) (hlo : ∀ q ∈ locs, s.heap.size ≤ q.base) (hl : lv_has ls 4 [(3, .int (Int32.ofInt i)), (2, .ref (s.heap.size + 106)), (1, .ref (s.heap.size + 0)), (0, .ref b)]) : W p l e room_1 s m #[Value.ref b] below meth c H locs 122 n (lw_Z below #[Value.ref b] s) (F0 m 164 ls []) := by
  obtain ⟨hx, hb, hr, hml, hown, hts, hXx, hbl, hlocks, hgv⟩ := C0
  obtain ⟨hX, hR⟩ := hX
  obtain ⟨hR, hR6⟩ := hR
  obtain ⟨hR, hRv⟩ := hR
  obtain ⟨hR, hRw⟩ := hR
  obtain ⟨hR, hRt, hRp⟩ := hR
  obtain ⟨hR1, hR3⟩ := hR
  have hR0 := hR1
  obtain ⟨R_1, R_2, R_3, R_4, R_5, R_6, _⟩ := hR0
  have R_0 : (0 : Int) ≤ F 106 1 ∧ F 106 1 ≤ 60 := hI.1 106 1
  have R_c : (0 : Int) ≤ F 106 3 ∧ F 106 3 ≤ 12 := hI.1 106 3
  have R_d : (0 : Int) ≤ F 0 12 ∧ F 0 12 ≤ 12 := hI.1 0 12
  have R_t := hRt.1
  have hg0 : (1 : Int) ≤ F 106 0 ∧ F 106 0 ≤ 3 := hI.1 106 0
  have hts2 := am_hts hts
  have hbA : ¬ (fun q : Nat => s.heap.size ≤ q) b := Nat.not_le.mpr hbl
  obtain ⟨z1, e1, r1⟩ := q_val (xs (Int32.ofInt i + 1).toNatClampNeg)
  have hS := am_S hK.2.1 hW hlo
  refine lv_aload_n hx hb d_law_164 rfl (lv_at hl 2 rfl) ?_
  refine lv_aload_n hx hb d_law_165 rfl (lv_at hl 3 rfl) ?_
  refine lv_iload_n hx hb d_law_166 rfl (lv_at hl 0 rfl) ?_
  refine lv_iconst (v := 1) hx hb d_law_167 (by decide) ?_
  refine lv_iadd hx hb d_law_168 ?_
  refine va_sld hx hb hXx hbl hbA hS (i := Int32.ofInt i + 1) (q_in1 hi (by omega)) d_law_169 ?_
  rw [e1]
  refine gw_callV (G := (q_G l s dC dI aC pl)) (cc := code) (own := R_law) (nL := 4) (y2 := m_X8_skin) (n2 := 1) (d2 := 7) (mc2 := 0) (ms2 := 0) (a := 0) (ci := 8) (q := (RX8, TX8, 13)) (as := [gs_iv z1]) (rest := []) hx hb hml hown hts2 hK hW hlo hl.1 d_law_170 ok_X8_skin.1 (ri_lw_in (pl := 391) (by decide +kernel)) ok_X8_skin.2.1 ok_X8_skin.2.2 rfl rfl (by decide) (gs_en_obj _ _ (show gs_sh 0 = .inl (8, _) from rfl)) rfl (Nat.le_of_ble_eq_true rfl) (by decide) (by decide) (by show _ ≤ 600000; omega) (by show _ ≤ 7302249; omega) (c_X8_skin_vg hI r1 (q_G l s dC dI aC pl)) rfl (fun r N2 h2 H locs hp hW hlo => ?_)
  obtain ⟨F1, A1, n1, h1, v1, w1, I1, f1, x1⟩ := hp
  subst n1 h1 w1
  have X1 := gs_X_fr hX (f1.1 106 3 (by first | exact id | (dsimp only; omega))) (f1.2 108 (by first | exact id | (dsimp only; omega)))
  have a1_43_0 := f1.1 43 0 (by first | exact id | omega | (dsimp only; omega) | (dsimp only))
  have a1_106_0 := f1.1 106 0 (by first | exact id | omega | (dsimp only; omega) | (dsimp only))
  have a1_106_1 := f1.1 106 1 (by first | exact id | omega | (dsimp only; omega) | (dsimp only))
  have a1_106_3 := f1.1 106 3 (by first | exact id | omega | (dsimp only; omega) | (dsimp only))
  have a1_106_17 := f1.1 106 17 (by first | exact id | omega | (dsimp only; omega) | (dsimp only))
  have a1_43_1 := f1.1 43 1 (by first | exact id | omega | (dsimp only; omega) | (dsimp only))
  have a1_106_20 := f1.1 106 20 (by first | exact id | omega | (dsimp only; omega) | (dsimp only))
  have b1_4 := f1.2 4 (by first | exact id | omega | (dsimp only; omega) | (dsimp only))
  have b1_107 := f1.2 107 (by first | exact id | omega | (dsimp only; omega) | (dsimp only))
  have b1_108 := f1.2 108 (by first | exact id | omega | (dsimp only; omega) | (dsimp only))
  have b1_109 := f1.2 109 (by first | exact id | omega | (dsimp only; omega) | (dsimp only))
  have b1_46 := f1.2 46 (by first | exact id | omega | (dsimp only; omega) | (dsimp only))
  have b1_116 := f1.2 116 (by first | exact id | omega | (dsimp only; omega) | (dsimp only))
  have b1_110 := f1.2 110 (by first | exact id | omega | (dsimp only; omega) | (dsimp only))
  have b1_111 := f1.2 111 (by first | exact id | omega | (dsimp only; omega) | (dsimp only))
  have b1_117 := f1.2 117 (by first | exact id | omega | (dsimp only; omega) | (dsimp only))
  have b1_118 := f1.2 118 (by first | exact id | omega | (dsimp only; omega) | (dsimp only))
  refine W.eq (g2 := F0 m 173 ls [.int (Int32.ofInt v1)]) rfl ?_
  refine lv_pop hx hb d_law_173 rfl ?_
  have hS := am_S hK.2.1 hW hlo
  refine lv_aload_n hx hb d_law_174 rfl (lv_at hl 1 rfl) ?_
  refine lv_aload_n hx hb d_law_175 rfl (lv_at hl 3 rfl) ?_
  refine lv_iload_n hx hb d_law_176 rfl (lv_at hl 0 rfl) ?_
  refine lv_iconst (v := 1) hx hb d_law_177 (by decide) ?_
  refine lv_iadd hx hb d_law_178 ?_
  refine va_sld hx hb hXx hbl hbA hS (i := Int32.ofInt i + 1) (q_in1 hi (by omega)) d_law_179 ?_
  rw [e1]
  refine gw_callV (G := (q_G l s dC dI aC pl)) (cc := code) (own := R_law) (nL := 4) (y2 := m_X9_skin) (n2 := 1) (d2 := 2) (mc2 := 0) (ms2 := 0) (a := 106) (ci := 9) (q := (RX9, TX9, 28)) (as := [gs_iv z1]) (rest := []) hx hb hml hown hts2 hK hW hlo hl.1 d_law_180 ok_X9_skin.1 (ri_lw_in (pl := 868) (by decide +kernel)) ok_X9_skin.2.1 ok_X9_skin.2.2 rfl rfl (by decide) (gs_en_obj _ _ (show gs_sh 106 = .inl (9, _) from rfl)) rfl (Nat.le_of_ble_eq_true rfl) (by decide) (by decide) (by show _ ≤ 600000; omega) (by show _ ≤ 7302249; omega) (c_X9_skin_vf I1 r1 (q_G l s dC dI aC pl)) rfl (fun r N2 h2 H locs hp hW hlo => ?_)
  obtain ⟨F2, A2, n2, h2, v2, w2, I2, f2, x2⟩ := hp
  subst n2 h2 w2
  have X2 : ∀ r : Nat, (r : Int) < F2 106 3 → 1 ≤ A2 108 r := fun r h => by
    rw [f2.2 108 (by first | exact id | (dsimp only; omega))]
    exact X1 r (by rcases x2 with w | w <;> first | omega | (rw [← w.2.2.1]; exact h))
  have a2_0_11 := f2.1 0 11 (by first | exact id | omega | (dsimp only; omega) | (dsimp only))
  have a2_0_12 := f2.1 0 12 (by first | exact id | omega | (dsimp only; omega) | (dsimp only))
  have a2_5_0 := f2.1 5 0 (by first | exact id | omega | (dsimp only; omega) | (dsimp only))
  have a2_3_1 := f2.1 3 1 (by first | exact id | omega | (dsimp only; omega) | (dsimp only))
  have a2_43_0 := f2.1 43 0 (by first | exact id | omega | (dsimp only; omega) | (dsimp only))
  have a2_106_17 := f2.1 106 17 (by first | exact id | omega | (dsimp only; omega) | (dsimp only))
  have a2_43_1 := f2.1 43 1 (by first | exact id | omega | (dsimp only; omega) | (dsimp only))
  have a2_106_20 := f2.1 106 20 (by first | exact id | omega | (dsimp only; omega) | (dsimp only))
  have b2_4 := f2.2 4 (by first | exact id | omega | (dsimp only; omega) | (dsimp only))
  have b2_107 := f2.2 107 (by first | exact id | omega | (dsimp only; omega) | (dsimp only))
  have b2_108 := f2.2 108 (by first | exact id | omega | (dsimp only; omega) | (dsimp only))
  have b2_109 := f2.2 109 (by first | exact id | omega | (dsimp only; omega) | (dsimp only))
  have b2_46 := f2.2 46 (by first | exact id | omega | (dsimp only; omega) | (dsimp only))
  have b2_116 := f2.2 116 (by first | exact id | omega | (dsimp only; omega) | (dsimp only))
  have b2_111 := f2.2 111 (by first | exact id | omega | (dsimp only; omega) | (dsimp only))
  have b2_117 := f2.2 117 (by first | exact id | omega | (dsimp only; omega) | (dsimp only))
  have b2_118 := f2.2 118 (by first | exact id | omega | (dsimp only; omega) | (dsimp only))
  have b2_6 := f2.2 6 (by first | exact id | omega | (dsimp only; omega) | (dsimp only))
  have hall : v2 = v1 ∧ gs_R123 F2 A2 := by
    rcases x1 with y | y <;> rcases x2 with w | w <;> first | (exfalso; omega) | skip
    · obtain ⟨y1, y2, y3, y4, y5, y6, y7, y8, y9⟩ := y
      obtain ⟨w1, w2, w3, w4, w5, w6, w7⟩ := w
      have R2b : gs_R1 F2 A2 := gs_R1_mk hR1 (by omega) (by omega) (by omega) (by omega) (by omega) (b2_4.trans b1_4) (b2_107.trans b1_107) (by omega)
      have R2c : gs_R3 F2 A2 := fun r hr => by exfalso; omega
      refine ⟨by omega, ⟨R2b, R2c⟩, gs_Rt_fr hRt (by omega) (by omega) (by omega) (b2_46.trans b1_46) (b2_116.trans b1_116), gs_Rp_skin (fun i hi => ?_) w7⟩
      rw [f2.1 (90 + 2 * i) 1 (by dsimp only; omega)]
      exact y8 i hi
    · obtain ⟨y1, y2, y3, y4⟩ := y
      obtain ⟨w1, w2, w3, w4⟩ := w
      refine ⟨by omega, ?_⟩
      rw [w3, w4, y3, y4]
      exact ⟨⟨hR1, hR3⟩, hRt, hRp⟩
  obtain ⟨ev, R2q⟩ := hall
  have R2w : gs_W (A2 6) (F2 0 11) := by
    rw [b2_6, a2_0_11]
    rcases x1 with y | y
    · rw [y.2.2.2.1]
      exact y.2.2.2.2.2.2.2.2
    · rw [y.2.2.1, y.2.2.2]
      exact hRw
  have R2u : gs_R1234 F2 A2 := ⟨R2q, R2w⟩
  have R2v : gs_Rv F2 A2 := by
    rcases x2 with w | w
    · exact gs_Rv_zero (by omega) (by omega)
    · obtain ⟨w1, w2, w3, w4⟩ := w
      rw [w3, w4]
      exact gs_Rv_fr hRv a1_106_0 (.inl a1_106_1) (by omega) b1_107 b1_108 b1_109
  have R2t2 : gs_R5 F2 A2 := ⟨R2u, R2v⟩
  have hF3 : ∀ c j, 54 ≤ c → c < 90 → F2 c j = F c j := fun c j q1 q2 => (f2.1 c j (by first | exact id | (dsimp only; omega))).trans (f1.1 c j (by first | exact id | (dsimp only; omega)))
  have hA3 : ∀ c, 54 ≤ c → c < 90 → A2 c = A c := fun c q1 q2 => (f2.2 c (by first | exact id | (dsimp only; omega))).trans (f1.2 c (by first | exact id | (dsimp only; omega)))
  have h12 : F2 0 12 ≤ F 0 12 := by
    rcases x1 with y | y
    · have y5 := y.2.2.2.2.1
      omega
    · have y3 := y.2.2.1
      rw [y3] at a2_0_12
      omega
  have R2s : gs_R6 F2 A2 := gs_R6_fr hR6 (by omega) h12 hF3 hA3
  have R2 : gs_R5m F2 A2 := ⟨R2t2, R2s⟩
  refine W.eq (g2 := F0 m 183 ls [.int (Int32.ofInt v2)]) rfl ?_
  refine lv_pop hx hb d_law_183 rfl ?_
  refine lv_goto (tgt := 1111) hx hb d_law_184 (by decide) ?_
  exact kk _ _ _ _ _ I2 ⟨X2, R2⟩ hW hlo hl
theorem q_op1 {p : Program} {e : Env} {s : State} {m : MethodId} {below : List Frame} {meth : Method} {c : Code} {b L : Nat} {xs : Nat → Int32} {l : Launch} {dC : Nat → ClassId} {dI : Nat → Nat → Nat} {aC : Nat → ClassId} {pl : Nat} (hL : L ≤ 2560) (C0 : lw_At p s m meth c b L xs) (hK : am_K (q_G l s dC dI aC pl) s) {n : Nat} (hn : n ≤ 1000000) {i : Int} (hi : 0 ≤ i ∧ i + 5 ≤ L) (kk : (∀ (F A : gs_F) (H : Heap) (locs : List Loc) (ls : Array Slot), gs_I F A → ((∀ r : Nat, (r : Int) < F 106 3 → 1 ≤ A 108 r) ∧ gs_R5m F A) → am_W (q_G l s dC dI aC pl) 122 (gs_en F A) H → (∀ q ∈ locs, s.heap.size ≤ q.base) → lv_has ls 4 [(3, .int (Int32.ofInt i)), (2, .ref (s.heap.size + 106)), (1, .ref (s.heap.size + 0)), (0, .ref b)] → W p l e room_1 s m #[Value.ref b] below meth c H locs 122 n (lw_Z below #[Value.ref b] s) (F0 m 1111 ls []))) {F A : gs_F} {H : Heap} {locs : List Loc} {ls : Array Slot} (hI : gs_I F A) (hX : (∀ r : Nat, (r : Int) < F 106 3 → 1 ≤ A 108 r) ∧ gs_R5m F A) (hW : am_W (q_G l s dC dI aC pl) 122 (gs_en F A) H) (hlo : ∀ q ∈ locs, s.heap.size ≤ q.base) (hl : lv_has ls 4 [(3, .int (Int32.ofInt i)), (2, .ref (s.heap.size + 106)), (1, .ref (s.heap.size + 0)), (0, .ref b)]) : W p l e room_1 s m #[Value.ref b] below meth c H locs 122 n (lw_Z below #[Value.ref b] s) (F0 m 187 ls []) := by
  obtain ⟨hx, hb, hr, hml, hown, hts, hXx, hbl, hlocks, hgv⟩ := C0
  obtain ⟨hX, hR⟩ := hX
  obtain ⟨hR, hR6⟩ := hR
  obtain ⟨hR, hRv⟩ := hR
  obtain ⟨hR, hRw⟩ := hR
  obtain ⟨hR, hRt, hRp⟩ := hR
  obtain ⟨hR1, hR3⟩ := hR
  have hR0 := hR1
  obtain ⟨R_1, R_2, R_3, R_4, R_5, R_6, _⟩ := hR0
  have R_0 : (0 : Int) ≤ F 106 1 ∧ F 106 1 ≤ 60 := hI.1 106 1
  have R_c : (0 : Int) ≤ F 106 3 ∧ F 106 3 ≤ 12 := hI.1 106 3
  have R_d : (0 : Int) ≤ F 0 12 ∧ F 0 12 ≤ 12 := hI.1 0 12
  have R_t := hRt.1
  have hg0 : (1 : Int) ≤ F 106 0 ∧ F 106 0 ≤ 3 := hI.1 106 0
  have hts2 := am_hts hts
  have hbA : ¬ (fun q : Nat => s.heap.size ≤ q) b := Nat.not_le.mpr hbl
  obtain ⟨z1, e1, r1⟩ := q_val (xs (Int32.ofInt i + 1).toNatClampNeg)
  have hS := am_S hK.2.1 hW hlo
  refine lv_aload_n hx hb d_law_187 rfl (lv_at hl 2 rfl) ?_
  refine lv_aload_n hx hb d_law_188 rfl (lv_at hl 3 rfl) ?_
  refine lv_iload_n hx hb d_law_189 rfl (lv_at hl 0 rfl) ?_
  refine lv_iconst (v := 1) hx hb d_law_190 (by decide) ?_
  refine lv_iadd hx hb d_law_191 ?_
  refine va_sld hx hb hXx hbl hbA hS (i := Int32.ofInt i + 1) (q_in1 hi (by omega)) d_law_192 ?_
  rw [e1]
  refine gw_callV (G := (q_G l s dC dI aC pl)) (cc := code) (own := R_law) (nL := 4) (y2 := m_X8_letter) (n2 := 1) (d2 := 2) (mc2 := 0) (ms2 := 0) (a := 0) (ci := 8) (q := (RX8, TX8, 13)) (as := [gs_iv z1]) (rest := []) hx hb hml hown hts2 hK hW hlo hl.1 d_law_193 ok_X8_letter.1 (ri_lw_in (pl := 395) (by decide +kernel)) ok_X8_letter.2.1 ok_X8_letter.2.2 rfl rfl (by decide) (gs_en_obj _ _ (show gs_sh 0 = .inl (8, _) from rfl)) rfl (Nat.le_of_ble_eq_true rfl) (by decide) (by decide) (by show _ ≤ 600000; omega) (by show _ ≤ 7302249; omega) (c_X8_letter_vf hI r1 (q_G l s dC dI aC pl)) rfl (fun r N2 h2 H locs hp hW hlo => ?_)
  obtain ⟨F1, A1, n1, h1, v1, w1, I1, f1, x1⟩ := hp
  subst n1 h1 w1
  have X1 := gs_X_fr hX (f1.1 106 3 (by first | exact id | (dsimp only; omega))) (f1.2 108 (by first | exact id | (dsimp only; omega)))
  have a1_0_11 := f1.1 0 11 (by first | exact id | omega | (dsimp only; omega) | (dsimp only))
  have a1_0_12 := f1.1 0 12 (by first | exact id | omega | (dsimp only; omega) | (dsimp only))
  have a1_5_0 := f1.1 5 0 (by first | exact id | omega | (dsimp only; omega) | (dsimp only))
  have a1_43_0 := f1.1 43 0 (by first | exact id | omega | (dsimp only; omega) | (dsimp only))
  have a1_106_0 := f1.1 106 0 (by first | exact id | omega | (dsimp only; omega) | (dsimp only))
  have a1_106_1 := f1.1 106 1 (by first | exact id | omega | (dsimp only; omega) | (dsimp only))
  have a1_106_3 := f1.1 106 3 (by first | exact id | omega | (dsimp only; omega) | (dsimp only))
  have a1_106_17 := f1.1 106 17 (by first | exact id | omega | (dsimp only; omega) | (dsimp only))
  have a1_43_1 := f1.1 43 1 (by first | exact id | omega | (dsimp only; omega) | (dsimp only))
  have a1_106_20 := f1.1 106 20 (by first | exact id | omega | (dsimp only; omega) | (dsimp only))
  have b1_107 := f1.2 107 (by first | exact id | omega | (dsimp only; omega) | (dsimp only))
  have b1_108 := f1.2 108 (by first | exact id | omega | (dsimp only; omega) | (dsimp only))
  have b1_109 := f1.2 109 (by first | exact id | omega | (dsimp only; omega) | (dsimp only))
  have b1_46 := f1.2 46 (by first | exact id | omega | (dsimp only; omega) | (dsimp only))
  have b1_116 := f1.2 116 (by first | exact id | omega | (dsimp only; omega) | (dsimp only))
  have b1_110 := f1.2 110 (by first | exact id | omega | (dsimp only; omega) | (dsimp only))
  have b1_111 := f1.2 111 (by first | exact id | omega | (dsimp only; omega) | (dsimp only))
  have b1_117 := f1.2 117 (by first | exact id | omega | (dsimp only; omega) | (dsimp only))
  have b1_118 := f1.2 118 (by first | exact id | omega | (dsimp only; omega) | (dsimp only))
  have b1_6 := f1.2 6 (by first | exact id | omega | (dsimp only; omega) | (dsimp only))
  refine W.eq (g2 := F0 m 196 ls [.int (Int32.ofInt v1)]) rfl ?_
  refine lv_pop hx hb d_law_196 rfl ?_
  have hS := am_S hK.2.1 hW hlo
  refine lv_aload_n hx hb d_law_197 rfl (lv_at hl 1 rfl) ?_
  refine lv_aload_n hx hb d_law_198 rfl (lv_at hl 3 rfl) ?_
  refine lv_iload_n hx hb d_law_199 rfl (lv_at hl 0 rfl) ?_
  refine lv_iconst (v := 1) hx hb d_law_200 (by decide) ?_
  refine lv_iadd hx hb d_law_201 ?_
  refine va_sld hx hb hXx hbl hbA hS (i := Int32.ofInt i + 1) (q_in1 hi (by omega)) d_law_202 ?_
  rw [e1]
  refine gw_callV (G := (q_G l s dC dI aC pl)) (cc := code) (own := R_law) (nL := 4) (y2 := m_X9_letter) (n2 := 1) (d2 := 3) (mc2 := 0) (ms2 := 0) (a := 106) (ci := 9) (q := (RX9, TX9, 28)) (as := [gs_iv z1]) (rest := []) hx hb hml hown hts2 hK hW hlo hl.1 d_law_203 ok_X9_letter.1 (ri_lw_in (pl := 876) (by decide +kernel)) ok_X9_letter.2.1 ok_X9_letter.2.2 rfl rfl (by decide) (gs_en_obj _ _ (show gs_sh 106 = .inl (9, _) from rfl)) rfl (Nat.le_of_ble_eq_true rfl) (by decide) (by decide) (by show _ ≤ 600000; omega) (by show _ ≤ 7302249; omega) (c_X9_letter_vf I1 r1 (q_G l s dC dI aC pl)) rfl (fun r N2 h2 H locs hp hW hlo => ?_)
  obtain ⟨F2, A2, n2, h2, v2, w2, I2, f2, x2⟩ := hp
  subst n2 h2 w2
  have X2 := gs_X_fr X1 (f2.1 106 3 (by first | exact id | (dsimp only; omega))) (f2.2 108 (by first | exact id | (dsimp only; omega)))
  have a2_0_11 := f2.1 0 11 (by first | exact id | omega | (dsimp only; omega) | (dsimp only))
  have a2_0_12 := f2.1 0 12 (by first | exact id | omega | (dsimp only; omega) | (dsimp only))
  have a2_5_0 := f2.1 5 0 (by first | exact id | omega | (dsimp only; omega) | (dsimp only))
  have a2_3_1 := f2.1 3 1 (by first | exact id | omega | (dsimp only; omega) | (dsimp only))
  have a2_43_0 := f2.1 43 0 (by first | exact id | omega | (dsimp only; omega) | (dsimp only))
  have a2_106_0 := f2.1 106 0 (by first | exact id | omega | (dsimp only; omega) | (dsimp only))
  have a2_106_3 := f2.1 106 3 (by first | exact id | omega | (dsimp only; omega) | (dsimp only))
  have a2_106_17 := f2.1 106 17 (by first | exact id | omega | (dsimp only; omega) | (dsimp only))
  have a2_43_1 := f2.1 43 1 (by first | exact id | omega | (dsimp only; omega) | (dsimp only))
  have a2_106_20 := f2.1 106 20 (by first | exact id | omega | (dsimp only; omega) | (dsimp only))
  have b2_4 := f2.2 4 (by first | exact id | omega | (dsimp only; omega) | (dsimp only))
  have b2_108 := f2.2 108 (by first | exact id | omega | (dsimp only; omega) | (dsimp only))
  have b2_109 := f2.2 109 (by first | exact id | omega | (dsimp only; omega) | (dsimp only))
  have b2_46 := f2.2 46 (by first | exact id | omega | (dsimp only; omega) | (dsimp only))
  have b2_116 := f2.2 116 (by first | exact id | omega | (dsimp only; omega) | (dsimp only))
  have b2_110 := f2.2 110 (by first | exact id | omega | (dsimp only; omega) | (dsimp only))
  have b2_111 := f2.2 111 (by first | exact id | omega | (dsimp only; omega) | (dsimp only))
  have b2_117 := f2.2 117 (by first | exact id | omega | (dsimp only; omega) | (dsimp only))
  have b2_118 := f2.2 118 (by first | exact id | omega | (dsimp only; omega) | (dsimp only))
  have b2_6 := f2.2 6 (by first | exact id | omega | (dsimp only; omega) | (dsimp only))
  obtain ⟨ev, R2a⟩ := gs_R1_let hR1 R_0.1 x1 x2 a1_106_0 a1_106_1 b1_107 b2_4 a2_3_1 (by omega) (by omega) (by omega) (by omega)
  have hF3 : ∀ c j, 54 ≤ c → c < 90 → F2 c j = F c j := fun c j q1 q2 => (f2.1 c j (by first | exact id | (dsimp only; omega))).trans (f1.1 c j (by first | exact id | (dsimp only; omega)))
  have hA3 : ∀ c, 54 ≤ c → c < 90 → A2 c = A c := fun c q1 q2 => (f2.2 c (by first | exact id | (dsimp only; omega))).trans (f1.2 c (by first | exact id | (dsimp only; omega)))
  have R2c : gs_R3 F2 A2 := gs_R3_fr hR3 hI (by omega) hF3 hA3 (b2_108.trans b1_108) (b2_109.trans b1_109)
  have R2a0 : gs_R13 F2 A2 := ⟨R2a, R2c⟩
  have R2a := R2a0
  have R2t : gs_Rt F2 A2 := gs_Rt_fr hRt (by omega) (by omega) (by omega) (b2_46.trans b1_46) (b2_116.trans b1_116)
  have hF9 : ∀ c j, 90 ≤ c → c < 106 → F2 c j = F c j := fun c j q1 q2 => (f2.1 c j (by first | exact id | (dsimp only; omega))).trans (f1.1 c j (by first | exact id | (dsimp only; omega)))
  have hA9 : ∀ c, 90 ≤ c → c < 106 → A2 c = A c := fun c q1 q2 => (f2.2 c (by first | exact id | (dsimp only; omega))).trans (f1.2 c (by first | exact id | (dsimp only; omega)))
  have R2p : gs_Rp F2 A2 := gs_Rp_fr hRp hI (by omega) hF9 hA9 (gs_k8_fr (b2_110.trans b1_110) (b2_111.trans b1_111))
  have R2q : gs_R123 F2 A2 := ⟨R2a, R2t, R2p⟩
  have R2w : gs_W (A2 6) (F2 0 11) := by
    rw [b2_6, b1_6, a2_0_11, a1_0_11]
    exact hRw
  have R2u : gs_R1234 F2 A2 := ⟨R2q, R2w⟩
  have R2v : gs_Rv F2 A2 := gs_Rv_let hRv R_0.1 x2 a1_106_0 a1_106_1 b1_107 (by omega) (by omega) (b2_108.trans b1_108) (b2_109.trans b1_109)
  have R2t2 : gs_R5 F2 A2 := ⟨R2u, R2v⟩
  have R2s : gs_R6 F2 A2 := gs_R6_fr hR6 (by omega) (by omega) hF3 hA3
  have R2 : gs_R5m F2 A2 := ⟨R2t2, R2s⟩
  refine W.eq (g2 := F0 m 206 ls [.int (Int32.ofInt v2)]) rfl ?_
  refine lv_pop hx hb d_law_206 rfl ?_
  refine lv_goto (tgt := 1111) hx hb d_law_207 (by decide) ?_
  exact kk _ _ _ _ _ I2 ⟨X2, R2⟩ hW hlo hl
theorem q_op2 {p : Program} {e : Env} {s : State} {m : MethodId} {below : List Frame} {meth : Method} {c : Code} {b L : Nat} {xs : Nat → Int32} {l : Launch} {dC : Nat → ClassId} {dI : Nat → Nat → Nat} {aC : Nat → ClassId} {pl : Nat} (hL : L ≤ 2560) (C0 : lw_At p s m meth c b L xs) (hK : am_K (q_G l s dC dI aC pl) s) {n : Nat} (hn : n ≤ 1000000) {i : Int} (hi : 0 ≤ i ∧ i + 5 ≤ L) (kk : (∀ (F A : gs_F) (H : Heap) (locs : List Loc) (ls : Array Slot), gs_I F A → ((∀ r : Nat, (r : Int) < F 106 3 → 1 ≤ A 108 r) ∧ gs_R5m F A) → am_W (q_G l s dC dI aC pl) 122 (gs_en F A) H → (∀ q ∈ locs, s.heap.size ≤ q.base) → lv_has ls 4 [(3, .int (Int32.ofInt i)), (2, .ref (s.heap.size + 106)), (1, .ref (s.heap.size + 0)), (0, .ref b)] → W p l e room_1 s m #[Value.ref b] below meth c H locs 122 n (lw_Z below #[Value.ref b] s) (F0 m 1111 ls []))) {F A : gs_F} {H : Heap} {locs : List Loc} {ls : Array Slot} (hI : gs_I F A) (hX : (∀ r : Nat, (r : Int) < F 106 3 → 1 ≤ A 108 r) ∧ gs_R5m F A) (hW : am_W (q_G l s dC dI aC pl) 122 (gs_en F A) H) (hlo : ∀ q ∈ locs, s.heap.size ≤ q.base) (hl : lv_has ls 4 [(3, .int (Int32.ofInt i)), (2, .ref (s.heap.size + 106)), (1, .ref (s.heap.size + 0)), (0, .ref b)]) : W p l e room_1 s m #[Value.ref b] below meth c H locs 122 n (lw_Z below #[Value.ref b] s) (F0 m 210 ls []) := by
  obtain ⟨hx, hb, hr, hml, hown, hts, hXx, hbl, hlocks, hgv⟩ := C0
  obtain ⟨hX, hR⟩ := hX
  obtain ⟨hR, hR6⟩ := hR
  obtain ⟨hR, hRv⟩ := hR
  obtain ⟨hR, hRw⟩ := hR
  obtain ⟨hR, hRt, hRp⟩ := hR
  obtain ⟨hR1, hR3⟩ := hR
  have hR0 := hR1
  obtain ⟨R_1, R_2, R_3, R_4, R_5, R_6, _⟩ := hR0
  have R_0 : (0 : Int) ≤ F 106 1 ∧ F 106 1 ≤ 60 := hI.1 106 1
  have R_c : (0 : Int) ≤ F 106 3 ∧ F 106 3 ≤ 12 := hI.1 106 3
  have R_d : (0 : Int) ≤ F 0 12 ∧ F 0 12 ≤ 12 := hI.1 0 12
  have R_t := hRt.1
  have hg0 : (1 : Int) ≤ F 106 0 ∧ F 106 0 ≤ 3 := hI.1 106 0
  have hts2 := am_hts hts
  have hbA : ¬ (fun q : Nat => s.heap.size ≤ q) b := Nat.not_le.mpr hbl
  have hS := am_S hK.2.1 hW hlo
  refine lv_aload_n hx hb d_law_210 rfl (lv_at hl 2 rfl) ?_
  refine gw_callV (G := (q_G l s dC dI aC pl)) (cc := code) (own := R_law) (nL := 4) (y2 := m_X8_ring) (n2 := 0) (d2 := 7) (mc2 := 0) (ms2 := 0) (a := 0) (ci := 8) (q := (RX8, TX8, 13)) (as := []) (rest := []) hx hb hml hown hts2 hK hW hlo hl.1 d_law_211 ok_X8_ring.1 (ri_lw_in (pl := 400) (by decide +kernel)) ok_X8_ring.2.1 ok_X8_ring.2.2 rfl rfl (by decide) (gs_en_obj _ _ (show gs_sh 0 = .inl (8, _) from rfl)) rfl (Nat.le_of_ble_eq_true rfl) (by decide) (by decide) (by show _ ≤ 600000; omega) (by show _ ≤ 7302249; omega) (c_X8_ring_vm hI (gs_R6_vd hR1 hRv hg0) (q_G l s dC dI aC pl)) rfl (fun r N2 h2 H locs hp hW hlo => ?_)
  obtain ⟨F1, A1, n1, h1, v1, w1, I1, f1, x1⟩ := hp
  subst n1 h1 w1
  have X1 := gs_X_fr hX (f1.1 106 3 (by first | exact id | (dsimp only; omega))) (f1.2 108 (by first | exact id | (dsimp only; omega)))
  have a1_0_11 := f1.1 0 11 (by first | exact id | omega | (dsimp only; omega) | (dsimp only))
  have a1_5_0 := f1.1 5 0 (by first | exact id | omega | (dsimp only; omega) | (dsimp only))
  have a1_43_0 := f1.1 43 0 (by first | exact id | omega | (dsimp only; omega) | (dsimp only))
  have a1_106_0 := f1.1 106 0 (by first | exact id | omega | (dsimp only; omega) | (dsimp only))
  have a1_106_1 := f1.1 106 1 (by first | exact id | omega | (dsimp only; omega) | (dsimp only))
  have a1_106_3 := f1.1 106 3 (by first | exact id | omega | (dsimp only; omega) | (dsimp only))
  have a1_106_17 := f1.1 106 17 (by first | exact id | omega | (dsimp only; omega) | (dsimp only))
  have a1_43_1 := f1.1 43 1 (by first | exact id | omega | (dsimp only; omega) | (dsimp only))
  have a1_106_20 := f1.1 106 20 (by first | exact id | omega | (dsimp only; omega) | (dsimp only))
  have b1_4 := f1.2 4 (by first | exact id | omega | (dsimp only; omega) | (dsimp only))
  have b1_107 := f1.2 107 (by first | exact id | omega | (dsimp only; omega) | (dsimp only))
  have b1_108 := f1.2 108 (by first | exact id | omega | (dsimp only; omega) | (dsimp only))
  have b1_109 := f1.2 109 (by first | exact id | omega | (dsimp only; omega) | (dsimp only))
  have b1_46 := f1.2 46 (by first | exact id | omega | (dsimp only; omega) | (dsimp only))
  have b1_116 := f1.2 116 (by first | exact id | omega | (dsimp only; omega) | (dsimp only))
  have b1_110 := f1.2 110 (by first | exact id | omega | (dsimp only; omega) | (dsimp only))
  have b1_111 := f1.2 111 (by first | exact id | omega | (dsimp only; omega) | (dsimp only))
  have b1_117 := f1.2 117 (by first | exact id | omega | (dsimp only; omega) | (dsimp only))
  have b1_118 := f1.2 118 (by first | exact id | omega | (dsimp only; omega) | (dsimp only))
  have b1_6 := f1.2 6 (by first | exact id | omega | (dsimp only; omega) | (dsimp only))
  refine W.eq (g2 := F0 m 214 ls [.int (Int32.ofInt v1)]) rfl ?_
  refine lv_pop hx hb d_law_214 rfl ?_
  have hS := am_S hK.2.1 hW hlo
  refine lv_aload_n hx hb d_law_215 rfl (lv_at hl 1 rfl) ?_
  refine gw_callV (G := (q_G l s dC dI aC pl)) (cc := code) (own := R_law) (nL := 4) (y2 := m_X9_ring) (n2 := 0) (d2 := 1) (mc2 := 0) (ms2 := 0) (a := 106) (ci := 9) (q := (RX9, TX9, 28)) (as := []) (rest := []) hx hb hml hown hts2 hK hW hlo hl.1 d_law_216 ok_X9_ring.1 (ri_lw_in (pl := 884) (by decide +kernel)) ok_X9_ring.2.1 ok_X9_ring.2.2 rfl rfl (by decide) (gs_en_obj _ _ (show gs_sh 106 = .inl (9, _) from rfl)) rfl (Nat.le_of_ble_eq_true rfl) (by decide) (by decide) (by show _ ≤ 600000; omega) (by show _ ≤ 7302249; omega) (c_X9_ring_vg I1 X1 (by rw [a1_106_1, b1_107]; exact hR1.2.2.2.2.2.2) (q_G l s dC dI aC pl)) rfl (fun r N2 h2 H locs hp hW hlo => ?_)
  obtain ⟨F2, A2, n2, h2, v2, w2, I2, f2, x2⟩ := hp
  subst n2 h2 w2
  have X2 := x2.2
  have a2_0_11 := f2.1 0 11 (by first | exact id | omega | (dsimp only; omega) | (dsimp only))
  have a2_0_12 := f2.1 0 12 (by first | exact id | omega | (dsimp only; omega) | (dsimp only))
  have a2_5_0 := f2.1 5 0 (by first | exact id | omega | (dsimp only; omega) | (dsimp only))
  have a2_3_1 := f2.1 3 1 (by first | exact id | omega | (dsimp only; omega) | (dsimp only))
  have a2_43_0 := f2.1 43 0 (by first | exact id | omega | (dsimp only; omega) | (dsimp only))
  have a2_106_0 := f2.1 106 0 (by first | exact id | omega | (dsimp only; omega) | (dsimp only))
  have a2_106_17 := f2.1 106 17 (by first | exact id | omega | (dsimp only; omega) | (dsimp only))
  have a2_43_1 := f2.1 43 1 (by first | exact id | omega | (dsimp only; omega) | (dsimp only))
  have a2_106_20 := f2.1 106 20 (by first | exact id | omega | (dsimp only; omega) | (dsimp only))
  have b2_4 := f2.2 4 (by first | exact id | omega | (dsimp only; omega) | (dsimp only))
  have b2_107 := f2.2 107 (by first | exact id | omega | (dsimp only; omega) | (dsimp only))
  have b2_46 := f2.2 46 (by first | exact id | omega | (dsimp only; omega) | (dsimp only))
  have b2_116 := f2.2 116 (by first | exact id | omega | (dsimp only; omega) | (dsimp only))
  have b2_110 := f2.2 110 (by first | exact id | omega | (dsimp only; omega) | (dsimp only))
  have b2_111 := f2.2 111 (by first | exact id | omega | (dsimp only; omega) | (dsimp only))
  have b2_117 := f2.2 117 (by first | exact id | omega | (dsimp only; omega) | (dsimp only))
  have b2_118 := f2.2 118 (by first | exact id | omega | (dsimp only; omega) | (dsimp only))
  have b2_6 := f2.2 6 (by first | exact id | omega | (dsimp only; omega) | (dsimp only))
  have x3 := x2.1
  rw [a1_106_1, a1_106_3, b1_107, b1_108, b1_109] at x3
  have hF4 : ∀ c j, 54 ≤ c → c < 54 + 3 * (F 0 12).toNat → F2 c j = F c j := fun c j q1 q2 => (f2.1 c j (by first | exact id | (dsimp only; omega))).trans (f1.1 c j (by first | exact id | (dsimp only; omega)))
  have hA4 : ∀ c, 54 ≤ c → c < 54 + 3 * (F 0 12).toNat → A2 c = A c := fun c q1 q2 => (f2.2 c (by first | exact id | (dsimp only; omega))).trans (f1.2 c (by first | exact id | (dsimp only; omega)))
  have hb3 : (0 : Int) ≤ F 106 3 ∧ F 106 3 ≤ 12 := hI.1 106 3
  have hall : gs_R13 F2 A2 ∧ v2 = v1 := by
    rcases x1 with y | y | y <;> rcases x3 with w | w | w <;> first | (exfalso; omega) | skip
    · exact ⟨⟨gs_R1_mk hR1 (by omega) (by omega) (by omega) (by omega) (by omega) (b2_4.trans b1_4) (b2_107.trans b1_107) (by omega), gs_R3_new0 hR3 R_2 (by omega) hF4 hA4 (w.2.2.2.2.1) (w.2.2.2.2.2)⟩, by omega⟩
    · exact ⟨⟨gs_R1_mk hR1 (by omega) (by omega) (by omega) (by omega) (by omega) (b2_4.trans b1_4) (b2_107.trans b1_107) (by omega), gs_R3_new0 hR3 R_2 (by omega) hF4 hA4 (w.2.2.2.2.2.1) (w.2.2.2.2.2.2)⟩, by omega⟩
    · obtain ⟨y1, y2, y3, y4, y5, k, y6, y7, y8, y9⟩ := y
      obtain ⟨w1, w2, w3, w4, w5, k2, w6, w7, w8, w9, w10⟩ := w
      refine ⟨⟨gs_R1_mk hR1 (by omega) (by omega) (by omega) (by omega) (by omega) (b2_4.trans b1_4) (b2_107.trans b1_107) (by omega), ?_⟩, by omega⟩
      have e12 : F 0 12 = F 106 3 := R_2
      have ern : (F 106 3).toNat = (F 0 12).toNat := by omega
      have eri : F 106 3 = ((F 0 12).toNat : Int) := by omega
      refine gs_R3_new (rc := (F 0 12).toNat) (n := F 3 1) (f := A 4) (h := A 107) hR3 eri (by omega) R_6 y6 (by rw [R_4]; exact w6) (by omega) (by omega) hF4 hA4 ?_ ?_ ?_ ?_ ?_
      · have e := f2.1 (54 + 3 * (F 0 12).toNat + 1) 1 (by dsimp only; omega)
        omega
      · have e := f2.2 (54 + 3 * (F 0 12).toNat + 1 + 1) (by dsimp only; omega)
        rw [e]
        exact y8
      · rw [w8, ern, R_4]
      · rw [← eri, R_4]
        exact w9
      · rw [← eri]
        exact w10
  obtain ⟨R2a0, ev⟩ := hall
  have R2a := R2a0
  have R2t : gs_Rt F2 A2 := gs_Rt_fr hRt (by omega) (by omega) (by omega) (b2_46.trans b1_46) (b2_116.trans b1_116)
  have hF9 : ∀ c j, 90 ≤ c → c < 106 → F2 c j = F c j := fun c j q1 q2 => (f2.1 c j (by first | exact id | (dsimp only; omega))).trans (f1.1 c j (by first | exact id | (dsimp only; omega)))
  have hA9 : ∀ c, 90 ≤ c → c < 106 → A2 c = A c := fun c q1 q2 => (f2.2 c (by first | exact id | (dsimp only; omega))).trans (f1.2 c (by first | exact id | (dsimp only; omega)))
  have R2p : gs_Rp F2 A2 := gs_Rp_fr hRp hI (by omega) hF9 hA9 (gs_k8_fr (b2_110.trans b1_110) (b2_111.trans b1_111))
  have R2q : gs_R123 F2 A2 := ⟨R2a, R2t, R2p⟩
  have R2w : gs_W (A2 6) (F2 0 11) := by
    rw [b2_6, b1_6, a2_0_11, a1_0_11]
    exact hRw
  have R2u : gs_R1234 F2 A2 := ⟨R2q, R2w⟩
  have R2v : gs_Rv F2 A2 := gs_Rv_ring hRv hR1.2.2.2.2.2.2 R_0.1 R_c.1 (fun r hr => (hR3 r hr).2.2.1) (by omega) (b2_107.trans b1_107) x3
  have R2t2 : gs_R5 F2 A2 := ⟨R2u, R2v⟩
  have R2s : gs_R6 F2 A2 := gs_R6_ring hR6 R_d x1 (by omega) (fun c j q1 q2 => f2.1 c j (by first | exact id | (dsimp only; omega))) (fun c q1 q2 => f2.2 c (by first | exact id | (dsimp only; omega))) (fun c j q1 q2 => f1.1 c j (by first | exact id | (dsimp only; omega))) (fun c q1 q2 => f1.2 c (by first | exact id | (dsimp only; omega)))
  have R2 : gs_R5m F2 A2 := ⟨R2t2, R2s⟩
  refine W.eq (g2 := F0 m 219 ls [.int (Int32.ofInt v2)]) rfl ?_
  refine lv_pop hx hb d_law_219 rfl ?_
  refine lv_goto (tgt := 1111) hx hb d_law_220 (by decide) ?_
  exact kk _ _ _ _ _ I2 ⟨X2, R2⟩ hW hlo hl
theorem q_op3 {p : Program} {e : Env} {s : State} {m : MethodId} {below : List Frame} {meth : Method} {c : Code} {b L : Nat} {xs : Nat → Int32} {l : Launch} {dC : Nat → ClassId} {dI : Nat → Nat → Nat} {aC : Nat → ClassId} {pl : Nat} (hL : L ≤ 2560) (C0 : lw_At p s m meth c b L xs) (hK : am_K (q_G l s dC dI aC pl) s) {n : Nat} (hn : n ≤ 1000000) {i : Int} (hi : 0 ≤ i ∧ i + 5 ≤ L) (kk : (∀ (F A : gs_F) (H : Heap) (locs : List Loc) (ls : Array Slot), gs_I F A → ((∀ r : Nat, (r : Int) < F 106 3 → 1 ≤ A 108 r) ∧ gs_R5m F A) → am_W (q_G l s dC dI aC pl) 122 (gs_en F A) H → (∀ q ∈ locs, s.heap.size ≤ q.base) → lv_has ls 4 [(3, .int (Int32.ofInt i)), (2, .ref (s.heap.size + 106)), (1, .ref (s.heap.size + 0)), (0, .ref b)] → W p l e room_1 s m #[Value.ref b] below meth c H locs 122 n (lw_Z below #[Value.ref b] s) (F0 m 1111 ls []))) {F A : gs_F} {H : Heap} {locs : List Loc} {ls : Array Slot} (hI : gs_I F A) (hX : (∀ r : Nat, (r : Int) < F 106 3 → 1 ≤ A 108 r) ∧ gs_R5m F A) (hW : am_W (q_G l s dC dI aC pl) 122 (gs_en F A) H) (hlo : ∀ q ∈ locs, s.heap.size ≤ q.base) (hl : lv_has ls 4 [(3, .int (Int32.ofInt i)), (2, .ref (s.heap.size + 106)), (1, .ref (s.heap.size + 0)), (0, .ref b)]) : W p l e room_1 s m #[Value.ref b] below meth c H locs 122 n (lw_Z below #[Value.ref b] s) (F0 m 223 ls []) := by
  obtain ⟨hx, hb, hr, hml, hown, hts, hXx, hbl, hlocks, hgv⟩ := C0
  obtain ⟨hX, hR⟩ := hX
  obtain ⟨hR, hR6⟩ := hR
  obtain ⟨hR, hRv⟩ := hR
  obtain ⟨hR, hRw⟩ := hR
  obtain ⟨hR, hRt, hRp⟩ := hR
  obtain ⟨hR1, hR3⟩ := hR
  have hR0 := hR1
  obtain ⟨R_1, R_2, R_3, R_4, R_5, R_6, _⟩ := hR0
  have R_0 : (0 : Int) ≤ F 106 1 ∧ F 106 1 ≤ 60 := hI.1 106 1
  have R_c : (0 : Int) ≤ F 106 3 ∧ F 106 3 ≤ 12 := hI.1 106 3
  have R_d : (0 : Int) ≤ F 0 12 ∧ F 0 12 ≤ 12 := hI.1 0 12
  have R_t := hRt.1
  have hg0 : (1 : Int) ≤ F 106 0 ∧ F 106 0 ≤ 3 := hI.1 106 0
  have hts2 := am_hts hts
  have hbA : ¬ (fun q : Nat => s.heap.size ≤ q) b := Nat.not_le.mpr hbl
  obtain ⟨z1, e1, r1⟩ := q_val (xs (Int32.ofInt i + 1).toNatClampNeg)
  obtain ⟨z2, e2, r2⟩ := q_val (xs (Int32.ofInt i + 2).toNatClampNeg)
  have hS := am_S hK.2.1 hW hlo
  refine lv_aload_n hx hb d_law_223 rfl (lv_at hl 2 rfl) ?_
  refine lv_aload_n hx hb d_law_224 rfl (lv_at hl 3 rfl) ?_
  refine lv_iload_n hx hb d_law_225 rfl (lv_at hl 0 rfl) ?_
  refine lv_iconst (v := 1) hx hb d_law_226 (by decide) ?_
  refine lv_iadd hx hb d_law_227 ?_
  refine va_sld hx hb hXx hbl hbA hS (i := Int32.ofInt i + 1) (q_in1 hi (by omega)) d_law_228 ?_
  rw [e1]
  refine lv_aload_n hx hb d_law_229 rfl (lv_at hl 3 rfl) ?_
  refine lv_iload_n hx hb d_law_230 rfl (lv_at hl 0 rfl) ?_
  refine lv_iconst (v := 2) hx hb d_law_231 (by decide) ?_
  refine lv_iadd hx hb d_law_232 ?_
  refine va_sld hx hb hXx hbl hbA hS (i := Int32.ofInt i + 2) (q_in2 hi (by omega)) d_law_233 ?_
  rw [e2]
  refine gw_callV (G := (q_G l s dC dI aC pl)) (cc := code) (own := R_law) (nL := 4) (y2 := m_X8_told) (n2 := 2) (d2 := 2) (mc2 := 0) (ms2 := 0) (a := 0) (ci := 8) (q := (RX8, TX8, 13)) (as := [gs_iv z1, gs_iv z2]) (rest := []) hx hb hml hown hts2 hK hW hlo hl.1 d_law_234 ok_X8_told.1 (ri_lw_in (pl := 451) (by decide +kernel)) ok_X8_told.2.1 ok_X8_told.2.2 rfl rfl (by decide) (gs_en_obj _ _ (show gs_sh 0 = .inl (8, _) from rfl)) rfl (Nat.le_of_ble_eq_true rfl) (by decide) (by decide) (by show _ ≤ 600000; omega) (by show _ ≤ 7302249; omega) (c_X8_told hI r1 r2 (q_G l s dC dI aC pl)) rfl (fun r N2 h2 H locs hp hW hlo => ?_)
  obtain ⟨F1, A1, n1, h1, v1, w1, g1, k1, x1⟩ := hp
  subst n1 h1 w1
  have f1 : gs_fr (fun _ _ => False) (fun _ => False) F A F1 A1 := by rw [← g1, ← k1]; exact gs_fr_refl _ _ _ _
  have I1 : gs_I F1 A1 := by rw [← g1, ← k1]; exact hI
  have X1 := gs_X_fr hX (f1.1 106 3 (by first | exact id | (dsimp only; omega))) (f1.2 108 (by first | exact id | (dsimp only; omega)))
  have a1_0_11 := f1.1 0 11 (by first | exact id | omega | (dsimp only; omega) | (dsimp only))
  have a1_0_12 := f1.1 0 12 (by first | exact id | omega | (dsimp only; omega) | (dsimp only))
  have a1_5_0 := f1.1 5 0 (by first | exact id | omega | (dsimp only; omega) | (dsimp only))
  have a1_3_1 := f1.1 3 1 (by first | exact id | omega | (dsimp only; omega) | (dsimp only))
  have a1_43_0 := f1.1 43 0 (by first | exact id | omega | (dsimp only; omega) | (dsimp only))
  have a1_106_0 := f1.1 106 0 (by first | exact id | omega | (dsimp only; omega) | (dsimp only))
  have a1_106_1 := f1.1 106 1 (by first | exact id | omega | (dsimp only; omega) | (dsimp only))
  have a1_106_3 := f1.1 106 3 (by first | exact id | omega | (dsimp only; omega) | (dsimp only))
  have a1_106_17 := f1.1 106 17 (by first | exact id | omega | (dsimp only; omega) | (dsimp only))
  have a1_43_1 := f1.1 43 1 (by first | exact id | omega | (dsimp only; omega) | (dsimp only))
  have a1_106_20 := f1.1 106 20 (by first | exact id | omega | (dsimp only; omega) | (dsimp only))
  have b1_4 := f1.2 4 (by first | exact id | omega | (dsimp only; omega) | (dsimp only))
  have b1_107 := f1.2 107 (by first | exact id | omega | (dsimp only; omega) | (dsimp only))
  have b1_108 := f1.2 108 (by first | exact id | omega | (dsimp only; omega) | (dsimp only))
  have b1_109 := f1.2 109 (by first | exact id | omega | (dsimp only; omega) | (dsimp only))
  have b1_46 := f1.2 46 (by first | exact id | omega | (dsimp only; omega) | (dsimp only))
  have b1_116 := f1.2 116 (by first | exact id | omega | (dsimp only; omega) | (dsimp only))
  have b1_110 := f1.2 110 (by first | exact id | omega | (dsimp only; omega) | (dsimp only))
  have b1_111 := f1.2 111 (by first | exact id | omega | (dsimp only; omega) | (dsimp only))
  have b1_117 := f1.2 117 (by first | exact id | omega | (dsimp only; omega) | (dsimp only))
  have b1_118 := f1.2 118 (by first | exact id | omega | (dsimp only; omega) | (dsimp only))
  have b1_6 := f1.2 6 (by first | exact id | omega | (dsimp only; omega) | (dsimp only))
  refine W.eq (g2 := F0 m 237 ls [.int (Int32.ofInt v1)]) rfl ?_
  refine lv_pop hx hb d_law_237 rfl ?_
  have hS := am_S hK.2.1 hW hlo
  refine lv_aload_n hx hb d_law_238 rfl (lv_at hl 1 rfl) ?_
  refine lv_aload_n hx hb d_law_239 rfl (lv_at hl 3 rfl) ?_
  refine lv_iload_n hx hb d_law_240 rfl (lv_at hl 0 rfl) ?_
  refine lv_iconst (v := 1) hx hb d_law_241 (by decide) ?_
  refine lv_iadd hx hb d_law_242 ?_
  refine va_sld hx hb hXx hbl hbA hS (i := Int32.ofInt i + 1) (q_in1 hi (by omega)) d_law_243 ?_
  rw [e1]
  refine lv_aload_n hx hb d_law_244 rfl (lv_at hl 3 rfl) ?_
  refine lv_iload_n hx hb d_law_245 rfl (lv_at hl 0 rfl) ?_
  refine lv_iconst (v := 2) hx hb d_law_246 (by decide) ?_
  refine lv_iadd hx hb d_law_247 ?_
  refine va_sld hx hb hXx hbl hbA hS (i := Int32.ofInt i + 2) (q_in2 hi (by omega)) d_law_248 ?_
  rw [e2]
  refine gw_callV (G := (q_G l s dC dI aC pl)) (cc := code) (own := R_law) (nL := 4) (y2 := m_X9_told) (n2 := 2) (d2 := 8) (mc2 := 0) (ms2 := 0) (a := 106) (ci := 9) (q := (RX9, TX9, 28)) (as := [gs_iv z1, gs_iv z2]) (rest := []) hx hb hml hown hts2 hK hW hlo hl.1 d_law_249 ok_X9_told.1 (ri_lw_in (pl := 970) (by decide +kernel)) ok_X9_told.2.1 ok_X9_told.2.2 rfl rfl (by decide) (gs_en_obj _ _ (show gs_sh 106 = .inl (9, _) from rfl)) rfl (Nat.le_of_ble_eq_true rfl) (by decide) (by decide) (by show _ ≤ 600000; omega) (by show _ ≤ 7302249; omega) (c_X9_told I1 r1 r2 X1 (q_G l s dC dI aC pl)) rfl (fun r N2 h2 H locs hp hW hlo => ?_)
  obtain ⟨F2, A2, n2, h2, v2, w2, I2, f2, x2⟩ := hp
  subst n2 h2 w2
  have X2 := gs_X_fr X1 (f2.1 106 3 (by first | exact id | (dsimp only; omega))) (f2.2 108 (by first | exact id | (dsimp only; omega)))
  have a2_0_11 := f2.1 0 11 (by first | exact id | omega | (dsimp only; omega) | (dsimp only))
  have a2_0_12 := f2.1 0 12 (by first | exact id | omega | (dsimp only; omega) | (dsimp only))
  have a2_5_0 := f2.1 5 0 (by first | exact id | omega | (dsimp only; omega) | (dsimp only))
  have a2_3_1 := f2.1 3 1 (by first | exact id | omega | (dsimp only; omega) | (dsimp only))
  have a2_43_0 := f2.1 43 0 (by first | exact id | omega | (dsimp only; omega) | (dsimp only))
  have a2_106_0 := f2.1 106 0 (by first | exact id | omega | (dsimp only; omega) | (dsimp only))
  have a2_106_1 := f2.1 106 1 (by first | exact id | omega | (dsimp only; omega) | (dsimp only))
  have a2_106_3 := f2.1 106 3 (by first | exact id | omega | (dsimp only; omega) | (dsimp only))
  have a2_106_17 := f2.1 106 17 (by first | exact id | omega | (dsimp only; omega) | (dsimp only))
  have a2_43_1 := f2.1 43 1 (by first | exact id | omega | (dsimp only; omega) | (dsimp only))
  have a2_106_20 := f2.1 106 20 (by first | exact id | omega | (dsimp only; omega) | (dsimp only))
  have b2_4 := f2.2 4 (by first | exact id | omega | (dsimp only; omega) | (dsimp only))
  have b2_107 := f2.2 107 (by first | exact id | omega | (dsimp only; omega) | (dsimp only))
  have b2_108 := f2.2 108 (by first | exact id | omega | (dsimp only; omega) | (dsimp only))
  have b2_109 := f2.2 109 (by first | exact id | omega | (dsimp only; omega) | (dsimp only))
  have b2_46 := f2.2 46 (by first | exact id | omega | (dsimp only; omega) | (dsimp only))
  have b2_116 := f2.2 116 (by first | exact id | omega | (dsimp only; omega) | (dsimp only))
  have b2_110 := f2.2 110 (by first | exact id | omega | (dsimp only; omega) | (dsimp only))
  have b2_111 := f2.2 111 (by first | exact id | omega | (dsimp only; omega) | (dsimp only))
  have b2_117 := f2.2 117 (by first | exact id | omega | (dsimp only; omega) | (dsimp only))
  have b2_118 := f2.2 118 (by first | exact id | omega | (dsimp only; omega) | (dsimp only))
  have b2_6 := f2.2 6 (by first | exact id | omega | (dsimp only; omega) | (dsimp only))
  have R2a : gs_R1 F2 A2 := gs_R1_mk hR1 (by omega) (by omega) (by omega) (by omega) (by omega) (b2_4.trans b1_4) (b2_107.trans b1_107) (by omega)
  have hF3 : ∀ c j, 54 ≤ c → c < 90 → F2 c j = F c j := fun c j q1 q2 => (f2.1 c j (by first | exact id | (dsimp only; omega))).trans (f1.1 c j (by first | exact id | (dsimp only; omega)))
  have hA3 : ∀ c, 54 ≤ c → c < 90 → A2 c = A c := fun c q1 q2 => (f2.2 c (by first | exact id | (dsimp only; omega))).trans (f1.2 c (by first | exact id | (dsimp only; omega)))
  have R2c : gs_R3 F2 A2 := gs_R3_fr hR3 hI (by omega) hF3 hA3 (b2_108.trans b1_108) (b2_109.trans b1_109)
  have R2a0 : gs_R13 F2 A2 := ⟨R2a, R2c⟩
  have R2a := R2a0
  have R2t : gs_Rt F2 A2 := gs_Rt_fr hRt (by omega) (by omega) (by omega) (b2_46.trans b1_46) (b2_116.trans b1_116)
  have hF9 : ∀ c j, 90 ≤ c → c < 106 → F2 c j = F c j := fun c j q1 q2 => (f2.1 c j (by first | exact id | (dsimp only; omega))).trans (f1.1 c j (by first | exact id | (dsimp only; omega)))
  have hA9 : ∀ c, 90 ≤ c → c < 106 → A2 c = A c := fun c q1 q2 => (f2.2 c (by first | exact id | (dsimp only; omega))).trans (f1.2 c (by first | exact id | (dsimp only; omega)))
  have R2p : gs_Rp F2 A2 := gs_Rp_fr hRp hI (by omega) hF9 hA9 (gs_k8_fr (b2_110.trans b1_110) (b2_111.trans b1_111))
  have R2q : gs_R123 F2 A2 := ⟨R2a, R2t, R2p⟩
  have R2w : gs_W (A2 6) (F2 0 11) := by
    rw [b2_6, b1_6, a2_0_11, a1_0_11]
    exact hRw
  have R2u : gs_R1234 F2 A2 := ⟨R2q, R2w⟩
  have R2v : gs_Rv F2 A2 := gs_Rv_fr hRv (by omega) (by omega) (by omega) (b2_107.trans b1_107) (b2_108.trans b1_108) (b2_109.trans b1_109)
  have R2t2 : gs_R5 F2 A2 := ⟨R2u, R2v⟩
  have R2s : gs_R6 F2 A2 := gs_R6_fr hR6 (by omega) (by omega) hF3 hA3
  have R2 : gs_R5m F2 A2 := ⟨R2t2, R2s⟩
  refine W.eq (g2 := F0 m 252 ls [.int (Int32.ofInt v2)]) rfl ?_
  refine lv_pop hx hb d_law_252 rfl ?_
  refine lv_goto (tgt := 1111) hx hb d_law_253 (by decide) ?_
  exact kk _ _ _ _ _ I2 ⟨X2, R2⟩ hW hlo hl
theorem q_op4 {p : Program} {e : Env} {s : State} {m : MethodId} {below : List Frame} {meth : Method} {c : Code} {b L : Nat} {xs : Nat → Int32} {l : Launch} {dC : Nat → ClassId} {dI : Nat → Nat → Nat} {aC : Nat → ClassId} {pl : Nat} (hL : L ≤ 2560) (C0 : lw_At p s m meth c b L xs) (hK : am_K (q_G l s dC dI aC pl) s) {n : Nat} (hn : n ≤ 1000000) {i : Int} (hi : 0 ≤ i ∧ i + 5 ≤ L) (kk : (∀ (F A : gs_F) (H : Heap) (locs : List Loc) (ls : Array Slot), gs_I F A → ((∀ r : Nat, (r : Int) < F 106 3 → 1 ≤ A 108 r) ∧ gs_R5m F A) → am_W (q_G l s dC dI aC pl) 122 (gs_en F A) H → (∀ q ∈ locs, s.heap.size ≤ q.base) → lv_has ls 4 [(3, .int (Int32.ofInt i)), (2, .ref (s.heap.size + 106)), (1, .ref (s.heap.size + 0)), (0, .ref b)] → W p l e room_1 s m #[Value.ref b] below meth c H locs 122 n (lw_Z below #[Value.ref b] s) (F0 m 1111 ls []))) {F A : gs_F} {H : Heap} {locs : List Loc} {ls : Array Slot} (hI : gs_I F A) (hX : (∀ r : Nat, (r : Int) < F 106 3 → 1 ≤ A 108 r) ∧ gs_R5m F A) (hW : am_W (q_G l s dC dI aC pl) 122 (gs_en F A) H) (hlo : ∀ q ∈ locs, s.heap.size ≤ q.base) (hl : lv_has ls 4 [(3, .int (Int32.ofInt i)), (2, .ref (s.heap.size + 106)), (1, .ref (s.heap.size + 0)), (0, .ref b)]) : W p l e room_1 s m #[Value.ref b] below meth c H locs 122 n (lw_Z below #[Value.ref b] s) (F0 m 256 ls []) := by
  obtain ⟨hx, hb, hr, hml, hown, hts, hXx, hbl, hlocks, hgv⟩ := C0
  obtain ⟨hX, hR⟩ := hX
  obtain ⟨hR, hR6⟩ := hR
  obtain ⟨hR, hRv⟩ := hR
  obtain ⟨hR, hRw⟩ := hR
  obtain ⟨hR, hRt, hRp⟩ := hR
  obtain ⟨hR1, hR3⟩ := hR
  have hR0 := hR1
  obtain ⟨R_1, R_2, R_3, R_4, R_5, R_6, _⟩ := hR0
  have R_0 : (0 : Int) ≤ F 106 1 ∧ F 106 1 ≤ 60 := hI.1 106 1
  have R_c : (0 : Int) ≤ F 106 3 ∧ F 106 3 ≤ 12 := hI.1 106 3
  have R_d : (0 : Int) ≤ F 0 12 ∧ F 0 12 ≤ 12 := hI.1 0 12
  have R_t := hRt.1
  have hg0 : (1 : Int) ≤ F 106 0 ∧ F 106 0 ≤ 3 := hI.1 106 0
  have hts2 := am_hts hts
  have hbA : ¬ (fun q : Nat => s.heap.size ≤ q) b := Nat.not_le.mpr hbl
  obtain ⟨z1, e1, r1⟩ := q_val (xs (Int32.ofInt i + 1).toNatClampNeg)
  obtain ⟨z2, e2, r2⟩ := q_val (xs (Int32.ofInt i + 2).toNatClampNeg)
  have hS := am_S hK.2.1 hW hlo
  refine lv_aload_n hx hb d_law_256 rfl (lv_at hl 2 rfl) ?_
  refine lv_aload_n hx hb d_law_257 rfl (lv_at hl 3 rfl) ?_
  refine lv_iload_n hx hb d_law_258 rfl (lv_at hl 0 rfl) ?_
  refine lv_iconst (v := 1) hx hb d_law_259 (by decide) ?_
  refine lv_iadd hx hb d_law_260 ?_
  refine va_sld hx hb hXx hbl hbA hS (i := Int32.ofInt i + 1) (q_in1 hi (by omega)) d_law_261 ?_
  rw [e1]
  refine lv_aload_n hx hb d_law_262 rfl (lv_at hl 3 rfl) ?_
  refine lv_iload_n hx hb d_law_263 rfl (lv_at hl 0 rfl) ?_
  refine lv_iconst (v := 2) hx hb d_law_264 (by decide) ?_
  refine lv_iadd hx hb d_law_265 ?_
  refine va_sld hx hb hXx hbl hbA hS (i := Int32.ofInt i + 2) (q_in2 hi (by omega)) d_law_266 ?_
  rw [e2]
  refine gw_callV (G := (q_G l s dC dI aC pl)) (cc := code) (own := R_law) (nL := 4) (y2 := m_X8_at) (n2 := 2) (d2 := 2) (mc2 := 0) (ms2 := 0) (a := 0) (ci := 8) (q := (RX8, TX8, 13)) (as := [gs_iv z1, gs_iv z2]) (rest := []) hx hb hml hown hts2 hK hW hlo hl.1 d_law_267 ok_X8_at.1 (ri_lw_in (pl := 466) (by decide +kernel)) ok_X8_at.2.1 ok_X8_at.2.2 rfl rfl (by decide) (gs_en_obj _ _ (show gs_sh 0 = .inl (8, _) from rfl)) rfl (Nat.le_of_ble_eq_true rfl) (by decide) (by decide) (by show _ ≤ 600000; omega) (by show _ ≤ 7302249; omega) (c_X8_at_vf hI r1 r2 (q_G l s dC dI aC pl)) rfl (fun r N2 h2 H locs hp hW hlo => ?_)
  obtain ⟨F1, A1, n1, h1, v1, w1, g1, k1, x1⟩ := hp
  subst n1 h1 w1
  have f1 : gs_fr (fun _ _ => False) (fun _ => False) F A F1 A1 := by rw [← g1, ← k1]; exact gs_fr_refl _ _ _ _
  have I1 : gs_I F1 A1 := by rw [← g1, ← k1]; exact hI
  have X1 := gs_X_fr hX (f1.1 106 3 (by first | exact id | (dsimp only; omega))) (f1.2 108 (by first | exact id | (dsimp only; omega)))
  have a1_0_11 := f1.1 0 11 (by first | exact id | omega | (dsimp only; omega) | (dsimp only))
  have a1_0_12 := f1.1 0 12 (by first | exact id | omega | (dsimp only; omega) | (dsimp only))
  have a1_5_0 := f1.1 5 0 (by first | exact id | omega | (dsimp only; omega) | (dsimp only))
  have a1_3_1 := f1.1 3 1 (by first | exact id | omega | (dsimp only; omega) | (dsimp only))
  have a1_43_0 := f1.1 43 0 (by first | exact id | omega | (dsimp only; omega) | (dsimp only))
  have a1_106_0 := f1.1 106 0 (by first | exact id | omega | (dsimp only; omega) | (dsimp only))
  have a1_106_1 := f1.1 106 1 (by first | exact id | omega | (dsimp only; omega) | (dsimp only))
  have a1_106_3 := f1.1 106 3 (by first | exact id | omega | (dsimp only; omega) | (dsimp only))
  have a1_106_17 := f1.1 106 17 (by first | exact id | omega | (dsimp only; omega) | (dsimp only))
  have a1_43_1 := f1.1 43 1 (by first | exact id | omega | (dsimp only; omega) | (dsimp only))
  have a1_106_20 := f1.1 106 20 (by first | exact id | omega | (dsimp only; omega) | (dsimp only))
  have b1_4 := f1.2 4 (by first | exact id | omega | (dsimp only; omega) | (dsimp only))
  have b1_107 := f1.2 107 (by first | exact id | omega | (dsimp only; omega) | (dsimp only))
  have b1_108 := f1.2 108 (by first | exact id | omega | (dsimp only; omega) | (dsimp only))
  have b1_109 := f1.2 109 (by first | exact id | omega | (dsimp only; omega) | (dsimp only))
  have b1_46 := f1.2 46 (by first | exact id | omega | (dsimp only; omega) | (dsimp only))
  have b1_116 := f1.2 116 (by first | exact id | omega | (dsimp only; omega) | (dsimp only))
  have b1_110 := f1.2 110 (by first | exact id | omega | (dsimp only; omega) | (dsimp only))
  have b1_111 := f1.2 111 (by first | exact id | omega | (dsimp only; omega) | (dsimp only))
  have b1_117 := f1.2 117 (by first | exact id | omega | (dsimp only; omega) | (dsimp only))
  have b1_118 := f1.2 118 (by first | exact id | omega | (dsimp only; omega) | (dsimp only))
  have b1_6 := f1.2 6 (by first | exact id | omega | (dsimp only; omega) | (dsimp only))
  refine W.eq (g2 := F0 m 270 ls [.int (Int32.ofInt v1)]) rfl ?_
  refine lv_pop hx hb d_law_270 rfl ?_
  have hS := am_S hK.2.1 hW hlo
  refine lv_aload_n hx hb d_law_271 rfl (lv_at hl 1 rfl) ?_
  refine lv_aload_n hx hb d_law_272 rfl (lv_at hl 3 rfl) ?_
  refine lv_iload_n hx hb d_law_273 rfl (lv_at hl 0 rfl) ?_
  refine lv_iconst (v := 1) hx hb d_law_274 (by decide) ?_
  refine lv_iadd hx hb d_law_275 ?_
  refine va_sld hx hb hXx hbl hbA hS (i := Int32.ofInt i + 1) (q_in1 hi (by omega)) d_law_276 ?_
  rw [e1]
  refine lv_aload_n hx hb d_law_277 rfl (lv_at hl 3 rfl) ?_
  refine lv_iload_n hx hb d_law_278 rfl (lv_at hl 0 rfl) ?_
  refine lv_iconst (v := 2) hx hb d_law_279 (by decide) ?_
  refine lv_iadd hx hb d_law_280 ?_
  refine va_sld hx hb hXx hbl hbA hS (i := Int32.ofInt i + 2) (q_in2 hi (by omega)) d_law_281 ?_
  rw [e2]
  refine gw_callV (G := (q_G l s dC dI aC pl)) (cc := code) (own := R_law) (nL := 4) (y2 := m_X9_at) (n2 := 2) (d2 := 3) (mc2 := 0) (ms2 := 0) (a := 106) (ci := 9) (q := (RX9, TX9, 28)) (as := [gs_iv z1, gs_iv z2]) (rest := []) hx hb hml hown hts2 hK hW hlo hl.1 d_law_282 ok_X9_at.1 (ri_lw_in (pl := 974) (by decide +kernel)) ok_X9_at.2.1 ok_X9_at.2.2 rfl rfl (by decide) (gs_en_obj _ _ (show gs_sh 106 = .inl (9, _) from rfl)) rfl (Nat.le_of_ble_eq_true rfl) (by decide) (by decide) (by show _ ≤ 600000; omega) (by show _ ≤ 7302249; omega) (c_X9_at_vf I1 r1 r2 (q_G l s dC dI aC pl)) rfl (fun r N2 h2 H locs hp hW hlo => ?_)
  obtain ⟨F2, A2, n2, h2, v2, w2, g2, k2, x2⟩ := hp
  subst n2 h2 w2
  have f2 : gs_fr (fun _ _ => False) (fun _ => False) F1 A1 F2 A2 := by rw [← g2, ← k2]; exact gs_fr_refl _ _ _ _
  have I2 : gs_I F2 A2 := by rw [← g2, ← k2]; exact I1
  have X2 := gs_X_fr X1 (f2.1 106 3 (by first | exact id | (dsimp only; omega))) (f2.2 108 (by first | exact id | (dsimp only; omega)))
  have a2_0_11 := f2.1 0 11 (by first | exact id | omega | (dsimp only; omega) | (dsimp only))
  have a2_0_12 := f2.1 0 12 (by first | exact id | omega | (dsimp only; omega) | (dsimp only))
  have a2_5_0 := f2.1 5 0 (by first | exact id | omega | (dsimp only; omega) | (dsimp only))
  have a2_3_1 := f2.1 3 1 (by first | exact id | omega | (dsimp only; omega) | (dsimp only))
  have a2_43_0 := f2.1 43 0 (by first | exact id | omega | (dsimp only; omega) | (dsimp only))
  have a2_106_0 := f2.1 106 0 (by first | exact id | omega | (dsimp only; omega) | (dsimp only))
  have a2_106_1 := f2.1 106 1 (by first | exact id | omega | (dsimp only; omega) | (dsimp only))
  have a2_106_3 := f2.1 106 3 (by first | exact id | omega | (dsimp only; omega) | (dsimp only))
  have a2_106_17 := f2.1 106 17 (by first | exact id | omega | (dsimp only; omega) | (dsimp only))
  have a2_43_1 := f2.1 43 1 (by first | exact id | omega | (dsimp only; omega) | (dsimp only))
  have a2_106_20 := f2.1 106 20 (by first | exact id | omega | (dsimp only; omega) | (dsimp only))
  have b2_4 := f2.2 4 (by first | exact id | omega | (dsimp only; omega) | (dsimp only))
  have b2_107 := f2.2 107 (by first | exact id | omega | (dsimp only; omega) | (dsimp only))
  have b2_108 := f2.2 108 (by first | exact id | omega | (dsimp only; omega) | (dsimp only))
  have b2_109 := f2.2 109 (by first | exact id | omega | (dsimp only; omega) | (dsimp only))
  have b2_46 := f2.2 46 (by first | exact id | omega | (dsimp only; omega) | (dsimp only))
  have b2_116 := f2.2 116 (by first | exact id | omega | (dsimp only; omega) | (dsimp only))
  have b2_110 := f2.2 110 (by first | exact id | omega | (dsimp only; omega) | (dsimp only))
  have b2_111 := f2.2 111 (by first | exact id | omega | (dsimp only; omega) | (dsimp only))
  have b2_117 := f2.2 117 (by first | exact id | omega | (dsimp only; omega) | (dsimp only))
  have b2_118 := f2.2 118 (by first | exact id | omega | (dsimp only; omega) | (dsimp only))
  have b2_6 := f2.2 6 (by first | exact id | omega | (dsimp only; omega) | (dsimp only))
  have R2a : gs_R1 F2 A2 := gs_R1_mk hR1 (by omega) (by omega) (by omega) (by omega) (by omega) (b2_4.trans b1_4) (b2_107.trans b1_107) (by omega)
  have hF3 : ∀ c j, 54 ≤ c → c < 90 → F2 c j = F c j := fun c j q1 q2 => (f2.1 c j (by first | exact id | (dsimp only; omega))).trans (f1.1 c j (by first | exact id | (dsimp only; omega)))
  have hA3 : ∀ c, 54 ≤ c → c < 90 → A2 c = A c := fun c q1 q2 => (f2.2 c (by first | exact id | (dsimp only; omega))).trans (f1.2 c (by first | exact id | (dsimp only; omega)))
  have R2c : gs_R3 F2 A2 := gs_R3_fr hR3 hI (by omega) hF3 hA3 (b2_108.trans b1_108) (b2_109.trans b1_109)
  have R2a0 : gs_R13 F2 A2 := ⟨R2a, R2c⟩
  have R2a := R2a0
  have R2t : gs_Rt F2 A2 := gs_Rt_fr hRt (by omega) (by omega) (by omega) (b2_46.trans b1_46) (b2_116.trans b1_116)
  have hF9 : ∀ c j, 90 ≤ c → c < 106 → F2 c j = F c j := fun c j q1 q2 => (f2.1 c j (by first | exact id | (dsimp only; omega))).trans (f1.1 c j (by first | exact id | (dsimp only; omega)))
  have hA9 : ∀ c, 90 ≤ c → c < 106 → A2 c = A c := fun c q1 q2 => (f2.2 c (by first | exact id | (dsimp only; omega))).trans (f1.2 c (by first | exact id | (dsimp only; omega)))
  have R2p : gs_Rp F2 A2 := gs_Rp_fr hRp hI (by omega) hF9 hA9 (gs_k8_fr (b2_110.trans b1_110) (b2_111.trans b1_111))
  have R2q : gs_R123 F2 A2 := ⟨R2a, R2t, R2p⟩
  have R2w : gs_W (A2 6) (F2 0 11) := by
    rw [b2_6, b1_6, a2_0_11, a1_0_11]
    exact hRw
  have R2u : gs_R1234 F2 A2 := ⟨R2q, R2w⟩
  have R2v : gs_Rv F2 A2 := gs_Rv_fr hRv (by omega) (by omega) (by omega) (b2_107.trans b1_107) (b2_108.trans b1_108) (b2_109.trans b1_109)
  have R2t2 : gs_R5 F2 A2 := ⟨R2u, R2v⟩
  have R2s : gs_R6 F2 A2 := gs_R6_fr hR6 (by omega) (by omega) hF3 hA3
  have R2 : gs_R5m F2 A2 := ⟨R2t2, R2s⟩
  refine W.eq (g2 := F0 m 285 ls [.int (Int32.ofInt v2)]) rfl ?_
  refine lv_pop hx hb d_law_285 rfl ?_
  refine lv_goto (tgt := 1111) hx hb d_law_286 (by decide) ?_
  exact kk _ _ _ _ _ I2 ⟨X2, R2⟩ hW hlo hl
theorem q_op5 {p : Program} {e : Env} {s : State} {m : MethodId} {below : List Frame} {meth : Method} {c : Code} {b L : Nat} {xs : Nat → Int32} {l : Launch} {dC : Nat → ClassId} {dI : Nat → Nat → Nat} {aC : Nat → ClassId} {pl : Nat} (hL : L ≤ 2560) (C0 : lw_At p s m meth c b L xs) (hK : am_K (q_G l s dC dI aC pl) s) {n : Nat} (hn : n ≤ 1000000) {i : Int} (hi : 0 ≤ i ∧ i + 5 ≤ L) (kk : (∀ (F A : gs_F) (H : Heap) (locs : List Loc) (ls : Array Slot), gs_I F A → ((∀ r : Nat, (r : Int) < F 106 3 → 1 ≤ A 108 r) ∧ gs_R5m F A) → am_W (q_G l s dC dI aC pl) 122 (gs_en F A) H → (∀ q ∈ locs, s.heap.size ≤ q.base) → lv_has ls 4 [(3, .int (Int32.ofInt i)), (2, .ref (s.heap.size + 106)), (1, .ref (s.heap.size + 0)), (0, .ref b)] → W p l e room_1 s m #[Value.ref b] below meth c H locs 122 n (lw_Z below #[Value.ref b] s) (F0 m 1111 ls []))) {F A : gs_F} {H : Heap} {locs : List Loc} {ls : Array Slot} (hI : gs_I F A) (hX : (∀ r : Nat, (r : Int) < F 106 3 → 1 ≤ A 108 r) ∧ gs_R5m F A) (hW : am_W (q_G l s dC dI aC pl) 122 (gs_en F A) H) (hlo : ∀ q ∈ locs, s.heap.size ≤ q.base) (hl : lv_has ls 4 [(3, .int (Int32.ofInt i)), (2, .ref (s.heap.size + 106)), (1, .ref (s.heap.size + 0)), (0, .ref b)]) : W p l e room_1 s m #[Value.ref b] below meth c H locs 122 n (lw_Z below #[Value.ref b] s) (F0 m 289 ls []) := by
  obtain ⟨hx, hb, hr, hml, hown, hts, hXx, hbl, hlocks, hgv⟩ := C0
  obtain ⟨hX, hR⟩ := hX
  obtain ⟨hR, hR6⟩ := hR
  obtain ⟨hR, hRv⟩ := hR
  obtain ⟨hR, hRw⟩ := hR
  obtain ⟨hR, hRt, hRp⟩ := hR
  obtain ⟨hR1, hR3⟩ := hR
  have hR0 := hR1
  obtain ⟨R_1, R_2, R_3, R_4, R_5, R_6, _⟩ := hR0
  have R_0 : (0 : Int) ≤ F 106 1 ∧ F 106 1 ≤ 60 := hI.1 106 1
  have R_c : (0 : Int) ≤ F 106 3 ∧ F 106 3 ≤ 12 := hI.1 106 3
  have R_d : (0 : Int) ≤ F 0 12 ∧ F 0 12 ≤ 12 := hI.1 0 12
  have R_t := hRt.1
  have hg0 : (1 : Int) ≤ F 106 0 ∧ F 106 0 ≤ 3 := hI.1 106 0
  have hts2 := am_hts hts
  have hbA : ¬ (fun q : Nat => s.heap.size ≤ q) b := Nat.not_le.mpr hbl
  obtain ⟨z1, e1, r1⟩ := q_val (xs (Int32.ofInt i + 1).toNatClampNeg)
  obtain ⟨z2, e2, r2⟩ := q_val (xs (Int32.ofInt i + 2).toNatClampNeg)
  have hS := am_S hK.2.1 hW hlo
  refine lv_aload_n hx hb d_law_289 rfl (lv_at hl 2 rfl) ?_
  refine lv_aload_n hx hb d_law_290 rfl (lv_at hl 3 rfl) ?_
  refine lv_iload_n hx hb d_law_291 rfl (lv_at hl 0 rfl) ?_
  refine lv_iconst (v := 1) hx hb d_law_292 (by decide) ?_
  refine lv_iadd hx hb d_law_293 ?_
  refine va_sld hx hb hXx hbl hbA hS (i := Int32.ofInt i + 1) (q_in1 hi (by omega)) d_law_294 ?_
  rw [e1]
  refine lv_aload_n hx hb d_law_295 rfl (lv_at hl 3 rfl) ?_
  refine lv_iload_n hx hb d_law_296 rfl (lv_at hl 0 rfl) ?_
  refine lv_iconst (v := 2) hx hb d_law_297 (by decide) ?_
  refine lv_iadd hx hb d_law_298 ?_
  refine va_sld hx hb hXx hbl hbA hS (i := Int32.ofInt i + 2) (q_in2 hi (by omega)) d_law_299 ?_
  rw [e2]
  refine gw_callV (G := (q_G l s dC dI aC pl)) (cc := code) (own := R_law) (nL := 4) (y2 := m_X8_meets) (n2 := 2) (d2 := 6) (mc2 := 0) (ms2 := 0) (a := 0) (ci := 8) (q := (RX8, TX8, 13)) (as := [gs_iv z1, gs_iv z2]) (rest := []) hx hb hml hown hts2 hK hW hlo hl.1 d_law_300 ok_X8_meets.1 (ri_lw_in (pl := 470) (by decide +kernel)) ok_X8_meets.2.1 ok_X8_meets.2.2 rfl rfl (by decide) (gs_en_obj _ _ (show gs_sh 0 = .inl (8, _) from rfl)) rfl (Nat.le_of_ble_eq_true rfl) (by decide) (by decide) (by show _ ≤ 600000; omega) (by show _ ≤ 7302249; omega) (c_X8_meets hI r1 r2 (q_G l s dC dI aC pl)) rfl (fun r N2 h2 H locs hp hW hlo => ?_)
  obtain ⟨F1, A1, n1, h1, v1, w1, I1, f1, x1⟩ := hp
  subst n1 h1 w1
  have X1 := gs_X_fr hX (f1.1 106 3 (by first | exact id | (dsimp only; omega))) (f1.2 108 (by first | exact id | (dsimp only; omega)))
  have a1_0_11 := f1.1 0 11 (by first | exact id | omega | (dsimp only; omega) | (dsimp only))
  have a1_0_12 := f1.1 0 12 (by first | exact id | omega | (dsimp only; omega) | (dsimp only))
  have a1_5_0 := f1.1 5 0 (by first | exact id | omega | (dsimp only; omega) | (dsimp only))
  have a1_3_1 := f1.1 3 1 (by first | exact id | omega | (dsimp only; omega) | (dsimp only))
  have a1_43_0 := f1.1 43 0 (by first | exact id | omega | (dsimp only; omega) | (dsimp only))
  have a1_106_0 := f1.1 106 0 (by first | exact id | omega | (dsimp only; omega) | (dsimp only))
  have a1_106_1 := f1.1 106 1 (by first | exact id | omega | (dsimp only; omega) | (dsimp only))
  have a1_106_3 := f1.1 106 3 (by first | exact id | omega | (dsimp only; omega) | (dsimp only))
  have a1_106_17 := f1.1 106 17 (by first | exact id | omega | (dsimp only; omega) | (dsimp only))
  have a1_43_1 := f1.1 43 1 (by first | exact id | omega | (dsimp only; omega) | (dsimp only))
  have a1_106_20 := f1.1 106 20 (by first | exact id | omega | (dsimp only; omega) | (dsimp only))
  have b1_4 := f1.2 4 (by first | exact id | omega | (dsimp only; omega) | (dsimp only))
  have b1_107 := f1.2 107 (by first | exact id | omega | (dsimp only; omega) | (dsimp only))
  have b1_108 := f1.2 108 (by first | exact id | omega | (dsimp only; omega) | (dsimp only))
  have b1_109 := f1.2 109 (by first | exact id | omega | (dsimp only; omega) | (dsimp only))
  have b1_46 := f1.2 46 (by first | exact id | omega | (dsimp only; omega) | (dsimp only))
  have b1_116 := f1.2 116 (by first | exact id | omega | (dsimp only; omega) | (dsimp only))
  have b1_110 := f1.2 110 (by first | exact id | omega | (dsimp only; omega) | (dsimp only))
  have b1_111 := f1.2 111 (by first | exact id | omega | (dsimp only; omega) | (dsimp only))
  have b1_117 := f1.2 117 (by first | exact id | omega | (dsimp only; omega) | (dsimp only))
  have b1_118 := f1.2 118 (by first | exact id | omega | (dsimp only; omega) | (dsimp only))
  have b1_6 := f1.2 6 (by first | exact id | omega | (dsimp only; omega) | (dsimp only))
  refine W.eq (g2 := F0 m 303 ls [.int (Int32.ofInt v1)]) rfl ?_
  refine lv_pop hx hb d_law_303 rfl ?_
  have hS := am_S hK.2.1 hW hlo
  refine lv_aload_n hx hb d_law_304 rfl (lv_at hl 1 rfl) ?_
  refine lv_aload_n hx hb d_law_305 rfl (lv_at hl 3 rfl) ?_
  refine lv_iload_n hx hb d_law_306 rfl (lv_at hl 0 rfl) ?_
  refine lv_iconst (v := 1) hx hb d_law_307 (by decide) ?_
  refine lv_iadd hx hb d_law_308 ?_
  refine va_sld hx hb hXx hbl hbA hS (i := Int32.ofInt i + 1) (q_in1 hi (by omega)) d_law_309 ?_
  rw [e1]
  refine lv_aload_n hx hb d_law_310 rfl (lv_at hl 3 rfl) ?_
  refine lv_iload_n hx hb d_law_311 rfl (lv_at hl 0 rfl) ?_
  refine lv_iconst (v := 2) hx hb d_law_312 (by decide) ?_
  refine lv_iadd hx hb d_law_313 ?_
  refine va_sld hx hb hXx hbl hbA hS (i := Int32.ofInt i + 2) (q_in2 hi (by omega)) d_law_314 ?_
  rw [e2]
  refine gw_callV (G := (q_G l s dC dI aC pl)) (cc := code) (own := R_law) (nL := 4) (y2 := m_X9_meets) (n2 := 2) (d2 := 8) (mc2 := 0) (ms2 := 0) (a := 106) (ci := 9) (q := (RX9, TX9, 28)) (as := [gs_iv z1, gs_iv z2]) (rest := []) hx hb hml hown hts2 hK hW hlo hl.1 d_law_315 ok_X9_meets.1 (ri_lw_in (pl := 927) (by decide +kernel)) ok_X9_meets.2.1 ok_X9_meets.2.2 rfl rfl (by decide) (gs_en_obj _ _ (show gs_sh 106 = .inl (9, _) from rfl)) rfl (Nat.le_of_ble_eq_true rfl) (by decide) (by decide) (by show _ ≤ 600000; omega) (by show _ ≤ 7302249; omega) (c_X9_meets I1 r1 r2 X1 (q_G l s dC dI aC pl)) rfl (fun r N2 h2 H locs hp hW hlo => ?_)
  obtain ⟨F2, A2, n2, h2, v2, w2, I2, f2, x2⟩ := hp
  subst n2 h2 w2
  have X2 := gs_X_fr X1 (f2.1 106 3 (by first | exact id | (dsimp only; omega))) (f2.2 108 (by first | exact id | (dsimp only; omega)))
  have a2_0_11 := f2.1 0 11 (by first | exact id | omega | (dsimp only; omega) | (dsimp only))
  have a2_0_12 := f2.1 0 12 (by first | exact id | omega | (dsimp only; omega) | (dsimp only))
  have a2_5_0 := f2.1 5 0 (by first | exact id | omega | (dsimp only; omega) | (dsimp only))
  have a2_3_1 := f2.1 3 1 (by first | exact id | omega | (dsimp only; omega) | (dsimp only))
  have a2_43_0 := f2.1 43 0 (by first | exact id | omega | (dsimp only; omega) | (dsimp only))
  have a2_106_0 := f2.1 106 0 (by first | exact id | omega | (dsimp only; omega) | (dsimp only))
  have a2_106_1 := f2.1 106 1 (by first | exact id | omega | (dsimp only; omega) | (dsimp only))
  have a2_106_3 := f2.1 106 3 (by first | exact id | omega | (dsimp only; omega) | (dsimp only))
  have a2_106_17 := f2.1 106 17 (by first | exact id | omega | (dsimp only; omega) | (dsimp only))
  have a2_43_1 := f2.1 43 1 (by first | exact id | omega | (dsimp only; omega) | (dsimp only))
  have a2_106_20 := f2.1 106 20 (by first | exact id | omega | (dsimp only; omega) | (dsimp only))
  have b2_4 := f2.2 4 (by first | exact id | omega | (dsimp only; omega) | (dsimp only))
  have b2_107 := f2.2 107 (by first | exact id | omega | (dsimp only; omega) | (dsimp only))
  have b2_108 := f2.2 108 (by first | exact id | omega | (dsimp only; omega) | (dsimp only))
  have b2_109 := f2.2 109 (by first | exact id | omega | (dsimp only; omega) | (dsimp only))
  have b2_46 := f2.2 46 (by first | exact id | omega | (dsimp only; omega) | (dsimp only))
  have b2_116 := f2.2 116 (by first | exact id | omega | (dsimp only; omega) | (dsimp only))
  have b2_110 := f2.2 110 (by first | exact id | omega | (dsimp only; omega) | (dsimp only))
  have b2_111 := f2.2 111 (by first | exact id | omega | (dsimp only; omega) | (dsimp only))
  have b2_117 := f2.2 117 (by first | exact id | omega | (dsimp only; omega) | (dsimp only))
  have b2_118 := f2.2 118 (by first | exact id | omega | (dsimp only; omega) | (dsimp only))
  have b2_6 := f2.2 6 (by first | exact id | omega | (dsimp only; omega) | (dsimp only))
  have R2a : gs_R1 F2 A2 := gs_R1_mk hR1 (by omega) (by omega) (by omega) (by omega) (by omega) (b2_4.trans b1_4) (b2_107.trans b1_107) (by omega)
  have hF3 : ∀ c j, 54 ≤ c → c < 90 → F2 c j = F c j := fun c j q1 q2 => (f2.1 c j (by first | exact id | (dsimp only; omega))).trans (f1.1 c j (by first | exact id | (dsimp only; omega)))
  have hA3 : ∀ c, 54 ≤ c → c < 90 → A2 c = A c := fun c q1 q2 => (f2.2 c (by first | exact id | (dsimp only; omega))).trans (f1.2 c (by first | exact id | (dsimp only; omega)))
  have R2c : gs_R3 F2 A2 := gs_R3_fr hR3 hI (by omega) hF3 hA3 (b2_108.trans b1_108) (b2_109.trans b1_109)
  have R2a0 : gs_R13 F2 A2 := ⟨R2a, R2c⟩
  have R2a := R2a0
  have R2t : gs_Rt F2 A2 := gs_Rt_fr hRt (by omega) (by omega) (by omega) (b2_46.trans b1_46) (b2_116.trans b1_116)
  have hF9 : ∀ c j, 90 ≤ c → c < 106 → F2 c j = F c j := fun c j q1 q2 => (f2.1 c j (by first | exact id | (dsimp only; omega))).trans (f1.1 c j (by first | exact id | (dsimp only; omega)))
  have hA9 : ∀ c, 90 ≤ c → c < 106 → A2 c = A c := fun c q1 q2 => (f2.2 c (by first | exact id | (dsimp only; omega))).trans (f1.2 c (by first | exact id | (dsimp only; omega)))
  have R2p : gs_Rp F2 A2 := gs_Rp_fr hRp hI (by omega) hF9 hA9 (gs_k8_fr (b2_110.trans b1_110) (b2_111.trans b1_111))
  have R2q : gs_R123 F2 A2 := ⟨R2a, R2t, R2p⟩
  have R2w : gs_W (A2 6) (F2 0 11) := by
    rw [b2_6, b1_6, a2_0_11, a1_0_11]
    exact hRw
  have R2u : gs_R1234 F2 A2 := ⟨R2q, R2w⟩
  have R2v : gs_Rv F2 A2 := gs_Rv_fr hRv (by omega) (by omega) (by omega) (b2_107.trans b1_107) (b2_108.trans b1_108) (b2_109.trans b1_109)
  have R2t2 : gs_R5 F2 A2 := ⟨R2u, R2v⟩
  have R2s : gs_R6 F2 A2 := gs_R6_fr hR6 (by omega) (by omega) hF3 hA3
  have R2 : gs_R5m F2 A2 := ⟨R2t2, R2s⟩
  refine W.eq (g2 := F0 m 318 ls [.int (Int32.ofInt v2)]) rfl ?_
  refine lv_pop hx hb d_law_318 rfl ?_
  refine lv_goto (tgt := 1111) hx hb d_law_319 (by decide) ?_
  exact kk _ _ _ _ _ I2 ⟨X2, R2⟩ hW hlo hl
theorem q_op6 {p : Program} {e : Env} {s : State} {m : MethodId} {below : List Frame} {meth : Method} {c : Code} {b L : Nat} {xs : Nat → Int32} {l : Launch} {dC : Nat → ClassId} {dI : Nat → Nat → Nat} {aC : Nat → ClassId} {pl : Nat} (hL : L ≤ 2560) (C0 : lw_At p s m meth c b L xs) (hK : am_K (q_G l s dC dI aC pl) s) {n : Nat} (hn : n ≤ 1000000) {i : Int} (hi : 0 ≤ i ∧ i + 5 ≤ L) (kk : (∀ (F A : gs_F) (H : Heap) (locs : List Loc) (ls : Array Slot), gs_I F A → ((∀ r : Nat, (r : Int) < F 106 3 → 1 ≤ A 108 r) ∧ gs_R5m F A) → am_W (q_G l s dC dI aC pl) 122 (gs_en F A) H → (∀ q ∈ locs, s.heap.size ≤ q.base) → lv_has ls 4 [(3, .int (Int32.ofInt i)), (2, .ref (s.heap.size + 106)), (1, .ref (s.heap.size + 0)), (0, .ref b)] → W p l e room_1 s m #[Value.ref b] below meth c H locs 122 n (lw_Z below #[Value.ref b] s) (F0 m 1111 ls []))) {F A : gs_F} {H : Heap} {locs : List Loc} {ls : Array Slot} (hI : gs_I F A) (hX : (∀ r : Nat, (r : Int) < F 106 3 → 1 ≤ A 108 r) ∧ gs_R5m F A) (hW : am_W (q_G l s dC dI aC pl) 122 (gs_en F A) H) (hlo : ∀ q ∈ locs, s.heap.size ≤ q.base) (hl : lv_has ls 4 [(3, .int (Int32.ofInt i)), (2, .ref (s.heap.size + 106)), (1, .ref (s.heap.size + 0)), (0, .ref b)]) : W p l e room_1 s m #[Value.ref b] below meth c H locs 122 n (lw_Z below #[Value.ref b] s) (F0 m 322 ls []) := by
  obtain ⟨hx, hb, hr, hml, hown, hts, hXx, hbl, hlocks, hgv⟩ := C0
  obtain ⟨hX, hR⟩ := hX
  obtain ⟨hR, hR6⟩ := hR
  obtain ⟨hR, hRv⟩ := hR
  obtain ⟨hR, hRw⟩ := hR
  obtain ⟨hR, hRt, hRp⟩ := hR
  obtain ⟨hR1, hR3⟩ := hR
  have hR0 := hR1
  obtain ⟨R_1, R_2, R_3, R_4, R_5, R_6, _⟩ := hR0
  have R_0 : (0 : Int) ≤ F 106 1 ∧ F 106 1 ≤ 60 := hI.1 106 1
  have R_c : (0 : Int) ≤ F 106 3 ∧ F 106 3 ≤ 12 := hI.1 106 3
  have R_d : (0 : Int) ≤ F 0 12 ∧ F 0 12 ≤ 12 := hI.1 0 12
  have R_t := hRt.1
  have hg0 : (1 : Int) ≤ F 106 0 ∧ F 106 0 ≤ 3 := hI.1 106 0
  have hts2 := am_hts hts
  have hbA : ¬ (fun q : Nat => s.heap.size ≤ q) b := Nat.not_le.mpr hbl
  obtain ⟨z1, e1, r1⟩ := q_val (xs (Int32.ofInt i + 1).toNatClampNeg)
  obtain ⟨z2, e2, r2⟩ := q_val (xs (Int32.ofInt i + 2).toNatClampNeg)
  have hS := am_S hK.2.1 hW hlo
  refine lv_aload_n hx hb d_law_322 rfl (lv_at hl 2 rfl) ?_
  refine lv_aload_n hx hb d_law_323 rfl (lv_at hl 3 rfl) ?_
  refine lv_iload_n hx hb d_law_324 rfl (lv_at hl 0 rfl) ?_
  refine lv_iconst (v := 1) hx hb d_law_325 (by decide) ?_
  refine lv_iadd hx hb d_law_326 ?_
  refine va_sld hx hb hXx hbl hbA hS (i := Int32.ofInt i + 1) (q_in1 hi (by omega)) d_law_327 ?_
  rw [e1]
  refine lv_aload_n hx hb d_law_328 rfl (lv_at hl 3 rfl) ?_
  refine lv_iload_n hx hb d_law_329 rfl (lv_at hl 0 rfl) ?_
  refine lv_iconst (v := 2) hx hb d_law_330 (by decide) ?_
  refine lv_iadd hx hb d_law_331 ?_
  refine va_sld hx hb hXx hbl hbA hS (i := Int32.ofInt i + 2) (q_in2 hi (by omega)) d_law_332 ?_
  rw [e2]
  refine gw_callV (G := (q_G l s dC dI aC pl)) (cc := code) (own := R_law) (nL := 4) (y2 := m_X8_one) (n2 := 2) (d2 := 3) (mc2 := 0) (ms2 := 0) (a := 0) (ci := 8) (q := (RX8, TX8, 13)) (as := [gs_iv z1, gs_iv z2]) (rest := []) hx hb hml hown hts2 hK hW hlo hl.1 d_law_333 ok_X8_one.1 (ri_lw_in (pl := 475) (by decide +kernel)) ok_X8_one.2.1 ok_X8_one.2.2 rfl rfl (by decide) (gs_en_obj _ _ (show gs_sh 0 = .inl (8, _) from rfl)) rfl (Nat.le_of_ble_eq_true rfl) (by decide) (by decide) (by show _ ≤ 600000; omega) (by show _ ≤ 7302249; omega) (c_X8_one_vf hI r1 r2 (q_G l s dC dI aC pl)) rfl (fun r N2 h2 H locs hp hW hlo => ?_)
  obtain ⟨F1, A1, n1, h1, v1, w1, g1, k1, x1⟩ := hp
  subst n1 h1 w1
  have f1 : gs_fr (fun _ _ => False) (fun _ => False) F A F1 A1 := by rw [← g1, ← k1]; exact gs_fr_refl _ _ _ _
  have I1 : gs_I F1 A1 := by rw [← g1, ← k1]; exact hI
  have X1 := gs_X_fr hX (f1.1 106 3 (by first | exact id | (dsimp only; omega))) (f1.2 108 (by first | exact id | (dsimp only; omega)))
  have a1_0_11 := f1.1 0 11 (by first | exact id | omega | (dsimp only; omega) | (dsimp only))
  have a1_0_12 := f1.1 0 12 (by first | exact id | omega | (dsimp only; omega) | (dsimp only))
  have a1_5_0 := f1.1 5 0 (by first | exact id | omega | (dsimp only; omega) | (dsimp only))
  have a1_3_1 := f1.1 3 1 (by first | exact id | omega | (dsimp only; omega) | (dsimp only))
  have a1_43_0 := f1.1 43 0 (by first | exact id | omega | (dsimp only; omega) | (dsimp only))
  have a1_106_0 := f1.1 106 0 (by first | exact id | omega | (dsimp only; omega) | (dsimp only))
  have a1_106_1 := f1.1 106 1 (by first | exact id | omega | (dsimp only; omega) | (dsimp only))
  have a1_106_3 := f1.1 106 3 (by first | exact id | omega | (dsimp only; omega) | (dsimp only))
  have a1_106_17 := f1.1 106 17 (by first | exact id | omega | (dsimp only; omega) | (dsimp only))
  have a1_43_1 := f1.1 43 1 (by first | exact id | omega | (dsimp only; omega) | (dsimp only))
  have a1_106_20 := f1.1 106 20 (by first | exact id | omega | (dsimp only; omega) | (dsimp only))
  have b1_4 := f1.2 4 (by first | exact id | omega | (dsimp only; omega) | (dsimp only))
  have b1_107 := f1.2 107 (by first | exact id | omega | (dsimp only; omega) | (dsimp only))
  have b1_108 := f1.2 108 (by first | exact id | omega | (dsimp only; omega) | (dsimp only))
  have b1_109 := f1.2 109 (by first | exact id | omega | (dsimp only; omega) | (dsimp only))
  have b1_46 := f1.2 46 (by first | exact id | omega | (dsimp only; omega) | (dsimp only))
  have b1_116 := f1.2 116 (by first | exact id | omega | (dsimp only; omega) | (dsimp only))
  have b1_110 := f1.2 110 (by first | exact id | omega | (dsimp only; omega) | (dsimp only))
  have b1_111 := f1.2 111 (by first | exact id | omega | (dsimp only; omega) | (dsimp only))
  have b1_117 := f1.2 117 (by first | exact id | omega | (dsimp only; omega) | (dsimp only))
  have b1_118 := f1.2 118 (by first | exact id | omega | (dsimp only; omega) | (dsimp only))
  have b1_6 := f1.2 6 (by first | exact id | omega | (dsimp only; omega) | (dsimp only))
  refine W.eq (g2 := F0 m 336 ls [.int (Int32.ofInt v1)]) rfl ?_
  refine lv_pop hx hb d_law_336 rfl ?_
  have hS := am_S hK.2.1 hW hlo
  refine lv_aload_n hx hb d_law_337 rfl (lv_at hl 1 rfl) ?_
  refine lv_aload_n hx hb d_law_338 rfl (lv_at hl 3 rfl) ?_
  refine lv_iload_n hx hb d_law_339 rfl (lv_at hl 0 rfl) ?_
  refine lv_iconst (v := 1) hx hb d_law_340 (by decide) ?_
  refine lv_iadd hx hb d_law_341 ?_
  refine va_sld hx hb hXx hbl hbA hS (i := Int32.ofInt i + 1) (q_in1 hi (by omega)) d_law_342 ?_
  rw [e1]
  refine lv_aload_n hx hb d_law_343 rfl (lv_at hl 3 rfl) ?_
  refine lv_iload_n hx hb d_law_344 rfl (lv_at hl 0 rfl) ?_
  refine lv_iconst (v := 2) hx hb d_law_345 (by decide) ?_
  refine lv_iadd hx hb d_law_346 ?_
  refine va_sld hx hb hXx hbl hbA hS (i := Int32.ofInt i + 2) (q_in2 hi (by omega)) d_law_347 ?_
  rw [e2]
  refine gw_callV (G := (q_G l s dC dI aC pl)) (cc := code) (own := R_law) (nL := 4) (y2 := m_X9_one) (n2 := 2) (d2 := 4) (mc2 := 0) (ms2 := 0) (a := 106) (ci := 9) (q := (RX9, TX9, 28)) (as := [gs_iv z1, gs_iv z2]) (rest := []) hx hb hml hown hts2 hK hW hlo hl.1 d_law_348 ok_X9_one.1 (ri_lw_in (pl := 892) (by decide +kernel)) ok_X9_one.2.1 ok_X9_one.2.2 rfl rfl (by decide) (gs_en_obj _ _ (show gs_sh 106 = .inl (9, _) from rfl)) rfl (Nat.le_of_ble_eq_true rfl) (by decide) (by decide) (by show _ ≤ 600000; omega) (by show _ ≤ 7302249; omega) (c_X9_one_vf I1 r1 r2 X1 (q_G l s dC dI aC pl)) rfl (fun r N2 h2 H locs hp hW hlo => ?_)
  obtain ⟨F2, A2, n2, h2, v2, w2, I2, f2, x2⟩ := hp
  subst n2 h2 w2
  have X2 := gs_X_fr X1 (f2.1 106 3 (by first | exact id | (dsimp only; omega))) (f2.2 108 (by first | exact id | (dsimp only; omega)))
  have a2_0_11 := f2.1 0 11 (by first | exact id | omega | (dsimp only; omega) | (dsimp only))
  have a2_0_12 := f2.1 0 12 (by first | exact id | omega | (dsimp only; omega) | (dsimp only))
  have a2_5_0 := f2.1 5 0 (by first | exact id | omega | (dsimp only; omega) | (dsimp only))
  have a2_3_1 := f2.1 3 1 (by first | exact id | omega | (dsimp only; omega) | (dsimp only))
  have a2_43_0 := f2.1 43 0 (by first | exact id | omega | (dsimp only; omega) | (dsimp only))
  have a2_106_0 := f2.1 106 0 (by first | exact id | omega | (dsimp only; omega) | (dsimp only))
  have a2_106_1 := f2.1 106 1 (by first | exact id | omega | (dsimp only; omega) | (dsimp only))
  have a2_106_3 := f2.1 106 3 (by first | exact id | omega | (dsimp only; omega) | (dsimp only))
  have a2_106_17 := f2.1 106 17 (by first | exact id | omega | (dsimp only; omega) | (dsimp only))
  have a2_43_1 := f2.1 43 1 (by first | exact id | omega | (dsimp only; omega) | (dsimp only))
  have a2_106_20 := f2.1 106 20 (by first | exact id | omega | (dsimp only; omega) | (dsimp only))
  have b2_4 := f2.2 4 (by first | exact id | omega | (dsimp only; omega) | (dsimp only))
  have b2_107 := f2.2 107 (by first | exact id | omega | (dsimp only; omega) | (dsimp only))
  have b2_108 := f2.2 108 (by first | exact id | omega | (dsimp only; omega) | (dsimp only))
  have b2_109 := f2.2 109 (by first | exact id | omega | (dsimp only; omega) | (dsimp only))
  have b2_46 := f2.2 46 (by first | exact id | omega | (dsimp only; omega) | (dsimp only))
  have b2_116 := f2.2 116 (by first | exact id | omega | (dsimp only; omega) | (dsimp only))
  have b2_110 := f2.2 110 (by first | exact id | omega | (dsimp only; omega) | (dsimp only))
  have b2_111 := f2.2 111 (by first | exact id | omega | (dsimp only; omega) | (dsimp only))
  have b2_117 := f2.2 117 (by first | exact id | omega | (dsimp only; omega) | (dsimp only))
  have b2_118 := f2.2 118 (by first | exact id | omega | (dsimp only; omega) | (dsimp only))
  have b2_6 := f2.2 6 (by first | exact id | omega | (dsimp only; omega) | (dsimp only))
  have R2a : gs_R1 F2 A2 := gs_R1_mk hR1 (by omega) (by omega) (by omega) (by omega) (by omega) (b2_4.trans b1_4) (b2_107.trans b1_107) (by omega)
  have hF3 : ∀ c j, 54 ≤ c → c < 90 → F2 c j = F c j := fun c j q1 q2 => (f2.1 c j (by first | exact id | (dsimp only; omega))).trans (f1.1 c j (by first | exact id | (dsimp only; omega)))
  have hA3 : ∀ c, 54 ≤ c → c < 90 → A2 c = A c := fun c q1 q2 => (f2.2 c (by first | exact id | (dsimp only; omega))).trans (f1.2 c (by first | exact id | (dsimp only; omega)))
  have R2c : gs_R3 F2 A2 := gs_R3_fr hR3 hI (by omega) hF3 hA3 (b2_108.trans b1_108) (b2_109.trans b1_109)
  have R2a0 : gs_R13 F2 A2 := ⟨R2a, R2c⟩
  have R2a := R2a0
  have R2t : gs_Rt F2 A2 := gs_Rt_fr hRt (by omega) (by omega) (by omega) (b2_46.trans b1_46) (b2_116.trans b1_116)
  have hF9 : ∀ c j, 90 ≤ c → c < 106 → F2 c j = F c j := fun c j q1 q2 => (f2.1 c j (by first | exact id | (dsimp only; omega))).trans (f1.1 c j (by first | exact id | (dsimp only; omega)))
  have hA9 : ∀ c, 90 ≤ c → c < 106 → A2 c = A c := fun c q1 q2 => (f2.2 c (by first | exact id | (dsimp only; omega))).trans (f1.2 c (by first | exact id | (dsimp only; omega)))
  have R2p : gs_Rp F2 A2 := gs_Rp_fr hRp hI (by omega) hF9 hA9 (gs_k8_fr (b2_110.trans b1_110) (b2_111.trans b1_111))
  have R2q : gs_R123 F2 A2 := ⟨R2a, R2t, R2p⟩
  have R2w : gs_W (A2 6) (F2 0 11) := by
    rw [b2_6, b1_6, a2_0_11, a1_0_11]
    exact hRw
  have R2u : gs_R1234 F2 A2 := ⟨R2q, R2w⟩
  have R2v : gs_Rv F2 A2 := gs_Rv_fr hRv (by omega) (by omega) (by omega) (b2_107.trans b1_107) (b2_108.trans b1_108) (b2_109.trans b1_109)
  have R2t2 : gs_R5 F2 A2 := ⟨R2u, R2v⟩
  have R2s : gs_R6 F2 A2 := gs_R6_fr hR6 (by omega) (by omega) hF3 hA3
  have R2 : gs_R5m F2 A2 := ⟨R2t2, R2s⟩
  refine W.eq (g2 := F0 m 351 ls [.int (Int32.ofInt v2)]) rfl ?_
  refine lv_pop hx hb d_law_351 rfl ?_
  refine lv_goto (tgt := 1111) hx hb d_law_352 (by decide) ?_
  exact kk _ _ _ _ _ I2 ⟨X2, R2⟩ hW hlo hl
theorem q_op7 {p : Program} {e : Env} {s : State} {m : MethodId} {below : List Frame} {meth : Method} {c : Code} {b L : Nat} {xs : Nat → Int32} {l : Launch} {dC : Nat → ClassId} {dI : Nat → Nat → Nat} {aC : Nat → ClassId} {pl : Nat} (hL : L ≤ 2560) (C0 : lw_At p s m meth c b L xs) (hK : am_K (q_G l s dC dI aC pl) s) {n : Nat} (hn : n ≤ 1000000) {i : Int} (hi : 0 ≤ i ∧ i + 5 ≤ L) (kk : (∀ (F A : gs_F) (H : Heap) (locs : List Loc) (ls : Array Slot), gs_I F A → ((∀ r : Nat, (r : Int) < F 106 3 → 1 ≤ A 108 r) ∧ gs_R5m F A) → am_W (q_G l s dC dI aC pl) 122 (gs_en F A) H → (∀ q ∈ locs, s.heap.size ≤ q.base) → lv_has ls 4 [(3, .int (Int32.ofInt i)), (2, .ref (s.heap.size + 106)), (1, .ref (s.heap.size + 0)), (0, .ref b)] → W p l e room_1 s m #[Value.ref b] below meth c H locs 122 n (lw_Z below #[Value.ref b] s) (F0 m 1111 ls []))) {F A : gs_F} {H : Heap} {locs : List Loc} {ls : Array Slot} (hI : gs_I F A) (hX : (∀ r : Nat, (r : Int) < F 106 3 → 1 ≤ A 108 r) ∧ gs_R5m F A) (hW : am_W (q_G l s dC dI aC pl) 122 (gs_en F A) H) (hlo : ∀ q ∈ locs, s.heap.size ≤ q.base) (hl : lv_has ls 4 [(3, .int (Int32.ofInt i)), (2, .ref (s.heap.size + 106)), (1, .ref (s.heap.size + 0)), (0, .ref b)]) : W p l e room_1 s m #[Value.ref b] below meth c H locs 122 n (lw_Z below #[Value.ref b] s) (F0 m 355 ls []) := by
  obtain ⟨hx, hb, hr, hml, hown, hts, hXx, hbl, hlocks, hgv⟩ := C0
  obtain ⟨hX, hR⟩ := hX
  obtain ⟨hR, hR6⟩ := hR
  obtain ⟨hR, hRv⟩ := hR
  obtain ⟨hR, hRw⟩ := hR
  obtain ⟨hR, hRt, hRp⟩ := hR
  obtain ⟨hR1, hR3⟩ := hR
  have hR0 := hR1
  obtain ⟨R_1, R_2, R_3, R_4, R_5, R_6, _⟩ := hR0
  have R_0 : (0 : Int) ≤ F 106 1 ∧ F 106 1 ≤ 60 := hI.1 106 1
  have R_c : (0 : Int) ≤ F 106 3 ∧ F 106 3 ≤ 12 := hI.1 106 3
  have R_d : (0 : Int) ≤ F 0 12 ∧ F 0 12 ≤ 12 := hI.1 0 12
  have R_t := hRt.1
  have hg0 : (1 : Int) ≤ F 106 0 ∧ F 106 0 ≤ 3 := hI.1 106 0
  have hts2 := am_hts hts
  have hbA : ¬ (fun q : Nat => s.heap.size ≤ q) b := Nat.not_le.mpr hbl
  obtain ⟨z1, e1, r1⟩ := q_val (xs (Int32.ofInt i + 1).toNatClampNeg)
  have hS := am_S hK.2.1 hW hlo
  refine lv_aload_n hx hb d_law_355 rfl (lv_at hl 2 rfl) ?_
  refine lv_aload_n hx hb d_law_356 rfl (lv_at hl 3 rfl) ?_
  refine lv_iload_n hx hb d_law_357 rfl (lv_at hl 0 rfl) ?_
  refine lv_iconst (v := 1) hx hb d_law_358 (by decide) ?_
  refine lv_iadd hx hb d_law_359 ?_
  refine va_sld hx hb hXx hbl hbA hS (i := Int32.ofInt i + 1) (q_in1 hi (by omega)) d_law_360 ?_
  rw [e1]
  refine gw_callV (G := (q_G l s dC dI aC pl)) (cc := code) (own := R_law) (nL := 4) (y2 := m_X8_heap) (n2 := 1) (d2 := 7) (mc2 := 0) (ms2 := 0) (a := 0) (ci := 8) (q := (RX8, TX8, 13)) (as := [gs_iv z1]) (rest := []) hx hb hml hown hts2 hK hW hlo hl.1 d_law_361 ok_X8_heap.1 (ri_lw_in (pl := 491) (by decide +kernel)) ok_X8_heap.2.1 ok_X8_heap.2.2 rfl rfl (by decide) (gs_en_obj _ _ (show gs_sh 0 = .inl (8, _) from rfl)) rfl (Nat.le_of_ble_eq_true rfl) (by decide) (by decide) (by show _ ≤ 600000; omega) (by show _ ≤ 7302249; omega) (c_X8_heap hI r1 (q_G l s dC dI aC pl)) rfl (fun r N2 h2 H locs hp hW hlo => ?_)
  obtain ⟨F1, A1, n1, h1, v1, w1, I1, f1, x1⟩ := hp
  subst n1 h1 w1
  have X1 := gs_X_fr hX (f1.1 106 3 (by first | exact id | (dsimp only; omega))) (f1.2 108 (by first | exact id | (dsimp only; omega)))
  have a1_0_11 := f1.1 0 11 (by first | exact id | omega | (dsimp only; omega) | (dsimp only))
  have a1_0_12 := f1.1 0 12 (by first | exact id | omega | (dsimp only; omega) | (dsimp only))
  have a1_5_0 := f1.1 5 0 (by first | exact id | omega | (dsimp only; omega) | (dsimp only))
  have a1_3_1 := f1.1 3 1 (by first | exact id | omega | (dsimp only; omega) | (dsimp only))
  have a1_43_0 := f1.1 43 0 (by first | exact id | omega | (dsimp only; omega) | (dsimp only))
  have a1_106_0 := f1.1 106 0 (by first | exact id | omega | (dsimp only; omega) | (dsimp only))
  have a1_106_1 := f1.1 106 1 (by first | exact id | omega | (dsimp only; omega) | (dsimp only))
  have a1_106_3 := f1.1 106 3 (by first | exact id | omega | (dsimp only; omega) | (dsimp only))
  have a1_106_17 := f1.1 106 17 (by first | exact id | omega | (dsimp only; omega) | (dsimp only))
  have a1_43_1 := f1.1 43 1 (by first | exact id | omega | (dsimp only; omega) | (dsimp only))
  have a1_106_20 := f1.1 106 20 (by first | exact id | omega | (dsimp only; omega) | (dsimp only))
  have b1_4 := f1.2 4 (by first | exact id | omega | (dsimp only; omega) | (dsimp only))
  have b1_107 := f1.2 107 (by first | exact id | omega | (dsimp only; omega) | (dsimp only))
  have b1_108 := f1.2 108 (by first | exact id | omega | (dsimp only; omega) | (dsimp only))
  have b1_109 := f1.2 109 (by first | exact id | omega | (dsimp only; omega) | (dsimp only))
  have b1_46 := f1.2 46 (by first | exact id | omega | (dsimp only; omega) | (dsimp only))
  have b1_116 := f1.2 116 (by first | exact id | omega | (dsimp only; omega) | (dsimp only))
  have b1_110 := f1.2 110 (by first | exact id | omega | (dsimp only; omega) | (dsimp only))
  have b1_111 := f1.2 111 (by first | exact id | omega | (dsimp only; omega) | (dsimp only))
  have b1_117 := f1.2 117 (by first | exact id | omega | (dsimp only; omega) | (dsimp only))
  have b1_118 := f1.2 118 (by first | exact id | omega | (dsimp only; omega) | (dsimp only))
  have b1_6 := f1.2 6 (by first | exact id | omega | (dsimp only; omega) | (dsimp only))
  refine W.eq (g2 := F0 m 364 ls [.int (Int32.ofInt v1)]) rfl ?_
  refine lv_pop hx hb d_law_364 rfl ?_
  have hS := am_S hK.2.1 hW hlo
  refine lv_aload_n hx hb d_law_365 rfl (lv_at hl 1 rfl) ?_
  refine lv_aload_n hx hb d_law_366 rfl (lv_at hl 3 rfl) ?_
  refine lv_iload_n hx hb d_law_367 rfl (lv_at hl 0 rfl) ?_
  refine lv_iconst (v := 1) hx hb d_law_368 (by decide) ?_
  refine lv_iadd hx hb d_law_369 ?_
  refine va_sld hx hb hXx hbl hbA hS (i := Int32.ofInt i + 1) (q_in1 hi (by omega)) d_law_370 ?_
  rw [e1]
  refine gw_callV (G := (q_G l s dC dI aC pl)) (cc := code) (own := R_law) (nL := 4) (y2 := m_X9_heap) (n2 := 1) (d2 := 9) (mc2 := 0) (ms2 := 0) (a := 106) (ci := 9) (q := (RX9, TX9, 28)) (as := [gs_iv z1]) (rest := []) hx hb hml hown hts2 hK hW hlo hl.1 d_law_371 ok_X9_heap.1 (ri_lw_in (pl := 978) (by decide +kernel)) ok_X9_heap.2.1 ok_X9_heap.2.2 rfl rfl (by decide) (gs_en_obj _ _ (show gs_sh 106 = .inl (9, _) from rfl)) rfl (Nat.le_of_ble_eq_true rfl) (by decide) (by decide) (by show _ ≤ 600000; omega) (by show _ ≤ 7302249; omega) (c_X9_heap I1 r1 X1 (q_G l s dC dI aC pl)) rfl (fun r N2 h2 H locs hp hW hlo => ?_)
  obtain ⟨F2, A2, n2, h2, v2, w2, I2, f2, x2⟩ := hp
  subst n2 h2 w2
  have X2 := gs_X_fr X1 (f2.1 106 3 (by first | exact id | (dsimp only; omega))) (f2.2 108 (by first | exact id | (dsimp only; omega)))
  have a2_0_11 := f2.1 0 11 (by first | exact id | omega | (dsimp only; omega) | (dsimp only))
  have a2_0_12 := f2.1 0 12 (by first | exact id | omega | (dsimp only; omega) | (dsimp only))
  have a2_5_0 := f2.1 5 0 (by first | exact id | omega | (dsimp only; omega) | (dsimp only))
  have a2_3_1 := f2.1 3 1 (by first | exact id | omega | (dsimp only; omega) | (dsimp only))
  have a2_43_0 := f2.1 43 0 (by first | exact id | omega | (dsimp only; omega) | (dsimp only))
  have a2_106_0 := f2.1 106 0 (by first | exact id | omega | (dsimp only; omega) | (dsimp only))
  have a2_106_1 := f2.1 106 1 (by first | exact id | omega | (dsimp only; omega) | (dsimp only))
  have a2_106_3 := f2.1 106 3 (by first | exact id | omega | (dsimp only; omega) | (dsimp only))
  have a2_106_17 := f2.1 106 17 (by first | exact id | omega | (dsimp only; omega) | (dsimp only))
  have a2_43_1 := f2.1 43 1 (by first | exact id | omega | (dsimp only; omega) | (dsimp only))
  have a2_106_20 := f2.1 106 20 (by first | exact id | omega | (dsimp only; omega) | (dsimp only))
  have b2_4 := f2.2 4 (by first | exact id | omega | (dsimp only; omega) | (dsimp only))
  have b2_107 := f2.2 107 (by first | exact id | omega | (dsimp only; omega) | (dsimp only))
  have b2_108 := f2.2 108 (by first | exact id | omega | (dsimp only; omega) | (dsimp only))
  have b2_109 := f2.2 109 (by first | exact id | omega | (dsimp only; omega) | (dsimp only))
  have b2_46 := f2.2 46 (by first | exact id | omega | (dsimp only; omega) | (dsimp only))
  have b2_116 := f2.2 116 (by first | exact id | omega | (dsimp only; omega) | (dsimp only))
  have b2_110 := f2.2 110 (by first | exact id | omega | (dsimp only; omega) | (dsimp only))
  have b2_111 := f2.2 111 (by first | exact id | omega | (dsimp only; omega) | (dsimp only))
  have b2_117 := f2.2 117 (by first | exact id | omega | (dsimp only; omega) | (dsimp only))
  have b2_118 := f2.2 118 (by first | exact id | omega | (dsimp only; omega) | (dsimp only))
  have b2_6 := f2.2 6 (by first | exact id | omega | (dsimp only; omega) | (dsimp only))
  have R2a : gs_R1 F2 A2 := gs_R1_mk hR1 (by omega) (by omega) (by omega) (by omega) (by omega) (b2_4.trans b1_4) (b2_107.trans b1_107) (by omega)
  have hF3 : ∀ c j, 54 ≤ c → c < 90 → F2 c j = F c j := fun c j q1 q2 => (f2.1 c j (by first | exact id | (dsimp only; omega))).trans (f1.1 c j (by first | exact id | (dsimp only; omega)))
  have hA3 : ∀ c, 54 ≤ c → c < 90 → A2 c = A c := fun c q1 q2 => (f2.2 c (by first | exact id | (dsimp only; omega))).trans (f1.2 c (by first | exact id | (dsimp only; omega)))
  have R2c : gs_R3 F2 A2 := gs_R3_fr hR3 hI (by omega) hF3 hA3 (b2_108.trans b1_108) (b2_109.trans b1_109)
  have R2a0 : gs_R13 F2 A2 := ⟨R2a, R2c⟩
  have R2a := R2a0
  have R2t : gs_Rt F2 A2 := gs_Rt_fr hRt (by omega) (by omega) (by omega) (b2_46.trans b1_46) (b2_116.trans b1_116)
  have hF9 : ∀ c j, 90 ≤ c → c < 106 → F2 c j = F c j := fun c j q1 q2 => (f2.1 c j (by first | exact id | (dsimp only; omega))).trans (f1.1 c j (by first | exact id | (dsimp only; omega)))
  have hA9 : ∀ c, 90 ≤ c → c < 106 → A2 c = A c := fun c q1 q2 => (f2.2 c (by first | exact id | (dsimp only; omega))).trans (f1.2 c (by first | exact id | (dsimp only; omega)))
  have R2p : gs_Rp F2 A2 := gs_Rp_fr hRp hI (by omega) hF9 hA9 (gs_k8_fr (b2_110.trans b1_110) (b2_111.trans b1_111))
  have R2q : gs_R123 F2 A2 := ⟨R2a, R2t, R2p⟩
  have R2w : gs_W (A2 6) (F2 0 11) := by
    rw [b2_6, b1_6, a2_0_11, a1_0_11]
    exact hRw
  have R2u : gs_R1234 F2 A2 := ⟨R2q, R2w⟩
  have R2v : gs_Rv F2 A2 := gs_Rv_fr hRv (by omega) (by omega) (by omega) (b2_107.trans b1_107) (b2_108.trans b1_108) (b2_109.trans b1_109)
  have R2t2 : gs_R5 F2 A2 := ⟨R2u, R2v⟩
  have R2s : gs_R6 F2 A2 := gs_R6_fr hR6 (by omega) (by omega) hF3 hA3
  have R2 : gs_R5m F2 A2 := ⟨R2t2, R2s⟩
  refine W.eq (g2 := F0 m 374 ls [.int (Int32.ofInt v2)]) rfl ?_
  refine lv_pop hx hb d_law_374 rfl ?_
  refine lv_goto (tgt := 1111) hx hb d_law_375 (by decide) ?_
  exact kk _ _ _ _ _ I2 ⟨X2, R2⟩ hW hlo hl
theorem q_op8 {p : Program} {e : Env} {s : State} {m : MethodId} {below : List Frame} {meth : Method} {c : Code} {b L : Nat} {xs : Nat → Int32} {l : Launch} {dC : Nat → ClassId} {dI : Nat → Nat → Nat} {aC : Nat → ClassId} {pl : Nat} (hL : L ≤ 2560) (C0 : lw_At p s m meth c b L xs) (hK : am_K (q_G l s dC dI aC pl) s) {n : Nat} (hn : n ≤ 1000000) {i : Int} (hi : 0 ≤ i ∧ i + 5 ≤ L) (kk : (∀ (F A : gs_F) (H : Heap) (locs : List Loc) (ls : Array Slot), gs_I F A → ((∀ r : Nat, (r : Int) < F 106 3 → 1 ≤ A 108 r) ∧ gs_R5m F A) → am_W (q_G l s dC dI aC pl) 122 (gs_en F A) H → (∀ q ∈ locs, s.heap.size ≤ q.base) → lv_has ls 4 [(3, .int (Int32.ofInt i)), (2, .ref (s.heap.size + 106)), (1, .ref (s.heap.size + 0)), (0, .ref b)] → W p l e room_1 s m #[Value.ref b] below meth c H locs 122 n (lw_Z below #[Value.ref b] s) (F0 m 1111 ls []))) {F A : gs_F} {H : Heap} {locs : List Loc} {ls : Array Slot} (hI : gs_I F A) (hX : (∀ r : Nat, (r : Int) < F 106 3 → 1 ≤ A 108 r) ∧ gs_R5m F A) (hW : am_W (q_G l s dC dI aC pl) 122 (gs_en F A) H) (hlo : ∀ q ∈ locs, s.heap.size ≤ q.base) (hl : lv_has ls 4 [(3, .int (Int32.ofInt i)), (2, .ref (s.heap.size + 106)), (1, .ref (s.heap.size + 0)), (0, .ref b)]) : W p l e room_1 s m #[Value.ref b] below meth c H locs 122 n (lw_Z below #[Value.ref b] s) (F0 m 378 ls []) := by
  obtain ⟨hx, hb, hr, hml, hown, hts, hXx, hbl, hlocks, hgv⟩ := C0
  obtain ⟨hX, hR⟩ := hX
  obtain ⟨hR, hR6⟩ := hR
  obtain ⟨hR, hRv⟩ := hR
  obtain ⟨hR, hRw⟩ := hR
  obtain ⟨hR, hRt, hRp⟩ := hR
  obtain ⟨hR1, hR3⟩ := hR
  have hR0 := hR1
  obtain ⟨R_1, R_2, R_3, R_4, R_5, R_6, _⟩ := hR0
  have R_0 : (0 : Int) ≤ F 106 1 ∧ F 106 1 ≤ 60 := hI.1 106 1
  have R_c : (0 : Int) ≤ F 106 3 ∧ F 106 3 ≤ 12 := hI.1 106 3
  have R_d : (0 : Int) ≤ F 0 12 ∧ F 0 12 ≤ 12 := hI.1 0 12
  have R_t := hRt.1
  have hg0 : (1 : Int) ≤ F 106 0 ∧ F 106 0 ≤ 3 := hI.1 106 0
  have hts2 := am_hts hts
  have hbA : ¬ (fun q : Nat => s.heap.size ≤ q) b := Nat.not_le.mpr hbl
  have hS := am_S hK.2.1 hW hlo
  refine lv_aload_n hx hb d_law_378 rfl (lv_at hl 2 rfl) ?_
  refine gw_callV (G := (q_G l s dC dI aC pl)) (cc := code) (own := R_law) (nL := 4) (y2 := m_X8_drop) (n2 := 0) (d2 := 1) (mc2 := 0) (ms2 := 0) (a := 0) (ci := 8) (q := (RX8, TX8, 13)) (as := []) (rest := []) hx hb hml hown hts2 hK hW hlo hl.1 d_law_379 ok_X8_drop.1 (ri_lw_in (pl := 499) (by decide +kernel)) ok_X8_drop.2.1 ok_X8_drop.2.2 rfl rfl (by decide) (gs_en_obj _ _ (show gs_sh 0 = .inl (8, _) from rfl)) rfl (Nat.le_of_ble_eq_true rfl) (by decide) (by decide) (by show _ ≤ 600000; omega) (by show _ ≤ 7302249; omega) (c_X8_drop hI  (q_G l s dC dI aC pl)) rfl (fun r N2 h2 H locs hp hW hlo => ?_)
  obtain ⟨F1, A1, n1, h1, v1, w1, I1, f1, x1⟩ := hp
  subst n1 h1 w1
  have X1 := gs_X_fr hX (f1.1 106 3 (by first | exact id | (dsimp only; omega))) (f1.2 108 (by first | exact id | (dsimp only; omega)))
  have a1_0_11 := f1.1 0 11 (by first | exact id | omega | (dsimp only; omega) | (dsimp only))
  have a1_5_0 := f1.1 5 0 (by first | exact id | omega | (dsimp only; omega) | (dsimp only))
  have a1_3_1 := f1.1 3 1 (by first | exact id | omega | (dsimp only; omega) | (dsimp only))
  have a1_43_0 := f1.1 43 0 (by first | exact id | omega | (dsimp only; omega) | (dsimp only))
  have a1_106_0 := f1.1 106 0 (by first | exact id | omega | (dsimp only; omega) | (dsimp only))
  have a1_106_1 := f1.1 106 1 (by first | exact id | omega | (dsimp only; omega) | (dsimp only))
  have a1_106_3 := f1.1 106 3 (by first | exact id | omega | (dsimp only; omega) | (dsimp only))
  have a1_106_17 := f1.1 106 17 (by first | exact id | omega | (dsimp only; omega) | (dsimp only))
  have a1_43_1 := f1.1 43 1 (by first | exact id | omega | (dsimp only; omega) | (dsimp only))
  have a1_106_20 := f1.1 106 20 (by first | exact id | omega | (dsimp only; omega) | (dsimp only))
  have b1_4 := f1.2 4 (by first | exact id | omega | (dsimp only; omega) | (dsimp only))
  have b1_107 := f1.2 107 (by first | exact id | omega | (dsimp only; omega) | (dsimp only))
  have b1_108 := f1.2 108 (by first | exact id | omega | (dsimp only; omega) | (dsimp only))
  have b1_109 := f1.2 109 (by first | exact id | omega | (dsimp only; omega) | (dsimp only))
  have b1_46 := f1.2 46 (by first | exact id | omega | (dsimp only; omega) | (dsimp only))
  have b1_116 := f1.2 116 (by first | exact id | omega | (dsimp only; omega) | (dsimp only))
  have b1_110 := f1.2 110 (by first | exact id | omega | (dsimp only; omega) | (dsimp only))
  have b1_111 := f1.2 111 (by first | exact id | omega | (dsimp only; omega) | (dsimp only))
  have b1_117 := f1.2 117 (by first | exact id | omega | (dsimp only; omega) | (dsimp only))
  have b1_118 := f1.2 118 (by first | exact id | omega | (dsimp only; omega) | (dsimp only))
  have b1_6 := f1.2 6 (by first | exact id | omega | (dsimp only; omega) | (dsimp only))
  refine W.eq (g2 := F0 m 382 ls [.int (Int32.ofInt v1)]) rfl ?_
  refine lv_pop hx hb d_law_382 rfl ?_
  have hS := am_S hK.2.1 hW hlo
  refine lv_aload_n hx hb d_law_383 rfl (lv_at hl 1 rfl) ?_
  refine gw_callV (G := (q_G l s dC dI aC pl)) (cc := code) (own := R_law) (nL := 4) (y2 := m_X9_drop) (n2 := 0) (d2 := 1) (mc2 := 0) (ms2 := 0) (a := 106) (ci := 9) (q := (RX9, TX9, 28)) (as := []) (rest := []) hx hb hml hown hts2 hK hW hlo hl.1 d_law_384 ok_X9_drop.1 (ri_lw_in (pl := 888) (by decide +kernel)) ok_X9_drop.2.1 ok_X9_drop.2.2 rfl rfl (by decide) (gs_en_obj _ _ (show gs_sh 106 = .inl (9, _) from rfl)) rfl (Nat.le_of_ble_eq_true rfl) (by decide) (by decide) (by show _ ≤ 600000; omega) (by show _ ≤ 7302249; omega) (c_X9_drop I1  (q_G l s dC dI aC pl)) rfl (fun r N2 h2 H locs hp hW hlo => ?_)
  obtain ⟨F2, A2, n2, h2, v2, w2, I2, f2, x2⟩ := hp
  subst n2 h2 w2
  have X2 : ∀ r : Nat, (r : Int) < F2 106 3 → 1 ≤ A2 108 r := fun r h => by
    rw [f2.2 108 (by first | exact id | (dsimp only; omega))]
    exact X1 r (by omega)
  have a2_0_11 := f2.1 0 11 (by first | exact id | omega | (dsimp only; omega) | (dsimp only))
  have a2_0_12 := f2.1 0 12 (by first | exact id | omega | (dsimp only; omega) | (dsimp only))
  have a2_5_0 := f2.1 5 0 (by first | exact id | omega | (dsimp only; omega) | (dsimp only))
  have a2_3_1 := f2.1 3 1 (by first | exact id | omega | (dsimp only; omega) | (dsimp only))
  have a2_43_0 := f2.1 43 0 (by first | exact id | omega | (dsimp only; omega) | (dsimp only))
  have a2_106_0 := f2.1 106 0 (by first | exact id | omega | (dsimp only; omega) | (dsimp only))
  have a2_106_1 := f2.1 106 1 (by first | exact id | omega | (dsimp only; omega) | (dsimp only))
  have a2_106_17 := f2.1 106 17 (by first | exact id | omega | (dsimp only; omega) | (dsimp only))
  have a2_43_1 := f2.1 43 1 (by first | exact id | omega | (dsimp only; omega) | (dsimp only))
  have a2_106_20 := f2.1 106 20 (by first | exact id | omega | (dsimp only; omega) | (dsimp only))
  have b2_4 := f2.2 4 (by first | exact id | omega | (dsimp only; omega) | (dsimp only))
  have b2_107 := f2.2 107 (by first | exact id | omega | (dsimp only; omega) | (dsimp only))
  have b2_108 := f2.2 108 (by first | exact id | omega | (dsimp only; omega) | (dsimp only))
  have b2_109 := f2.2 109 (by first | exact id | omega | (dsimp only; omega) | (dsimp only))
  have b2_46 := f2.2 46 (by first | exact id | omega | (dsimp only; omega) | (dsimp only))
  have b2_116 := f2.2 116 (by first | exact id | omega | (dsimp only; omega) | (dsimp only))
  have b2_110 := f2.2 110 (by first | exact id | omega | (dsimp only; omega) | (dsimp only))
  have b2_111 := f2.2 111 (by first | exact id | omega | (dsimp only; omega) | (dsimp only))
  have b2_117 := f2.2 117 (by first | exact id | omega | (dsimp only; omega) | (dsimp only))
  have b2_118 := f2.2 118 (by first | exact id | omega | (dsimp only; omega) | (dsimp only))
  have b2_6 := f2.2 6 (by first | exact id | omega | (dsimp only; omega) | (dsimp only))
  have R2a : gs_R1 F2 A2 := gs_R1_mk hR1 (by omega) (by omega) (by omega) (by omega) (by omega) (b2_4.trans b1_4) (b2_107.trans b1_107) (by omega)
  have hF3 : ∀ c j, 54 ≤ c → c < 90 → F2 c j = F c j := fun c j q1 q2 => (f2.1 c j (by first | exact id | (dsimp only; omega))).trans (f1.1 c j (by first | exact id | (dsimp only; omega)))
  have hA3 : ∀ c, 54 ≤ c → c < 90 → A2 c = A c := fun c q1 q2 => (f2.2 c (by first | exact id | (dsimp only; omega))).trans (f1.2 c (by first | exact id | (dsimp only; omega)))
  have R2c : gs_R3 F2 A2 := gs_R3_fr hR3 hI (by omega) hF3 hA3 (b2_108.trans b1_108) (b2_109.trans b1_109)
  have R2a0 : gs_R13 F2 A2 := ⟨R2a, R2c⟩
  have R2a := R2a0
  have R2t : gs_Rt F2 A2 := gs_Rt_fr hRt (by omega) (by omega) (by omega) (b2_46.trans b1_46) (b2_116.trans b1_116)
  have hF9 : ∀ c j, 90 ≤ c → c < 106 → F2 c j = F c j := fun c j q1 q2 => (f2.1 c j (by first | exact id | (dsimp only; omega))).trans (f1.1 c j (by first | exact id | (dsimp only; omega)))
  have hA9 : ∀ c, 90 ≤ c → c < 106 → A2 c = A c := fun c q1 q2 => (f2.2 c (by first | exact id | (dsimp only; omega))).trans (f1.2 c (by first | exact id | (dsimp only; omega)))
  have R2p : gs_Rp F2 A2 := gs_Rp_fr hRp hI (by omega) hF9 hA9 (gs_k8_fr (b2_110.trans b1_110) (b2_111.trans b1_111))
  have R2q : gs_R123 F2 A2 := ⟨R2a, R2t, R2p⟩
  have R2w : gs_W (A2 6) (F2 0 11) := by
    rw [b2_6, b1_6, a2_0_11, a1_0_11]
    exact hRw
  have R2u : gs_R1234 F2 A2 := ⟨R2q, R2w⟩
  have R2v : gs_Rv F2 A2 := gs_Rv_fr hRv (by omega) (by omega) (by omega) (b2_107.trans b1_107) (b2_108.trans b1_108) (b2_109.trans b1_109)
  have R2t2 : gs_R5 F2 A2 := ⟨R2u, R2v⟩
  have R2s : gs_R6 F2 A2 := gs_R6_fr hR6 (by omega) (by omega) hF3 hA3
  have R2 : gs_R5m F2 A2 := ⟨R2t2, R2s⟩
  refine W.eq (g2 := F0 m 387 ls [.int (Int32.ofInt v2)]) rfl ?_
  refine lv_pop hx hb d_law_387 rfl ?_
  refine lv_goto (tgt := 1111) hx hb d_law_388 (by decide) ?_
  exact kk _ _ _ _ _ I2 ⟨X2, R2⟩ hW hlo hl
theorem q_op9 {p : Program} {e : Env} {s : State} {m : MethodId} {below : List Frame} {meth : Method} {c : Code} {b L : Nat} {xs : Nat → Int32} {l : Launch} {dC : Nat → ClassId} {dI : Nat → Nat → Nat} {aC : Nat → ClassId} {pl : Nat} (hL : L ≤ 2560) (C0 : lw_At p s m meth c b L xs) (hK : am_K (q_G l s dC dI aC pl) s) {n : Nat} (hn : n ≤ 1000000) {i : Int} (hi : 0 ≤ i ∧ i + 5 ≤ L) (kk : (∀ (F A : gs_F) (H : Heap) (locs : List Loc) (ls : Array Slot), gs_I F A → ((∀ r : Nat, (r : Int) < F 106 3 → 1 ≤ A 108 r) ∧ gs_R5m F A) → am_W (q_G l s dC dI aC pl) 122 (gs_en F A) H → (∀ q ∈ locs, s.heap.size ≤ q.base) → lv_has ls 4 [(3, .int (Int32.ofInt i)), (2, .ref (s.heap.size + 106)), (1, .ref (s.heap.size + 0)), (0, .ref b)] → W p l e room_1 s m #[Value.ref b] below meth c H locs 122 n (lw_Z below #[Value.ref b] s) (F0 m 1111 ls []))) {F A : gs_F} {H : Heap} {locs : List Loc} {ls : Array Slot} (hI : gs_I F A) (hX : (∀ r : Nat, (r : Int) < F 106 3 → 1 ≤ A 108 r) ∧ gs_R5m F A) (hW : am_W (q_G l s dC dI aC pl) 122 (gs_en F A) H) (hlo : ∀ q ∈ locs, s.heap.size ≤ q.base) (hl : lv_has ls 4 [(3, .int (Int32.ofInt i)), (2, .ref (s.heap.size + 106)), (1, .ref (s.heap.size + 0)), (0, .ref b)]) : W p l e room_1 s m #[Value.ref b] below meth c H locs 122 n (lw_Z below #[Value.ref b] s) (F0 m 391 ls []) := by
  obtain ⟨hx, hb, hr, hml, hown, hts, hXx, hbl, hlocks, hgv⟩ := C0
  obtain ⟨hX, hR⟩ := hX
  obtain ⟨hR, hR6⟩ := hR
  obtain ⟨hR, hRv⟩ := hR
  obtain ⟨hR, hRw⟩ := hR
  obtain ⟨hR, hRt, hRp⟩ := hR
  obtain ⟨hR1, hR3⟩ := hR
  have hR0 := hR1
  obtain ⟨R_1, R_2, R_3, R_4, R_5, R_6, _⟩ := hR0
  have R_0 : (0 : Int) ≤ F 106 1 ∧ F 106 1 ≤ 60 := hI.1 106 1
  have R_c : (0 : Int) ≤ F 106 3 ∧ F 106 3 ≤ 12 := hI.1 106 3
  have R_d : (0 : Int) ≤ F 0 12 ∧ F 0 12 ≤ 12 := hI.1 0 12
  have R_t := hRt.1
  have hg0 : (1 : Int) ≤ F 106 0 ∧ F 106 0 ≤ 3 := hI.1 106 0
  have hts2 := am_hts hts
  have hbA : ¬ (fun q : Nat => s.heap.size ≤ q) b := Nat.not_le.mpr hbl
  obtain ⟨z1, e1, r1⟩ := q_val (xs (Int32.ofInt i + 1).toNatClampNeg)
  have hS := am_S hK.2.1 hW hlo
  refine lv_aload_n hx hb d_law_391 rfl (lv_at hl 2 rfl) ?_
  refine lv_aload_n hx hb d_law_392 rfl (lv_at hl 3 rfl) ?_
  refine lv_iload_n hx hb d_law_393 rfl (lv_at hl 0 rfl) ?_
  refine lv_iconst (v := 1) hx hb d_law_394 (by decide) ?_
  refine lv_iadd hx hb d_law_395 ?_
  refine va_sld hx hb hXx hbl hbA hS (i := Int32.ofInt i + 1) (q_in1 hi (by omega)) d_law_396 ?_
  rw [e1]
  refine gw_callV (G := (q_G l s dC dI aC pl)) (cc := code) (own := R_law) (nL := 4) (y2 := m_X8_count) (n2 := 1) (d2 := 1) (mc2 := 0) (ms2 := 0) (a := 0) (ci := 8) (q := (RX8, TX8, 13)) (as := [gs_iv z1]) (rest := []) hx hb hml hown hts2 hK hW hlo hl.1 d_law_397 ok_X8_count.1 (ri_lw_in (pl := 503) (by decide +kernel)) ok_X8_count.2.1 ok_X8_count.2.2 rfl rfl (by decide) (gs_en_obj _ _ (show gs_sh 0 = .inl (8, _) from rfl)) rfl (Nat.le_of_ble_eq_true rfl) (by decide) (by decide) (by show _ ≤ 600000; omega) (by show _ ≤ 7302249; omega) (c_X8_count hI r1 (q_G l s dC dI aC pl)) rfl (fun r N2 h2 H locs hp hW hlo => ?_)
  obtain ⟨F1, A1, n1, h1, v1, w1, g1, k1, x1⟩ := hp
  subst n1 h1 w1
  have f1 : gs_fr (fun _ _ => False) (fun _ => False) F A F1 A1 := by rw [← g1, ← k1]; exact gs_fr_refl _ _ _ _
  have I1 : gs_I F1 A1 := by rw [← g1, ← k1]; exact hI
  have X1 := gs_X_fr hX (f1.1 106 3 (by first | exact id | (dsimp only; omega))) (f1.2 108 (by first | exact id | (dsimp only; omega)))
  have a1_0_11 := f1.1 0 11 (by first | exact id | omega | (dsimp only; omega) | (dsimp only))
  have a1_0_12 := f1.1 0 12 (by first | exact id | omega | (dsimp only; omega) | (dsimp only))
  have a1_5_0 := f1.1 5 0 (by first | exact id | omega | (dsimp only; omega) | (dsimp only))
  have a1_3_1 := f1.1 3 1 (by first | exact id | omega | (dsimp only; omega) | (dsimp only))
  have a1_43_0 := f1.1 43 0 (by first | exact id | omega | (dsimp only; omega) | (dsimp only))
  have a1_106_0 := f1.1 106 0 (by first | exact id | omega | (dsimp only; omega) | (dsimp only))
  have a1_106_1 := f1.1 106 1 (by first | exact id | omega | (dsimp only; omega) | (dsimp only))
  have a1_106_3 := f1.1 106 3 (by first | exact id | omega | (dsimp only; omega) | (dsimp only))
  have a1_106_17 := f1.1 106 17 (by first | exact id | omega | (dsimp only; omega) | (dsimp only))
  have a1_43_1 := f1.1 43 1 (by first | exact id | omega | (dsimp only; omega) | (dsimp only))
  have a1_106_20 := f1.1 106 20 (by first | exact id | omega | (dsimp only; omega) | (dsimp only))
  have b1_4 := f1.2 4 (by first | exact id | omega | (dsimp only; omega) | (dsimp only))
  have b1_107 := f1.2 107 (by first | exact id | omega | (dsimp only; omega) | (dsimp only))
  have b1_108 := f1.2 108 (by first | exact id | omega | (dsimp only; omega) | (dsimp only))
  have b1_109 := f1.2 109 (by first | exact id | omega | (dsimp only; omega) | (dsimp only))
  have b1_46 := f1.2 46 (by first | exact id | omega | (dsimp only; omega) | (dsimp only))
  have b1_116 := f1.2 116 (by first | exact id | omega | (dsimp only; omega) | (dsimp only))
  have b1_110 := f1.2 110 (by first | exact id | omega | (dsimp only; omega) | (dsimp only))
  have b1_111 := f1.2 111 (by first | exact id | omega | (dsimp only; omega) | (dsimp only))
  have b1_117 := f1.2 117 (by first | exact id | omega | (dsimp only; omega) | (dsimp only))
  have b1_118 := f1.2 118 (by first | exact id | omega | (dsimp only; omega) | (dsimp only))
  have b1_6 := f1.2 6 (by first | exact id | omega | (dsimp only; omega) | (dsimp only))
  refine W.eq (g2 := F0 m 400 ls [.int (Int32.ofInt v1)]) rfl ?_
  refine lv_pop hx hb d_law_400 rfl ?_
  have hS := am_S hK.2.1 hW hlo
  refine lv_aload_n hx hb d_law_401 rfl (lv_at hl 1 rfl) ?_
  refine lv_aload_n hx hb d_law_402 rfl (lv_at hl 3 rfl) ?_
  refine lv_iload_n hx hb d_law_403 rfl (lv_at hl 0 rfl) ?_
  refine lv_iconst (v := 1) hx hb d_law_404 (by decide) ?_
  refine lv_iadd hx hb d_law_405 ?_
  refine va_sld hx hb hXx hbl hbA hS (i := Int32.ofInt i + 1) (q_in1 hi (by omega)) d_law_406 ?_
  rw [e1]
  refine gw_callV (G := (q_G l s dC dI aC pl)) (cc := code) (own := R_law) (nL := 4) (y2 := m_X9_count) (n2 := 1) (d2 := 2) (mc2 := 0) (ms2 := 0) (a := 106) (ci := 9) (q := (RX9, TX9, 28)) (as := [gs_iv z1]) (rest := []) hx hb hml hown hts2 hK hW hlo hl.1 d_law_407 ok_X9_count.1 (ri_lw_in (pl := 1210) (by decide +kernel)) ok_X9_count.2.1 ok_X9_count.2.2 rfl rfl (by decide) (gs_en_obj _ _ (show gs_sh 106 = .inl (9, _) from rfl)) rfl (Nat.le_of_ble_eq_true rfl) (by decide) (by decide) (by show _ ≤ 600000; omega) (by show _ ≤ 7302249; omega) (c_X9_count I1 r1 (q_G l s dC dI aC pl)) rfl (fun r N2 h2 H locs hp hW hlo => ?_)
  obtain ⟨F2, A2, n2, h2, v2, w2, g2, k2, x2⟩ := hp
  subst n2 h2 w2
  have f2 : gs_fr (fun _ _ => False) (fun _ => False) F1 A1 F2 A2 := by rw [← g2, ← k2]; exact gs_fr_refl _ _ _ _
  have I2 : gs_I F2 A2 := by rw [← g2, ← k2]; exact I1
  have X2 := gs_X_fr X1 (f2.1 106 3 (by first | exact id | (dsimp only; omega))) (f2.2 108 (by first | exact id | (dsimp only; omega)))
  have a2_0_11 := f2.1 0 11 (by first | exact id | omega | (dsimp only; omega) | (dsimp only))
  have a2_0_12 := f2.1 0 12 (by first | exact id | omega | (dsimp only; omega) | (dsimp only))
  have a2_5_0 := f2.1 5 0 (by first | exact id | omega | (dsimp only; omega) | (dsimp only))
  have a2_3_1 := f2.1 3 1 (by first | exact id | omega | (dsimp only; omega) | (dsimp only))
  have a2_43_0 := f2.1 43 0 (by first | exact id | omega | (dsimp only; omega) | (dsimp only))
  have a2_106_0 := f2.1 106 0 (by first | exact id | omega | (dsimp only; omega) | (dsimp only))
  have a2_106_1 := f2.1 106 1 (by first | exact id | omega | (dsimp only; omega) | (dsimp only))
  have a2_106_3 := f2.1 106 3 (by first | exact id | omega | (dsimp only; omega) | (dsimp only))
  have a2_106_17 := f2.1 106 17 (by first | exact id | omega | (dsimp only; omega) | (dsimp only))
  have a2_43_1 := f2.1 43 1 (by first | exact id | omega | (dsimp only; omega) | (dsimp only))
  have a2_106_20 := f2.1 106 20 (by first | exact id | omega | (dsimp only; omega) | (dsimp only))
  have b2_4 := f2.2 4 (by first | exact id | omega | (dsimp only; omega) | (dsimp only))
  have b2_107 := f2.2 107 (by first | exact id | omega | (dsimp only; omega) | (dsimp only))
  have b2_108 := f2.2 108 (by first | exact id | omega | (dsimp only; omega) | (dsimp only))
  have b2_109 := f2.2 109 (by first | exact id | omega | (dsimp only; omega) | (dsimp only))
  have b2_46 := f2.2 46 (by first | exact id | omega | (dsimp only; omega) | (dsimp only))
  have b2_116 := f2.2 116 (by first | exact id | omega | (dsimp only; omega) | (dsimp only))
  have b2_110 := f2.2 110 (by first | exact id | omega | (dsimp only; omega) | (dsimp only))
  have b2_111 := f2.2 111 (by first | exact id | omega | (dsimp only; omega) | (dsimp only))
  have b2_117 := f2.2 117 (by first | exact id | omega | (dsimp only; omega) | (dsimp only))
  have b2_118 := f2.2 118 (by first | exact id | omega | (dsimp only; omega) | (dsimp only))
  have b2_6 := f2.2 6 (by first | exact id | omega | (dsimp only; omega) | (dsimp only))
  have R2a : gs_R1 F2 A2 := gs_R1_mk hR1 (by omega) (by omega) (by omega) (by omega) (by omega) (b2_4.trans b1_4) (b2_107.trans b1_107) (by omega)
  have hF3 : ∀ c j, 54 ≤ c → c < 90 → F2 c j = F c j := fun c j q1 q2 => (f2.1 c j (by first | exact id | (dsimp only; omega))).trans (f1.1 c j (by first | exact id | (dsimp only; omega)))
  have hA3 : ∀ c, 54 ≤ c → c < 90 → A2 c = A c := fun c q1 q2 => (f2.2 c (by first | exact id | (dsimp only; omega))).trans (f1.2 c (by first | exact id | (dsimp only; omega)))
  have R2c : gs_R3 F2 A2 := gs_R3_fr hR3 hI (by omega) hF3 hA3 (b2_108.trans b1_108) (b2_109.trans b1_109)
  have R2a0 : gs_R13 F2 A2 := ⟨R2a, R2c⟩
  have R2a := R2a0
  have R2t : gs_Rt F2 A2 := gs_Rt_fr hRt (by omega) (by omega) (by omega) (b2_46.trans b1_46) (b2_116.trans b1_116)
  have hF9 : ∀ c j, 90 ≤ c → c < 106 → F2 c j = F c j := fun c j q1 q2 => (f2.1 c j (by first | exact id | (dsimp only; omega))).trans (f1.1 c j (by first | exact id | (dsimp only; omega)))
  have hA9 : ∀ c, 90 ≤ c → c < 106 → A2 c = A c := fun c q1 q2 => (f2.2 c (by first | exact id | (dsimp only; omega))).trans (f1.2 c (by first | exact id | (dsimp only; omega)))
  have R2p : gs_Rp F2 A2 := gs_Rp_fr hRp hI (by omega) hF9 hA9 (gs_k8_fr (b2_110.trans b1_110) (b2_111.trans b1_111))
  have R2q : gs_R123 F2 A2 := ⟨R2a, R2t, R2p⟩
  have R2w : gs_W (A2 6) (F2 0 11) := by
    rw [b2_6, b1_6, a2_0_11, a1_0_11]
    exact hRw
  have R2u : gs_R1234 F2 A2 := ⟨R2q, R2w⟩
  have R2v : gs_Rv F2 A2 := gs_Rv_fr hRv (by omega) (by omega) (by omega) (b2_107.trans b1_107) (b2_108.trans b1_108) (b2_109.trans b1_109)
  have R2t2 : gs_R5 F2 A2 := ⟨R2u, R2v⟩
  have R2s : gs_R6 F2 A2 := gs_R6_fr hR6 (by omega) (by omega) hF3 hA3
  have R2 : gs_R5m F2 A2 := ⟨R2t2, R2s⟩
  refine W.eq (g2 := F0 m 410 ls [.int (Int32.ofInt v2)]) rfl ?_
  refine lv_pop hx hb d_law_410 rfl ?_
  refine lv_goto (tgt := 1111) hx hb d_law_411 (by decide) ?_
  exact kk _ _ _ _ _ I2 ⟨X2, R2⟩ hW hlo hl
theorem q_op10 {p : Program} {e : Env} {s : State} {m : MethodId} {below : List Frame} {meth : Method} {c : Code} {b L : Nat} {xs : Nat → Int32} {l : Launch} {dC : Nat → ClassId} {dI : Nat → Nat → Nat} {aC : Nat → ClassId} {pl : Nat} (hL : L ≤ 2560) (C0 : lw_At p s m meth c b L xs) (hK : am_K (q_G l s dC dI aC pl) s) {n : Nat} (hn : n ≤ 1000000) {i : Int} (hi : 0 ≤ i ∧ i + 5 ≤ L) (kk : (∀ (F A : gs_F) (H : Heap) (locs : List Loc) (ls : Array Slot), gs_I F A → ((∀ r : Nat, (r : Int) < F 106 3 → 1 ≤ A 108 r) ∧ gs_R5m F A) → am_W (q_G l s dC dI aC pl) 122 (gs_en F A) H → (∀ q ∈ locs, s.heap.size ≤ q.base) → lv_has ls 4 [(3, .int (Int32.ofInt i)), (2, .ref (s.heap.size + 106)), (1, .ref (s.heap.size + 0)), (0, .ref b)] → W p l e room_1 s m #[Value.ref b] below meth c H locs 122 n (lw_Z below #[Value.ref b] s) (F0 m 1111 ls []))) {F A : gs_F} {H : Heap} {locs : List Loc} {ls : Array Slot} (hI : gs_I F A) (hX : (∀ r : Nat, (r : Int) < F 106 3 → 1 ≤ A 108 r) ∧ gs_R5m F A) (hW : am_W (q_G l s dC dI aC pl) 122 (gs_en F A) H) (hlo : ∀ q ∈ locs, s.heap.size ≤ q.base) (hl : lv_has ls 4 [(3, .int (Int32.ofInt i)), (2, .ref (s.heap.size + 106)), (1, .ref (s.heap.size + 0)), (0, .ref b)]) : W p l e room_1 s m #[Value.ref b] below meth c H locs 122 n (lw_Z below #[Value.ref b] s) (F0 m 414 ls []) := by
  obtain ⟨hx, hb, hr, hml, hown, hts, hXx, hbl, hlocks, hgv⟩ := C0
  obtain ⟨hX, hR⟩ := hX
  obtain ⟨hR, hR6⟩ := hR
  obtain ⟨hR, hRv⟩ := hR
  obtain ⟨hR, hRw⟩ := hR
  obtain ⟨hR, hRt, hRp⟩ := hR
  obtain ⟨hR1, hR3⟩ := hR
  have hR0 := hR1
  obtain ⟨R_1, R_2, R_3, R_4, R_5, R_6, _⟩ := hR0
  have R_0 : (0 : Int) ≤ F 106 1 ∧ F 106 1 ≤ 60 := hI.1 106 1
  have R_c : (0 : Int) ≤ F 106 3 ∧ F 106 3 ≤ 12 := hI.1 106 3
  have R_d : (0 : Int) ≤ F 0 12 ∧ F 0 12 ≤ 12 := hI.1 0 12
  have R_t := hRt.1
  have hg0 : (1 : Int) ≤ F 106 0 ∧ F 106 0 ≤ 3 := hI.1 106 0
  have hts2 := am_hts hts
  have hbA : ¬ (fun q : Nat => s.heap.size ≤ q) b := Nat.not_le.mpr hbl
  obtain ⟨z1, e1, r1⟩ := q_val (xs (Int32.ofInt i + 1).toNatClampNeg)
  obtain ⟨z2, e2, r2⟩ := q_val (xs (Int32.ofInt i + 2).toNatClampNeg)
  obtain ⟨z3, e3, r3⟩ := q_val (xs (Int32.ofInt i + 3).toNatClampNeg)
  have hS := am_S hK.2.1 hW hlo
  refine lv_aload_n hx hb d_law_414 rfl (lv_at hl 2 rfl) ?_
  refine lv_aload_n hx hb d_law_415 rfl (lv_at hl 3 rfl) ?_
  refine lv_iload_n hx hb d_law_416 rfl (lv_at hl 0 rfl) ?_
  refine lv_iconst (v := 1) hx hb d_law_417 (by decide) ?_
  refine lv_iadd hx hb d_law_418 ?_
  refine va_sld hx hb hXx hbl hbA hS (i := Int32.ofInt i + 1) (q_in1 hi (by omega)) d_law_419 ?_
  rw [e1]
  refine lv_aload_n hx hb d_law_420 rfl (lv_at hl 3 rfl) ?_
  refine lv_iload_n hx hb d_law_421 rfl (lv_at hl 0 rfl) ?_
  refine lv_iconst (v := 2) hx hb d_law_422 (by decide) ?_
  refine lv_iadd hx hb d_law_423 ?_
  refine va_sld hx hb hXx hbl hbA hS (i := Int32.ofInt i + 2) (q_in2 hi (by omega)) d_law_424 ?_
  rw [e2]
  refine lv_i2l hx hb d_law_425 rfl ?_
  refine lv_bipush (v := 32) hx hb d_law_426 (by decide) ?_
  refine lv_lshl hx hb d_law_428 rfl ?_
  refine lv_aload_n hx hb d_law_429 rfl (lv_at hl 3 rfl) ?_
  refine lv_iload_n hx hb d_law_430 rfl (lv_at hl 0 rfl) ?_
  refine lv_iconst (v := 3) hx hb d_law_431 (by decide) ?_
  refine lv_iadd hx hb d_law_432 ?_
  refine va_sld hx hb hXx hbl hbA hS (i := Int32.ofInt i + 3) (q_in3 hi (by omega)) d_law_433 ?_
  rw [e3]
  refine lv_i2l hx hb d_law_434 rfl ?_
  refine lv_ldc2 (v := 4294967295) hx hb hown (hts2 _ (show Cond.constantLong R_law 56 4294967295 ∈ am_tbl from ri_lw_in (pl := 1214) (by decide +kernel))) d_law_435 ?_
  refine lv_land hx hb d_law_438 ?_
  refine lv_lor hx hb d_law_439 ?_
  refine gw_callV (G := (q_G l s dC dI aC pl)) (cc := code) (own := R_law) (nL := 4) (y2 := m_X8_feed) (n2 := 2) (d2 := 2) (mc2 := 0) (ms2 := 0) (a := 0) (ci := 8) (q := (RX8, TX8, 13)) (as := [gs_iv z1, .long ((Int32.ofInt z2).toInt64 <<< ((32 : Int32).toInt64 &&& 63) ||| ((Int32.ofInt z3).toInt64 &&& 4294967295))]) (rest := []) hx hb hml hown hts2 hK hW hlo hl.1 d_law_440 ok_X8_feed.1 (ri_lw_in (pl := 507) (by decide +kernel)) ok_X8_feed.2.1 ok_X8_feed.2.2 rfl rfl (by decide) (gs_en_obj _ _ (show gs_sh 0 = .inl (8, _) from rfl)) rfl (Nat.le_of_ble_eq_true rfl) (by decide) (by decide) (by show _ ≤ 600000; omega) (by show _ ≤ 7302249; omega) (c_X8_feed_vf hI r1 (q_G l s dC dI aC pl)) rfl (fun r N2 h2 H locs hp hW hlo => ?_)
  obtain ⟨F1, A1, n1, h1, v1, w1, I1, f1, x1⟩ := hp
  subst n1 h1 w1
  have X1 := gs_X_fr hX (f1.1 106 3 (by first | exact id | (dsimp only; omega))) (f1.2 108 (by first | exact id | (dsimp only; omega)))
  have a1_0_11 := f1.1 0 11 (by first | exact id | omega | (dsimp only; omega) | (dsimp only))
  have a1_0_12 := f1.1 0 12 (by first | exact id | omega | (dsimp only; omega) | (dsimp only))
  have a1_5_0 := f1.1 5 0 (by first | exact id | omega | (dsimp only; omega) | (dsimp only))
  have a1_3_1 := f1.1 3 1 (by first | exact id | omega | (dsimp only; omega) | (dsimp only))
  have a1_106_0 := f1.1 106 0 (by first | exact id | omega | (dsimp only; omega) | (dsimp only))
  have a1_106_1 := f1.1 106 1 (by first | exact id | omega | (dsimp only; omega) | (dsimp only))
  have a1_106_3 := f1.1 106 3 (by first | exact id | omega | (dsimp only; omega) | (dsimp only))
  have a1_106_17 := f1.1 106 17 (by first | exact id | omega | (dsimp only; omega) | (dsimp only))
  have a1_43_1 := f1.1 43 1 (by first | exact id | omega | (dsimp only; omega) | (dsimp only))
  have a1_106_20 := f1.1 106 20 (by first | exact id | omega | (dsimp only; omega) | (dsimp only))
  have b1_4 := f1.2 4 (by first | exact id | omega | (dsimp only; omega) | (dsimp only))
  have b1_107 := f1.2 107 (by first | exact id | omega | (dsimp only; omega) | (dsimp only))
  have b1_108 := f1.2 108 (by first | exact id | omega | (dsimp only; omega) | (dsimp only))
  have b1_109 := f1.2 109 (by first | exact id | omega | (dsimp only; omega) | (dsimp only))
  have b1_116 := f1.2 116 (by first | exact id | omega | (dsimp only; omega) | (dsimp only))
  have b1_110 := f1.2 110 (by first | exact id | omega | (dsimp only; omega) | (dsimp only))
  have b1_111 := f1.2 111 (by first | exact id | omega | (dsimp only; omega) | (dsimp only))
  have b1_117 := f1.2 117 (by first | exact id | omega | (dsimp only; omega) | (dsimp only))
  have b1_118 := f1.2 118 (by first | exact id | omega | (dsimp only; omega) | (dsimp only))
  have b1_6 := f1.2 6 (by first | exact id | omega | (dsimp only; omega) | (dsimp only))
  refine W.eq (g2 := F0 m 443 ls [.int (Int32.ofInt v1)]) rfl ?_
  refine lv_pop hx hb d_law_443 rfl ?_
  have hS := am_S hK.2.1 hW hlo
  refine lv_aload_n hx hb d_law_444 rfl (lv_at hl 1 rfl) ?_
  refine lv_aload_n hx hb d_law_445 rfl (lv_at hl 3 rfl) ?_
  refine lv_iload_n hx hb d_law_446 rfl (lv_at hl 0 rfl) ?_
  refine lv_iconst (v := 1) hx hb d_law_447 (by decide) ?_
  refine lv_iadd hx hb d_law_448 ?_
  refine va_sld hx hb hXx hbl hbA hS (i := Int32.ofInt i + 1) (q_in1 hi (by omega)) d_law_449 ?_
  rw [e1]
  refine lv_aload_n hx hb d_law_450 rfl (lv_at hl 3 rfl) ?_
  refine lv_iload_n hx hb d_law_451 rfl (lv_at hl 0 rfl) ?_
  refine lv_iconst (v := 2) hx hb d_law_452 (by decide) ?_
  refine lv_iadd hx hb d_law_453 ?_
  refine va_sld hx hb hXx hbl hbA hS (i := Int32.ofInt i + 2) (q_in2 hi (by omega)) d_law_454 ?_
  rw [e2]
  refine lv_i2l hx hb d_law_455 rfl ?_
  refine lv_bipush (v := 32) hx hb d_law_456 (by decide) ?_
  refine lv_lshl hx hb d_law_458 rfl ?_
  refine lv_aload_n hx hb d_law_459 rfl (lv_at hl 3 rfl) ?_
  refine lv_iload_n hx hb d_law_460 rfl (lv_at hl 0 rfl) ?_
  refine lv_iconst (v := 3) hx hb d_law_461 (by decide) ?_
  refine lv_iadd hx hb d_law_462 ?_
  refine va_sld hx hb hXx hbl hbA hS (i := Int32.ofInt i + 3) (q_in3 hi (by omega)) d_law_463 ?_
  rw [e3]
  refine lv_i2l hx hb d_law_464 rfl ?_
  refine lv_ldc2 (v := 4294967295) hx hb hown (hts2 _ (show Cond.constantLong R_law 56 4294967295 ∈ am_tbl from ri_lw_in (pl := 1214) (by decide +kernel))) d_law_465 ?_
  refine lv_land hx hb d_law_468 ?_
  refine lv_lor hx hb d_law_469 ?_
  refine gw_callV (G := (q_G l s dC dI aC pl)) (cc := code) (own := R_law) (nL := 4) (y2 := m_X9_feed) (n2 := 2) (d2 := 2) (mc2 := 0) (ms2 := 0) (a := 106) (ci := 9) (q := (RX9, TX9, 28)) (as := [gs_iv z1, .long ((Int32.ofInt z2).toInt64 <<< ((32 : Int32).toInt64 &&& 63) ||| ((Int32.ofInt z3).toInt64 &&& 4294967295))]) (rest := []) hx hb hml hown hts2 hK hW hlo hl.1 d_law_470 ok_X9_feed.1 (ri_lw_in (pl := 987) (by decide +kernel)) ok_X9_feed.2.1 ok_X9_feed.2.2 rfl rfl (by decide) (gs_en_obj _ _ (show gs_sh 106 = .inl (9, _) from rfl)) rfl (Nat.le_of_ble_eq_true rfl) (by decide) (by decide) (by show _ ≤ 600000; omega) (by show _ ≤ 7302249; omega) (c_X9_feed_vf I1 r1 (q_G l s dC dI aC pl)) rfl (fun r N2 h2 H locs hp hW hlo => ?_)
  obtain ⟨F2, A2, n2, h2, v2, w2, I2, f2, x2⟩ := hp
  subst n2 h2 w2
  have X2 := gs_X_fr X1 (f2.1 106 3 (by first | exact id | (dsimp only; omega))) (f2.2 108 (by first | exact id | (dsimp only; omega)))
  have a2_0_11 := f2.1 0 11 (by first | exact id | omega | (dsimp only; omega) | (dsimp only))
  have a2_0_12 := f2.1 0 12 (by first | exact id | omega | (dsimp only; omega) | (dsimp only))
  have a2_5_0 := f2.1 5 0 (by first | exact id | omega | (dsimp only; omega) | (dsimp only))
  have a2_3_1 := f2.1 3 1 (by first | exact id | omega | (dsimp only; omega) | (dsimp only))
  have a2_43_0 := f2.1 43 0 (by first | exact id | omega | (dsimp only; omega) | (dsimp only))
  have a2_106_0 := f2.1 106 0 (by first | exact id | omega | (dsimp only; omega) | (dsimp only))
  have a2_106_1 := f2.1 106 1 (by first | exact id | omega | (dsimp only; omega) | (dsimp only))
  have a2_106_3 := f2.1 106 3 (by first | exact id | omega | (dsimp only; omega) | (dsimp only))
  have a2_43_1 := f2.1 43 1 (by first | exact id | omega | (dsimp only; omega) | (dsimp only))
  have a2_106_20 := f2.1 106 20 (by first | exact id | omega | (dsimp only; omega) | (dsimp only))
  have b2_4 := f2.2 4 (by first | exact id | omega | (dsimp only; omega) | (dsimp only))
  have b2_107 := f2.2 107 (by first | exact id | omega | (dsimp only; omega) | (dsimp only))
  have b2_108 := f2.2 108 (by first | exact id | omega | (dsimp only; omega) | (dsimp only))
  have b2_109 := f2.2 109 (by first | exact id | omega | (dsimp only; omega) | (dsimp only))
  have b2_46 := f2.2 46 (by first | exact id | omega | (dsimp only; omega) | (dsimp only))
  have b2_110 := f2.2 110 (by first | exact id | omega | (dsimp only; omega) | (dsimp only))
  have b2_111 := f2.2 111 (by first | exact id | omega | (dsimp only; omega) | (dsimp only))
  have b2_117 := f2.2 117 (by first | exact id | omega | (dsimp only; omega) | (dsimp only))
  have b2_118 := f2.2 118 (by first | exact id | omega | (dsimp only; omega) | (dsimp only))
  have b2_6 := f2.2 6 (by first | exact id | omega | (dsimp only; omega) | (dsimp only))
  rw [a1_106_17, b1_116] at x2
  rw [R_5] at x1
  have hb17 : (0 : Int) ≤ F 106 17 ∧ F 106 17 ≤ 120 := hI.1 106 17
  obtain ⟨ev, q1, q2⟩ := gs_fd_det hb17.1 hRt.2 x1 x2
  have R2a : gs_R1 F2 A2 := gs_R1_mk hR1 (by omega) (by omega) (by omega) (by omega) (by omega) (b2_4.trans b1_4) (b2_107.trans b1_107) (by omega)
  have hF3 : ∀ c j, 54 ≤ c → c < 90 → F2 c j = F c j := fun c j q1 q2 => (f2.1 c j (by first | exact id | (dsimp only; omega))).trans (f1.1 c j (by first | exact id | (dsimp only; omega)))
  have hA3 : ∀ c, 54 ≤ c → c < 90 → A2 c = A c := fun c q1 q2 => (f2.2 c (by first | exact id | (dsimp only; omega))).trans (f1.2 c (by first | exact id | (dsimp only; omega)))
  have R2c : gs_R3 F2 A2 := gs_R3_fr hR3 hI (by omega) hF3 hA3 (b2_108.trans b1_108) (b2_109.trans b1_109)
  have R2a0 : gs_R13 F2 A2 := ⟨R2a, R2c⟩
  have R2a := R2a0
  have R2t : gs_Rt F2 A2 := ⟨by omega, fun i h1 h2 => by rw [b2_46]; exact q2 i h1 h2⟩
  have hF9 : ∀ c j, 90 ≤ c → c < 106 → F2 c j = F c j := fun c j q1 q2 => (f2.1 c j (by first | exact id | (dsimp only; omega))).trans (f1.1 c j (by first | exact id | (dsimp only; omega)))
  have hA9 : ∀ c, 90 ≤ c → c < 106 → A2 c = A c := fun c q1 q2 => (f2.2 c (by first | exact id | (dsimp only; omega))).trans (f1.2 c (by first | exact id | (dsimp only; omega)))
  have R2p : gs_Rp F2 A2 := gs_Rp_fr hRp hI (by omega) hF9 hA9 (gs_k8_fr (b2_110.trans b1_110) (b2_111.trans b1_111))
  have R2q : gs_R123 F2 A2 := ⟨R2a, R2t, R2p⟩
  have R2w : gs_W (A2 6) (F2 0 11) := by
    rw [b2_6, b1_6, a2_0_11, a1_0_11]
    exact hRw
  have R2u : gs_R1234 F2 A2 := ⟨R2q, R2w⟩
  have R2v : gs_Rv F2 A2 := gs_Rv_fr hRv (by omega) (by omega) (by omega) (b2_107.trans b1_107) (b2_108.trans b1_108) (b2_109.trans b1_109)
  have R2t2 : gs_R5 F2 A2 := ⟨R2u, R2v⟩
  have R2s : gs_R6 F2 A2 := gs_R6_fr hR6 (by omega) (by omega) hF3 hA3
  have R2 : gs_R5m F2 A2 := ⟨R2t2, R2s⟩
  refine W.eq (g2 := F0 m 473 ls [.int (Int32.ofInt v2)]) rfl ?_
  refine lv_pop hx hb d_law_473 rfl ?_
  refine lv_goto (tgt := 1111) hx hb d_law_474 (by decide) ?_
  exact kk _ _ _ _ _ I2 ⟨X2, R2⟩ hW hlo hl
theorem q_op11 {p : Program} {e : Env} {s : State} {m : MethodId} {below : List Frame} {meth : Method} {c : Code} {b L : Nat} {xs : Nat → Int32} {l : Launch} {dC : Nat → ClassId} {dI : Nat → Nat → Nat} {aC : Nat → ClassId} {pl : Nat} (hL : L ≤ 2560) (C0 : lw_At p s m meth c b L xs) (hK : am_K (q_G l s dC dI aC pl) s) {n : Nat} (hn : n ≤ 1000000) {i : Int} (hi : 0 ≤ i ∧ i + 5 ≤ L) (kk : (∀ (F A : gs_F) (H : Heap) (locs : List Loc) (ls : Array Slot), gs_I F A → ((∀ r : Nat, (r : Int) < F 106 3 → 1 ≤ A 108 r) ∧ gs_R5m F A) → am_W (q_G l s dC dI aC pl) 122 (gs_en F A) H → (∀ q ∈ locs, s.heap.size ≤ q.base) → lv_has ls 4 [(3, .int (Int32.ofInt i)), (2, .ref (s.heap.size + 106)), (1, .ref (s.heap.size + 0)), (0, .ref b)] → W p l e room_1 s m #[Value.ref b] below meth c H locs 122 n (lw_Z below #[Value.ref b] s) (F0 m 1111 ls []))) {F A : gs_F} {H : Heap} {locs : List Loc} {ls : Array Slot} (hI : gs_I F A) (hX : (∀ r : Nat, (r : Int) < F 106 3 → 1 ≤ A 108 r) ∧ gs_R5m F A) (hW : am_W (q_G l s dC dI aC pl) 122 (gs_en F A) H) (hlo : ∀ q ∈ locs, s.heap.size ≤ q.base) (hl : lv_has ls 4 [(3, .int (Int32.ofInt i)), (2, .ref (s.heap.size + 106)), (1, .ref (s.heap.size + 0)), (0, .ref b)]) : W p l e room_1 s m #[Value.ref b] below meth c H locs 122 n (lw_Z below #[Value.ref b] s) (F0 m 477 ls []) := by
  obtain ⟨hx, hb, hr, hml, hown, hts, hXx, hbl, hlocks, hgv⟩ := C0
  obtain ⟨hX, hR⟩ := hX
  obtain ⟨hR, hR6⟩ := hR
  obtain ⟨hR, hRv⟩ := hR
  obtain ⟨hR, hRw⟩ := hR
  obtain ⟨hR, hRt, hRp⟩ := hR
  obtain ⟨hR1, hR3⟩ := hR
  have hR0 := hR1
  obtain ⟨R_1, R_2, R_3, R_4, R_5, R_6, _⟩ := hR0
  have R_0 : (0 : Int) ≤ F 106 1 ∧ F 106 1 ≤ 60 := hI.1 106 1
  have R_c : (0 : Int) ≤ F 106 3 ∧ F 106 3 ≤ 12 := hI.1 106 3
  have R_d : (0 : Int) ≤ F 0 12 ∧ F 0 12 ≤ 12 := hI.1 0 12
  have R_t := hRt.1
  have hg0 : (1 : Int) ≤ F 106 0 ∧ F 106 0 ≤ 3 := hI.1 106 0
  have hts2 := am_hts hts
  have hbA : ¬ (fun q : Nat => s.heap.size ≤ q) b := Nat.not_le.mpr hbl
  obtain ⟨z1, e1, r1⟩ := q_val (xs (Int32.ofInt i + 1).toNatClampNeg)
  have hS := am_S hK.2.1 hW hlo
  refine lv_aload_n hx hb d_law_477 rfl (lv_at hl 2 rfl) ?_
  refine lv_aload_n hx hb d_law_478 rfl (lv_at hl 3 rfl) ?_
  refine lv_iload_n hx hb d_law_479 rfl (lv_at hl 0 rfl) ?_
  refine lv_iconst (v := 1) hx hb d_law_480 (by decide) ?_
  refine lv_iadd hx hb d_law_481 ?_
  refine va_sld hx hb hXx hbl hbA hS (i := Int32.ofInt i + 1) (q_in1 hi (by omega)) d_law_482 ?_
  rw [e1]
  refine gw_callV (G := (q_G l s dC dI aC pl)) (cc := code) (own := R_law) (nL := 4) (y2 := m_X8_read) (n2 := 1) (d2 := 5) (mc2 := 0) (ms2 := 0) (a := 0) (ci := 8) (q := (RX8, TX8, 13)) (as := [gs_iv z1]) (rest := []) hx hb hml hown hts2 hK hW hlo hl.1 d_law_483 ok_X8_read.1 (ri_lw_in (pl := 516) (by decide +kernel)) ok_X8_read.2.1 ok_X8_read.2.2 rfl rfl (by decide) (gs_en_obj _ _ (show gs_sh 0 = .inl (8, _) from rfl)) rfl (Nat.le_of_ble_eq_true rfl) (by decide) (by decide) (by show _ ≤ 600000; omega) (by show _ ≤ 7302249; omega) (c_X8_read_vf hI r1 (q_G l s dC dI aC pl)) rfl (fun r N2 h2 H locs hp hW hlo => ?_)
  obtain ⟨F1, A1, n1, h1, v1, w1, I1, f1, x1⟩ := hp
  subst n1 h1 w1
  have X1 := gs_X_fr hX (f1.1 106 3 (by first | exact id | (dsimp only; omega))) (f1.2 108 (by first | exact id | (dsimp only; omega)))
  have a1_0_11 := f1.1 0 11 (by first | exact id | omega | (dsimp only; omega) | (dsimp only))
  have a1_0_12 := f1.1 0 12 (by first | exact id | omega | (dsimp only; omega) | (dsimp only))
  have a1_5_0 := f1.1 5 0 (by first | exact id | omega | (dsimp only; omega) | (dsimp only))
  have a1_3_1 := f1.1 3 1 (by first | exact id | omega | (dsimp only; omega) | (dsimp only))
  have a1_106_0 := f1.1 106 0 (by first | exact id | omega | (dsimp only; omega) | (dsimp only))
  have a1_106_1 := f1.1 106 1 (by first | exact id | omega | (dsimp only; omega) | (dsimp only))
  have a1_106_3 := f1.1 106 3 (by first | exact id | omega | (dsimp only; omega) | (dsimp only))
  have a1_106_17 := f1.1 106 17 (by first | exact id | omega | (dsimp only; omega) | (dsimp only))
  have a1_106_20 := f1.1 106 20 (by first | exact id | omega | (dsimp only; omega) | (dsimp only))
  have b1_4 := f1.2 4 (by first | exact id | omega | (dsimp only; omega) | (dsimp only))
  have b1_107 := f1.2 107 (by first | exact id | omega | (dsimp only; omega) | (dsimp only))
  have b1_108 := f1.2 108 (by first | exact id | omega | (dsimp only; omega) | (dsimp only))
  have b1_109 := f1.2 109 (by first | exact id | omega | (dsimp only; omega) | (dsimp only))
  have b1_46 := f1.2 46 (by first | exact id | omega | (dsimp only; omega) | (dsimp only))
  have b1_116 := f1.2 116 (by first | exact id | omega | (dsimp only; omega) | (dsimp only))
  have b1_110 := f1.2 110 (by first | exact id | omega | (dsimp only; omega) | (dsimp only))
  have b1_111 := f1.2 111 (by first | exact id | omega | (dsimp only; omega) | (dsimp only))
  have b1_117 := f1.2 117 (by first | exact id | omega | (dsimp only; omega) | (dsimp only))
  have b1_118 := f1.2 118 (by first | exact id | omega | (dsimp only; omega) | (dsimp only))
  have b1_6 := f1.2 6 (by first | exact id | omega | (dsimp only; omega) | (dsimp only))
  refine W.eq (g2 := F0 m 486 ls [.int (Int32.ofInt v1)]) rfl ?_
  refine lv_pop hx hb d_law_486 rfl ?_
  have hS := am_S hK.2.1 hW hlo
  refine lv_aload_n hx hb d_law_487 rfl (lv_at hl 1 rfl) ?_
  refine lv_aload_n hx hb d_law_488 rfl (lv_at hl 3 rfl) ?_
  refine lv_iload_n hx hb d_law_489 rfl (lv_at hl 0 rfl) ?_
  refine lv_iconst (v := 1) hx hb d_law_490 (by decide) ?_
  refine lv_iadd hx hb d_law_491 ?_
  refine va_sld hx hb hXx hbl hbA hS (i := Int32.ofInt i + 1) (q_in1 hi (by omega)) d_law_492 ?_
  rw [e1]
  refine gw_callV (G := (q_G l s dC dI aC pl)) (cc := code) (own := R_law) (nL := 4) (y2 := m_X9_read) (n2 := 1) (d2 := 5) (mc2 := 0) (ms2 := 0) (a := 106) (ci := 9) (q := (RX9, TX9, 28)) (as := [gs_iv z1]) (rest := []) hx hb hml hown hts2 hK hW hlo hl.1 d_law_493 ok_X9_read.1 (ri_lw_in (pl := 993) (by decide +kernel)) ok_X9_read.2.1 ok_X9_read.2.2 rfl rfl (by decide) (gs_en_obj _ _ (show gs_sh 106 = .inl (9, _) from rfl)) rfl (Nat.le_of_ble_eq_true rfl) (by decide) (by decide) (by show _ ≤ 600000; omega) (by show _ ≤ 7302249; omega) (c_X9_read_vf I1 r1 (fun i h1 h2 => by rw [b1_116]; exact (hRt.2 i h1 (by omega)).2) (q_G l s dC dI aC pl)) rfl (fun r N2 h2 H locs hp hW hlo => ?_)
  obtain ⟨F2, A2, n2, h2, v2, w2, I2, f2, x2⟩ := hp
  subst n2 h2 w2
  have X2 := gs_X_fr X1 (f2.1 106 3 (by first | exact id | (dsimp only; omega))) (f2.2 108 (by first | exact id | (dsimp only; omega)))
  have a2_0_11 := f2.1 0 11 (by first | exact id | omega | (dsimp only; omega) | (dsimp only))
  have a2_0_12 := f2.1 0 12 (by first | exact id | omega | (dsimp only; omega) | (dsimp only))
  have a2_5_0 := f2.1 5 0 (by first | exact id | omega | (dsimp only; omega) | (dsimp only))
  have a2_3_1 := f2.1 3 1 (by first | exact id | omega | (dsimp only; omega) | (dsimp only))
  have a2_43_0 := f2.1 43 0 (by first | exact id | omega | (dsimp only; omega) | (dsimp only))
  have a2_106_0 := f2.1 106 0 (by first | exact id | omega | (dsimp only; omega) | (dsimp only))
  have a2_106_1 := f2.1 106 1 (by first | exact id | omega | (dsimp only; omega) | (dsimp only))
  have a2_106_3 := f2.1 106 3 (by first | exact id | omega | (dsimp only; omega) | (dsimp only))
  have a2_43_1 := f2.1 43 1 (by first | exact id | omega | (dsimp only; omega) | (dsimp only))
  have b2_4 := f2.2 4 (by first | exact id | omega | (dsimp only; omega) | (dsimp only))
  have b2_107 := f2.2 107 (by first | exact id | omega | (dsimp only; omega) | (dsimp only))
  have b2_108 := f2.2 108 (by first | exact id | omega | (dsimp only; omega) | (dsimp only))
  have b2_109 := f2.2 109 (by first | exact id | omega | (dsimp only; omega) | (dsimp only))
  have b2_46 := f2.2 46 (by first | exact id | omega | (dsimp only; omega) | (dsimp only))
  have b2_116 := f2.2 116 (by first | exact id | omega | (dsimp only; omega) | (dsimp only))
  have b2_6 := f2.2 6 (by first | exact id | omega | (dsimp only; omega) | (dsimp only))
  rw [a1_106_0, a1_106_17, a1_106_20, b1_110, b1_111, b1_116, b1_117, b1_118] at x2
  have c6 : ∀ c j, c < 106 → F2 c j = F1 c j := fun c j q1 => f2.1 c j (by first | exact id | (dsimp only; omega))
  have c7 : ∀ c, c < 106 → A2 c = A1 c := fun c q1 => f2.2 c (by first | exact id | (dsimp only; omega))
  obtain ⟨ev, q1, R2t, R2p⟩ := gs_read_ev hI R_1 R_5 hRt hRp x1 x2 a2_43_1 a2_43_0 c6 c7 (by omega) (b2_116.trans b1_116) (fun hp c j q1 q2 q3 => f1.1 c j (by dsimp only; omega)) (fun hp c q1 q2 q3 => f1.2 c (by dsimp only; omega))
  have R2a : gs_R1 F2 A2 := gs_R1_mk hR1 (by omega) (by omega) (by omega) (by omega) (by omega) (b2_4.trans b1_4) (b2_107.trans b1_107) (by omega)
  have hF3 : ∀ c j, 54 ≤ c → c < 90 → F2 c j = F c j := fun c j q1 q2 => (f2.1 c j (by first | exact id | (dsimp only; omega))).trans (f1.1 c j (by first | exact id | (dsimp only; omega)))
  have hA3 : ∀ c, 54 ≤ c → c < 90 → A2 c = A c := fun c q1 q2 => (f2.2 c (by first | exact id | (dsimp only; omega))).trans (f1.2 c (by first | exact id | (dsimp only; omega)))
  have R2c : gs_R3 F2 A2 := gs_R3_fr hR3 hI (by omega) hF3 hA3 (b2_108.trans b1_108) (b2_109.trans b1_109)
  have R2a0 : gs_R13 F2 A2 := ⟨R2a, R2c⟩
  have R2a := R2a0
  have R2q : gs_R123 F2 A2 := ⟨R2a, R2t, R2p⟩
  have R2w : gs_W (A2 6) (F2 0 11) := by
    rw [b2_6, b1_6, a2_0_11, a1_0_11]
    exact hRw
  have R2u : gs_R1234 F2 A2 := ⟨R2q, R2w⟩
  have R2v : gs_Rv F2 A2 := gs_Rv_fr hRv (by omega) (by omega) (by omega) (b2_107.trans b1_107) (b2_108.trans b1_108) (b2_109.trans b1_109)
  have R2t2 : gs_R5 F2 A2 := ⟨R2u, R2v⟩
  have R2s : gs_R6 F2 A2 := gs_R6_fr hR6 (by omega) (by omega) hF3 hA3
  have R2 : gs_R5m F2 A2 := ⟨R2t2, R2s⟩
  refine W.eq (g2 := F0 m 496 ls [.int (Int32.ofInt v2)]) rfl ?_
  refine lv_pop hx hb d_law_496 rfl ?_
  refine lv_goto (tgt := 1111) hx hb d_law_497 (by decide) ?_
  exact kk _ _ _ _ _ I2 ⟨X2, R2⟩ hW hlo hl
theorem q_op12 {p : Program} {e : Env} {s : State} {m : MethodId} {below : List Frame} {meth : Method} {c : Code} {b L : Nat} {xs : Nat → Int32} {l : Launch} {dC : Nat → ClassId} {dI : Nat → Nat → Nat} {aC : Nat → ClassId} {pl : Nat} (hL : L ≤ 2560) (C0 : lw_At p s m meth c b L xs) (hK : am_K (q_G l s dC dI aC pl) s) {n : Nat} (hn : n ≤ 1000000) {i : Int} (hi : 0 ≤ i ∧ i + 5 ≤ L) (kk : (∀ (F A : gs_F) (H : Heap) (locs : List Loc) (ls : Array Slot), gs_I F A → ((∀ r : Nat, (r : Int) < F 106 3 → 1 ≤ A 108 r) ∧ gs_R5m F A) → am_W (q_G l s dC dI aC pl) 122 (gs_en F A) H → (∀ q ∈ locs, s.heap.size ≤ q.base) → lv_has ls 4 [(3, .int (Int32.ofInt i)), (2, .ref (s.heap.size + 106)), (1, .ref (s.heap.size + 0)), (0, .ref b)] → W p l e room_1 s m #[Value.ref b] below meth c H locs 122 n (lw_Z below #[Value.ref b] s) (F0 m 1111 ls []))) {F A : gs_F} {H : Heap} {locs : List Loc} {ls : Array Slot} (hI : gs_I F A) (hX : (∀ r : Nat, (r : Int) < F 106 3 → 1 ≤ A 108 r) ∧ gs_R5m F A) (hW : am_W (q_G l s dC dI aC pl) 122 (gs_en F A) H) (hlo : ∀ q ∈ locs, s.heap.size ≤ q.base) (hl : lv_has ls 4 [(3, .int (Int32.ofInt i)), (2, .ref (s.heap.size + 106)), (1, .ref (s.heap.size + 0)), (0, .ref b)]) : W p l e room_1 s m #[Value.ref b] below meth c H locs 122 n (lw_Z below #[Value.ref b] s) (F0 m 500 ls []) := by
  obtain ⟨hx, hb, hr, hml, hown, hts, hXx, hbl, hlocks, hgv⟩ := C0
  obtain ⟨hX, hR⟩ := hX
  obtain ⟨hR, hR6⟩ := hR
  obtain ⟨hR, hRv⟩ := hR
  obtain ⟨hR, hRw⟩ := hR
  obtain ⟨hR, hRt, hRp⟩ := hR
  obtain ⟨hR1, hR3⟩ := hR
  have hR0 := hR1
  obtain ⟨R_1, R_2, R_3, R_4, R_5, R_6, _⟩ := hR0
  have R_0 : (0 : Int) ≤ F 106 1 ∧ F 106 1 ≤ 60 := hI.1 106 1
  have R_c : (0 : Int) ≤ F 106 3 ∧ F 106 3 ≤ 12 := hI.1 106 3
  have R_d : (0 : Int) ≤ F 0 12 ∧ F 0 12 ≤ 12 := hI.1 0 12
  have R_t := hRt.1
  have hg0 : (1 : Int) ≤ F 106 0 ∧ F 106 0 ≤ 3 := hI.1 106 0
  have hts2 := am_hts hts
  have hbA : ¬ (fun q : Nat => s.heap.size ≤ q) b := Nat.not_le.mpr hbl
  have hS := am_S hK.2.1 hW hlo
  refine lv_aload_n hx hb d_law_500 rfl (lv_at hl 2 rfl) ?_
  refine gw_callV (G := (q_G l s dC dI aC pl)) (cc := code) (own := R_law) (nL := 4) (y2 := m_X8_fault) (n2 := 0) (d2 := 1) (mc2 := 0) (ms2 := 0) (a := 0) (ci := 8) (q := (RX8, TX8, 13)) (as := []) (rest := []) hx hb hml hown hts2 hK hW hlo hl.1 d_law_501 ok_X8_fault.1 (ri_lw_in (pl := 555) (by decide +kernel)) ok_X8_fault.2.1 ok_X8_fault.2.2 rfl rfl (by decide) (gs_en_obj _ _ (show gs_sh 0 = .inl (8, _) from rfl)) rfl (Nat.le_of_ble_eq_true rfl) (by decide) (by decide) (by show _ ≤ 600000; omega) (by show _ ≤ 7302249; omega) (c_X8_fault_vf hI  (q_G l s dC dI aC pl)) rfl (fun r N2 h2 H locs hp hW hlo => ?_)
  obtain ⟨F1, A1, n1, h1, v1, w1, g1, k1, x1⟩ := hp
  subst n1 h1 w1
  have f1 : gs_fr (fun _ _ => False) (fun _ => False) F A F1 A1 := by rw [← g1, ← k1]; exact gs_fr_refl _ _ _ _
  have I1 : gs_I F1 A1 := by rw [← g1, ← k1]; exact hI
  have X1 := gs_X_fr hX (f1.1 106 3 (by first | exact id | (dsimp only; omega))) (f1.2 108 (by first | exact id | (dsimp only; omega)))
  have a1_0_11 := f1.1 0 11 (by first | exact id | omega | (dsimp only; omega) | (dsimp only))
  have a1_0_12 := f1.1 0 12 (by first | exact id | omega | (dsimp only; omega) | (dsimp only))
  have a1_5_0 := f1.1 5 0 (by first | exact id | omega | (dsimp only; omega) | (dsimp only))
  have a1_3_1 := f1.1 3 1 (by first | exact id | omega | (dsimp only; omega) | (dsimp only))
  have a1_43_0 := f1.1 43 0 (by first | exact id | omega | (dsimp only; omega) | (dsimp only))
  have a1_106_0 := f1.1 106 0 (by first | exact id | omega | (dsimp only; omega) | (dsimp only))
  have a1_106_1 := f1.1 106 1 (by first | exact id | omega | (dsimp only; omega) | (dsimp only))
  have a1_106_3 := f1.1 106 3 (by first | exact id | omega | (dsimp only; omega) | (dsimp only))
  have a1_106_17 := f1.1 106 17 (by first | exact id | omega | (dsimp only; omega) | (dsimp only))
  have a1_43_1 := f1.1 43 1 (by first | exact id | omega | (dsimp only; omega) | (dsimp only))
  have a1_106_20 := f1.1 106 20 (by first | exact id | omega | (dsimp only; omega) | (dsimp only))
  have b1_4 := f1.2 4 (by first | exact id | omega | (dsimp only; omega) | (dsimp only))
  have b1_107 := f1.2 107 (by first | exact id | omega | (dsimp only; omega) | (dsimp only))
  have b1_108 := f1.2 108 (by first | exact id | omega | (dsimp only; omega) | (dsimp only))
  have b1_109 := f1.2 109 (by first | exact id | omega | (dsimp only; omega) | (dsimp only))
  have b1_46 := f1.2 46 (by first | exact id | omega | (dsimp only; omega) | (dsimp only))
  have b1_116 := f1.2 116 (by first | exact id | omega | (dsimp only; omega) | (dsimp only))
  have b1_110 := f1.2 110 (by first | exact id | omega | (dsimp only; omega) | (dsimp only))
  have b1_111 := f1.2 111 (by first | exact id | omega | (dsimp only; omega) | (dsimp only))
  have b1_117 := f1.2 117 (by first | exact id | omega | (dsimp only; omega) | (dsimp only))
  have b1_118 := f1.2 118 (by first | exact id | omega | (dsimp only; omega) | (dsimp only))
  have b1_6 := f1.2 6 (by first | exact id | omega | (dsimp only; omega) | (dsimp only))
  refine W.eq (g2 := F0 m 504 ls [.int (Int32.ofInt v1)]) rfl ?_
  refine lv_pop hx hb d_law_504 rfl ?_
  have hS := am_S hK.2.1 hW hlo
  refine lv_aload_n hx hb d_law_505 rfl (lv_at hl 1 rfl) ?_
  refine gw_callV (G := (q_G l s dC dI aC pl)) (cc := code) (own := R_law) (nL := 4) (y2 := m_X9_fault) (n2 := 0) (d2 := 1) (mc2 := 0) (ms2 := 0) (a := 106) (ci := 9) (q := (RX9, TX9, 28)) (as := []) (rest := []) hx hb hml hown hts2 hK hW hlo hl.1 d_law_506 ok_X9_fault.1 (ri_lw_in (pl := 1028) (by decide +kernel)) ok_X9_fault.2.1 ok_X9_fault.2.2 rfl rfl (by decide) (gs_en_obj _ _ (show gs_sh 106 = .inl (9, _) from rfl)) rfl (Nat.le_of_ble_eq_true rfl) (by decide) (by decide) (by show _ ≤ 600000; omega) (by show _ ≤ 7302249; omega) (c_X9_fault_vf I1  (q_G l s dC dI aC pl)) rfl (fun r N2 h2 H locs hp hW hlo => ?_)
  obtain ⟨F2, A2, n2, h2, v2, w2, g2, k2, x2⟩ := hp
  subst n2 h2 w2
  have f2 : gs_fr (fun _ _ => False) (fun _ => False) F1 A1 F2 A2 := by rw [← g2, ← k2]; exact gs_fr_refl _ _ _ _
  have I2 : gs_I F2 A2 := by rw [← g2, ← k2]; exact I1
  have X2 := gs_X_fr X1 (f2.1 106 3 (by first | exact id | (dsimp only; omega))) (f2.2 108 (by first | exact id | (dsimp only; omega)))
  have a2_0_11 := f2.1 0 11 (by first | exact id | omega | (dsimp only; omega) | (dsimp only))
  have a2_0_12 := f2.1 0 12 (by first | exact id | omega | (dsimp only; omega) | (dsimp only))
  have a2_5_0 := f2.1 5 0 (by first | exact id | omega | (dsimp only; omega) | (dsimp only))
  have a2_3_1 := f2.1 3 1 (by first | exact id | omega | (dsimp only; omega) | (dsimp only))
  have a2_43_0 := f2.1 43 0 (by first | exact id | omega | (dsimp only; omega) | (dsimp only))
  have a2_106_0 := f2.1 106 0 (by first | exact id | omega | (dsimp only; omega) | (dsimp only))
  have a2_106_1 := f2.1 106 1 (by first | exact id | omega | (dsimp only; omega) | (dsimp only))
  have a2_106_3 := f2.1 106 3 (by first | exact id | omega | (dsimp only; omega) | (dsimp only))
  have a2_106_17 := f2.1 106 17 (by first | exact id | omega | (dsimp only; omega) | (dsimp only))
  have a2_43_1 := f2.1 43 1 (by first | exact id | omega | (dsimp only; omega) | (dsimp only))
  have a2_106_20 := f2.1 106 20 (by first | exact id | omega | (dsimp only; omega) | (dsimp only))
  have b2_4 := f2.2 4 (by first | exact id | omega | (dsimp only; omega) | (dsimp only))
  have b2_107 := f2.2 107 (by first | exact id | omega | (dsimp only; omega) | (dsimp only))
  have b2_108 := f2.2 108 (by first | exact id | omega | (dsimp only; omega) | (dsimp only))
  have b2_109 := f2.2 109 (by first | exact id | omega | (dsimp only; omega) | (dsimp only))
  have b2_46 := f2.2 46 (by first | exact id | omega | (dsimp only; omega) | (dsimp only))
  have b2_116 := f2.2 116 (by first | exact id | omega | (dsimp only; omega) | (dsimp only))
  have b2_110 := f2.2 110 (by first | exact id | omega | (dsimp only; omega) | (dsimp only))
  have b2_111 := f2.2 111 (by first | exact id | omega | (dsimp only; omega) | (dsimp only))
  have b2_117 := f2.2 117 (by first | exact id | omega | (dsimp only; omega) | (dsimp only))
  have b2_118 := f2.2 118 (by first | exact id | omega | (dsimp only; omega) | (dsimp only))
  have b2_6 := f2.2 6 (by first | exact id | omega | (dsimp only; omega) | (dsimp only))
  have R2a : gs_R1 F2 A2 := gs_R1_mk hR1 (by omega) (by omega) (by omega) (by omega) (by omega) (b2_4.trans b1_4) (b2_107.trans b1_107) (by omega)
  have hF3 : ∀ c j, 54 ≤ c → c < 90 → F2 c j = F c j := fun c j q1 q2 => (f2.1 c j (by first | exact id | (dsimp only; omega))).trans (f1.1 c j (by first | exact id | (dsimp only; omega)))
  have hA3 : ∀ c, 54 ≤ c → c < 90 → A2 c = A c := fun c q1 q2 => (f2.2 c (by first | exact id | (dsimp only; omega))).trans (f1.2 c (by first | exact id | (dsimp only; omega)))
  have R2c : gs_R3 F2 A2 := gs_R3_fr hR3 hI (by omega) hF3 hA3 (b2_108.trans b1_108) (b2_109.trans b1_109)
  have R2a0 : gs_R13 F2 A2 := ⟨R2a, R2c⟩
  have R2a := R2a0
  have R2t : gs_Rt F2 A2 := gs_Rt_fr hRt (by omega) (by omega) (by omega) (b2_46.trans b1_46) (b2_116.trans b1_116)
  have hF9 : ∀ c j, 90 ≤ c → c < 106 → F2 c j = F c j := fun c j q1 q2 => (f2.1 c j (by first | exact id | (dsimp only; omega))).trans (f1.1 c j (by first | exact id | (dsimp only; omega)))
  have hA9 : ∀ c, 90 ≤ c → c < 106 → A2 c = A c := fun c q1 q2 => (f2.2 c (by first | exact id | (dsimp only; omega))).trans (f1.2 c (by first | exact id | (dsimp only; omega)))
  have R2p : gs_Rp F2 A2 := gs_Rp_fr hRp hI (by omega) hF9 hA9 (gs_k8_fr (b2_110.trans b1_110) (b2_111.trans b1_111))
  have R2q : gs_R123 F2 A2 := ⟨R2a, R2t, R2p⟩
  have R2w : gs_W (A2 6) (F2 0 11) := by
    rw [b2_6, b1_6, a2_0_11, a1_0_11]
    exact hRw
  have R2u : gs_R1234 F2 A2 := ⟨R2q, R2w⟩
  have R2v : gs_Rv F2 A2 := gs_Rv_fr hRv (by omega) (by omega) (by omega) (b2_107.trans b1_107) (b2_108.trans b1_108) (b2_109.trans b1_109)
  have R2t2 : gs_R5 F2 A2 := ⟨R2u, R2v⟩
  have R2s : gs_R6 F2 A2 := gs_R6_fr hR6 (by omega) (by omega) hF3 hA3
  have R2 : gs_R5m F2 A2 := ⟨R2t2, R2s⟩
  refine W.eq (g2 := F0 m 509 ls [.int (Int32.ofInt v2)]) rfl ?_
  refine lv_pop hx hb d_law_509 rfl ?_
  refine lv_goto (tgt := 1111) hx hb d_law_510 (by decide) ?_
  exact kk _ _ _ _ _ I2 ⟨X2, R2⟩ hW hlo hl
theorem q_op13 {p : Program} {e : Env} {s : State} {m : MethodId} {below : List Frame} {meth : Method} {c : Code} {b L : Nat} {xs : Nat → Int32} {l : Launch} {dC : Nat → ClassId} {dI : Nat → Nat → Nat} {aC : Nat → ClassId} {pl : Nat} (hL : L ≤ 2560) (C0 : lw_At p s m meth c b L xs) (hK : am_K (q_G l s dC dI aC pl) s) {n : Nat} (hn : n ≤ 1000000) {i : Int} (hi : 0 ≤ i ∧ i + 5 ≤ L) (kk : (∀ (F A : gs_F) (H : Heap) (locs : List Loc) (ls : Array Slot), gs_I F A → ((∀ r : Nat, (r : Int) < F 106 3 → 1 ≤ A 108 r) ∧ gs_R5m F A) → am_W (q_G l s dC dI aC pl) 122 (gs_en F A) H → (∀ q ∈ locs, s.heap.size ≤ q.base) → lv_has ls 4 [(3, .int (Int32.ofInt i)), (2, .ref (s.heap.size + 106)), (1, .ref (s.heap.size + 0)), (0, .ref b)] → W p l e room_1 s m #[Value.ref b] below meth c H locs 122 n (lw_Z below #[Value.ref b] s) (F0 m 1111 ls []))) {F A : gs_F} {H : Heap} {locs : List Loc} {ls : Array Slot} (hI : gs_I F A) (hX : (∀ r : Nat, (r : Int) < F 106 3 → 1 ≤ A 108 r) ∧ gs_R5m F A) (hW : am_W (q_G l s dC dI aC pl) 122 (gs_en F A) H) (hlo : ∀ q ∈ locs, s.heap.size ≤ q.base) (hl : lv_has ls 4 [(3, .int (Int32.ofInt i)), (2, .ref (s.heap.size + 106)), (1, .ref (s.heap.size + 0)), (0, .ref b)]) : W p l e room_1 s m #[Value.ref b] below meth c H locs 122 n (lw_Z below #[Value.ref b] s) (F0 m 513 ls []) := by
  obtain ⟨hx, hb, hr, hml, hown, hts, hXx, hbl, hlocks, hgv⟩ := C0
  obtain ⟨hX, hR⟩ := hX
  obtain ⟨hR, hR6⟩ := hR
  obtain ⟨hR, hRv⟩ := hR
  obtain ⟨hR, hRw⟩ := hR
  obtain ⟨hR, hRt, hRp⟩ := hR
  obtain ⟨hR1, hR3⟩ := hR
  have hR0 := hR1
  obtain ⟨R_1, R_2, R_3, R_4, R_5, R_6, _⟩ := hR0
  have R_0 : (0 : Int) ≤ F 106 1 ∧ F 106 1 ≤ 60 := hI.1 106 1
  have R_c : (0 : Int) ≤ F 106 3 ∧ F 106 3 ≤ 12 := hI.1 106 3
  have R_d : (0 : Int) ≤ F 0 12 ∧ F 0 12 ≤ 12 := hI.1 0 12
  have R_t := hRt.1
  have hg0 : (1 : Int) ≤ F 106 0 ∧ F 106 0 ≤ 3 := hI.1 106 0
  have hts2 := am_hts hts
  have hbA : ¬ (fun q : Nat => s.heap.size ≤ q) b := Nat.not_le.mpr hbl
  obtain ⟨z1, e1, r1⟩ := q_val (xs (Int32.ofInt i + 1).toNatClampNeg)
  obtain ⟨z2, e2, r2⟩ := q_val (xs (Int32.ofInt i + 2).toNatClampNeg)
  have hS := am_S hK.2.1 hW hlo
  refine lv_aload_n hx hb d_law_513 rfl (lv_at hl 2 rfl) ?_
  refine lv_aload_n hx hb d_law_514 rfl (lv_at hl 3 rfl) ?_
  refine lv_iload_n hx hb d_law_515 rfl (lv_at hl 0 rfl) ?_
  refine lv_iconst (v := 1) hx hb d_law_516 (by decide) ?_
  refine lv_iadd hx hb d_law_517 ?_
  refine va_sld hx hb hXx hbl hbA hS (i := Int32.ofInt i + 1) (q_in1 hi (by omega)) d_law_518 ?_
  rw [e1]
  refine lv_aload_n hx hb d_law_519 rfl (lv_at hl 3 rfl) ?_
  refine lv_iload_n hx hb d_law_520 rfl (lv_at hl 0 rfl) ?_
  refine lv_iconst (v := 2) hx hb d_law_521 (by decide) ?_
  refine lv_iadd hx hb d_law_522 ?_
  refine va_sld hx hb hXx hbl hbA hS (i := Int32.ofInt i + 2) (q_in2 hi (by omega)) d_law_523 ?_
  rw [e2]
  refine gw_callV (G := (q_G l s dC dI aC pl)) (cc := code) (own := R_law) (nL := 4) (y2 := m_X8_twist) (n2 := 2) (d2 := 2) (mc2 := 0) (ms2 := 0) (a := 0) (ci := 8) (q := (RX8, TX8, 13)) (as := [gs_iv z1, gs_iv z2]) (rest := []) hx hb hml hown hts2 hK hW hlo hl.1 d_law_524 ok_X8_twist.1 (ri_lw_in (pl := 559) (by decide +kernel)) ok_X8_twist.2.1 ok_X8_twist.2.2 rfl rfl (by decide) (gs_en_obj _ _ (show gs_sh 0 = .inl (8, _) from rfl)) rfl (Nat.le_of_ble_eq_true rfl) (by decide) (by decide) (by show _ ≤ 600000; omega) (by show _ ≤ 7302249; omega) (c_X8_twist_vf hI r1 r2 (q_G l s dC dI aC pl)) rfl (fun r N2 h2 H locs hp hW hlo => ?_)
  obtain ⟨F1, A1, n1, h1, v1, w1, g1, k1, x1⟩ := hp
  subst n1 h1 w1
  have f1 : gs_fr (fun _ _ => False) (fun _ => False) F A F1 A1 := by rw [← g1, ← k1]; exact gs_fr_refl _ _ _ _
  have I1 : gs_I F1 A1 := by rw [← g1, ← k1]; exact hI
  have X1 := gs_X_fr hX (f1.1 106 3 (by first | exact id | (dsimp only; omega))) (f1.2 108 (by first | exact id | (dsimp only; omega)))
  have a1_0_11 := f1.1 0 11 (by first | exact id | omega | (dsimp only; omega) | (dsimp only))
  have a1_0_12 := f1.1 0 12 (by first | exact id | omega | (dsimp only; omega) | (dsimp only))
  have a1_5_0 := f1.1 5 0 (by first | exact id | omega | (dsimp only; omega) | (dsimp only))
  have a1_3_1 := f1.1 3 1 (by first | exact id | omega | (dsimp only; omega) | (dsimp only))
  have a1_43_0 := f1.1 43 0 (by first | exact id | omega | (dsimp only; omega) | (dsimp only))
  have a1_106_0 := f1.1 106 0 (by first | exact id | omega | (dsimp only; omega) | (dsimp only))
  have a1_106_1 := f1.1 106 1 (by first | exact id | omega | (dsimp only; omega) | (dsimp only))
  have a1_106_3 := f1.1 106 3 (by first | exact id | omega | (dsimp only; omega) | (dsimp only))
  have a1_106_17 := f1.1 106 17 (by first | exact id | omega | (dsimp only; omega) | (dsimp only))
  have a1_43_1 := f1.1 43 1 (by first | exact id | omega | (dsimp only; omega) | (dsimp only))
  have a1_106_20 := f1.1 106 20 (by first | exact id | omega | (dsimp only; omega) | (dsimp only))
  have b1_4 := f1.2 4 (by first | exact id | omega | (dsimp only; omega) | (dsimp only))
  have b1_107 := f1.2 107 (by first | exact id | omega | (dsimp only; omega) | (dsimp only))
  have b1_108 := f1.2 108 (by first | exact id | omega | (dsimp only; omega) | (dsimp only))
  have b1_109 := f1.2 109 (by first | exact id | omega | (dsimp only; omega) | (dsimp only))
  have b1_46 := f1.2 46 (by first | exact id | omega | (dsimp only; omega) | (dsimp only))
  have b1_116 := f1.2 116 (by first | exact id | omega | (dsimp only; omega) | (dsimp only))
  have b1_110 := f1.2 110 (by first | exact id | omega | (dsimp only; omega) | (dsimp only))
  have b1_111 := f1.2 111 (by first | exact id | omega | (dsimp only; omega) | (dsimp only))
  have b1_117 := f1.2 117 (by first | exact id | omega | (dsimp only; omega) | (dsimp only))
  have b1_118 := f1.2 118 (by first | exact id | omega | (dsimp only; omega) | (dsimp only))
  have b1_6 := f1.2 6 (by first | exact id | omega | (dsimp only; omega) | (dsimp only))
  refine W.eq (g2 := F0 m 527 ls [.int (Int32.ofInt v1)]) rfl ?_
  refine lv_pop hx hb d_law_527 rfl ?_
  have hS := am_S hK.2.1 hW hlo
  refine lv_aload_n hx hb d_law_528 rfl (lv_at hl 1 rfl) ?_
  refine lv_aload_n hx hb d_law_529 rfl (lv_at hl 3 rfl) ?_
  refine lv_iload_n hx hb d_law_530 rfl (lv_at hl 0 rfl) ?_
  refine lv_iconst (v := 1) hx hb d_law_531 (by decide) ?_
  refine lv_iadd hx hb d_law_532 ?_
  refine va_sld hx hb hXx hbl hbA hS (i := Int32.ofInt i + 1) (q_in1 hi (by omega)) d_law_533 ?_
  rw [e1]
  refine lv_aload_n hx hb d_law_534 rfl (lv_at hl 3 rfl) ?_
  refine lv_iload_n hx hb d_law_535 rfl (lv_at hl 0 rfl) ?_
  refine lv_iconst (v := 2) hx hb d_law_536 (by decide) ?_
  refine lv_iadd hx hb d_law_537 ?_
  refine va_sld hx hb hXx hbl hbA hS (i := Int32.ofInt i + 2) (q_in2 hi (by omega)) d_law_538 ?_
  rw [e2]
  refine gw_callV (G := (q_G l s dC dI aC pl)) (cc := code) (own := R_law) (nL := 4) (y2 := m_X9_twist) (n2 := 2) (d2 := 3) (mc2 := 0) (ms2 := 0) (a := 106) (ci := 9) (q := (RX9, TX9, 28)) (as := [gs_iv z1, gs_iv z2]) (rest := []) hx hb hml hown hts2 hK hW hlo hl.1 d_law_539 ok_X9_twist.1 (ri_lw_in (pl := 1032) (by decide +kernel)) ok_X9_twist.2.1 ok_X9_twist.2.2 rfl rfl (by decide) (gs_en_obj _ _ (show gs_sh 106 = .inl (9, _) from rfl)) rfl (Nat.le_of_ble_eq_true rfl) (by decide) (by decide) (by show _ ≤ 600000; omega) (by show _ ≤ 7302249; omega) (c_X9_twist_vf I1 r1 r2 (q_G l s dC dI aC pl)) rfl (fun r N2 h2 H locs hp hW hlo => ?_)
  obtain ⟨F2, A2, n2, h2, v2, w2, g2, k2, x2⟩ := hp
  subst n2 h2 w2
  have f2 : gs_fr (fun _ _ => False) (fun _ => False) F1 A1 F2 A2 := by rw [← g2, ← k2]; exact gs_fr_refl _ _ _ _
  have I2 : gs_I F2 A2 := by rw [← g2, ← k2]; exact I1
  have X2 := gs_X_fr X1 (f2.1 106 3 (by first | exact id | (dsimp only; omega))) (f2.2 108 (by first | exact id | (dsimp only; omega)))
  have a2_0_11 := f2.1 0 11 (by first | exact id | omega | (dsimp only; omega) | (dsimp only))
  have a2_0_12 := f2.1 0 12 (by first | exact id | omega | (dsimp only; omega) | (dsimp only))
  have a2_5_0 := f2.1 5 0 (by first | exact id | omega | (dsimp only; omega) | (dsimp only))
  have a2_3_1 := f2.1 3 1 (by first | exact id | omega | (dsimp only; omega) | (dsimp only))
  have a2_43_0 := f2.1 43 0 (by first | exact id | omega | (dsimp only; omega) | (dsimp only))
  have a2_106_0 := f2.1 106 0 (by first | exact id | omega | (dsimp only; omega) | (dsimp only))
  have a2_106_1 := f2.1 106 1 (by first | exact id | omega | (dsimp only; omega) | (dsimp only))
  have a2_106_3 := f2.1 106 3 (by first | exact id | omega | (dsimp only; omega) | (dsimp only))
  have a2_106_17 := f2.1 106 17 (by first | exact id | omega | (dsimp only; omega) | (dsimp only))
  have a2_43_1 := f2.1 43 1 (by first | exact id | omega | (dsimp only; omega) | (dsimp only))
  have a2_106_20 := f2.1 106 20 (by first | exact id | omega | (dsimp only; omega) | (dsimp only))
  have b2_4 := f2.2 4 (by first | exact id | omega | (dsimp only; omega) | (dsimp only))
  have b2_107 := f2.2 107 (by first | exact id | omega | (dsimp only; omega) | (dsimp only))
  have b2_108 := f2.2 108 (by first | exact id | omega | (dsimp only; omega) | (dsimp only))
  have b2_109 := f2.2 109 (by first | exact id | omega | (dsimp only; omega) | (dsimp only))
  have b2_46 := f2.2 46 (by first | exact id | omega | (dsimp only; omega) | (dsimp only))
  have b2_116 := f2.2 116 (by first | exact id | omega | (dsimp only; omega) | (dsimp only))
  have b2_110 := f2.2 110 (by first | exact id | omega | (dsimp only; omega) | (dsimp only))
  have b2_111 := f2.2 111 (by first | exact id | omega | (dsimp only; omega) | (dsimp only))
  have b2_117 := f2.2 117 (by first | exact id | omega | (dsimp only; omega) | (dsimp only))
  have b2_118 := f2.2 118 (by first | exact id | omega | (dsimp only; omega) | (dsimp only))
  have b2_6 := f2.2 6 (by first | exact id | omega | (dsimp only; omega) | (dsimp only))
  have R2a : gs_R1 F2 A2 := gs_R1_mk hR1 (by omega) (by omega) (by omega) (by omega) (by omega) (b2_4.trans b1_4) (b2_107.trans b1_107) (by omega)
  have hF3 : ∀ c j, 54 ≤ c → c < 90 → F2 c j = F c j := fun c j q1 q2 => (f2.1 c j (by first | exact id | (dsimp only; omega))).trans (f1.1 c j (by first | exact id | (dsimp only; omega)))
  have hA3 : ∀ c, 54 ≤ c → c < 90 → A2 c = A c := fun c q1 q2 => (f2.2 c (by first | exact id | (dsimp only; omega))).trans (f1.2 c (by first | exact id | (dsimp only; omega)))
  have R2c : gs_R3 F2 A2 := gs_R3_fr hR3 hI (by omega) hF3 hA3 (b2_108.trans b1_108) (b2_109.trans b1_109)
  have R2a0 : gs_R13 F2 A2 := ⟨R2a, R2c⟩
  have R2a := R2a0
  have R2t : gs_Rt F2 A2 := gs_Rt_fr hRt (by omega) (by omega) (by omega) (b2_46.trans b1_46) (b2_116.trans b1_116)
  have hF9 : ∀ c j, 90 ≤ c → c < 106 → F2 c j = F c j := fun c j q1 q2 => (f2.1 c j (by first | exact id | (dsimp only; omega))).trans (f1.1 c j (by first | exact id | (dsimp only; omega)))
  have hA9 : ∀ c, 90 ≤ c → c < 106 → A2 c = A c := fun c q1 q2 => (f2.2 c (by first | exact id | (dsimp only; omega))).trans (f1.2 c (by first | exact id | (dsimp only; omega)))
  have R2p : gs_Rp F2 A2 := gs_Rp_fr hRp hI (by omega) hF9 hA9 (gs_k8_fr (b2_110.trans b1_110) (b2_111.trans b1_111))
  have R2q : gs_R123 F2 A2 := ⟨R2a, R2t, R2p⟩
  have R2w : gs_W (A2 6) (F2 0 11) := by
    rw [b2_6, b1_6, a2_0_11, a1_0_11]
    exact hRw
  have R2u : gs_R1234 F2 A2 := ⟨R2q, R2w⟩
  have R2v : gs_Rv F2 A2 := gs_Rv_fr hRv (by omega) (by omega) (by omega) (b2_107.trans b1_107) (b2_108.trans b1_108) (b2_109.trans b1_109)
  have R2t2 : gs_R5 F2 A2 := ⟨R2u, R2v⟩
  have R2s : gs_R6 F2 A2 := gs_R6_fr hR6 (by omega) (by omega) hF3 hA3
  have R2 : gs_R5m F2 A2 := ⟨R2t2, R2s⟩
  refine W.eq (g2 := F0 m 542 ls [.int (Int32.ofInt v2)]) rfl ?_
  refine lv_pop hx hb d_law_542 rfl ?_
  refine lv_goto (tgt := 1111) hx hb d_law_543 (by decide) ?_
  exact kk _ _ _ _ _ I2 ⟨X2, R2⟩ hW hlo hl
theorem q_op14 {p : Program} {e : Env} {s : State} {m : MethodId} {below : List Frame} {meth : Method} {c : Code} {b L : Nat} {xs : Nat → Int32} {l : Launch} {dC : Nat → ClassId} {dI : Nat → Nat → Nat} {aC : Nat → ClassId} {pl : Nat} (hL : L ≤ 2560) (C0 : lw_At p s m meth c b L xs) (hK : am_K (q_G l s dC dI aC pl) s) {n : Nat} (hn : n ≤ 1000000) {i : Int} (hi : 0 ≤ i ∧ i + 5 ≤ L) (kk : (∀ (F A : gs_F) (H : Heap) (locs : List Loc) (ls : Array Slot), gs_I F A → ((∀ r : Nat, (r : Int) < F 106 3 → 1 ≤ A 108 r) ∧ gs_R5m F A) → am_W (q_G l s dC dI aC pl) 122 (gs_en F A) H → (∀ q ∈ locs, s.heap.size ≤ q.base) → lv_has ls 4 [(3, .int (Int32.ofInt i)), (2, .ref (s.heap.size + 106)), (1, .ref (s.heap.size + 0)), (0, .ref b)] → W p l e room_1 s m #[Value.ref b] below meth c H locs 122 n (lw_Z below #[Value.ref b] s) (F0 m 1111 ls []))) {F A : gs_F} {H : Heap} {locs : List Loc} {ls : Array Slot} (hI : gs_I F A) (hX : (∀ r : Nat, (r : Int) < F 106 3 → 1 ≤ A 108 r) ∧ gs_R5m F A) (hW : am_W (q_G l s dC dI aC pl) 122 (gs_en F A) H) (hlo : ∀ q ∈ locs, s.heap.size ≤ q.base) (hl : lv_has ls 4 [(3, .int (Int32.ofInt i)), (2, .ref (s.heap.size + 106)), (1, .ref (s.heap.size + 0)), (0, .ref b)]) : W p l e room_1 s m #[Value.ref b] below meth c H locs 122 n (lw_Z below #[Value.ref b] s) (F0 m 546 ls []) := by
  obtain ⟨hx, hb, hr, hml, hown, hts, hXx, hbl, hlocks, hgv⟩ := C0
  obtain ⟨hX, hR⟩ := hX
  obtain ⟨hR, hR6⟩ := hR
  obtain ⟨hR, hRv⟩ := hR
  obtain ⟨hR, hRw⟩ := hR
  obtain ⟨hR, hRt, hRp⟩ := hR
  obtain ⟨hR1, hR3⟩ := hR
  have hR0 := hR1
  obtain ⟨R_1, R_2, R_3, R_4, R_5, R_6, _⟩ := hR0
  have R_0 : (0 : Int) ≤ F 106 1 ∧ F 106 1 ≤ 60 := hI.1 106 1
  have R_c : (0 : Int) ≤ F 106 3 ∧ F 106 3 ≤ 12 := hI.1 106 3
  have R_d : (0 : Int) ≤ F 0 12 ∧ F 0 12 ≤ 12 := hI.1 0 12
  have R_t := hRt.1
  have hg0 : (1 : Int) ≤ F 106 0 ∧ F 106 0 ≤ 3 := hI.1 106 0
  have hts2 := am_hts hts
  have hbA : ¬ (fun q : Nat => s.heap.size ≤ q) b := Nat.not_le.mpr hbl
  obtain ⟨z1, e1, r1⟩ := q_val (xs (Int32.ofInt i + 1).toNatClampNeg)
  obtain ⟨z2, e2, r2⟩ := q_val (xs (Int32.ofInt i + 2).toNatClampNeg)
  obtain ⟨z3, e3, r3⟩ := q_val (xs (Int32.ofInt i + 3).toNatClampNeg)
  have hS := am_S hK.2.1 hW hlo
  refine lv_aload_n hx hb d_law_546 rfl (lv_at hl 2 rfl) ?_
  refine lv_aload_n hx hb d_law_547 rfl (lv_at hl 3 rfl) ?_
  refine lv_iload_n hx hb d_law_548 rfl (lv_at hl 0 rfl) ?_
  refine lv_iconst (v := 1) hx hb d_law_549 (by decide) ?_
  refine lv_iadd hx hb d_law_550 ?_
  refine va_sld hx hb hXx hbl hbA hS (i := Int32.ofInt i + 1) (q_in1 hi (by omega)) d_law_551 ?_
  rw [e1]
  refine lv_aload_n hx hb d_law_552 rfl (lv_at hl 3 rfl) ?_
  refine lv_iload_n hx hb d_law_553 rfl (lv_at hl 0 rfl) ?_
  refine lv_iconst (v := 2) hx hb d_law_554 (by decide) ?_
  refine lv_iadd hx hb d_law_555 ?_
  refine va_sld hx hb hXx hbl hbA hS (i := Int32.ofInt i + 2) (q_in2 hi (by omega)) d_law_556 ?_
  rw [e2]
  refine lv_aload_n hx hb d_law_557 rfl (lv_at hl 3 rfl) ?_
  refine lv_iload_n hx hb d_law_558 rfl (lv_at hl 0 rfl) ?_
  refine lv_iconst (v := 3) hx hb d_law_559 (by decide) ?_
  refine lv_iadd hx hb d_law_560 ?_
  refine va_sld hx hb hXx hbl hbA hS (i := Int32.ofInt i + 3) (q_in3 hi (by omega)) d_law_561 ?_
  rw [e3]
  refine gw_callV (G := (q_G l s dC dI aC pl)) (cc := code) (own := R_law) (nL := 4) (y2 := m_X8_chain) (n2 := 3) (d2 := 3) (mc2 := 0) (ms2 := 0) (a := 0) (ci := 8) (q := (RX8, TX8, 13)) (as := [gs_iv z1, gs_iv z2, gs_iv z3]) (rest := []) hx hb hml hown hts2 hK hW hlo hl.1 d_law_562 ok_X8_chain.1 (ri_lw_in (pl := 567) (by decide +kernel)) ok_X8_chain.2.1 ok_X8_chain.2.2 rfl rfl (by decide) (gs_en_obj _ _ (show gs_sh 0 = .inl (8, _) from rfl)) rfl (Nat.le_of_ble_eq_true rfl) (by decide) (by decide) (by show _ ≤ 600000; omega) (by show _ ≤ 7302249; omega) (c_X8_chain_vf hI r1 r2 r3 (q_G l s dC dI aC pl)) rfl (fun r N2 h2 H locs hp hW hlo => ?_)
  obtain ⟨F1, A1, n1, h1, v1, w1, I1, f1, x1⟩ := hp
  subst n1 h1 w1
  have X1 := gs_X_fr hX (f1.1 106 3 (by first | exact id | (dsimp only; omega))) (f1.2 108 (by first | exact id | (dsimp only; omega)))
  have a1_0_11 := f1.1 0 11 (by first | exact id | omega | (dsimp only; omega) | (dsimp only))
  have a1_0_12 := f1.1 0 12 (by first | exact id | omega | (dsimp only; omega) | (dsimp only))
  have a1_5_0 := f1.1 5 0 (by first | exact id | omega | (dsimp only; omega) | (dsimp only))
  have a1_3_1 := f1.1 3 1 (by first | exact id | omega | (dsimp only; omega) | (dsimp only))
  have a1_43_0 := f1.1 43 0 (by first | exact id | omega | (dsimp only; omega) | (dsimp only))
  have a1_106_0 := f1.1 106 0 (by first | exact id | omega | (dsimp only; omega) | (dsimp only))
  have a1_106_1 := f1.1 106 1 (by first | exact id | omega | (dsimp only; omega) | (dsimp only))
  have a1_106_3 := f1.1 106 3 (by first | exact id | omega | (dsimp only; omega) | (dsimp only))
  have a1_106_17 := f1.1 106 17 (by first | exact id | omega | (dsimp only; omega) | (dsimp only))
  have a1_43_1 := f1.1 43 1 (by first | exact id | omega | (dsimp only; omega) | (dsimp only))
  have a1_106_20 := f1.1 106 20 (by first | exact id | omega | (dsimp only; omega) | (dsimp only))
  have b1_4 := f1.2 4 (by first | exact id | omega | (dsimp only; omega) | (dsimp only))
  have b1_107 := f1.2 107 (by first | exact id | omega | (dsimp only; omega) | (dsimp only))
  have b1_108 := f1.2 108 (by first | exact id | omega | (dsimp only; omega) | (dsimp only))
  have b1_109 := f1.2 109 (by first | exact id | omega | (dsimp only; omega) | (dsimp only))
  have b1_46 := f1.2 46 (by first | exact id | omega | (dsimp only; omega) | (dsimp only))
  have b1_116 := f1.2 116 (by first | exact id | omega | (dsimp only; omega) | (dsimp only))
  have b1_110 := f1.2 110 (by first | exact id | omega | (dsimp only; omega) | (dsimp only))
  have b1_111 := f1.2 111 (by first | exact id | omega | (dsimp only; omega) | (dsimp only))
  have b1_117 := f1.2 117 (by first | exact id | omega | (dsimp only; omega) | (dsimp only))
  have b1_118 := f1.2 118 (by first | exact id | omega | (dsimp only; omega) | (dsimp only))
  have b1_6 := f1.2 6 (by first | exact id | omega | (dsimp only; omega) | (dsimp only))
  refine W.eq (g2 := F0 m 565 ls [.int (Int32.ofInt v1)]) rfl ?_
  refine lv_pop hx hb d_law_565 rfl ?_
  have hS := am_S hK.2.1 hW hlo
  refine lv_aload_n hx hb d_law_566 rfl (lv_at hl 1 rfl) ?_
  refine lv_aload_n hx hb d_law_567 rfl (lv_at hl 3 rfl) ?_
  refine lv_iload_n hx hb d_law_568 rfl (lv_at hl 0 rfl) ?_
  refine lv_iconst (v := 1) hx hb d_law_569 (by decide) ?_
  refine lv_iadd hx hb d_law_570 ?_
  refine va_sld hx hb hXx hbl hbA hS (i := Int32.ofInt i + 1) (q_in1 hi (by omega)) d_law_571 ?_
  rw [e1]
  refine lv_aload_n hx hb d_law_572 rfl (lv_at hl 3 rfl) ?_
  refine lv_iload_n hx hb d_law_573 rfl (lv_at hl 0 rfl) ?_
  refine lv_iconst (v := 2) hx hb d_law_574 (by decide) ?_
  refine lv_iadd hx hb d_law_575 ?_
  refine va_sld hx hb hXx hbl hbA hS (i := Int32.ofInt i + 2) (q_in2 hi (by omega)) d_law_576 ?_
  rw [e2]
  refine lv_aload_n hx hb d_law_577 rfl (lv_at hl 3 rfl) ?_
  refine lv_iload_n hx hb d_law_578 rfl (lv_at hl 0 rfl) ?_
  refine lv_iconst (v := 3) hx hb d_law_579 (by decide) ?_
  refine lv_iadd hx hb d_law_580 ?_
  refine va_sld hx hb hXx hbl hbA hS (i := Int32.ofInt i + 3) (q_in3 hi (by omega)) d_law_581 ?_
  rw [e3]
  refine gw_callV (G := (q_G l s dC dI aC pl)) (cc := code) (own := R_law) (nL := 4) (y2 := m_X9_chain) (n2 := 3) (d2 := 3) (mc2 := 0) (ms2 := 0) (a := 106) (ci := 9) (q := (RX9, TX9, 28)) (as := [gs_iv z1, gs_iv z2, gs_iv z3]) (rest := []) hx hb hml hown hts2 hK hW hlo hl.1 d_law_582 ok_X9_chain.1 (ri_lw_in (pl := 1036) (by decide +kernel)) ok_X9_chain.2.1 ok_X9_chain.2.2 rfl rfl (by decide) (gs_en_obj _ _ (show gs_sh 106 = .inl (9, _) from rfl)) rfl (Nat.le_of_ble_eq_true rfl) (by decide) (by decide) (by show _ ≤ 600000; omega) (by show _ ≤ 7302249; omega) (c_X9_chain_vf I1 r1 r2 r3 (q_G l s dC dI aC pl)) rfl (fun r N2 h2 H locs hp hW hlo => ?_)
  obtain ⟨F2, A2, n2, h2, v2, w2, I2, f2, x2⟩ := hp
  subst n2 h2 w2
  have X2 := gs_X_fr X1 (f2.1 106 3 (by first | exact id | (dsimp only; omega))) (f2.2 108 (by first | exact id | (dsimp only; omega)))
  have a2_0_11 := f2.1 0 11 (by first | exact id | omega | (dsimp only; omega) | (dsimp only))
  have a2_0_12 := f2.1 0 12 (by first | exact id | omega | (dsimp only; omega) | (dsimp only))
  have a2_5_0 := f2.1 5 0 (by first | exact id | omega | (dsimp only; omega) | (dsimp only))
  have a2_3_1 := f2.1 3 1 (by first | exact id | omega | (dsimp only; omega) | (dsimp only))
  have a2_43_0 := f2.1 43 0 (by first | exact id | omega | (dsimp only; omega) | (dsimp only))
  have a2_106_0 := f2.1 106 0 (by first | exact id | omega | (dsimp only; omega) | (dsimp only))
  have a2_106_1 := f2.1 106 1 (by first | exact id | omega | (dsimp only; omega) | (dsimp only))
  have a2_106_3 := f2.1 106 3 (by first | exact id | omega | (dsimp only; omega) | (dsimp only))
  have a2_106_17 := f2.1 106 17 (by first | exact id | omega | (dsimp only; omega) | (dsimp only))
  have a2_43_1 := f2.1 43 1 (by first | exact id | omega | (dsimp only; omega) | (dsimp only))
  have a2_106_20 := f2.1 106 20 (by first | exact id | omega | (dsimp only; omega) | (dsimp only))
  have b2_4 := f2.2 4 (by first | exact id | omega | (dsimp only; omega) | (dsimp only))
  have b2_107 := f2.2 107 (by first | exact id | omega | (dsimp only; omega) | (dsimp only))
  have b2_108 := f2.2 108 (by first | exact id | omega | (dsimp only; omega) | (dsimp only))
  have b2_109 := f2.2 109 (by first | exact id | omega | (dsimp only; omega) | (dsimp only))
  have b2_46 := f2.2 46 (by first | exact id | omega | (dsimp only; omega) | (dsimp only))
  have b2_116 := f2.2 116 (by first | exact id | omega | (dsimp only; omega) | (dsimp only))
  have b2_117 := f2.2 117 (by first | exact id | omega | (dsimp only; omega) | (dsimp only))
  have b2_6 := f2.2 6 (by first | exact id | omega | (dsimp only; omega) | (dsimp only))
  rw [b1_110, b1_111] at x2
  have c6 : ∀ c j, c < 106 → F2 c j = F1 c j := fun c j q1 => f2.1 c j (by first | exact id | (dsimp only; omega))
  have c7 : ∀ c, c < 106 → A2 c = A1 c := fun c q1 => f2.2 c (by first | exact id | (dsimp only; omega))
  obtain ⟨ev, R2p⟩ := gs_chain_ev hI hRp x1 x2 c6 c7 (by omega) (fun hp c j q1 q2 q3 => f1.1 c j (by dsimp only; omega)) (fun hp c q1 q2 q3 => f1.2 c (by dsimp only; omega))
  have R2a : gs_R1 F2 A2 := gs_R1_mk hR1 (by omega) (by omega) (by omega) (by omega) (by omega) (b2_4.trans b1_4) (b2_107.trans b1_107) (by omega)
  have hF3 : ∀ c j, 54 ≤ c → c < 90 → F2 c j = F c j := fun c j q1 q2 => (f2.1 c j (by first | exact id | (dsimp only; omega))).trans (f1.1 c j (by first | exact id | (dsimp only; omega)))
  have hA3 : ∀ c, 54 ≤ c → c < 90 → A2 c = A c := fun c q1 q2 => (f2.2 c (by first | exact id | (dsimp only; omega))).trans (f1.2 c (by first | exact id | (dsimp only; omega)))
  have R2c : gs_R3 F2 A2 := gs_R3_fr hR3 hI (by omega) hF3 hA3 (b2_108.trans b1_108) (b2_109.trans b1_109)
  have R2a0 : gs_R13 F2 A2 := ⟨R2a, R2c⟩
  have R2a := R2a0
  have R2t : gs_Rt F2 A2 := gs_Rt_fr hRt (by omega) (by omega) (by omega) (b2_46.trans b1_46) (b2_116.trans b1_116)
  have R2q : gs_R123 F2 A2 := ⟨R2a, R2t, R2p⟩
  have R2w : gs_W (A2 6) (F2 0 11) := by
    rw [b2_6, b1_6, a2_0_11, a1_0_11]
    exact hRw
  have R2u : gs_R1234 F2 A2 := ⟨R2q, R2w⟩
  have R2v : gs_Rv F2 A2 := gs_Rv_fr hRv (by omega) (by omega) (by omega) (b2_107.trans b1_107) (b2_108.trans b1_108) (b2_109.trans b1_109)
  have R2t2 : gs_R5 F2 A2 := ⟨R2u, R2v⟩
  have R2s : gs_R6 F2 A2 := gs_R6_fr hR6 (by omega) (by omega) hF3 hA3
  have R2 : gs_R5m F2 A2 := ⟨R2t2, R2s⟩
  refine W.eq (g2 := F0 m 585 ls [.int (Int32.ofInt v2)]) rfl ?_
  refine lv_pop hx hb d_law_585 rfl ?_
  refine lv_goto (tgt := 1111) hx hb d_law_586 (by decide) ?_
  exact kk _ _ _ _ _ I2 ⟨X2, R2⟩ hW hlo hl
theorem q_op15 {p : Program} {e : Env} {s : State} {m : MethodId} {below : List Frame} {meth : Method} {c : Code} {b L : Nat} {xs : Nat → Int32} {l : Launch} {dC : Nat → ClassId} {dI : Nat → Nat → Nat} {aC : Nat → ClassId} {pl : Nat} (hL : L ≤ 2560) (C0 : lw_At p s m meth c b L xs) (hK : am_K (q_G l s dC dI aC pl) s) {n : Nat} (hn : n ≤ 1000000) {i : Int} (hi : 0 ≤ i ∧ i + 5 ≤ L) (kk : (∀ (F A : gs_F) (H : Heap) (locs : List Loc) (ls : Array Slot), gs_I F A → ((∀ r : Nat, (r : Int) < F 106 3 → 1 ≤ A 108 r) ∧ gs_R5m F A) → am_W (q_G l s dC dI aC pl) 122 (gs_en F A) H → (∀ q ∈ locs, s.heap.size ≤ q.base) → lv_has ls 4 [(3, .int (Int32.ofInt i)), (2, .ref (s.heap.size + 106)), (1, .ref (s.heap.size + 0)), (0, .ref b)] → W p l e room_1 s m #[Value.ref b] below meth c H locs 122 n (lw_Z below #[Value.ref b] s) (F0 m 1111 ls []))) {F A : gs_F} {H : Heap} {locs : List Loc} {ls : Array Slot} (hI : gs_I F A) (hX : (∀ r : Nat, (r : Int) < F 106 3 → 1 ≤ A 108 r) ∧ gs_R5m F A) (hW : am_W (q_G l s dC dI aC pl) 122 (gs_en F A) H) (hlo : ∀ q ∈ locs, s.heap.size ≤ q.base) (hl : lv_has ls 4 [(3, .int (Int32.ofInt i)), (2, .ref (s.heap.size + 106)), (1, .ref (s.heap.size + 0)), (0, .ref b)]) : W p l e room_1 s m #[Value.ref b] below meth c H locs 122 n (lw_Z below #[Value.ref b] s) (F0 m 589 ls []) := by
  obtain ⟨hx, hb, hr, hml, hown, hts, hXx, hbl, hlocks, hgv⟩ := C0
  obtain ⟨hX, hR⟩ := hX
  obtain ⟨hR, hR6⟩ := hR
  obtain ⟨hR, hRv⟩ := hR
  obtain ⟨hR, hRw⟩ := hR
  obtain ⟨hR, hRt, hRp⟩ := hR
  obtain ⟨hR1, hR3⟩ := hR
  have hR0 := hR1
  obtain ⟨R_1, R_2, R_3, R_4, R_5, R_6, _⟩ := hR0
  have R_0 : (0 : Int) ≤ F 106 1 ∧ F 106 1 ≤ 60 := hI.1 106 1
  have R_c : (0 : Int) ≤ F 106 3 ∧ F 106 3 ≤ 12 := hI.1 106 3
  have R_d : (0 : Int) ≤ F 0 12 ∧ F 0 12 ≤ 12 := hI.1 0 12
  have R_t := hRt.1
  have hg0 : (1 : Int) ≤ F 106 0 ∧ F 106 0 ≤ 3 := hI.1 106 0
  have hts2 := am_hts hts
  have hbA : ¬ (fun q : Nat => s.heap.size ≤ q) b := Nat.not_le.mpr hbl
  obtain ⟨z1, e1, r1⟩ := q_val (xs (Int32.ofInt i + 1).toNatClampNeg)
  obtain ⟨z2, e2, r2⟩ := q_val (xs (Int32.ofInt i + 2).toNatClampNeg)
  have hS := am_S hK.2.1 hW hlo
  refine lv_aload_n hx hb d_law_589 rfl (lv_at hl 2 rfl) ?_
  refine lv_aload_n hx hb d_law_590 rfl (lv_at hl 3 rfl) ?_
  refine lv_iload_n hx hb d_law_591 rfl (lv_at hl 0 rfl) ?_
  refine lv_iconst (v := 1) hx hb d_law_592 (by decide) ?_
  refine lv_iadd hx hb d_law_593 ?_
  refine va_sld hx hb hXx hbl hbA hS (i := Int32.ofInt i + 1) (q_in1 hi (by omega)) d_law_594 ?_
  rw [e1]
  refine lv_aload_n hx hb d_law_595 rfl (lv_at hl 3 rfl) ?_
  refine lv_iload_n hx hb d_law_596 rfl (lv_at hl 0 rfl) ?_
  refine lv_iconst (v := 2) hx hb d_law_597 (by decide) ?_
  refine lv_iadd hx hb d_law_598 ?_
  refine va_sld hx hb hXx hbl hbA hS (i := Int32.ofInt i + 2) (q_in2 hi (by omega)) d_law_599 ?_
  rw [e2]
  refine gw_callV (G := (q_G l s dC dI aC pl)) (cc := code) (own := R_law) (nL := 4) (y2 := m_X8_turn) (n2 := 2) (d2 := 3) (mc2 := 0) (ms2 := 0) (a := 0) (ci := 8) (q := (RX8, TX8, 13)) (as := [gs_iv z1, gs_iv z2]) (rest := []) hx hb hml hown hts2 hK hW hlo hl.1 d_law_600 ok_X8_turn.1 (ri_lw_in (pl := 576) (by decide +kernel)) ok_X8_turn.2.1 ok_X8_turn.2.2 rfl rfl (by decide) (gs_en_obj _ _ (show gs_sh 0 = .inl (8, _) from rfl)) rfl (Nat.le_of_ble_eq_true rfl) (by decide) (by decide) (by show _ ≤ 600000; omega) (by show _ ≤ 7302249; omega) (c_X8_turn_vf hI r1 r2 (q_G l s dC dI aC pl)) rfl (fun r N2 h2 H locs hp hW hlo => ?_)
  obtain ⟨F1, A1, n1, h1, v1, w1, I1, f1, x1⟩ := hp
  subst n1 h1 w1
  have X1 := gs_X_fr hX (f1.1 106 3 (by first | exact id | (dsimp only; omega))) (f1.2 108 (by first | exact id | (dsimp only; omega)))
  have a1_0_11 := f1.1 0 11 (by first | exact id | omega | (dsimp only; omega) | (dsimp only))
  have a1_0_12 := f1.1 0 12 (by first | exact id | omega | (dsimp only; omega) | (dsimp only))
  have a1_5_0 := f1.1 5 0 (by first | exact id | omega | (dsimp only; omega) | (dsimp only))
  have a1_3_1 := f1.1 3 1 (by first | exact id | omega | (dsimp only; omega) | (dsimp only))
  have a1_43_0 := f1.1 43 0 (by first | exact id | omega | (dsimp only; omega) | (dsimp only))
  have a1_106_0 := f1.1 106 0 (by first | exact id | omega | (dsimp only; omega) | (dsimp only))
  have a1_106_1 := f1.1 106 1 (by first | exact id | omega | (dsimp only; omega) | (dsimp only))
  have a1_106_3 := f1.1 106 3 (by first | exact id | omega | (dsimp only; omega) | (dsimp only))
  have a1_106_17 := f1.1 106 17 (by first | exact id | omega | (dsimp only; omega) | (dsimp only))
  have a1_43_1 := f1.1 43 1 (by first | exact id | omega | (dsimp only; omega) | (dsimp only))
  have a1_106_20 := f1.1 106 20 (by first | exact id | omega | (dsimp only; omega) | (dsimp only))
  have b1_4 := f1.2 4 (by first | exact id | omega | (dsimp only; omega) | (dsimp only))
  have b1_107 := f1.2 107 (by first | exact id | omega | (dsimp only; omega) | (dsimp only))
  have b1_108 := f1.2 108 (by first | exact id | omega | (dsimp only; omega) | (dsimp only))
  have b1_109 := f1.2 109 (by first | exact id | omega | (dsimp only; omega) | (dsimp only))
  have b1_46 := f1.2 46 (by first | exact id | omega | (dsimp only; omega) | (dsimp only))
  have b1_116 := f1.2 116 (by first | exact id | omega | (dsimp only; omega) | (dsimp only))
  have b1_110 := f1.2 110 (by first | exact id | omega | (dsimp only; omega) | (dsimp only))
  have b1_111 := f1.2 111 (by first | exact id | omega | (dsimp only; omega) | (dsimp only))
  have b1_117 := f1.2 117 (by first | exact id | omega | (dsimp only; omega) | (dsimp only))
  have b1_118 := f1.2 118 (by first | exact id | omega | (dsimp only; omega) | (dsimp only))
  have b1_6 := f1.2 6 (by first | exact id | omega | (dsimp only; omega) | (dsimp only))
  refine W.eq (g2 := F0 m 603 ls [.int (Int32.ofInt v1)]) rfl ?_
  refine lv_pop hx hb d_law_603 rfl ?_
  have hS := am_S hK.2.1 hW hlo
  refine lv_aload_n hx hb d_law_604 rfl (lv_at hl 1 rfl) ?_
  refine lv_aload_n hx hb d_law_605 rfl (lv_at hl 3 rfl) ?_
  refine lv_iload_n hx hb d_law_606 rfl (lv_at hl 0 rfl) ?_
  refine lv_iconst (v := 1) hx hb d_law_607 (by decide) ?_
  refine lv_iadd hx hb d_law_608 ?_
  refine va_sld hx hb hXx hbl hbA hS (i := Int32.ofInt i + 1) (q_in1 hi (by omega)) d_law_609 ?_
  rw [e1]
  refine lv_aload_n hx hb d_law_610 rfl (lv_at hl 3 rfl) ?_
  refine lv_iload_n hx hb d_law_611 rfl (lv_at hl 0 rfl) ?_
  refine lv_iconst (v := 2) hx hb d_law_612 (by decide) ?_
  refine lv_iadd hx hb d_law_613 ?_
  refine va_sld hx hb hXx hbl hbA hS (i := Int32.ofInt i + 2) (q_in2 hi (by omega)) d_law_614 ?_
  rw [e2]
  refine gw_callV (G := (q_G l s dC dI aC pl)) (cc := code) (own := R_law) (nL := 4) (y2 := m_X9_turn) (n2 := 2) (d2 := 3) (mc2 := 0) (ms2 := 0) (a := 106) (ci := 9) (q := (RX9, TX9, 28)) (as := [gs_iv z1, gs_iv z2]) (rest := []) hx hb hml hown hts2 hK hW hlo hl.1 d_law_615 ok_X9_turn.1 (ri_lw_in (pl := 1040) (by decide +kernel)) ok_X9_turn.2.1 ok_X9_turn.2.2 rfl rfl (by decide) (gs_en_obj _ _ (show gs_sh 106 = .inl (9, _) from rfl)) rfl (Nat.le_of_ble_eq_true rfl) (by decide) (by decide) (by show _ ≤ 600000; omega) (by show _ ≤ 7302249; omega) (c_X9_turn_vf I1 r1 r2 (gs_code15 hI hRp b1_110 b1_111) (q_G l s dC dI aC pl)) rfl (fun r N2 h2 H locs hp hW hlo => ?_)
  obtain ⟨F2, A2, n2, h2, v2, w2, I2, f2, x2⟩ := hp
  subst n2 h2 w2
  have X2 := gs_X_fr X1 (f2.1 106 3 (by first | exact id | (dsimp only; omega))) (f2.2 108 (by first | exact id | (dsimp only; omega)))
  have a2_0_11 := f2.1 0 11 (by first | exact id | omega | (dsimp only; omega) | (dsimp only))
  have a2_0_12 := f2.1 0 12 (by first | exact id | omega | (dsimp only; omega) | (dsimp only))
  have a2_5_0 := f2.1 5 0 (by first | exact id | omega | (dsimp only; omega) | (dsimp only))
  have a2_3_1 := f2.1 3 1 (by first | exact id | omega | (dsimp only; omega) | (dsimp only))
  have a2_43_0 := f2.1 43 0 (by first | exact id | omega | (dsimp only; omega) | (dsimp only))
  have a2_106_0 := f2.1 106 0 (by first | exact id | omega | (dsimp only; omega) | (dsimp only))
  have a2_106_1 := f2.1 106 1 (by first | exact id | omega | (dsimp only; omega) | (dsimp only))
  have a2_106_3 := f2.1 106 3 (by first | exact id | omega | (dsimp only; omega) | (dsimp only))
  have a2_106_17 := f2.1 106 17 (by first | exact id | omega | (dsimp only; omega) | (dsimp only))
  have a2_43_1 := f2.1 43 1 (by first | exact id | omega | (dsimp only; omega) | (dsimp only))
  have a2_106_20 := f2.1 106 20 (by first | exact id | omega | (dsimp only; omega) | (dsimp only))
  have b2_4 := f2.2 4 (by first | exact id | omega | (dsimp only; omega) | (dsimp only))
  have b2_107 := f2.2 107 (by first | exact id | omega | (dsimp only; omega) | (dsimp only))
  have b2_108 := f2.2 108 (by first | exact id | omega | (dsimp only; omega) | (dsimp only))
  have b2_109 := f2.2 109 (by first | exact id | omega | (dsimp only; omega) | (dsimp only))
  have b2_46 := f2.2 46 (by first | exact id | omega | (dsimp only; omega) | (dsimp only))
  have b2_116 := f2.2 116 (by first | exact id | omega | (dsimp only; omega) | (dsimp only))
  have b2_117 := f2.2 117 (by first | exact id | omega | (dsimp only; omega) | (dsimp only))
  have b2_6 := f2.2 6 (by first | exact id | omega | (dsimp only; omega) | (dsimp only))
  rw [b1_110, b1_111] at x2
  have c6 : ∀ c j, c < 106 → F2 c j = F1 c j := fun c j q1 => f2.1 c j (by first | exact id | (dsimp only; omega))
  have c7 : ∀ c, c < 106 → A2 c = A1 c := fun c q1 => f2.2 c (by first | exact id | (dsimp only; omega))
  obtain ⟨ev, R2p⟩ := gs_turn_ev hI hRp x1 x2 c6 c7 (by omega) (fun hp c j q1 q2 q3 => f1.1 c j (by dsimp only; omega)) (fun hp c q1 q2 q3 => f1.2 c (by dsimp only; omega))
  have R2a : gs_R1 F2 A2 := gs_R1_mk hR1 (by omega) (by omega) (by omega) (by omega) (by omega) (b2_4.trans b1_4) (b2_107.trans b1_107) (by omega)
  have hF3 : ∀ c j, 54 ≤ c → c < 90 → F2 c j = F c j := fun c j q1 q2 => (f2.1 c j (by first | exact id | (dsimp only; omega))).trans (f1.1 c j (by first | exact id | (dsimp only; omega)))
  have hA3 : ∀ c, 54 ≤ c → c < 90 → A2 c = A c := fun c q1 q2 => (f2.2 c (by first | exact id | (dsimp only; omega))).trans (f1.2 c (by first | exact id | (dsimp only; omega)))
  have R2c : gs_R3 F2 A2 := gs_R3_fr hR3 hI (by omega) hF3 hA3 (b2_108.trans b1_108) (b2_109.trans b1_109)
  have R2a0 : gs_R13 F2 A2 := ⟨R2a, R2c⟩
  have R2a := R2a0
  have R2t : gs_Rt F2 A2 := gs_Rt_fr hRt (by omega) (by omega) (by omega) (b2_46.trans b1_46) (b2_116.trans b1_116)
  have R2q : gs_R123 F2 A2 := ⟨R2a, R2t, R2p⟩
  have R2w : gs_W (A2 6) (F2 0 11) := by
    rw [b2_6, b1_6, a2_0_11, a1_0_11]
    exact hRw
  have R2u : gs_R1234 F2 A2 := ⟨R2q, R2w⟩
  have R2v : gs_Rv F2 A2 := gs_Rv_fr hRv (by omega) (by omega) (by omega) (b2_107.trans b1_107) (b2_108.trans b1_108) (b2_109.trans b1_109)
  have R2t2 : gs_R5 F2 A2 := ⟨R2u, R2v⟩
  have R2s : gs_R6 F2 A2 := gs_R6_fr hR6 (by omega) (by omega) hF3 hA3
  have R2 : gs_R5m F2 A2 := ⟨R2t2, R2s⟩
  refine W.eq (g2 := F0 m 618 ls [.int (Int32.ofInt v2)]) rfl ?_
  refine lv_pop hx hb d_law_618 rfl ?_
  refine lv_goto (tgt := 1111) hx hb d_law_619 (by decide) ?_
  exact kk _ _ _ _ _ I2 ⟨X2, R2⟩ hW hlo hl
theorem q_op16 {p : Program} {e : Env} {s : State} {m : MethodId} {below : List Frame} {meth : Method} {c : Code} {b L : Nat} {xs : Nat → Int32} {l : Launch} {dC : Nat → ClassId} {dI : Nat → Nat → Nat} {aC : Nat → ClassId} {pl : Nat} (hL : L ≤ 2560) (C0 : lw_At p s m meth c b L xs) (hK : am_K (q_G l s dC dI aC pl) s) {n : Nat} (hn : n ≤ 1000000) {i : Int} (hi : 0 ≤ i ∧ i + 5 ≤ L) (kk : (∀ (F A : gs_F) (H : Heap) (locs : List Loc) (ls : Array Slot), gs_I F A → ((∀ r : Nat, (r : Int) < F 106 3 → 1 ≤ A 108 r) ∧ gs_R5m F A) → am_W (q_G l s dC dI aC pl) 122 (gs_en F A) H → (∀ q ∈ locs, s.heap.size ≤ q.base) → lv_has ls 4 [(3, .int (Int32.ofInt i)), (2, .ref (s.heap.size + 106)), (1, .ref (s.heap.size + 0)), (0, .ref b)] → W p l e room_1 s m #[Value.ref b] below meth c H locs 122 n (lw_Z below #[Value.ref b] s) (F0 m 1111 ls []))) {F A : gs_F} {H : Heap} {locs : List Loc} {ls : Array Slot} (hI : gs_I F A) (hX : (∀ r : Nat, (r : Int) < F 106 3 → 1 ≤ A 108 r) ∧ gs_R5m F A) (hW : am_W (q_G l s dC dI aC pl) 122 (gs_en F A) H) (hlo : ∀ q ∈ locs, s.heap.size ≤ q.base) (hl : lv_has ls 4 [(3, .int (Int32.ofInt i)), (2, .ref (s.heap.size + 106)), (1, .ref (s.heap.size + 0)), (0, .ref b)]) : W p l e room_1 s m #[Value.ref b] below meth c H locs 122 n (lw_Z below #[Value.ref b] s) (F0 m 622 ls []) := by
  obtain ⟨hx, hb, hr, hml, hown, hts, hXx, hbl, hlocks, hgv⟩ := C0
  obtain ⟨hX, hR⟩ := hX
  obtain ⟨hR, hR6⟩ := hR
  obtain ⟨hR, hRv⟩ := hR
  obtain ⟨hR, hRw⟩ := hR
  obtain ⟨hR, hRt, hRp⟩ := hR
  obtain ⟨hR1, hR3⟩ := hR
  have hR0 := hR1
  obtain ⟨R_1, R_2, R_3, R_4, R_5, R_6, _⟩ := hR0
  have R_0 : (0 : Int) ≤ F 106 1 ∧ F 106 1 ≤ 60 := hI.1 106 1
  have R_c : (0 : Int) ≤ F 106 3 ∧ F 106 3 ≤ 12 := hI.1 106 3
  have R_d : (0 : Int) ≤ F 0 12 ∧ F 0 12 ≤ 12 := hI.1 0 12
  have R_t := hRt.1
  have hg0 : (1 : Int) ≤ F 106 0 ∧ F 106 0 ≤ 3 := hI.1 106 0
  have hts2 := am_hts hts
  have hbA : ¬ (fun q : Nat => s.heap.size ≤ q) b := Nat.not_le.mpr hbl
  obtain ⟨z1, e1, r1⟩ := q_val (xs (Int32.ofInt i + 1).toNatClampNeg)
  obtain ⟨z2, e2, r2⟩ := q_val (xs (Int32.ofInt i + 2).toNatClampNeg)
  obtain ⟨z3, e3, r3⟩ := q_val (xs (Int32.ofInt i + 3).toNatClampNeg)
  have hS := am_S hK.2.1 hW hlo
  refine lv_aload_n hx hb d_law_622 rfl (lv_at hl 2 rfl) ?_
  refine lv_aload_n hx hb d_law_623 rfl (lv_at hl 3 rfl) ?_
  refine lv_iload_n hx hb d_law_624 rfl (lv_at hl 0 rfl) ?_
  refine lv_iconst (v := 1) hx hb d_law_625 (by decide) ?_
  refine lv_iadd hx hb d_law_626 ?_
  refine va_sld hx hb hXx hbl hbA hS (i := Int32.ofInt i + 1) (q_in1 hi (by omega)) d_law_627 ?_
  rw [e1]
  refine lv_aload_n hx hb d_law_628 rfl (lv_at hl 3 rfl) ?_
  refine lv_iload_n hx hb d_law_629 rfl (lv_at hl 0 rfl) ?_
  refine lv_iconst (v := 2) hx hb d_law_630 (by decide) ?_
  refine lv_iadd hx hb d_law_631 ?_
  refine va_sld hx hb hXx hbl hbA hS (i := Int32.ofInt i + 2) (q_in2 hi (by omega)) d_law_632 ?_
  rw [e2]
  refine lv_aload_n hx hb d_law_633 rfl (lv_at hl 3 rfl) ?_
  refine lv_iload_n hx hb d_law_634 rfl (lv_at hl 0 rfl) ?_
  refine lv_iconst (v := 3) hx hb d_law_635 (by decide) ?_
  refine lv_iadd hx hb d_law_636 ?_
  refine va_sld hx hb hXx hbl hbA hS (i := Int32.ofInt i + 3) (q_in3 hi (by omega)) d_law_637 ?_
  rw [e3]
  refine gw_callV (G := (q_G l s dC dI aC pl)) (cc := code) (own := R_law) (nL := 4) (y2 := m_X8_image) (n2 := 3) (d2 := 4) (mc2 := 0) (ms2 := 0) (a := 0) (ci := 8) (q := (RX8, TX8, 13)) (as := [gs_iv z1, gs_iv z2, gs_iv z3]) (rest := []) hx hb hml hown hts2 hK hW hlo hl.1 d_law_638 ok_X8_image.1 (ri_lw_in (pl := 584) (by decide +kernel)) ok_X8_image.2.1 ok_X8_image.2.2 rfl rfl (by decide) (gs_en_obj _ _ (show gs_sh 0 = .inl (8, _) from rfl)) rfl (Nat.le_of_ble_eq_true rfl) (by decide) (by decide) (by show _ ≤ 600000; omega) (by show _ ≤ 7302249; omega) (c_X8_image_vf hI r1 r2 r3 hRw (gs_codeC hRp R_1) (q_G l s dC dI aC pl)) rfl (fun r N2 h2 H locs hp hW hlo => ?_)
  obtain ⟨F1, A1, n1, h1, v1, w1, I1, f1, x1⟩ := hp
  subst n1 h1 w1
  have X1 := gs_X_fr hX (f1.1 106 3 (by first | exact id | (dsimp only; omega))) (f1.2 108 (by first | exact id | (dsimp only; omega)))
  have a1_0_11 := f1.1 0 11 (by first | exact id | omega | (dsimp only; omega) | (dsimp only))
  have a1_0_12 := f1.1 0 12 (by first | exact id | omega | (dsimp only; omega) | (dsimp only))
  have a1_5_0 := f1.1 5 0 (by first | exact id | omega | (dsimp only; omega) | (dsimp only))
  have a1_3_1 := f1.1 3 1 (by first | exact id | omega | (dsimp only; omega) | (dsimp only))
  have a1_43_0 := f1.1 43 0 (by first | exact id | omega | (dsimp only; omega) | (dsimp only))
  have a1_106_0 := f1.1 106 0 (by first | exact id | omega | (dsimp only; omega) | (dsimp only))
  have a1_106_1 := f1.1 106 1 (by first | exact id | omega | (dsimp only; omega) | (dsimp only))
  have a1_106_3 := f1.1 106 3 (by first | exact id | omega | (dsimp only; omega) | (dsimp only))
  have a1_106_17 := f1.1 106 17 (by first | exact id | omega | (dsimp only; omega) | (dsimp only))
  have a1_43_1 := f1.1 43 1 (by first | exact id | omega | (dsimp only; omega) | (dsimp only))
  have a1_106_20 := f1.1 106 20 (by first | exact id | omega | (dsimp only; omega) | (dsimp only))
  have b1_4 := f1.2 4 (by first | exact id | omega | (dsimp only; omega) | (dsimp only))
  have b1_107 := f1.2 107 (by first | exact id | omega | (dsimp only; omega) | (dsimp only))
  have b1_108 := f1.2 108 (by first | exact id | omega | (dsimp only; omega) | (dsimp only))
  have b1_109 := f1.2 109 (by first | exact id | omega | (dsimp only; omega) | (dsimp only))
  have b1_46 := f1.2 46 (by first | exact id | omega | (dsimp only; omega) | (dsimp only))
  have b1_116 := f1.2 116 (by first | exact id | omega | (dsimp only; omega) | (dsimp only))
  have b1_110 := f1.2 110 (by first | exact id | omega | (dsimp only; omega) | (dsimp only))
  have b1_111 := f1.2 111 (by first | exact id | omega | (dsimp only; omega) | (dsimp only))
  have b1_117 := f1.2 117 (by first | exact id | omega | (dsimp only; omega) | (dsimp only))
  have b1_118 := f1.2 118 (by first | exact id | omega | (dsimp only; omega) | (dsimp only))
  have b1_6 := f1.2 6 (by first | exact id | omega | (dsimp only; omega) | (dsimp only))
  refine W.eq (g2 := F0 m 641 ls [.int (Int32.ofInt v1)]) rfl ?_
  refine lv_pop hx hb d_law_641 rfl ?_
  have hS := am_S hK.2.1 hW hlo
  refine lv_aload_n hx hb d_law_642 rfl (lv_at hl 1 rfl) ?_
  refine lv_aload_n hx hb d_law_643 rfl (lv_at hl 3 rfl) ?_
  refine lv_iload_n hx hb d_law_644 rfl (lv_at hl 0 rfl) ?_
  refine lv_iconst (v := 1) hx hb d_law_645 (by decide) ?_
  refine lv_iadd hx hb d_law_646 ?_
  refine va_sld hx hb hXx hbl hbA hS (i := Int32.ofInt i + 1) (q_in1 hi (by omega)) d_law_647 ?_
  rw [e1]
  refine lv_aload_n hx hb d_law_648 rfl (lv_at hl 3 rfl) ?_
  refine lv_iload_n hx hb d_law_649 rfl (lv_at hl 0 rfl) ?_
  refine lv_iconst (v := 2) hx hb d_law_650 (by decide) ?_
  refine lv_iadd hx hb d_law_651 ?_
  refine va_sld hx hb hXx hbl hbA hS (i := Int32.ofInt i + 2) (q_in2 hi (by omega)) d_law_652 ?_
  rw [e2]
  refine lv_aload_n hx hb d_law_653 rfl (lv_at hl 3 rfl) ?_
  refine lv_iload_n hx hb d_law_654 rfl (lv_at hl 0 rfl) ?_
  refine lv_iconst (v := 3) hx hb d_law_655 (by decide) ?_
  refine lv_iadd hx hb d_law_656 ?_
  refine va_sld hx hb hXx hbl hbA hS (i := Int32.ofInt i + 3) (q_in3 hi (by omega)) d_law_657 ?_
  rw [e3]
  refine gw_callV (G := (q_G l s dC dI aC pl)) (cc := code) (own := R_law) (nL := 4) (y2 := m_X9_image) (n2 := 3) (d2 := 6) (mc2 := 0) (ms2 := 0) (a := 106) (ci := 9) (q := (RX9, TX9, 28)) (as := [gs_iv z1, gs_iv z2, gs_iv z3]) (rest := []) hx hb hml hown hts2 hK hW hlo hl.1 d_law_658 ok_X9_image.1 (ri_lw_in (pl := 1044) (by decide +kernel)) ok_X9_image.2.1 ok_X9_image.2.2 rfl rfl (by decide) (gs_en_obj _ _ (show gs_sh 106 = .inl (9, _) from rfl)) rfl (Nat.le_of_ble_eq_true rfl) (by decide) (by decide) (by show _ ≤ 600000; omega) (by show _ ≤ 7302249; omega) (c_X9_image_vf I1 r1 r2 r3 (gs_code15 hI hRp b1_110 b1_111) (q_G l s dC dI aC pl)) rfl (fun r N2 h2 H locs hp hW hlo => ?_)
  obtain ⟨F2, A2, n2, h2, v2, w2, I2, f2, x2⟩ := hp
  subst n2 h2 w2
  have X2 := gs_X_fr X1 (f2.1 106 3 (by first | exact id | (dsimp only; omega))) (f2.2 108 (by first | exact id | (dsimp only; omega)))
  have a2_0_11 := f2.1 0 11 (by first | exact id | omega | (dsimp only; omega) | (dsimp only))
  have a2_0_12 := f2.1 0 12 (by first | exact id | omega | (dsimp only; omega) | (dsimp only))
  have a2_5_0 := f2.1 5 0 (by first | exact id | omega | (dsimp only; omega) | (dsimp only))
  have a2_3_1 := f2.1 3 1 (by first | exact id | omega | (dsimp only; omega) | (dsimp only))
  have a2_43_0 := f2.1 43 0 (by first | exact id | omega | (dsimp only; omega) | (dsimp only))
  have a2_106_0 := f2.1 106 0 (by first | exact id | omega | (dsimp only; omega) | (dsimp only))
  have a2_106_1 := f2.1 106 1 (by first | exact id | omega | (dsimp only; omega) | (dsimp only))
  have a2_106_3 := f2.1 106 3 (by first | exact id | omega | (dsimp only; omega) | (dsimp only))
  have a2_106_17 := f2.1 106 17 (by first | exact id | omega | (dsimp only; omega) | (dsimp only))
  have a2_43_1 := f2.1 43 1 (by first | exact id | omega | (dsimp only; omega) | (dsimp only))
  have a2_106_20 := f2.1 106 20 (by first | exact id | omega | (dsimp only; omega) | (dsimp only))
  have b2_4 := f2.2 4 (by first | exact id | omega | (dsimp only; omega) | (dsimp only))
  have b2_107 := f2.2 107 (by first | exact id | omega | (dsimp only; omega) | (dsimp only))
  have b2_108 := f2.2 108 (by first | exact id | omega | (dsimp only; omega) | (dsimp only))
  have b2_109 := f2.2 109 (by first | exact id | omega | (dsimp only; omega) | (dsimp only))
  have b2_46 := f2.2 46 (by first | exact id | omega | (dsimp only; omega) | (dsimp only))
  have b2_116 := f2.2 116 (by first | exact id | omega | (dsimp only; omega) | (dsimp only))
  have b2_110 := f2.2 110 (by first | exact id | omega | (dsimp only; omega) | (dsimp only))
  have b2_111 := f2.2 111 (by first | exact id | omega | (dsimp only; omega) | (dsimp only))
  have b2_117 := f2.2 117 (by first | exact id | omega | (dsimp only; omega) | (dsimp only))
  have b2_118 := f2.2 118 (by first | exact id | omega | (dsimp only; omega) | (dsimp only))
  have b2_6 := f2.2 6 (by first | exact id | omega | (dsimp only; omega) | (dsimp only))
  have R2a : gs_R1 F2 A2 := gs_R1_mk hR1 (by omega) (by omega) (by omega) (by omega) (by omega) (b2_4.trans b1_4) (b2_107.trans b1_107) (by omega)
  have hF3 : ∀ c j, 54 ≤ c → c < 90 → F2 c j = F c j := fun c j q1 q2 => (f2.1 c j (by first | exact id | (dsimp only; omega))).trans (f1.1 c j (by first | exact id | (dsimp only; omega)))
  have hA3 : ∀ c, 54 ≤ c → c < 90 → A2 c = A c := fun c q1 q2 => (f2.2 c (by first | exact id | (dsimp only; omega))).trans (f1.2 c (by first | exact id | (dsimp only; omega)))
  have R2c : gs_R3 F2 A2 := gs_R3_fr hR3 hI (by omega) hF3 hA3 (b2_108.trans b1_108) (b2_109.trans b1_109)
  have R2a0 : gs_R13 F2 A2 := ⟨R2a, R2c⟩
  have R2a := R2a0
  have R2t : gs_Rt F2 A2 := gs_Rt_fr hRt (by omega) (by omega) (by omega) (b2_46.trans b1_46) (b2_116.trans b1_116)
  have hF9 : ∀ c j, 90 ≤ c → c < 106 → F2 c j = F c j := fun c j q1 q2 => (f2.1 c j (by first | exact id | (dsimp only; omega))).trans (f1.1 c j (by first | exact id | (dsimp only; omega)))
  have hA9 : ∀ c, 90 ≤ c → c < 106 → A2 c = A c := fun c q1 q2 => (f2.2 c (by first | exact id | (dsimp only; omega))).trans (f1.2 c (by first | exact id | (dsimp only; omega)))
  have R2p : gs_Rp F2 A2 := gs_Rp_fr hRp hI (by omega) hF9 hA9 (gs_k8_fr (b2_110.trans b1_110) (b2_111.trans b1_111))
  have R2q : gs_R123 F2 A2 := ⟨R2a, R2t, R2p⟩
  have R2w : gs_W (A2 6) (F2 0 11) := by
    rw [b2_6, b1_6, a2_0_11, a1_0_11]
    exact hRw
  have R2u : gs_R1234 F2 A2 := ⟨R2q, R2w⟩
  have R2v : gs_Rv F2 A2 := gs_Rv_fr hRv (by omega) (by omega) (by omega) (b2_107.trans b1_107) (b2_108.trans b1_108) (b2_109.trans b1_109)
  have R2t2 : gs_R5 F2 A2 := ⟨R2u, R2v⟩
  have R2s : gs_R6 F2 A2 := gs_R6_fr hR6 (by omega) (by omega) hF3 hA3
  have R2 : gs_R5m F2 A2 := ⟨R2t2, R2s⟩
  refine W.eq (g2 := F0 m 661 ls [.int (Int32.ofInt v2)]) rfl ?_
  refine lv_pop hx hb d_law_661 rfl ?_
  refine lv_goto (tgt := 1111) hx hb d_law_662 (by decide) ?_
  exact kk _ _ _ _ _ I2 ⟨X2, R2⟩ hW hlo hl
theorem q_op17 {p : Program} {e : Env} {s : State} {m : MethodId} {below : List Frame} {meth : Method} {c : Code} {b L : Nat} {xs : Nat → Int32} {l : Launch} {dC : Nat → ClassId} {dI : Nat → Nat → Nat} {aC : Nat → ClassId} {pl : Nat} (hL : L ≤ 2560) (C0 : lw_At p s m meth c b L xs) (hK : am_K (q_G l s dC dI aC pl) s) {n : Nat} (hn : n ≤ 1000000) {i : Int} (hi : 0 ≤ i ∧ i + 5 ≤ L) (kk : (∀ (F A : gs_F) (H : Heap) (locs : List Loc) (ls : Array Slot), gs_I F A → ((∀ r : Nat, (r : Int) < F 106 3 → 1 ≤ A 108 r) ∧ gs_R5m F A) → am_W (q_G l s dC dI aC pl) 122 (gs_en F A) H → (∀ q ∈ locs, s.heap.size ≤ q.base) → lv_has ls 4 [(3, .int (Int32.ofInt i)), (2, .ref (s.heap.size + 106)), (1, .ref (s.heap.size + 0)), (0, .ref b)] → W p l e room_1 s m #[Value.ref b] below meth c H locs 122 n (lw_Z below #[Value.ref b] s) (F0 m 1111 ls []))) {F A : gs_F} {H : Heap} {locs : List Loc} {ls : Array Slot} (hI : gs_I F A) (hX : (∀ r : Nat, (r : Int) < F 106 3 → 1 ≤ A 108 r) ∧ gs_R5m F A) (hW : am_W (q_G l s dC dI aC pl) 122 (gs_en F A) H) (hlo : ∀ q ∈ locs, s.heap.size ≤ q.base) (hl : lv_has ls 4 [(3, .int (Int32.ofInt i)), (2, .ref (s.heap.size + 106)), (1, .ref (s.heap.size + 0)), (0, .ref b)]) : W p l e room_1 s m #[Value.ref b] below meth c H locs 122 n (lw_Z below #[Value.ref b] s) (F0 m 665 ls []) := by
  obtain ⟨hx, hb, hr, hml, hown, hts, hXx, hbl, hlocks, hgv⟩ := C0
  obtain ⟨hX, hR⟩ := hX
  obtain ⟨hR, hR6⟩ := hR
  obtain ⟨hR, hRv⟩ := hR
  obtain ⟨hR, hRw⟩ := hR
  obtain ⟨hR, hRt, hRp⟩ := hR
  obtain ⟨hR1, hR3⟩ := hR
  have hR0 := hR1
  obtain ⟨R_1, R_2, R_3, R_4, R_5, R_6, _⟩ := hR0
  have R_0 : (0 : Int) ≤ F 106 1 ∧ F 106 1 ≤ 60 := hI.1 106 1
  have R_c : (0 : Int) ≤ F 106 3 ∧ F 106 3 ≤ 12 := hI.1 106 3
  have R_d : (0 : Int) ≤ F 0 12 ∧ F 0 12 ≤ 12 := hI.1 0 12
  have R_t := hRt.1
  have hg0 : (1 : Int) ≤ F 106 0 ∧ F 106 0 ≤ 3 := hI.1 106 0
  have hts2 := am_hts hts
  have hbA : ¬ (fun q : Nat => s.heap.size ≤ q) b := Nat.not_le.mpr hbl
  obtain ⟨z1, e1, r1⟩ := q_val (xs (Int32.ofInt i + 1).toNatClampNeg)
  obtain ⟨z2, e2, r2⟩ := q_val (xs (Int32.ofInt i + 2).toNatClampNeg)
  obtain ⟨z3, e3, r3⟩ := q_val (xs (Int32.ofInt i + 3).toNatClampNeg)
  have hS := am_S hK.2.1 hW hlo
  refine lv_aload_n hx hb d_law_665 rfl (lv_at hl 2 rfl) ?_
  refine lv_aload_n hx hb d_law_666 rfl (lv_at hl 3 rfl) ?_
  refine lv_iload_n hx hb d_law_667 rfl (lv_at hl 0 rfl) ?_
  refine lv_iconst (v := 1) hx hb d_law_668 (by decide) ?_
  refine lv_iadd hx hb d_law_669 ?_
  refine va_sld hx hb hXx hbl hbA hS (i := Int32.ofInt i + 1) (q_in1 hi (by omega)) d_law_670 ?_
  rw [e1]
  refine lv_aload_n hx hb d_law_671 rfl (lv_at hl 3 rfl) ?_
  refine lv_iload_n hx hb d_law_672 rfl (lv_at hl 0 rfl) ?_
  refine lv_iconst (v := 2) hx hb d_law_673 (by decide) ?_
  refine lv_iadd hx hb d_law_674 ?_
  refine va_sld hx hb hXx hbl hbA hS (i := Int32.ofInt i + 2) (q_in2 hi (by omega)) d_law_675 ?_
  rw [e2]
  refine lv_aload_n hx hb d_law_676 rfl (lv_at hl 3 rfl) ?_
  refine lv_iload_n hx hb d_law_677 rfl (lv_at hl 0 rfl) ?_
  refine lv_iconst (v := 3) hx hb d_law_678 (by decide) ?_
  refine lv_iadd hx hb d_law_679 ?_
  refine va_sld hx hb hXx hbl hbA hS (i := Int32.ofInt i + 3) (q_in3 hi (by omega)) d_law_680 ?_
  rw [e3]
  refine gw_callV (G := (q_G l s dC dI aC pl)) (cc := code) (own := R_law) (nL := 4) (y2 := m_X8_carried) (n2 := 3) (d2 := 5) (mc2 := 0) (ms2 := 0) (a := 0) (ci := 8) (q := (RX8, TX8, 13)) (as := [gs_iv z1, gs_iv z2, gs_iv z3]) (rest := []) hx hb hml hown hts2 hK hW hlo hl.1 d_law_681 ok_X8_carried.1 (ri_lw_in (pl := 604) (by decide +kernel)) ok_X8_carried.2.1 ok_X8_carried.2.2 rfl rfl (by decide) (gs_en_obj _ _ (show gs_sh 0 = .inl (8, _) from rfl)) rfl (Nat.le_of_ble_eq_true rfl) (by decide) (by decide) (by show _ ≤ 600000; omega) (by show _ ≤ 7302249; omega) (c_X8_carried_vf hI r1 r2 r3 hRw (gs_codeC hRp R_1) (gs_R5_val hR3 hRv R_1 R_2) (q_G l s dC dI aC pl)) rfl (fun r N2 h2 H locs hp hW hlo => ?_)
  obtain ⟨F1, A1, n1, h1, v1, w1, I1, f1, x1⟩ := hp
  subst n1 h1 w1
  have X1 := gs_X_fr hX (f1.1 106 3 (by first | exact id | (dsimp only; omega))) (f1.2 108 (by first | exact id | (dsimp only; omega)))
  have a1_0_11 := f1.1 0 11 (by first | exact id | omega | (dsimp only; omega) | (dsimp only))
  have a1_0_12 := f1.1 0 12 (by first | exact id | omega | (dsimp only; omega) | (dsimp only))
  have a1_5_0 := f1.1 5 0 (by first | exact id | omega | (dsimp only; omega) | (dsimp only))
  have a1_3_1 := f1.1 3 1 (by first | exact id | omega | (dsimp only; omega) | (dsimp only))
  have a1_43_0 := f1.1 43 0 (by first | exact id | omega | (dsimp only; omega) | (dsimp only))
  have a1_106_0 := f1.1 106 0 (by first | exact id | omega | (dsimp only; omega) | (dsimp only))
  have a1_106_1 := f1.1 106 1 (by first | exact id | omega | (dsimp only; omega) | (dsimp only))
  have a1_106_3 := f1.1 106 3 (by first | exact id | omega | (dsimp only; omega) | (dsimp only))
  have a1_106_17 := f1.1 106 17 (by first | exact id | omega | (dsimp only; omega) | (dsimp only))
  have a1_43_1 := f1.1 43 1 (by first | exact id | omega | (dsimp only; omega) | (dsimp only))
  have a1_106_20 := f1.1 106 20 (by first | exact id | omega | (dsimp only; omega) | (dsimp only))
  have b1_4 := f1.2 4 (by first | exact id | omega | (dsimp only; omega) | (dsimp only))
  have b1_107 := f1.2 107 (by first | exact id | omega | (dsimp only; omega) | (dsimp only))
  have b1_108 := f1.2 108 (by first | exact id | omega | (dsimp only; omega) | (dsimp only))
  have b1_109 := f1.2 109 (by first | exact id | omega | (dsimp only; omega) | (dsimp only))
  have b1_46 := f1.2 46 (by first | exact id | omega | (dsimp only; omega) | (dsimp only))
  have b1_116 := f1.2 116 (by first | exact id | omega | (dsimp only; omega) | (dsimp only))
  have b1_110 := f1.2 110 (by first | exact id | omega | (dsimp only; omega) | (dsimp only))
  have b1_111 := f1.2 111 (by first | exact id | omega | (dsimp only; omega) | (dsimp only))
  have b1_117 := f1.2 117 (by first | exact id | omega | (dsimp only; omega) | (dsimp only))
  have b1_118 := f1.2 118 (by first | exact id | omega | (dsimp only; omega) | (dsimp only))
  have b1_6 := f1.2 6 (by first | exact id | omega | (dsimp only; omega) | (dsimp only))
  refine W.eq (g2 := F0 m 684 ls [.int (Int32.ofInt v1)]) rfl ?_
  refine lv_pop hx hb d_law_684 rfl ?_
  have hS := am_S hK.2.1 hW hlo
  refine lv_aload_n hx hb d_law_685 rfl (lv_at hl 1 rfl) ?_
  refine lv_aload_n hx hb d_law_686 rfl (lv_at hl 3 rfl) ?_
  refine lv_iload_n hx hb d_law_687 rfl (lv_at hl 0 rfl) ?_
  refine lv_iconst (v := 1) hx hb d_law_688 (by decide) ?_
  refine lv_iadd hx hb d_law_689 ?_
  refine va_sld hx hb hXx hbl hbA hS (i := Int32.ofInt i + 1) (q_in1 hi (by omega)) d_law_690 ?_
  rw [e1]
  refine lv_aload_n hx hb d_law_691 rfl (lv_at hl 3 rfl) ?_
  refine lv_iload_n hx hb d_law_692 rfl (lv_at hl 0 rfl) ?_
  refine lv_iconst (v := 2) hx hb d_law_693 (by decide) ?_
  refine lv_iadd hx hb d_law_694 ?_
  refine va_sld hx hb hXx hbl hbA hS (i := Int32.ofInt i + 2) (q_in2 hi (by omega)) d_law_695 ?_
  rw [e2]
  refine lv_aload_n hx hb d_law_696 rfl (lv_at hl 3 rfl) ?_
  refine lv_iload_n hx hb d_law_697 rfl (lv_at hl 0 rfl) ?_
  refine lv_iconst (v := 3) hx hb d_law_698 (by decide) ?_
  refine lv_iadd hx hb d_law_699 ?_
  refine va_sld hx hb hXx hbl hbA hS (i := Int32.ofInt i + 3) (q_in3 hi (by omega)) d_law_700 ?_
  rw [e3]
  refine gw_callV (G := (q_G l s dC dI aC pl)) (cc := code) (own := R_law) (nL := 4) (y2 := m_X9_carried) (n2 := 3) (d2 := 7) (mc2 := 0) (ms2 := 0) (a := 106) (ci := 9) (q := (RX9, TX9, 28)) (as := [gs_iv z1, gs_iv z2, gs_iv z3]) (rest := []) hx hb hml hown hts2 hK hW hlo hl.1 d_law_701 ok_X9_carried.1 (ri_lw_in (pl := 1072) (by decide +kernel)) ok_X9_carried.2.1 ok_X9_carried.2.2 rfl rfl (by decide) (gs_en_obj _ _ (show gs_sh 106 = .inl (9, _) from rfl)) rfl (Nat.le_of_ble_eq_true rfl) (by decide) (by decide) (by show _ ≤ 600000; omega) (by show _ ≤ 7302249; omega) (c_X9_carried_vf I1 r1 r2 r3 X1 (gs_code15 hI hRp b1_110 b1_111) (q_G l s dC dI aC pl)) rfl (fun r N2 h2 H locs hp hW hlo => ?_)
  obtain ⟨F2, A2, n2, h2, v2, w2, I2, f2, x2⟩ := hp
  subst n2 h2 w2
  have X2 := gs_X_fr X1 (f2.1 106 3 (by first | exact id | (dsimp only; omega))) (f2.2 108 (by first | exact id | (dsimp only; omega)))
  have a2_0_11 := f2.1 0 11 (by first | exact id | omega | (dsimp only; omega) | (dsimp only))
  have a2_0_12 := f2.1 0 12 (by first | exact id | omega | (dsimp only; omega) | (dsimp only))
  have a2_5_0 := f2.1 5 0 (by first | exact id | omega | (dsimp only; omega) | (dsimp only))
  have a2_3_1 := f2.1 3 1 (by first | exact id | omega | (dsimp only; omega) | (dsimp only))
  have a2_43_0 := f2.1 43 0 (by first | exact id | omega | (dsimp only; omega) | (dsimp only))
  have a2_106_0 := f2.1 106 0 (by first | exact id | omega | (dsimp only; omega) | (dsimp only))
  have a2_106_1 := f2.1 106 1 (by first | exact id | omega | (dsimp only; omega) | (dsimp only))
  have a2_106_3 := f2.1 106 3 (by first | exact id | omega | (dsimp only; omega) | (dsimp only))
  have a2_106_17 := f2.1 106 17 (by first | exact id | omega | (dsimp only; omega) | (dsimp only))
  have a2_43_1 := f2.1 43 1 (by first | exact id | omega | (dsimp only; omega) | (dsimp only))
  have a2_106_20 := f2.1 106 20 (by first | exact id | omega | (dsimp only; omega) | (dsimp only))
  have b2_4 := f2.2 4 (by first | exact id | omega | (dsimp only; omega) | (dsimp only))
  have b2_107 := f2.2 107 (by first | exact id | omega | (dsimp only; omega) | (dsimp only))
  have b2_108 := f2.2 108 (by first | exact id | omega | (dsimp only; omega) | (dsimp only))
  have b2_109 := f2.2 109 (by first | exact id | omega | (dsimp only; omega) | (dsimp only))
  have b2_46 := f2.2 46 (by first | exact id | omega | (dsimp only; omega) | (dsimp only))
  have b2_116 := f2.2 116 (by first | exact id | omega | (dsimp only; omega) | (dsimp only))
  have b2_110 := f2.2 110 (by first | exact id | omega | (dsimp only; omega) | (dsimp only))
  have b2_111 := f2.2 111 (by first | exact id | omega | (dsimp only; omega) | (dsimp only))
  have b2_117 := f2.2 117 (by first | exact id | omega | (dsimp only; omega) | (dsimp only))
  have b2_118 := f2.2 118 (by first | exact id | omega | (dsimp only; omega) | (dsimp only))
  have b2_6 := f2.2 6 (by first | exact id | omega | (dsimp only; omega) | (dsimp only))
  have R2a : gs_R1 F2 A2 := gs_R1_mk hR1 (by omega) (by omega) (by omega) (by omega) (by omega) (b2_4.trans b1_4) (b2_107.trans b1_107) (by omega)
  have hF3 : ∀ c j, 54 ≤ c → c < 90 → F2 c j = F c j := fun c j q1 q2 => (f2.1 c j (by first | exact id | (dsimp only; omega))).trans (f1.1 c j (by first | exact id | (dsimp only; omega)))
  have hA3 : ∀ c, 54 ≤ c → c < 90 → A2 c = A c := fun c q1 q2 => (f2.2 c (by first | exact id | (dsimp only; omega))).trans (f1.2 c (by first | exact id | (dsimp only; omega)))
  have R2c : gs_R3 F2 A2 := gs_R3_fr hR3 hI (by omega) hF3 hA3 (b2_108.trans b1_108) (b2_109.trans b1_109)
  have R2a0 : gs_R13 F2 A2 := ⟨R2a, R2c⟩
  have R2a := R2a0
  have R2t : gs_Rt F2 A2 := gs_Rt_fr hRt (by omega) (by omega) (by omega) (b2_46.trans b1_46) (b2_116.trans b1_116)
  have hF9 : ∀ c j, 90 ≤ c → c < 106 → F2 c j = F c j := fun c j q1 q2 => (f2.1 c j (by first | exact id | (dsimp only; omega))).trans (f1.1 c j (by first | exact id | (dsimp only; omega)))
  have hA9 : ∀ c, 90 ≤ c → c < 106 → A2 c = A c := fun c q1 q2 => (f2.2 c (by first | exact id | (dsimp only; omega))).trans (f1.2 c (by first | exact id | (dsimp only; omega)))
  have R2p : gs_Rp F2 A2 := gs_Rp_fr hRp hI (by omega) hF9 hA9 (gs_k8_fr (b2_110.trans b1_110) (b2_111.trans b1_111))
  have R2q : gs_R123 F2 A2 := ⟨R2a, R2t, R2p⟩
  have R2w : gs_W (A2 6) (F2 0 11) := by
    rw [b2_6, b1_6, a2_0_11, a1_0_11]
    exact hRw
  have R2u : gs_R1234 F2 A2 := ⟨R2q, R2w⟩
  have R2v : gs_Rv F2 A2 := gs_Rv_fr hRv (by omega) (by omega) (by omega) (b2_107.trans b1_107) (b2_108.trans b1_108) (b2_109.trans b1_109)
  have R2t2 : gs_R5 F2 A2 := ⟨R2u, R2v⟩
  have R2s : gs_R6 F2 A2 := gs_R6_fr hR6 (by omega) (by omega) hF3 hA3
  have R2 : gs_R5m F2 A2 := ⟨R2t2, R2s⟩
  refine W.eq (g2 := F0 m 704 ls [.int (Int32.ofInt v2)]) rfl ?_
  refine lv_pop hx hb d_law_704 rfl ?_
  refine lv_goto (tgt := 1111) hx hb d_law_705 (by decide) ?_
  exact kk _ _ _ _ _ I2 ⟨X2, R2⟩ hW hlo hl
theorem q_op18 {p : Program} {e : Env} {s : State} {m : MethodId} {below : List Frame} {meth : Method} {c : Code} {b L : Nat} {xs : Nat → Int32} {l : Launch} {dC : Nat → ClassId} {dI : Nat → Nat → Nat} {aC : Nat → ClassId} {pl : Nat} (hL : L ≤ 2560) (C0 : lw_At p s m meth c b L xs) (hK : am_K (q_G l s dC dI aC pl) s) {n : Nat} (hn : n ≤ 1000000) {i : Int} (hi : 0 ≤ i ∧ i + 5 ≤ L) (kk : (∀ (F A : gs_F) (H : Heap) (locs : List Loc) (ls : Array Slot), gs_I F A → ((∀ r : Nat, (r : Int) < F 106 3 → 1 ≤ A 108 r) ∧ gs_R5m F A) → am_W (q_G l s dC dI aC pl) 122 (gs_en F A) H → (∀ q ∈ locs, s.heap.size ≤ q.base) → lv_has ls 4 [(3, .int (Int32.ofInt i)), (2, .ref (s.heap.size + 106)), (1, .ref (s.heap.size + 0)), (0, .ref b)] → W p l e room_1 s m #[Value.ref b] below meth c H locs 122 n (lw_Z below #[Value.ref b] s) (F0 m 1111 ls []))) {F A : gs_F} {H : Heap} {locs : List Loc} {ls : Array Slot} (hI : gs_I F A) (hX : (∀ r : Nat, (r : Int) < F 106 3 → 1 ≤ A 108 r) ∧ gs_R5m F A) (hW : am_W (q_G l s dC dI aC pl) 122 (gs_en F A) H) (hlo : ∀ q ∈ locs, s.heap.size ≤ q.base) (hl : lv_has ls 4 [(3, .int (Int32.ofInt i)), (2, .ref (s.heap.size + 106)), (1, .ref (s.heap.size + 0)), (0, .ref b)]) : W p l e room_1 s m #[Value.ref b] below meth c H locs 122 n (lw_Z below #[Value.ref b] s) (F0 m 708 ls []) := by
  obtain ⟨hx, hb, hr, hml, hown, hts, hXx, hbl, hlocks, hgv⟩ := C0
  obtain ⟨hX, hR⟩ := hX
  obtain ⟨hR, hR6⟩ := hR
  obtain ⟨hR, hRv⟩ := hR
  obtain ⟨hR, hRw⟩ := hR
  obtain ⟨hR, hRt, hRp⟩ := hR
  obtain ⟨hR1, hR3⟩ := hR
  have hR0 := hR1
  obtain ⟨R_1, R_2, R_3, R_4, R_5, R_6, _⟩ := hR0
  have R_0 : (0 : Int) ≤ F 106 1 ∧ F 106 1 ≤ 60 := hI.1 106 1
  have R_c : (0 : Int) ≤ F 106 3 ∧ F 106 3 ≤ 12 := hI.1 106 3
  have R_d : (0 : Int) ≤ F 0 12 ∧ F 0 12 ≤ 12 := hI.1 0 12
  have R_t := hRt.1
  have hg0 : (1 : Int) ≤ F 106 0 ∧ F 106 0 ≤ 3 := hI.1 106 0
  have hts2 := am_hts hts
  have hbA : ¬ (fun q : Nat => s.heap.size ≤ q) b := Nat.not_le.mpr hbl
  obtain ⟨z1, e1, r1⟩ := q_val (xs (Int32.ofInt i + 1).toNatClampNeg)
  obtain ⟨z2, e2, r2⟩ := q_val (xs (Int32.ofInt i + 2).toNatClampNeg)
  obtain ⟨z3, e3, r3⟩ := q_val (xs (Int32.ofInt i + 3).toNatClampNeg)
  have hS := am_S hK.2.1 hW hlo
  refine lv_aload_n hx hb d_law_708 rfl (lv_at hl 2 rfl) ?_
  refine lv_aload_n hx hb d_law_709 rfl (lv_at hl 3 rfl) ?_
  refine lv_iload_n hx hb d_law_710 rfl (lv_at hl 0 rfl) ?_
  refine lv_iconst (v := 1) hx hb d_law_711 (by decide) ?_
  refine lv_iadd hx hb d_law_712 ?_
  refine va_sld hx hb hXx hbl hbA hS (i := Int32.ofInt i + 1) (q_in1 hi (by omega)) d_law_713 ?_
  rw [e1]
  refine lv_aload_n hx hb d_law_714 rfl (lv_at hl 3 rfl) ?_
  refine lv_iload_n hx hb d_law_715 rfl (lv_at hl 0 rfl) ?_
  refine lv_iconst (v := 2) hx hb d_law_716 (by decide) ?_
  refine lv_iadd hx hb d_law_717 ?_
  refine va_sld hx hb hXx hbl hbA hS (i := Int32.ofInt i + 2) (q_in2 hi (by omega)) d_law_718 ?_
  rw [e2]
  refine lv_aload_n hx hb d_law_719 rfl (lv_at hl 3 rfl) ?_
  refine lv_iload_n hx hb d_law_720 rfl (lv_at hl 0 rfl) ?_
  refine lv_iconst (v := 3) hx hb d_law_721 (by decide) ?_
  refine lv_iadd hx hb d_law_722 ?_
  refine va_sld hx hb hXx hbl hbA hS (i := Int32.ofInt i + 3) (q_in3 hi (by omega)) d_law_723 ?_
  rw [e3]
  refine gw_callV (G := (q_G l s dC dI aC pl)) (cc := code) (own := R_law) (nL := 4) (y2 := m_X8_meetsThen) (n2 := 3) (d2 := 6) (mc2 := 0) (ms2 := 0) (a := 0) (ci := 8) (q := (RX8, TX8, 13)) (as := [gs_iv z1, gs_iv z2, gs_iv z3]) (rest := []) hx hb hml hown hts2 hK hW hlo hl.1 d_law_724 ok_X8_meetsThen.1 (ri_lw_in (pl := 614) (by decide +kernel)) ok_X8_meetsThen.2.1 ok_X8_meetsThen.2.2 rfl rfl (by decide) (gs_en_obj _ _ (show gs_sh 0 = .inl (8, _) from rfl)) rfl (Nat.le_of_ble_eq_true rfl) (by decide) (by decide) (by show _ ≤ 600000; omega) (by show _ ≤ 7302249; omega) (c_X8_meetsThen_vf hI r1 r2 r3 hRw (gs_codeC hRp R_1) (gs_R5_val hR3 hRv R_1 R_2) (gs_R6_vc hg0 R_2 hR3 hRv) (q_G l s dC dI aC pl)) rfl (fun r N2 h2 H locs hp hW hlo => ?_)
  obtain ⟨F1, A1, n1, h1, v1, w1, I1, f1, x1⟩ := hp
  subst n1 h1 w1
  have X1 := gs_X_fr hX (f1.1 106 3 (by first | exact id | (dsimp only; omega))) (f1.2 108 (by first | exact id | (dsimp only; omega)))
  have a1_0_11 := f1.1 0 11 (by first | exact id | omega | (dsimp only; omega) | (dsimp only))
  have a1_0_12 := f1.1 0 12 (by first | exact id | omega | (dsimp only; omega) | (dsimp only))
  have a1_5_0 := f1.1 5 0 (by first | exact id | omega | (dsimp only; omega) | (dsimp only))
  have a1_3_1 := f1.1 3 1 (by first | exact id | omega | (dsimp only; omega) | (dsimp only))
  have a1_43_0 := f1.1 43 0 (by first | exact id | omega | (dsimp only; omega) | (dsimp only))
  have a1_106_0 := f1.1 106 0 (by first | exact id | omega | (dsimp only; omega) | (dsimp only))
  have a1_106_1 := f1.1 106 1 (by first | exact id | omega | (dsimp only; omega) | (dsimp only))
  have a1_106_3 := f1.1 106 3 (by first | exact id | omega | (dsimp only; omega) | (dsimp only))
  have a1_106_17 := f1.1 106 17 (by first | exact id | omega | (dsimp only; omega) | (dsimp only))
  have a1_43_1 := f1.1 43 1 (by first | exact id | omega | (dsimp only; omega) | (dsimp only))
  have a1_106_20 := f1.1 106 20 (by first | exact id | omega | (dsimp only; omega) | (dsimp only))
  have b1_4 := f1.2 4 (by first | exact id | omega | (dsimp only; omega) | (dsimp only))
  have b1_107 := f1.2 107 (by first | exact id | omega | (dsimp only; omega) | (dsimp only))
  have b1_108 := f1.2 108 (by first | exact id | omega | (dsimp only; omega) | (dsimp only))
  have b1_109 := f1.2 109 (by first | exact id | omega | (dsimp only; omega) | (dsimp only))
  have b1_46 := f1.2 46 (by first | exact id | omega | (dsimp only; omega) | (dsimp only))
  have b1_116 := f1.2 116 (by first | exact id | omega | (dsimp only; omega) | (dsimp only))
  have b1_110 := f1.2 110 (by first | exact id | omega | (dsimp only; omega) | (dsimp only))
  have b1_111 := f1.2 111 (by first | exact id | omega | (dsimp only; omega) | (dsimp only))
  have b1_117 := f1.2 117 (by first | exact id | omega | (dsimp only; omega) | (dsimp only))
  have b1_118 := f1.2 118 (by first | exact id | omega | (dsimp only; omega) | (dsimp only))
  have b1_6 := f1.2 6 (by first | exact id | omega | (dsimp only; omega) | (dsimp only))
  refine W.eq (g2 := F0 m 727 ls [.int (Int32.ofInt v1)]) rfl ?_
  refine lv_pop hx hb d_law_727 rfl ?_
  have hS := am_S hK.2.1 hW hlo
  refine lv_aload_n hx hb d_law_728 rfl (lv_at hl 1 rfl) ?_
  refine lv_aload_n hx hb d_law_729 rfl (lv_at hl 3 rfl) ?_
  refine lv_iload_n hx hb d_law_730 rfl (lv_at hl 0 rfl) ?_
  refine lv_iconst (v := 1) hx hb d_law_731 (by decide) ?_
  refine lv_iadd hx hb d_law_732 ?_
  refine va_sld hx hb hXx hbl hbA hS (i := Int32.ofInt i + 1) (q_in1 hi (by omega)) d_law_733 ?_
  rw [e1]
  refine lv_aload_n hx hb d_law_734 rfl (lv_at hl 3 rfl) ?_
  refine lv_iload_n hx hb d_law_735 rfl (lv_at hl 0 rfl) ?_
  refine lv_iconst (v := 2) hx hb d_law_736 (by decide) ?_
  refine lv_iadd hx hb d_law_737 ?_
  refine va_sld hx hb hXx hbl hbA hS (i := Int32.ofInt i + 2) (q_in2 hi (by omega)) d_law_738 ?_
  rw [e2]
  refine lv_aload_n hx hb d_law_739 rfl (lv_at hl 3 rfl) ?_
  refine lv_iload_n hx hb d_law_740 rfl (lv_at hl 0 rfl) ?_
  refine lv_iconst (v := 3) hx hb d_law_741 (by decide) ?_
  refine lv_iadd hx hb d_law_742 ?_
  refine va_sld hx hb hXx hbl hbA hS (i := Int32.ofInt i + 3) (q_in3 hi (by omega)) d_law_743 ?_
  rw [e3]
  refine gw_callV (G := (q_G l s dC dI aC pl)) (cc := code) (own := R_law) (nL := 4) (y2 := m_X9_meetsThen) (n2 := 3) (d2 := 7) (mc2 := 0) (ms2 := 0) (a := 106) (ci := 9) (q := (RX9, TX9, 28)) (as := [gs_iv z1, gs_iv z2, gs_iv z3]) (rest := []) hx hb hml hown hts2 hK hW hlo hl.1 d_law_744 ok_X9_meetsThen.1 (ri_lw_in (pl := 1084) (by decide +kernel)) ok_X9_meetsThen.2.1 ok_X9_meetsThen.2.2 rfl rfl (by decide) (gs_en_obj _ _ (show gs_sh 106 = .inl (9, _) from rfl)) rfl (Nat.le_of_ble_eq_true rfl) (by decide) (by decide) (by show _ ≤ 600000; omega) (by show _ ≤ 7302249; omega) (c_X9_meetsThen_vf I1 r1 r2 r3 X1 (gs_code15 hI hRp b1_110 b1_111) (gs_codeM hRp b1_110 b1_111 a1_106_0) (gs_R5_vg hRv a1_106_0 a1_106_3 b1_108 b1_109) (q_G l s dC dI aC pl)) rfl (fun r N2 h2 H locs hp hW hlo => ?_)
  obtain ⟨F2, A2, n2, h2, v2, w2, I2, f2, x2⟩ := hp
  subst n2 h2 w2
  have X2 := gs_X_fr X1 (f2.1 106 3 (by first | exact id | (dsimp only; omega))) (f2.2 108 (by first | exact id | (dsimp only; omega)))
  have a2_0_11 := f2.1 0 11 (by first | exact id | omega | (dsimp only; omega) | (dsimp only))
  have a2_0_12 := f2.1 0 12 (by first | exact id | omega | (dsimp only; omega) | (dsimp only))
  have a2_5_0 := f2.1 5 0 (by first | exact id | omega | (dsimp only; omega) | (dsimp only))
  have a2_3_1 := f2.1 3 1 (by first | exact id | omega | (dsimp only; omega) | (dsimp only))
  have a2_43_0 := f2.1 43 0 (by first | exact id | omega | (dsimp only; omega) | (dsimp only))
  have a2_106_0 := f2.1 106 0 (by first | exact id | omega | (dsimp only; omega) | (dsimp only))
  have a2_106_1 := f2.1 106 1 (by first | exact id | omega | (dsimp only; omega) | (dsimp only))
  have a2_106_3 := f2.1 106 3 (by first | exact id | omega | (dsimp only; omega) | (dsimp only))
  have a2_106_17 := f2.1 106 17 (by first | exact id | omega | (dsimp only; omega) | (dsimp only))
  have a2_43_1 := f2.1 43 1 (by first | exact id | omega | (dsimp only; omega) | (dsimp only))
  have a2_106_20 := f2.1 106 20 (by first | exact id | omega | (dsimp only; omega) | (dsimp only))
  have b2_4 := f2.2 4 (by first | exact id | omega | (dsimp only; omega) | (dsimp only))
  have b2_107 := f2.2 107 (by first | exact id | omega | (dsimp only; omega) | (dsimp only))
  have b2_108 := f2.2 108 (by first | exact id | omega | (dsimp only; omega) | (dsimp only))
  have b2_109 := f2.2 109 (by first | exact id | omega | (dsimp only; omega) | (dsimp only))
  have b2_46 := f2.2 46 (by first | exact id | omega | (dsimp only; omega) | (dsimp only))
  have b2_116 := f2.2 116 (by first | exact id | omega | (dsimp only; omega) | (dsimp only))
  have b2_110 := f2.2 110 (by first | exact id | omega | (dsimp only; omega) | (dsimp only))
  have b2_111 := f2.2 111 (by first | exact id | omega | (dsimp only; omega) | (dsimp only))
  have b2_117 := f2.2 117 (by first | exact id | omega | (dsimp only; omega) | (dsimp only))
  have b2_118 := f2.2 118 (by first | exact id | omega | (dsimp only; omega) | (dsimp only))
  have b2_6 := f2.2 6 (by first | exact id | omega | (dsimp only; omega) | (dsimp only))
  have R2a : gs_R1 F2 A2 := gs_R1_mk hR1 (by omega) (by omega) (by omega) (by omega) (by omega) (b2_4.trans b1_4) (b2_107.trans b1_107) (by omega)
  have hF3 : ∀ c j, 54 ≤ c → c < 90 → F2 c j = F c j := fun c j q1 q2 => (f2.1 c j (by first | exact id | (dsimp only; omega))).trans (f1.1 c j (by first | exact id | (dsimp only; omega)))
  have hA3 : ∀ c, 54 ≤ c → c < 90 → A2 c = A c := fun c q1 q2 => (f2.2 c (by first | exact id | (dsimp only; omega))).trans (f1.2 c (by first | exact id | (dsimp only; omega)))
  have R2c : gs_R3 F2 A2 := gs_R3_fr hR3 hI (by omega) hF3 hA3 (b2_108.trans b1_108) (b2_109.trans b1_109)
  have R2a0 : gs_R13 F2 A2 := ⟨R2a, R2c⟩
  have R2a := R2a0
  have R2t : gs_Rt F2 A2 := gs_Rt_fr hRt (by omega) (by omega) (by omega) (b2_46.trans b1_46) (b2_116.trans b1_116)
  have hF9 : ∀ c j, 90 ≤ c → c < 106 → F2 c j = F c j := fun c j q1 q2 => (f2.1 c j (by first | exact id | (dsimp only; omega))).trans (f1.1 c j (by first | exact id | (dsimp only; omega)))
  have hA9 : ∀ c, 90 ≤ c → c < 106 → A2 c = A c := fun c q1 q2 => (f2.2 c (by first | exact id | (dsimp only; omega))).trans (f1.2 c (by first | exact id | (dsimp only; omega)))
  have R2p : gs_Rp F2 A2 := gs_Rp_fr hRp hI (by omega) hF9 hA9 (gs_k8_fr (b2_110.trans b1_110) (b2_111.trans b1_111))
  have R2q : gs_R123 F2 A2 := ⟨R2a, R2t, R2p⟩
  have R2w : gs_W (A2 6) (F2 0 11) := by
    rw [b2_6, b1_6, a2_0_11, a1_0_11]
    exact hRw
  have R2u : gs_R1234 F2 A2 := ⟨R2q, R2w⟩
  have R2v : gs_Rv F2 A2 := gs_Rv_fr hRv (by omega) (by omega) (by omega) (b2_107.trans b1_107) (b2_108.trans b1_108) (b2_109.trans b1_109)
  have R2t2 : gs_R5 F2 A2 := ⟨R2u, R2v⟩
  have R2s : gs_R6 F2 A2 := gs_R6_fr hR6 (by omega) (by omega) hF3 hA3
  have R2 : gs_R5m F2 A2 := ⟨R2t2, R2s⟩
  refine W.eq (g2 := F0 m 747 ls [.int (Int32.ofInt v2)]) rfl ?_
  refine lv_pop hx hb d_law_747 rfl ?_
  refine lv_goto (tgt := 1111) hx hb d_law_748 (by decide) ?_
  exact kk _ _ _ _ _ I2 ⟨X2, R2⟩ hW hlo hl
theorem q_op19 {p : Program} {e : Env} {s : State} {m : MethodId} {below : List Frame} {meth : Method} {c : Code} {b L : Nat} {xs : Nat → Int32} {l : Launch} {dC : Nat → ClassId} {dI : Nat → Nat → Nat} {aC : Nat → ClassId} {pl : Nat} (hL : L ≤ 2560) (C0 : lw_At p s m meth c b L xs) (hK : am_K (q_G l s dC dI aC pl) s) {n : Nat} (hn : n ≤ 1000000) {i : Int} (hi : 0 ≤ i ∧ i + 5 ≤ L) (kk : (∀ (F A : gs_F) (H : Heap) (locs : List Loc) (ls : Array Slot), gs_I F A → ((∀ r : Nat, (r : Int) < F 106 3 → 1 ≤ A 108 r) ∧ gs_R5m F A) → am_W (q_G l s dC dI aC pl) 122 (gs_en F A) H → (∀ q ∈ locs, s.heap.size ≤ q.base) → lv_has ls 4 [(3, .int (Int32.ofInt i)), (2, .ref (s.heap.size + 106)), (1, .ref (s.heap.size + 0)), (0, .ref b)] → W p l e room_1 s m #[Value.ref b] below meth c H locs 122 n (lw_Z below #[Value.ref b] s) (F0 m 1111 ls []))) {F A : gs_F} {H : Heap} {locs : List Loc} {ls : Array Slot} (hI : gs_I F A) (hX : (∀ r : Nat, (r : Int) < F 106 3 → 1 ≤ A 108 r) ∧ gs_R5m F A) (hW : am_W (q_G l s dC dI aC pl) 122 (gs_en F A) H) (hlo : ∀ q ∈ locs, s.heap.size ≤ q.base) (hl : lv_has ls 4 [(3, .int (Int32.ofInt i)), (2, .ref (s.heap.size + 106)), (1, .ref (s.heap.size + 0)), (0, .ref b)]) : W p l e room_1 s m #[Value.ref b] below meth c H locs 122 n (lw_Z below #[Value.ref b] s) (F0 m 751 ls []) := by
  obtain ⟨hx, hb, hr, hml, hown, hts, hXx, hbl, hlocks, hgv⟩ := C0
  obtain ⟨hX, hR⟩ := hX
  obtain ⟨hR, hR6⟩ := hR
  obtain ⟨hR, hRv⟩ := hR
  obtain ⟨hR, hRw⟩ := hR
  obtain ⟨hR, hRt, hRp⟩ := hR
  obtain ⟨hR1, hR3⟩ := hR
  have hR0 := hR1
  obtain ⟨R_1, R_2, R_3, R_4, R_5, R_6, _⟩ := hR0
  have R_0 : (0 : Int) ≤ F 106 1 ∧ F 106 1 ≤ 60 := hI.1 106 1
  have R_c : (0 : Int) ≤ F 106 3 ∧ F 106 3 ≤ 12 := hI.1 106 3
  have R_d : (0 : Int) ≤ F 0 12 ∧ F 0 12 ≤ 12 := hI.1 0 12
  have R_t := hRt.1
  have hg0 : (1 : Int) ≤ F 106 0 ∧ F 106 0 ≤ 3 := hI.1 106 0
  have hts2 := am_hts hts
  have hbA : ¬ (fun q : Nat => s.heap.size ≤ q) b := Nat.not_le.mpr hbl
  obtain ⟨z1, e1, r1⟩ := q_val (xs (Int32.ofInt i + 1).toNatClampNeg)
  obtain ⟨z2, e2, r2⟩ := q_val (xs (Int32.ofInt i + 2).toNatClampNeg)
  have hS := am_S hK.2.1 hW hlo
  refine lv_aload_n hx hb d_law_751 rfl (lv_at hl 2 rfl) ?_
  refine lv_aload_n hx hb d_law_752 rfl (lv_at hl 3 rfl) ?_
  refine lv_iload_n hx hb d_law_753 rfl (lv_at hl 0 rfl) ?_
  refine lv_iconst (v := 1) hx hb d_law_754 (by decide) ?_
  refine lv_iadd hx hb d_law_755 ?_
  refine va_sld hx hb hXx hbl hbA hS (i := Int32.ofInt i + 1) (q_in1 hi (by omega)) d_law_756 ?_
  rw [e1]
  refine lv_aload_n hx hb d_law_757 rfl (lv_at hl 3 rfl) ?_
  refine lv_iload_n hx hb d_law_758 rfl (lv_at hl 0 rfl) ?_
  refine lv_iconst (v := 2) hx hb d_law_759 (by decide) ?_
  refine lv_iadd hx hb d_law_760 ?_
  refine va_sld hx hb hXx hbl hbA hS (i := Int32.ofInt i + 2) (q_in2 hi (by omega)) d_law_761 ?_
  rw [e2]
  refine gw_callV (G := (q_G l s dC dI aC pl)) (cc := code) (own := R_law) (nL := 4) (y2 := m_X8_same) (n2 := 2) (d2 := 6) (mc2 := 0) (ms2 := 0) (a := 0) (ci := 8) (q := (RX8, TX8, 13)) (as := [gs_iv z1, gs_iv z2]) (rest := []) hx hb hml hown hts2 hK hW hlo hl.1 d_law_762 ok_X8_same.1 (ri_lw_in (pl := 618) (by decide +kernel)) ok_X8_same.2.1 ok_X8_same.2.2 rfl rfl (by decide) (gs_en_obj _ _ (show gs_sh 0 = .inl (8, _) from rfl)) rfl (Nat.le_of_ble_eq_true rfl) (by decide) (by decide) (by show _ ≤ 600000; omega) (by show _ ≤ 7302249; omega) (c_X8_same hI r1 r2 (q_G l s dC dI aC pl)) rfl (fun r N2 h2 H locs hp hW hlo => ?_)
  obtain ⟨F1, A1, n1, h1, v1, w1, I1, f1, x1⟩ := hp
  subst n1 h1 w1
  have X1 := gs_X_fr hX (f1.1 106 3 (by first | exact id | (dsimp only; omega))) (f1.2 108 (by first | exact id | (dsimp only; omega)))
  have a1_0_11 := f1.1 0 11 (by first | exact id | omega | (dsimp only; omega) | (dsimp only))
  have a1_0_12 := f1.1 0 12 (by first | exact id | omega | (dsimp only; omega) | (dsimp only))
  have a1_5_0 := f1.1 5 0 (by first | exact id | omega | (dsimp only; omega) | (dsimp only))
  have a1_3_1 := f1.1 3 1 (by first | exact id | omega | (dsimp only; omega) | (dsimp only))
  have a1_43_0 := f1.1 43 0 (by first | exact id | omega | (dsimp only; omega) | (dsimp only))
  have a1_106_0 := f1.1 106 0 (by first | exact id | omega | (dsimp only; omega) | (dsimp only))
  have a1_106_1 := f1.1 106 1 (by first | exact id | omega | (dsimp only; omega) | (dsimp only))
  have a1_106_3 := f1.1 106 3 (by first | exact id | omega | (dsimp only; omega) | (dsimp only))
  have a1_106_17 := f1.1 106 17 (by first | exact id | omega | (dsimp only; omega) | (dsimp only))
  have a1_43_1 := f1.1 43 1 (by first | exact id | omega | (dsimp only; omega) | (dsimp only))
  have a1_106_20 := f1.1 106 20 (by first | exact id | omega | (dsimp only; omega) | (dsimp only))
  have b1_4 := f1.2 4 (by first | exact id | omega | (dsimp only; omega) | (dsimp only))
  have b1_107 := f1.2 107 (by first | exact id | omega | (dsimp only; omega) | (dsimp only))
  have b1_108 := f1.2 108 (by first | exact id | omega | (dsimp only; omega) | (dsimp only))
  have b1_109 := f1.2 109 (by first | exact id | omega | (dsimp only; omega) | (dsimp only))
  have b1_46 := f1.2 46 (by first | exact id | omega | (dsimp only; omega) | (dsimp only))
  have b1_116 := f1.2 116 (by first | exact id | omega | (dsimp only; omega) | (dsimp only))
  have b1_110 := f1.2 110 (by first | exact id | omega | (dsimp only; omega) | (dsimp only))
  have b1_111 := f1.2 111 (by first | exact id | omega | (dsimp only; omega) | (dsimp only))
  have b1_117 := f1.2 117 (by first | exact id | omega | (dsimp only; omega) | (dsimp only))
  have b1_118 := f1.2 118 (by first | exact id | omega | (dsimp only; omega) | (dsimp only))
  have b1_6 := f1.2 6 (by first | exact id | omega | (dsimp only; omega) | (dsimp only))
  refine W.eq (g2 := F0 m 765 ls [.int (Int32.ofInt v1)]) rfl ?_
  refine lv_pop hx hb d_law_765 rfl ?_
  have hS := am_S hK.2.1 hW hlo
  refine lv_aload_n hx hb d_law_766 rfl (lv_at hl 1 rfl) ?_
  refine lv_aload_n hx hb d_law_767 rfl (lv_at hl 3 rfl) ?_
  refine lv_iload_n hx hb d_law_768 rfl (lv_at hl 0 rfl) ?_
  refine lv_iconst (v := 1) hx hb d_law_769 (by decide) ?_
  refine lv_iadd hx hb d_law_770 ?_
  refine va_sld hx hb hXx hbl hbA hS (i := Int32.ofInt i + 1) (q_in1 hi (by omega)) d_law_771 ?_
  rw [e1]
  refine lv_aload_n hx hb d_law_772 rfl (lv_at hl 3 rfl) ?_
  refine lv_iload_n hx hb d_law_773 rfl (lv_at hl 0 rfl) ?_
  refine lv_iconst (v := 2) hx hb d_law_774 (by decide) ?_
  refine lv_iadd hx hb d_law_775 ?_
  refine va_sld hx hb hXx hbl hbA hS (i := Int32.ofInt i + 2) (q_in2 hi (by omega)) d_law_776 ?_
  rw [e2]
  refine gw_callV (G := (q_G l s dC dI aC pl)) (cc := code) (own := R_law) (nL := 4) (y2 := m_X9_same) (n2 := 2) (d2 := 8) (mc2 := 0) (ms2 := 0) (a := 106) (ci := 9) (q := (RX9, TX9, 28)) (as := [gs_iv z1, gs_iv z2]) (rest := []) hx hb hml hown hts2 hK hW hlo hl.1 d_law_777 ok_X9_same.1 (ri_lw_in (pl := 1088) (by decide +kernel)) ok_X9_same.2.1 ok_X9_same.2.2 rfl rfl (by decide) (gs_en_obj _ _ (show gs_sh 106 = .inl (9, _) from rfl)) rfl (Nat.le_of_ble_eq_true rfl) (by decide) (by decide) (by show _ ≤ 600000; omega) (by show _ ≤ 7302249; omega) (c_X9_same I1 r1 r2 (q_G l s dC dI aC pl)) rfl (fun r N2 h2 H locs hp hW hlo => ?_)
  obtain ⟨F2, A2, n2, h2, v2, w2, I2, f2, x2⟩ := hp
  subst n2 h2 w2
  have X2 := gs_X_fr X1 (f2.1 106 3 (by first | exact id | (dsimp only; omega))) (f2.2 108 (by first | exact id | (dsimp only; omega)))
  have a2_0_11 := f2.1 0 11 (by first | exact id | omega | (dsimp only; omega) | (dsimp only))
  have a2_0_12 := f2.1 0 12 (by first | exact id | omega | (dsimp only; omega) | (dsimp only))
  have a2_5_0 := f2.1 5 0 (by first | exact id | omega | (dsimp only; omega) | (dsimp only))
  have a2_3_1 := f2.1 3 1 (by first | exact id | omega | (dsimp only; omega) | (dsimp only))
  have a2_43_0 := f2.1 43 0 (by first | exact id | omega | (dsimp only; omega) | (dsimp only))
  have a2_106_0 := f2.1 106 0 (by first | exact id | omega | (dsimp only; omega) | (dsimp only))
  have a2_106_1 := f2.1 106 1 (by first | exact id | omega | (dsimp only; omega) | (dsimp only))
  have a2_106_3 := f2.1 106 3 (by first | exact id | omega | (dsimp only; omega) | (dsimp only))
  have a2_106_17 := f2.1 106 17 (by first | exact id | omega | (dsimp only; omega) | (dsimp only))
  have a2_43_1 := f2.1 43 1 (by first | exact id | omega | (dsimp only; omega) | (dsimp only))
  have a2_106_20 := f2.1 106 20 (by first | exact id | omega | (dsimp only; omega) | (dsimp only))
  have b2_4 := f2.2 4 (by first | exact id | omega | (dsimp only; omega) | (dsimp only))
  have b2_107 := f2.2 107 (by first | exact id | omega | (dsimp only; omega) | (dsimp only))
  have b2_108 := f2.2 108 (by first | exact id | omega | (dsimp only; omega) | (dsimp only))
  have b2_109 := f2.2 109 (by first | exact id | omega | (dsimp only; omega) | (dsimp only))
  have b2_46 := f2.2 46 (by first | exact id | omega | (dsimp only; omega) | (dsimp only))
  have b2_116 := f2.2 116 (by first | exact id | omega | (dsimp only; omega) | (dsimp only))
  have b2_110 := f2.2 110 (by first | exact id | omega | (dsimp only; omega) | (dsimp only))
  have b2_111 := f2.2 111 (by first | exact id | omega | (dsimp only; omega) | (dsimp only))
  have b2_117 := f2.2 117 (by first | exact id | omega | (dsimp only; omega) | (dsimp only))
  have b2_118 := f2.2 118 (by first | exact id | omega | (dsimp only; omega) | (dsimp only))
  have b2_6 := f2.2 6 (by first | exact id | omega | (dsimp only; omega) | (dsimp only))
  have R2a : gs_R1 F2 A2 := gs_R1_mk hR1 (by omega) (by omega) (by omega) (by omega) (by omega) (b2_4.trans b1_4) (b2_107.trans b1_107) (by omega)
  have hF3 : ∀ c j, 54 ≤ c → c < 90 → F2 c j = F c j := fun c j q1 q2 => (f2.1 c j (by first | exact id | (dsimp only; omega))).trans (f1.1 c j (by first | exact id | (dsimp only; omega)))
  have hA3 : ∀ c, 54 ≤ c → c < 90 → A2 c = A c := fun c q1 q2 => (f2.2 c (by first | exact id | (dsimp only; omega))).trans (f1.2 c (by first | exact id | (dsimp only; omega)))
  have R2c : gs_R3 F2 A2 := gs_R3_fr hR3 hI (by omega) hF3 hA3 (b2_108.trans b1_108) (b2_109.trans b1_109)
  have R2a0 : gs_R13 F2 A2 := ⟨R2a, R2c⟩
  have R2a := R2a0
  have R2t : gs_Rt F2 A2 := gs_Rt_fr hRt (by omega) (by omega) (by omega) (b2_46.trans b1_46) (b2_116.trans b1_116)
  have hF9 : ∀ c j, 90 ≤ c → c < 106 → F2 c j = F c j := fun c j q1 q2 => (f2.1 c j (by first | exact id | (dsimp only; omega))).trans (f1.1 c j (by first | exact id | (dsimp only; omega)))
  have hA9 : ∀ c, 90 ≤ c → c < 106 → A2 c = A c := fun c q1 q2 => (f2.2 c (by first | exact id | (dsimp only; omega))).trans (f1.2 c (by first | exact id | (dsimp only; omega)))
  have R2p : gs_Rp F2 A2 := gs_Rp_fr hRp hI (by omega) hF9 hA9 (gs_k8_fr (b2_110.trans b1_110) (b2_111.trans b1_111))
  have R2q : gs_R123 F2 A2 := ⟨R2a, R2t, R2p⟩
  have R2w : gs_W (A2 6) (F2 0 11) := by
    rw [b2_6, b1_6, a2_0_11, a1_0_11]
    exact hRw
  have R2u : gs_R1234 F2 A2 := ⟨R2q, R2w⟩
  have R2v : gs_Rv F2 A2 := gs_Rv_fr hRv (by omega) (by omega) (by omega) (b2_107.trans b1_107) (b2_108.trans b1_108) (b2_109.trans b1_109)
  have R2t2 : gs_R5 F2 A2 := ⟨R2u, R2v⟩
  have R2s : gs_R6 F2 A2 := gs_R6_fr hR6 (by omega) (by omega) hF3 hA3
  have R2 : gs_R5m F2 A2 := ⟨R2t2, R2s⟩
  refine W.eq (g2 := F0 m 780 ls [.int (Int32.ofInt v2)]) rfl ?_
  refine lv_pop hx hb d_law_780 rfl ?_
  refine lv_goto (tgt := 1111) hx hb d_law_781 (by decide) ?_
  exact kk _ _ _ _ _ I2 ⟨X2, R2⟩ hW hlo hl
theorem q_op20 {p : Program} {e : Env} {s : State} {m : MethodId} {below : List Frame} {meth : Method} {c : Code} {b L : Nat} {xs : Nat → Int32} {l : Launch} {dC : Nat → ClassId} {dI : Nat → Nat → Nat} {aC : Nat → ClassId} {pl : Nat} (hL : L ≤ 2560) (C0 : lw_At p s m meth c b L xs) (hK : am_K (q_G l s dC dI aC pl) s) {n : Nat} (hn : n ≤ 1000000) {i : Int} (hi : 0 ≤ i ∧ i + 5 ≤ L) (kk : (∀ (F A : gs_F) (H : Heap) (locs : List Loc) (ls : Array Slot), gs_I F A → ((∀ r : Nat, (r : Int) < F 106 3 → 1 ≤ A 108 r) ∧ gs_R5m F A) → am_W (q_G l s dC dI aC pl) 122 (gs_en F A) H → (∀ q ∈ locs, s.heap.size ≤ q.base) → lv_has ls 4 [(3, .int (Int32.ofInt i)), (2, .ref (s.heap.size + 106)), (1, .ref (s.heap.size + 0)), (0, .ref b)] → W p l e room_1 s m #[Value.ref b] below meth c H locs 122 n (lw_Z below #[Value.ref b] s) (F0 m 1111 ls []))) {F A : gs_F} {H : Heap} {locs : List Loc} {ls : Array Slot} (hI : gs_I F A) (hX : (∀ r : Nat, (r : Int) < F 106 3 → 1 ≤ A 108 r) ∧ gs_R5m F A) (hW : am_W (q_G l s dC dI aC pl) 122 (gs_en F A) H) (hlo : ∀ q ∈ locs, s.heap.size ≤ q.base) (hl : lv_has ls 4 [(3, .int (Int32.ofInt i)), (2, .ref (s.heap.size + 106)), (1, .ref (s.heap.size + 0)), (0, .ref b)]) : W p l e room_1 s m #[Value.ref b] below meth c H locs 122 n (lw_Z below #[Value.ref b] s) (F0 m 784 ls []) := by
  obtain ⟨hx, hb, hr, hml, hown, hts, hXx, hbl, hlocks, hgv⟩ := C0
  obtain ⟨hX, hR⟩ := hX
  obtain ⟨hR, hR6⟩ := hR
  obtain ⟨hR, hRv⟩ := hR
  obtain ⟨hR, hRw⟩ := hR
  obtain ⟨hR, hRt, hRp⟩ := hR
  obtain ⟨hR1, hR3⟩ := hR
  have hR0 := hR1
  obtain ⟨R_1, R_2, R_3, R_4, R_5, R_6, _⟩ := hR0
  have R_0 : (0 : Int) ≤ F 106 1 ∧ F 106 1 ≤ 60 := hI.1 106 1
  have R_c : (0 : Int) ≤ F 106 3 ∧ F 106 3 ≤ 12 := hI.1 106 3
  have R_d : (0 : Int) ≤ F 0 12 ∧ F 0 12 ≤ 12 := hI.1 0 12
  have R_t := hRt.1
  have hg0 : (1 : Int) ≤ F 106 0 ∧ F 106 0 ≤ 3 := hI.1 106 0
  have hts2 := am_hts hts
  have hbA : ¬ (fun q : Nat => s.heap.size ≤ q) b := Nat.not_le.mpr hbl
  obtain ⟨z1, e1, r1⟩ := q_val (xs (Int32.ofInt i + 1).toNatClampNeg)
  have hS := am_S hK.2.1 hW hlo
  refine lv_aload_n hx hb d_law_784 rfl (lv_at hl 2 rfl) ?_
  refine lv_aload_n hx hb d_law_785 rfl (lv_at hl 3 rfl) ?_
  refine lv_iload_n hx hb d_law_786 rfl (lv_at hl 0 rfl) ?_
  refine lv_iconst (v := 1) hx hb d_law_787 (by decide) ?_
  refine lv_iadd hx hb d_law_788 ?_
  refine va_sld hx hb hXx hbl hbA hS (i := Int32.ofInt i + 1) (q_in1 hi (by omega)) d_law_789 ?_
  rw [e1]
  refine gw_callV (G := (q_G l s dC dI aC pl)) (cc := code) (own := R_law) (nL := 4) (y2 := m_X8_turns) (n2 := 1) (d2 := 5) (mc2 := 0) (ms2 := 0) (a := 0) (ci := 8) (q := (RX8, TX8, 13)) (as := [gs_iv z1]) (rest := []) hx hb hml hown hts2 hK hW hlo hl.1 d_law_790 ok_X8_turns.1 (ri_lw_in (pl := 640) (by decide +kernel)) ok_X8_turns.2.1 ok_X8_turns.2.2 rfl rfl (by decide) (gs_en_obj _ _ (show gs_sh 0 = .inl (8, _) from rfl)) rfl (Nat.le_of_ble_eq_true rfl) (by decide) (by decide) (by show _ ≤ 600000; omega) (by show _ ≤ 7302249; omega) (c_X8_turns hI r1 (q_G l s dC dI aC pl)) rfl (fun r N2 h2 H locs hp hW hlo => ?_)
  obtain ⟨F1, A1, n1, h1, v1, w1, I1, f1, x1⟩ := hp
  subst n1 h1 w1
  have X1 := gs_X_fr hX (f1.1 106 3 (by first | exact id | (dsimp only; omega))) (f1.2 108 (by first | exact id | (dsimp only; omega)))
  have a1_0_11 := f1.1 0 11 (by first | exact id | omega | (dsimp only; omega) | (dsimp only))
  have a1_0_12 := f1.1 0 12 (by first | exact id | omega | (dsimp only; omega) | (dsimp only))
  have a1_5_0 := f1.1 5 0 (by first | exact id | omega | (dsimp only; omega) | (dsimp only))
  have a1_3_1 := f1.1 3 1 (by first | exact id | omega | (dsimp only; omega) | (dsimp only))
  have a1_43_0 := f1.1 43 0 (by first | exact id | omega | (dsimp only; omega) | (dsimp only))
  have a1_106_0 := f1.1 106 0 (by first | exact id | omega | (dsimp only; omega) | (dsimp only))
  have a1_106_1 := f1.1 106 1 (by first | exact id | omega | (dsimp only; omega) | (dsimp only))
  have a1_106_3 := f1.1 106 3 (by first | exact id | omega | (dsimp only; omega) | (dsimp only))
  have a1_106_17 := f1.1 106 17 (by first | exact id | omega | (dsimp only; omega) | (dsimp only))
  have a1_43_1 := f1.1 43 1 (by first | exact id | omega | (dsimp only; omega) | (dsimp only))
  have a1_106_20 := f1.1 106 20 (by first | exact id | omega | (dsimp only; omega) | (dsimp only))
  have b1_4 := f1.2 4 (by first | exact id | omega | (dsimp only; omega) | (dsimp only))
  have b1_107 := f1.2 107 (by first | exact id | omega | (dsimp only; omega) | (dsimp only))
  have b1_108 := f1.2 108 (by first | exact id | omega | (dsimp only; omega) | (dsimp only))
  have b1_109 := f1.2 109 (by first | exact id | omega | (dsimp only; omega) | (dsimp only))
  have b1_46 := f1.2 46 (by first | exact id | omega | (dsimp only; omega) | (dsimp only))
  have b1_116 := f1.2 116 (by first | exact id | omega | (dsimp only; omega) | (dsimp only))
  have b1_110 := f1.2 110 (by first | exact id | omega | (dsimp only; omega) | (dsimp only))
  have b1_111 := f1.2 111 (by first | exact id | omega | (dsimp only; omega) | (dsimp only))
  have b1_117 := f1.2 117 (by first | exact id | omega | (dsimp only; omega) | (dsimp only))
  have b1_118 := f1.2 118 (by first | exact id | omega | (dsimp only; omega) | (dsimp only))
  have b1_6 := f1.2 6 (by first | exact id | omega | (dsimp only; omega) | (dsimp only))
  refine W.eq (g2 := F0 m 793 ls [.int (Int32.ofInt v1)]) rfl ?_
  refine lv_pop hx hb d_law_793 rfl ?_
  have hS := am_S hK.2.1 hW hlo
  refine lv_aload_n hx hb d_law_794 rfl (lv_at hl 1 rfl) ?_
  refine lv_aload_n hx hb d_law_795 rfl (lv_at hl 3 rfl) ?_
  refine lv_iload_n hx hb d_law_796 rfl (lv_at hl 0 rfl) ?_
  refine lv_iconst (v := 1) hx hb d_law_797 (by decide) ?_
  refine lv_iadd hx hb d_law_798 ?_
  refine va_sld hx hb hXx hbl hbA hS (i := Int32.ofInt i + 1) (q_in1 hi (by omega)) d_law_799 ?_
  rw [e1]
  refine gw_callV (G := (q_G l s dC dI aC pl)) (cc := code) (own := R_law) (nL := 4) (y2 := m_X9_turns) (n2 := 1) (d2 := 8) (mc2 := 0) (ms2 := 0) (a := 106) (ci := 9) (q := (RX9, TX9, 28)) (as := [gs_iv z1]) (rest := []) hx hb hml hown hts2 hK hW hlo hl.1 d_law_800 ok_X9_turns.1 (ri_lw_in (pl := 1108) (by decide +kernel)) ok_X9_turns.2.1 ok_X9_turns.2.2 rfl rfl (by decide) (gs_en_obj _ _ (show gs_sh 106 = .inl (9, _) from rfl)) rfl (Nat.le_of_ble_eq_true rfl) (by decide) (by decide) (by show _ ≤ 600000; omega) (by show _ ≤ 7302249; omega) (c_X9_turns I1 r1 (q_G l s dC dI aC pl)) rfl (fun r N2 h2 H locs hp hW hlo => ?_)
  obtain ⟨F2, A2, n2, h2, v2, w2, I2, f2, x2⟩ := hp
  subst n2 h2 w2
  have X2 := gs_X_fr X1 (f2.1 106 3 (by first | exact id | (dsimp only; omega))) (f2.2 108 (by first | exact id | (dsimp only; omega)))
  have a2_0_11 := f2.1 0 11 (by first | exact id | omega | (dsimp only; omega) | (dsimp only))
  have a2_0_12 := f2.1 0 12 (by first | exact id | omega | (dsimp only; omega) | (dsimp only))
  have a2_5_0 := f2.1 5 0 (by first | exact id | omega | (dsimp only; omega) | (dsimp only))
  have a2_3_1 := f2.1 3 1 (by first | exact id | omega | (dsimp only; omega) | (dsimp only))
  have a2_43_0 := f2.1 43 0 (by first | exact id | omega | (dsimp only; omega) | (dsimp only))
  have a2_106_0 := f2.1 106 0 (by first | exact id | omega | (dsimp only; omega) | (dsimp only))
  have a2_106_1 := f2.1 106 1 (by first | exact id | omega | (dsimp only; omega) | (dsimp only))
  have a2_106_3 := f2.1 106 3 (by first | exact id | omega | (dsimp only; omega) | (dsimp only))
  have a2_106_17 := f2.1 106 17 (by first | exact id | omega | (dsimp only; omega) | (dsimp only))
  have a2_43_1 := f2.1 43 1 (by first | exact id | omega | (dsimp only; omega) | (dsimp only))
  have a2_106_20 := f2.1 106 20 (by first | exact id | omega | (dsimp only; omega) | (dsimp only))
  have b2_4 := f2.2 4 (by first | exact id | omega | (dsimp only; omega) | (dsimp only))
  have b2_107 := f2.2 107 (by first | exact id | omega | (dsimp only; omega) | (dsimp only))
  have b2_108 := f2.2 108 (by first | exact id | omega | (dsimp only; omega) | (dsimp only))
  have b2_109 := f2.2 109 (by first | exact id | omega | (dsimp only; omega) | (dsimp only))
  have b2_46 := f2.2 46 (by first | exact id | omega | (dsimp only; omega) | (dsimp only))
  have b2_116 := f2.2 116 (by first | exact id | omega | (dsimp only; omega) | (dsimp only))
  have b2_110 := f2.2 110 (by first | exact id | omega | (dsimp only; omega) | (dsimp only))
  have b2_111 := f2.2 111 (by first | exact id | omega | (dsimp only; omega) | (dsimp only))
  have b2_117 := f2.2 117 (by first | exact id | omega | (dsimp only; omega) | (dsimp only))
  have b2_118 := f2.2 118 (by first | exact id | omega | (dsimp only; omega) | (dsimp only))
  have b2_6 := f2.2 6 (by first | exact id | omega | (dsimp only; omega) | (dsimp only))
  have R2a : gs_R1 F2 A2 := gs_R1_mk hR1 (by omega) (by omega) (by omega) (by omega) (by omega) (b2_4.trans b1_4) (b2_107.trans b1_107) (by omega)
  have hF3 : ∀ c j, 54 ≤ c → c < 90 → F2 c j = F c j := fun c j q1 q2 => (f2.1 c j (by first | exact id | (dsimp only; omega))).trans (f1.1 c j (by first | exact id | (dsimp only; omega)))
  have hA3 : ∀ c, 54 ≤ c → c < 90 → A2 c = A c := fun c q1 q2 => (f2.2 c (by first | exact id | (dsimp only; omega))).trans (f1.2 c (by first | exact id | (dsimp only; omega)))
  have R2c : gs_R3 F2 A2 := gs_R3_fr hR3 hI (by omega) hF3 hA3 (b2_108.trans b1_108) (b2_109.trans b1_109)
  have R2a0 : gs_R13 F2 A2 := ⟨R2a, R2c⟩
  have R2a := R2a0
  have R2t : gs_Rt F2 A2 := gs_Rt_fr hRt (by omega) (by omega) (by omega) (b2_46.trans b1_46) (b2_116.trans b1_116)
  have hF9 : ∀ c j, 90 ≤ c → c < 106 → F2 c j = F c j := fun c j q1 q2 => (f2.1 c j (by first | exact id | (dsimp only; omega))).trans (f1.1 c j (by first | exact id | (dsimp only; omega)))
  have hA9 : ∀ c, 90 ≤ c → c < 106 → A2 c = A c := fun c q1 q2 => (f2.2 c (by first | exact id | (dsimp only; omega))).trans (f1.2 c (by first | exact id | (dsimp only; omega)))
  have R2p : gs_Rp F2 A2 := gs_Rp_fr hRp hI (by omega) hF9 hA9 (gs_k8_fr (b2_110.trans b1_110) (b2_111.trans b1_111))
  have R2q : gs_R123 F2 A2 := ⟨R2a, R2t, R2p⟩
  have R2w : gs_W (A2 6) (F2 0 11) := by
    rw [b2_6, b1_6, a2_0_11, a1_0_11]
    exact hRw
  have R2u : gs_R1234 F2 A2 := ⟨R2q, R2w⟩
  have R2v : gs_Rv F2 A2 := gs_Rv_fr hRv (by omega) (by omega) (by omega) (b2_107.trans b1_107) (b2_108.trans b1_108) (b2_109.trans b1_109)
  have R2t2 : gs_R5 F2 A2 := ⟨R2u, R2v⟩
  have R2s : gs_R6 F2 A2 := gs_R6_fr hR6 (by omega) (by omega) hF3 hA3
  have R2 : gs_R5m F2 A2 := ⟨R2t2, R2s⟩
  refine W.eq (g2 := F0 m 803 ls [.int (Int32.ofInt v2)]) rfl ?_
  refine lv_pop hx hb d_law_803 rfl ?_
  refine lv_goto (tgt := 1111) hx hb d_law_804 (by decide) ?_
  exact kk _ _ _ _ _ I2 ⟨X2, R2⟩ hW hlo hl
theorem q_op21 {p : Program} {e : Env} {s : State} {m : MethodId} {below : List Frame} {meth : Method} {c : Code} {b L : Nat} {xs : Nat → Int32} {l : Launch} {dC : Nat → ClassId} {dI : Nat → Nat → Nat} {aC : Nat → ClassId} {pl : Nat} (hL : L ≤ 2560) (C0 : lw_At p s m meth c b L xs) (hK : am_K (q_G l s dC dI aC pl) s) {n : Nat} (hn : n ≤ 1000000) {i : Int} (hi : 0 ≤ i ∧ i + 5 ≤ L) (kk : (∀ (F A : gs_F) (H : Heap) (locs : List Loc) (ls : Array Slot), gs_I F A → ((∀ r : Nat, (r : Int) < F 106 3 → 1 ≤ A 108 r) ∧ gs_R5m F A) → am_W (q_G l s dC dI aC pl) 122 (gs_en F A) H → (∀ q ∈ locs, s.heap.size ≤ q.base) → lv_has ls 4 [(3, .int (Int32.ofInt i)), (2, .ref (s.heap.size + 106)), (1, .ref (s.heap.size + 0)), (0, .ref b)] → W p l e room_1 s m #[Value.ref b] below meth c H locs 122 n (lw_Z below #[Value.ref b] s) (F0 m 1111 ls []))) {F A : gs_F} {H : Heap} {locs : List Loc} {ls : Array Slot} (hI : gs_I F A) (hX : (∀ r : Nat, (r : Int) < F 106 3 → 1 ≤ A 108 r) ∧ gs_R5m F A) (hW : am_W (q_G l s dC dI aC pl) 122 (gs_en F A) H) (hlo : ∀ q ∈ locs, s.heap.size ≤ q.base) (hl : lv_has ls 4 [(3, .int (Int32.ofInt i)), (2, .ref (s.heap.size + 106)), (1, .ref (s.heap.size + 0)), (0, .ref b)]) : W p l e room_1 s m #[Value.ref b] below meth c H locs 122 n (lw_Z below #[Value.ref b] s) (F0 m 807 ls []) := by
  obtain ⟨hx, hb, hr, hml, hown, hts, hXx, hbl, hlocks, hgv⟩ := C0
  obtain ⟨hX, hR⟩ := hX
  obtain ⟨hR, hR6⟩ := hR
  obtain ⟨hR, hRv⟩ := hR
  obtain ⟨hR, hRw⟩ := hR
  obtain ⟨hR, hRt, hRp⟩ := hR
  obtain ⟨hR1, hR3⟩ := hR
  have hR0 := hR1
  obtain ⟨R_1, R_2, R_3, R_4, R_5, R_6, _⟩ := hR0
  have R_0 : (0 : Int) ≤ F 106 1 ∧ F 106 1 ≤ 60 := hI.1 106 1
  have R_c : (0 : Int) ≤ F 106 3 ∧ F 106 3 ≤ 12 := hI.1 106 3
  have R_d : (0 : Int) ≤ F 0 12 ∧ F 0 12 ≤ 12 := hI.1 0 12
  have R_t := hRt.1
  have hg0 : (1 : Int) ≤ F 106 0 ∧ F 106 0 ≤ 3 := hI.1 106 0
  have hts2 := am_hts hts
  have hbA : ¬ (fun q : Nat => s.heap.size ≤ q) b := Nat.not_le.mpr hbl
  obtain ⟨z1, e1, r1⟩ := q_val (xs (Int32.ofInt i + 1).toNatClampNeg)
  obtain ⟨z2, e2, r2⟩ := q_val (xs (Int32.ofInt i + 2).toNatClampNeg)
  have hS := am_S hK.2.1 hW hlo
  refine lv_aload_n hx hb d_law_807 rfl (lv_at hl 2 rfl) ?_
  refine lv_aload_n hx hb d_law_808 rfl (lv_at hl 3 rfl) ?_
  refine lv_iload_n hx hb d_law_809 rfl (lv_at hl 0 rfl) ?_
  refine lv_iconst (v := 1) hx hb d_law_810 (by decide) ?_
  refine lv_iadd hx hb d_law_811 ?_
  refine va_sld hx hb hXx hbl hbA hS (i := Int32.ofInt i + 1) (q_in1 hi (by omega)) d_law_812 ?_
  rw [e1]
  refine lv_aload_n hx hb d_law_813 rfl (lv_at hl 3 rfl) ?_
  refine lv_iload_n hx hb d_law_814 rfl (lv_at hl 0 rfl) ?_
  refine lv_iconst (v := 2) hx hb d_law_815 (by decide) ?_
  refine lv_iadd hx hb d_law_816 ?_
  refine va_sld hx hb hXx hbl hbA hS (i := Int32.ofInt i + 2) (q_in2 hi (by omega)) d_law_817 ?_
  rw [e2]
  refine gw_callV (G := (q_G l s dC dI aC pl)) (cc := code) (own := R_law) (nL := 4) (y2 := m_X8_order) (n2 := 2) (d2 := 5) (mc2 := 0) (ms2 := 0) (a := 0) (ci := 8) (q := (RX8, TX8, 13)) (as := [gs_iv z1, gs_iv z2]) (rest := []) hx hb hml hown hts2 hK hW hlo hl.1 d_law_818 ok_X8_order.1 (ri_lw_in (pl := 664) (by decide +kernel)) ok_X8_order.2.1 ok_X8_order.2.2 rfl rfl (by decide) (gs_en_obj _ _ (show gs_sh 0 = .inl (8, _) from rfl)) rfl (Nat.le_of_ble_eq_true rfl) (by decide) (by decide) (by show _ ≤ 600000; omega) (by show _ ≤ 7302249; omega) (c_X8_order hI r1 r2 (q_G l s dC dI aC pl)) rfl (fun r N2 h2 H locs hp hW hlo => ?_)
  obtain ⟨F1, A1, n1, h1, v1, w1, I1, f1, x1⟩ := hp
  subst n1 h1 w1
  have X1 := gs_X_fr hX (f1.1 106 3 (by first | exact id | (dsimp only; omega))) (f1.2 108 (by first | exact id | (dsimp only; omega)))
  have a1_0_11 := f1.1 0 11 (by first | exact id | omega | (dsimp only; omega) | (dsimp only))
  have a1_0_12 := f1.1 0 12 (by first | exact id | omega | (dsimp only; omega) | (dsimp only))
  have a1_5_0 := f1.1 5 0 (by first | exact id | omega | (dsimp only; omega) | (dsimp only))
  have a1_3_1 := f1.1 3 1 (by first | exact id | omega | (dsimp only; omega) | (dsimp only))
  have a1_43_0 := f1.1 43 0 (by first | exact id | omega | (dsimp only; omega) | (dsimp only))
  have a1_106_0 := f1.1 106 0 (by first | exact id | omega | (dsimp only; omega) | (dsimp only))
  have a1_106_1 := f1.1 106 1 (by first | exact id | omega | (dsimp only; omega) | (dsimp only))
  have a1_106_3 := f1.1 106 3 (by first | exact id | omega | (dsimp only; omega) | (dsimp only))
  have a1_106_17 := f1.1 106 17 (by first | exact id | omega | (dsimp only; omega) | (dsimp only))
  have a1_43_1 := f1.1 43 1 (by first | exact id | omega | (dsimp only; omega) | (dsimp only))
  have a1_106_20 := f1.1 106 20 (by first | exact id | omega | (dsimp only; omega) | (dsimp only))
  have b1_4 := f1.2 4 (by first | exact id | omega | (dsimp only; omega) | (dsimp only))
  have b1_107 := f1.2 107 (by first | exact id | omega | (dsimp only; omega) | (dsimp only))
  have b1_108 := f1.2 108 (by first | exact id | omega | (dsimp only; omega) | (dsimp only))
  have b1_109 := f1.2 109 (by first | exact id | omega | (dsimp only; omega) | (dsimp only))
  have b1_46 := f1.2 46 (by first | exact id | omega | (dsimp only; omega) | (dsimp only))
  have b1_116 := f1.2 116 (by first | exact id | omega | (dsimp only; omega) | (dsimp only))
  have b1_110 := f1.2 110 (by first | exact id | omega | (dsimp only; omega) | (dsimp only))
  have b1_111 := f1.2 111 (by first | exact id | omega | (dsimp only; omega) | (dsimp only))
  have b1_117 := f1.2 117 (by first | exact id | omega | (dsimp only; omega) | (dsimp only))
  have b1_118 := f1.2 118 (by first | exact id | omega | (dsimp only; omega) | (dsimp only))
  have b1_6 := f1.2 6 (by first | exact id | omega | (dsimp only; omega) | (dsimp only))
  refine W.eq (g2 := F0 m 821 ls [.int (Int32.ofInt v1)]) rfl ?_
  refine lv_pop hx hb d_law_821 rfl ?_
  have hS := am_S hK.2.1 hW hlo
  refine lv_aload_n hx hb d_law_822 rfl (lv_at hl 1 rfl) ?_
  refine lv_aload_n hx hb d_law_823 rfl (lv_at hl 3 rfl) ?_
  refine lv_iload_n hx hb d_law_824 rfl (lv_at hl 0 rfl) ?_
  refine lv_iconst (v := 1) hx hb d_law_825 (by decide) ?_
  refine lv_iadd hx hb d_law_826 ?_
  refine va_sld hx hb hXx hbl hbA hS (i := Int32.ofInt i + 1) (q_in1 hi (by omega)) d_law_827 ?_
  rw [e1]
  refine lv_aload_n hx hb d_law_828 rfl (lv_at hl 3 rfl) ?_
  refine lv_iload_n hx hb d_law_829 rfl (lv_at hl 0 rfl) ?_
  refine lv_iconst (v := 2) hx hb d_law_830 (by decide) ?_
  refine lv_iadd hx hb d_law_831 ?_
  refine va_sld hx hb hXx hbl hbA hS (i := Int32.ofInt i + 2) (q_in2 hi (by omega)) d_law_832 ?_
  rw [e2]
  refine gw_callV (G := (q_G l s dC dI aC pl)) (cc := code) (own := R_law) (nL := 4) (y2 := m_X9_order) (n2 := 2) (d2 := 8) (mc2 := 0) (ms2 := 0) (a := 106) (ci := 9) (q := (RX9, TX9, 28)) (as := [gs_iv z1, gs_iv z2]) (rest := []) hx hb hml hown hts2 hK hW hlo hl.1 d_law_833 ok_X9_order.1 (ri_lw_in (pl := 1124) (by decide +kernel)) ok_X9_order.2.1 ok_X9_order.2.2 rfl rfl (by decide) (gs_en_obj _ _ (show gs_sh 106 = .inl (9, _) from rfl)) rfl (Nat.le_of_ble_eq_true rfl) (by decide) (by decide) (by show _ ≤ 600000; omega) (by show _ ≤ 7302249; omega) (c_X9_order I1 r1 r2 (q_G l s dC dI aC pl)) rfl (fun r N2 h2 H locs hp hW hlo => ?_)
  obtain ⟨F2, A2, n2, h2, v2, w2, I2, f2, x2⟩ := hp
  subst n2 h2 w2
  have X2 := gs_X_fr X1 (f2.1 106 3 (by first | exact id | (dsimp only; omega))) (f2.2 108 (by first | exact id | (dsimp only; omega)))
  have a2_0_11 := f2.1 0 11 (by first | exact id | omega | (dsimp only; omega) | (dsimp only))
  have a2_0_12 := f2.1 0 12 (by first | exact id | omega | (dsimp only; omega) | (dsimp only))
  have a2_5_0 := f2.1 5 0 (by first | exact id | omega | (dsimp only; omega) | (dsimp only))
  have a2_3_1 := f2.1 3 1 (by first | exact id | omega | (dsimp only; omega) | (dsimp only))
  have a2_43_0 := f2.1 43 0 (by first | exact id | omega | (dsimp only; omega) | (dsimp only))
  have a2_106_0 := f2.1 106 0 (by first | exact id | omega | (dsimp only; omega) | (dsimp only))
  have a2_106_1 := f2.1 106 1 (by first | exact id | omega | (dsimp only; omega) | (dsimp only))
  have a2_106_3 := f2.1 106 3 (by first | exact id | omega | (dsimp only; omega) | (dsimp only))
  have a2_106_17 := f2.1 106 17 (by first | exact id | omega | (dsimp only; omega) | (dsimp only))
  have a2_43_1 := f2.1 43 1 (by first | exact id | omega | (dsimp only; omega) | (dsimp only))
  have a2_106_20 := f2.1 106 20 (by first | exact id | omega | (dsimp only; omega) | (dsimp only))
  have b2_4 := f2.2 4 (by first | exact id | omega | (dsimp only; omega) | (dsimp only))
  have b2_107 := f2.2 107 (by first | exact id | omega | (dsimp only; omega) | (dsimp only))
  have b2_108 := f2.2 108 (by first | exact id | omega | (dsimp only; omega) | (dsimp only))
  have b2_109 := f2.2 109 (by first | exact id | omega | (dsimp only; omega) | (dsimp only))
  have b2_46 := f2.2 46 (by first | exact id | omega | (dsimp only; omega) | (dsimp only))
  have b2_116 := f2.2 116 (by first | exact id | omega | (dsimp only; omega) | (dsimp only))
  have b2_110 := f2.2 110 (by first | exact id | omega | (dsimp only; omega) | (dsimp only))
  have b2_111 := f2.2 111 (by first | exact id | omega | (dsimp only; omega) | (dsimp only))
  have b2_117 := f2.2 117 (by first | exact id | omega | (dsimp only; omega) | (dsimp only))
  have b2_118 := f2.2 118 (by first | exact id | omega | (dsimp only; omega) | (dsimp only))
  have b2_6 := f2.2 6 (by first | exact id | omega | (dsimp only; omega) | (dsimp only))
  have R2a : gs_R1 F2 A2 := gs_R1_mk hR1 (by omega) (by omega) (by omega) (by omega) (by omega) (b2_4.trans b1_4) (b2_107.trans b1_107) (by omega)
  have hF3 : ∀ c j, 54 ≤ c → c < 90 → F2 c j = F c j := fun c j q1 q2 => (f2.1 c j (by first | exact id | (dsimp only; omega))).trans (f1.1 c j (by first | exact id | (dsimp only; omega)))
  have hA3 : ∀ c, 54 ≤ c → c < 90 → A2 c = A c := fun c q1 q2 => (f2.2 c (by first | exact id | (dsimp only; omega))).trans (f1.2 c (by first | exact id | (dsimp only; omega)))
  have R2c : gs_R3 F2 A2 := gs_R3_fr hR3 hI (by omega) hF3 hA3 (b2_108.trans b1_108) (b2_109.trans b1_109)
  have R2a0 : gs_R13 F2 A2 := ⟨R2a, R2c⟩
  have R2a := R2a0
  have R2t : gs_Rt F2 A2 := gs_Rt_fr hRt (by omega) (by omega) (by omega) (b2_46.trans b1_46) (b2_116.trans b1_116)
  have hF9 : ∀ c j, 90 ≤ c → c < 106 → F2 c j = F c j := fun c j q1 q2 => (f2.1 c j (by first | exact id | (dsimp only; omega))).trans (f1.1 c j (by first | exact id | (dsimp only; omega)))
  have hA9 : ∀ c, 90 ≤ c → c < 106 → A2 c = A c := fun c q1 q2 => (f2.2 c (by first | exact id | (dsimp only; omega))).trans (f1.2 c (by first | exact id | (dsimp only; omega)))
  have R2p : gs_Rp F2 A2 := gs_Rp_fr hRp hI (by omega) hF9 hA9 (gs_k8_fr (b2_110.trans b1_110) (b2_111.trans b1_111))
  have R2q : gs_R123 F2 A2 := ⟨R2a, R2t, R2p⟩
  have R2w : gs_W (A2 6) (F2 0 11) := by
    rw [b2_6, b1_6, a2_0_11, a1_0_11]
    exact hRw
  have R2u : gs_R1234 F2 A2 := ⟨R2q, R2w⟩
  have R2v : gs_Rv F2 A2 := gs_Rv_fr hRv (by omega) (by omega) (by omega) (b2_107.trans b1_107) (b2_108.trans b1_108) (b2_109.trans b1_109)
  have R2t2 : gs_R5 F2 A2 := ⟨R2u, R2v⟩
  have R2s : gs_R6 F2 A2 := gs_R6_fr hR6 (by omega) (by omega) hF3 hA3
  have R2 : gs_R5m F2 A2 := ⟨R2t2, R2s⟩
  refine W.eq (g2 := F0 m 836 ls [.int (Int32.ofInt v2)]) rfl ?_
  refine lv_pop hx hb d_law_836 rfl ?_
  refine lv_goto (tgt := 1111) hx hb d_law_837 (by decide) ?_
  exact kk _ _ _ _ _ I2 ⟨X2, R2⟩ hW hlo hl
theorem q_op22 {p : Program} {e : Env} {s : State} {m : MethodId} {below : List Frame} {meth : Method} {c : Code} {b L : Nat} {xs : Nat → Int32} {l : Launch} {dC : Nat → ClassId} {dI : Nat → Nat → Nat} {aC : Nat → ClassId} {pl : Nat} (hL : L ≤ 2560) (C0 : lw_At p s m meth c b L xs) (hK : am_K (q_G l s dC dI aC pl) s) {n : Nat} (hn : n ≤ 1000000) {i : Int} (hi : 0 ≤ i ∧ i + 5 ≤ L) (kk : (∀ (F A : gs_F) (H : Heap) (locs : List Loc) (ls : Array Slot), gs_I F A → ((∀ r : Nat, (r : Int) < F 106 3 → 1 ≤ A 108 r) ∧ gs_R5m F A) → am_W (q_G l s dC dI aC pl) 122 (gs_en F A) H → (∀ q ∈ locs, s.heap.size ≤ q.base) → lv_has ls 4 [(3, .int (Int32.ofInt i)), (2, .ref (s.heap.size + 106)), (1, .ref (s.heap.size + 0)), (0, .ref b)] → W p l e room_1 s m #[Value.ref b] below meth c H locs 122 n (lw_Z below #[Value.ref b] s) (F0 m 1111 ls []))) {F A : gs_F} {H : Heap} {locs : List Loc} {ls : Array Slot} (hI : gs_I F A) (hX : (∀ r : Nat, (r : Int) < F 106 3 → 1 ≤ A 108 r) ∧ gs_R5m F A) (hW : am_W (q_G l s dC dI aC pl) 122 (gs_en F A) H) (hlo : ∀ q ∈ locs, s.heap.size ≤ q.base) (hl : lv_has ls 4 [(3, .int (Int32.ofInt i)), (2, .ref (s.heap.size + 106)), (1, .ref (s.heap.size + 0)), (0, .ref b)]) : W p l e room_1 s m #[Value.ref b] below meth c H locs 122 n (lw_Z below #[Value.ref b] s) (F0 m 840 ls []) := by
  obtain ⟨hx, hb, hr, hml, hown, hts, hXx, hbl, hlocks, hgv⟩ := C0
  obtain ⟨hX, hR⟩ := hX
  obtain ⟨hR, hR6⟩ := hR
  obtain ⟨hR, hRv⟩ := hR
  obtain ⟨hR, hRw⟩ := hR
  obtain ⟨hR, hRt, hRp⟩ := hR
  obtain ⟨hR1, hR3⟩ := hR
  have hR0 := hR1
  obtain ⟨R_1, R_2, R_3, R_4, R_5, R_6, _⟩ := hR0
  have R_0 : (0 : Int) ≤ F 106 1 ∧ F 106 1 ≤ 60 := hI.1 106 1
  have R_c : (0 : Int) ≤ F 106 3 ∧ F 106 3 ≤ 12 := hI.1 106 3
  have R_d : (0 : Int) ≤ F 0 12 ∧ F 0 12 ≤ 12 := hI.1 0 12
  have R_t := hRt.1
  have hg0 : (1 : Int) ≤ F 106 0 ∧ F 106 0 ≤ 3 := hI.1 106 0
  have hts2 := am_hts hts
  have hbA : ¬ (fun q : Nat => s.heap.size ≤ q) b := Nat.not_le.mpr hbl
  obtain ⟨z1, e1, r1⟩ := q_val (xs (Int32.ofInt i + 1).toNatClampNeg)
  obtain ⟨z2, e2, r2⟩ := q_val (xs (Int32.ofInt i + 2).toNatClampNeg)
  obtain ⟨z3, e3, r3⟩ := q_val (xs (Int32.ofInt i + 3).toNatClampNeg)
  have hS := am_S hK.2.1 hW hlo
  refine lv_aload_n hx hb d_law_840 rfl (lv_at hl 2 rfl) ?_
  refine lv_aload_n hx hb d_law_841 rfl (lv_at hl 3 rfl) ?_
  refine lv_iload_n hx hb d_law_842 rfl (lv_at hl 0 rfl) ?_
  refine lv_iconst (v := 1) hx hb d_law_843 (by decide) ?_
  refine lv_iadd hx hb d_law_844 ?_
  refine va_sld hx hb hXx hbl hbA hS (i := Int32.ofInt i + 1) (q_in1 hi (by omega)) d_law_845 ?_
  rw [e1]
  refine lv_aload_n hx hb d_law_846 rfl (lv_at hl 3 rfl) ?_
  refine lv_iload_n hx hb d_law_847 rfl (lv_at hl 0 rfl) ?_
  refine lv_iconst (v := 2) hx hb d_law_848 (by decide) ?_
  refine lv_iadd hx hb d_law_849 ?_
  refine va_sld hx hb hXx hbl hbA hS (i := Int32.ofInt i + 2) (q_in2 hi (by omega)) d_law_850 ?_
  rw [e2]
  refine lv_aload_n hx hb d_law_851 rfl (lv_at hl 3 rfl) ?_
  refine lv_iload_n hx hb d_law_852 rfl (lv_at hl 0 rfl) ?_
  refine lv_iconst (v := 3) hx hb d_law_853 (by decide) ?_
  refine lv_iadd hx hb d_law_854 ?_
  refine va_sld hx hb hXx hbl hbA hS (i := Int32.ofInt i + 3) (q_in3 hi (by omega)) d_law_855 ?_
  rw [e3]
  refine gw_callV (G := (q_G l s dC dI aC pl)) (cc := code) (own := R_law) (nL := 4) (y2 := m_X8_table) (n2 := 3) (d2 := 4) (mc2 := 0) (ms2 := 0) (a := 0) (ci := 8) (q := (RX8, TX8, 13)) (as := [gs_iv z1, gs_iv z2, gs_iv z3]) (rest := []) hx hb hml hown hts2 hK hW hlo hl.1 d_law_856 ok_X8_table.1 (ri_lw_in (pl := 668) (by decide +kernel)) ok_X8_table.2.1 ok_X8_table.2.2 rfl rfl (by decide) (gs_en_obj _ _ (show gs_sh 0 = .inl (8, _) from rfl)) rfl (Nat.le_of_ble_eq_true rfl) (by decide) (by decide) (by show _ ≤ 600000; omega) (by show _ ≤ 7302249; omega) (c_X8_table hI r1 r2 r3 (q_G l s dC dI aC pl)) rfl (fun r N2 h2 H locs hp hW hlo => ?_)
  obtain ⟨F1, A1, n1, h1, v1, w1, I1, f1, x1⟩ := hp
  subst n1 h1 w1
  have X1 := gs_X_fr hX (f1.1 106 3 (by first | exact id | (dsimp only; omega))) (f1.2 108 (by first | exact id | (dsimp only; omega)))
  have a1_0_11 := f1.1 0 11 (by first | exact id | omega | (dsimp only; omega) | (dsimp only))
  have a1_0_12 := f1.1 0 12 (by first | exact id | omega | (dsimp only; omega) | (dsimp only))
  have a1_5_0 := f1.1 5 0 (by first | exact id | omega | (dsimp only; omega) | (dsimp only))
  have a1_3_1 := f1.1 3 1 (by first | exact id | omega | (dsimp only; omega) | (dsimp only))
  have a1_43_0 := f1.1 43 0 (by first | exact id | omega | (dsimp only; omega) | (dsimp only))
  have a1_106_0 := f1.1 106 0 (by first | exact id | omega | (dsimp only; omega) | (dsimp only))
  have a1_106_1 := f1.1 106 1 (by first | exact id | omega | (dsimp only; omega) | (dsimp only))
  have a1_106_3 := f1.1 106 3 (by first | exact id | omega | (dsimp only; omega) | (dsimp only))
  have a1_106_17 := f1.1 106 17 (by first | exact id | omega | (dsimp only; omega) | (dsimp only))
  have a1_43_1 := f1.1 43 1 (by first | exact id | omega | (dsimp only; omega) | (dsimp only))
  have a1_106_20 := f1.1 106 20 (by first | exact id | omega | (dsimp only; omega) | (dsimp only))
  have b1_4 := f1.2 4 (by first | exact id | omega | (dsimp only; omega) | (dsimp only))
  have b1_107 := f1.2 107 (by first | exact id | omega | (dsimp only; omega) | (dsimp only))
  have b1_108 := f1.2 108 (by first | exact id | omega | (dsimp only; omega) | (dsimp only))
  have b1_109 := f1.2 109 (by first | exact id | omega | (dsimp only; omega) | (dsimp only))
  have b1_46 := f1.2 46 (by first | exact id | omega | (dsimp only; omega) | (dsimp only))
  have b1_116 := f1.2 116 (by first | exact id | omega | (dsimp only; omega) | (dsimp only))
  have b1_110 := f1.2 110 (by first | exact id | omega | (dsimp only; omega) | (dsimp only))
  have b1_111 := f1.2 111 (by first | exact id | omega | (dsimp only; omega) | (dsimp only))
  have b1_117 := f1.2 117 (by first | exact id | omega | (dsimp only; omega) | (dsimp only))
  have b1_118 := f1.2 118 (by first | exact id | omega | (dsimp only; omega) | (dsimp only))
  have b1_6 := f1.2 6 (by first | exact id | omega | (dsimp only; omega) | (dsimp only))
  refine W.eq (g2 := F0 m 859 ls [.int (Int32.ofInt v1)]) rfl ?_
  refine lv_pop hx hb d_law_859 rfl ?_
  have hS := am_S hK.2.1 hW hlo
  refine lv_aload_n hx hb d_law_860 rfl (lv_at hl 1 rfl) ?_
  refine lv_aload_n hx hb d_law_861 rfl (lv_at hl 3 rfl) ?_
  refine lv_iload_n hx hb d_law_862 rfl (lv_at hl 0 rfl) ?_
  refine lv_iconst (v := 1) hx hb d_law_863 (by decide) ?_
  refine lv_iadd hx hb d_law_864 ?_
  refine va_sld hx hb hXx hbl hbA hS (i := Int32.ofInt i + 1) (q_in1 hi (by omega)) d_law_865 ?_
  rw [e1]
  refine lv_aload_n hx hb d_law_866 rfl (lv_at hl 3 rfl) ?_
  refine lv_iload_n hx hb d_law_867 rfl (lv_at hl 0 rfl) ?_
  refine lv_iconst (v := 2) hx hb d_law_868 (by decide) ?_
  refine lv_iadd hx hb d_law_869 ?_
  refine va_sld hx hb hXx hbl hbA hS (i := Int32.ofInt i + 2) (q_in2 hi (by omega)) d_law_870 ?_
  rw [e2]
  refine lv_aload_n hx hb d_law_871 rfl (lv_at hl 3 rfl) ?_
  refine lv_iload_n hx hb d_law_872 rfl (lv_at hl 0 rfl) ?_
  refine lv_iconst (v := 3) hx hb d_law_873 (by decide) ?_
  refine lv_iadd hx hb d_law_874 ?_
  refine va_sld hx hb hXx hbl hbA hS (i := Int32.ofInt i + 3) (q_in3 hi (by omega)) d_law_875 ?_
  rw [e3]
  refine gw_callV (G := (q_G l s dC dI aC pl)) (cc := code) (own := R_law) (nL := 4) (y2 := m_X9_table) (n2 := 3) (d2 := 8) (mc2 := 0) (ms2 := 0) (a := 106) (ci := 9) (q := (RX9, TX9, 28)) (as := [gs_iv z1, gs_iv z2, gs_iv z3]) (rest := []) hx hb hml hown hts2 hK hW hlo hl.1 d_law_876 ok_X9_table.1 (ri_lw_in (pl := 1133) (by decide +kernel)) ok_X9_table.2.1 ok_X9_table.2.2 rfl rfl (by decide) (gs_en_obj _ _ (show gs_sh 106 = .inl (9, _) from rfl)) rfl (Nat.le_of_ble_eq_true rfl) (by decide) (by decide) (by show _ ≤ 600000; omega) (by show _ ≤ 7302249; omega) (c_X9_table I1 r1 r2 r3 (q_G l s dC dI aC pl)) rfl (fun r N2 h2 H locs hp hW hlo => ?_)
  obtain ⟨F2, A2, n2, h2, v2, w2, I2, f2, x2⟩ := hp
  subst n2 h2 w2
  have X2 := gs_X_fr X1 (f2.1 106 3 (by first | exact id | (dsimp only; omega))) (f2.2 108 (by first | exact id | (dsimp only; omega)))
  have a2_0_11 := f2.1 0 11 (by first | exact id | omega | (dsimp only; omega) | (dsimp only))
  have a2_0_12 := f2.1 0 12 (by first | exact id | omega | (dsimp only; omega) | (dsimp only))
  have a2_5_0 := f2.1 5 0 (by first | exact id | omega | (dsimp only; omega) | (dsimp only))
  have a2_3_1 := f2.1 3 1 (by first | exact id | omega | (dsimp only; omega) | (dsimp only))
  have a2_43_0 := f2.1 43 0 (by first | exact id | omega | (dsimp only; omega) | (dsimp only))
  have a2_106_0 := f2.1 106 0 (by first | exact id | omega | (dsimp only; omega) | (dsimp only))
  have a2_106_1 := f2.1 106 1 (by first | exact id | omega | (dsimp only; omega) | (dsimp only))
  have a2_106_3 := f2.1 106 3 (by first | exact id | omega | (dsimp only; omega) | (dsimp only))
  have a2_106_17 := f2.1 106 17 (by first | exact id | omega | (dsimp only; omega) | (dsimp only))
  have a2_43_1 := f2.1 43 1 (by first | exact id | omega | (dsimp only; omega) | (dsimp only))
  have a2_106_20 := f2.1 106 20 (by first | exact id | omega | (dsimp only; omega) | (dsimp only))
  have b2_4 := f2.2 4 (by first | exact id | omega | (dsimp only; omega) | (dsimp only))
  have b2_107 := f2.2 107 (by first | exact id | omega | (dsimp only; omega) | (dsimp only))
  have b2_108 := f2.2 108 (by first | exact id | omega | (dsimp only; omega) | (dsimp only))
  have b2_109 := f2.2 109 (by first | exact id | omega | (dsimp only; omega) | (dsimp only))
  have b2_46 := f2.2 46 (by first | exact id | omega | (dsimp only; omega) | (dsimp only))
  have b2_116 := f2.2 116 (by first | exact id | omega | (dsimp only; omega) | (dsimp only))
  have b2_110 := f2.2 110 (by first | exact id | omega | (dsimp only; omega) | (dsimp only))
  have b2_111 := f2.2 111 (by first | exact id | omega | (dsimp only; omega) | (dsimp only))
  have b2_117 := f2.2 117 (by first | exact id | omega | (dsimp only; omega) | (dsimp only))
  have b2_118 := f2.2 118 (by first | exact id | omega | (dsimp only; omega) | (dsimp only))
  have b2_6 := f2.2 6 (by first | exact id | omega | (dsimp only; omega) | (dsimp only))
  have R2a : gs_R1 F2 A2 := gs_R1_mk hR1 (by omega) (by omega) (by omega) (by omega) (by omega) (b2_4.trans b1_4) (b2_107.trans b1_107) (by omega)
  have hF3 : ∀ c j, 54 ≤ c → c < 90 → F2 c j = F c j := fun c j q1 q2 => (f2.1 c j (by first | exact id | (dsimp only; omega))).trans (f1.1 c j (by first | exact id | (dsimp only; omega)))
  have hA3 : ∀ c, 54 ≤ c → c < 90 → A2 c = A c := fun c q1 q2 => (f2.2 c (by first | exact id | (dsimp only; omega))).trans (f1.2 c (by first | exact id | (dsimp only; omega)))
  have R2c : gs_R3 F2 A2 := gs_R3_fr hR3 hI (by omega) hF3 hA3 (b2_108.trans b1_108) (b2_109.trans b1_109)
  have R2a0 : gs_R13 F2 A2 := ⟨R2a, R2c⟩
  have R2a := R2a0
  have R2t : gs_Rt F2 A2 := gs_Rt_fr hRt (by omega) (by omega) (by omega) (b2_46.trans b1_46) (b2_116.trans b1_116)
  have hF9 : ∀ c j, 90 ≤ c → c < 106 → F2 c j = F c j := fun c j q1 q2 => (f2.1 c j (by first | exact id | (dsimp only; omega))).trans (f1.1 c j (by first | exact id | (dsimp only; omega)))
  have hA9 : ∀ c, 90 ≤ c → c < 106 → A2 c = A c := fun c q1 q2 => (f2.2 c (by first | exact id | (dsimp only; omega))).trans (f1.2 c (by first | exact id | (dsimp only; omega)))
  have R2p : gs_Rp F2 A2 := gs_Rp_fr hRp hI (by omega) hF9 hA9 (gs_k8_fr (b2_110.trans b1_110) (b2_111.trans b1_111))
  have R2q : gs_R123 F2 A2 := ⟨R2a, R2t, R2p⟩
  have R2w : gs_W (A2 6) (F2 0 11) := by
    rw [b2_6, b1_6, a2_0_11, a1_0_11]
    exact hRw
  have R2u : gs_R1234 F2 A2 := ⟨R2q, R2w⟩
  have R2v : gs_Rv F2 A2 := gs_Rv_fr hRv (by omega) (by omega) (by omega) (b2_107.trans b1_107) (b2_108.trans b1_108) (b2_109.trans b1_109)
  have R2t2 : gs_R5 F2 A2 := ⟨R2u, R2v⟩
  have R2s : gs_R6 F2 A2 := gs_R6_fr hR6 (by omega) (by omega) hF3 hA3
  have R2 : gs_R5m F2 A2 := ⟨R2t2, R2s⟩
  refine W.eq (g2 := F0 m 879 ls [.int (Int32.ofInt v2)]) rfl ?_
  refine lv_pop hx hb d_law_879 rfl ?_
  refine lv_goto (tgt := 1111) hx hb d_law_880 (by decide) ?_
  exact kk _ _ _ _ _ I2 ⟨X2, R2⟩ hW hlo hl
theorem q_op23 {p : Program} {e : Env} {s : State} {m : MethodId} {below : List Frame} {meth : Method} {c : Code} {b L : Nat} {xs : Nat → Int32} {l : Launch} {dC : Nat → ClassId} {dI : Nat → Nat → Nat} {aC : Nat → ClassId} {pl : Nat} (hL : L ≤ 2560) (C0 : lw_At p s m meth c b L xs) (hK : am_K (q_G l s dC dI aC pl) s) {n : Nat} (hn : n ≤ 1000000) {i : Int} (hi : 0 ≤ i ∧ i + 5 ≤ L) (kk : (∀ (F A : gs_F) (H : Heap) (locs : List Loc) (ls : Array Slot), gs_I F A → ((∀ r : Nat, (r : Int) < F 106 3 → 1 ≤ A 108 r) ∧ gs_R5m F A) → am_W (q_G l s dC dI aC pl) 122 (gs_en F A) H → (∀ q ∈ locs, s.heap.size ≤ q.base) → lv_has ls 4 [(3, .int (Int32.ofInt i)), (2, .ref (s.heap.size + 106)), (1, .ref (s.heap.size + 0)), (0, .ref b)] → W p l e room_1 s m #[Value.ref b] below meth c H locs 122 n (lw_Z below #[Value.ref b] s) (F0 m 1111 ls []))) {F A : gs_F} {H : Heap} {locs : List Loc} {ls : Array Slot} (hI : gs_I F A) (hX : (∀ r : Nat, (r : Int) < F 106 3 → 1 ≤ A 108 r) ∧ gs_R5m F A) (hW : am_W (q_G l s dC dI aC pl) 122 (gs_en F A) H) (hlo : ∀ q ∈ locs, s.heap.size ≤ q.base) (hl : lv_has ls 4 [(3, .int (Int32.ofInt i)), (2, .ref (s.heap.size + 106)), (1, .ref (s.heap.size + 0)), (0, .ref b)]) : W p l e room_1 s m #[Value.ref b] below meth c H locs 122 n (lw_Z below #[Value.ref b] s) (F0 m 883 ls []) := by
  obtain ⟨hx, hb, hr, hml, hown, hts, hXx, hbl, hlocks, hgv⟩ := C0
  obtain ⟨hX, hR⟩ := hX
  obtain ⟨hR, hR6⟩ := hR
  obtain ⟨hR, hRv⟩ := hR
  obtain ⟨hR, hRw⟩ := hR
  obtain ⟨hR, hRt, hRp⟩ := hR
  obtain ⟨hR1, hR3⟩ := hR
  have hR0 := hR1
  obtain ⟨R_1, R_2, R_3, R_4, R_5, R_6, _⟩ := hR0
  have R_0 : (0 : Int) ≤ F 106 1 ∧ F 106 1 ≤ 60 := hI.1 106 1
  have R_c : (0 : Int) ≤ F 106 3 ∧ F 106 3 ≤ 12 := hI.1 106 3
  have R_d : (0 : Int) ≤ F 0 12 ∧ F 0 12 ≤ 12 := hI.1 0 12
  have R_t := hRt.1
  have hg0 : (1 : Int) ≤ F 106 0 ∧ F 106 0 ≤ 3 := hI.1 106 0
  have hts2 := am_hts hts
  have hbA : ¬ (fun q : Nat => s.heap.size ≤ q) b := Nat.not_le.mpr hbl
  obtain ⟨z1, e1, r1⟩ := q_val (xs (Int32.ofInt i + 1).toNatClampNeg)
  obtain ⟨z2, e2, r2⟩ := q_val (xs (Int32.ofInt i + 2).toNatClampNeg)
  have hS := am_S hK.2.1 hW hlo
  refine lv_aload_n hx hb d_law_883 rfl (lv_at hl 2 rfl) ?_
  refine lv_aload_n hx hb d_law_884 rfl (lv_at hl 3 rfl) ?_
  refine lv_iload_n hx hb d_law_885 rfl (lv_at hl 0 rfl) ?_
  refine lv_iconst (v := 1) hx hb d_law_886 (by decide) ?_
  refine lv_iadd hx hb d_law_887 ?_
  refine va_sld hx hb hXx hbl hbA hS (i := Int32.ofInt i + 1) (q_in1 hi (by omega)) d_law_888 ?_
  rw [e1]
  refine lv_aload_n hx hb d_law_889 rfl (lv_at hl 3 rfl) ?_
  refine lv_iload_n hx hb d_law_890 rfl (lv_at hl 0 rfl) ?_
  refine lv_iconst (v := 2) hx hb d_law_891 (by decide) ?_
  refine lv_iadd hx hb d_law_892 ?_
  refine va_sld hx hb hXx hbl hbA hS (i := Int32.ofInt i + 2) (q_in2 hi (by omega)) d_law_893 ?_
  rw [e2]
  refine gw_callV (G := (q_G l s dC dI aC pl)) (cc := code) (own := R_law) (nL := 4) (y2 := m_X8_character) (n2 := 2) (d2 := 9) (mc2 := 0) (ms2 := 0) (a := 0) (ci := 8) (q := (RX8, TX8, 13)) (as := [gs_iv z1, gs_iv z2]) (rest := []) hx hb hml hown hts2 hK hW hlo hl.1 d_law_894 ok_X8_character.1 (ri_lw_in (pl := 676) (by decide +kernel)) ok_X8_character.2.1 ok_X8_character.2.2 rfl rfl (by decide) (gs_en_obj _ _ (show gs_sh 0 = .inl (8, _) from rfl)) rfl (Nat.le_of_ble_eq_true rfl) (by decide) (by decide) (by show _ ≤ 600000; omega) (by show _ ≤ 7302249; omega) (c_X8_character hI r1 r2 (q_G l s dC dI aC pl)) rfl (fun r N2 h2 H locs hp hW hlo => ?_)
  obtain ⟨F1, A1, n1, h1, v1, w1, I1, f1, x1⟩ := hp
  subst n1 h1 w1
  have X1 := gs_X_fr hX (f1.1 106 3 (by first | exact id | (dsimp only; omega))) (f1.2 108 (by first | exact id | (dsimp only; omega)))
  have a1_0_11 := f1.1 0 11 (by first | exact id | omega | (dsimp only; omega) | (dsimp only))
  have a1_0_12 := f1.1 0 12 (by first | exact id | omega | (dsimp only; omega) | (dsimp only))
  have a1_5_0 := f1.1 5 0 (by first | exact id | omega | (dsimp only; omega) | (dsimp only))
  have a1_3_1 := f1.1 3 1 (by first | exact id | omega | (dsimp only; omega) | (dsimp only))
  have a1_43_0 := f1.1 43 0 (by first | exact id | omega | (dsimp only; omega) | (dsimp only))
  have a1_106_0 := f1.1 106 0 (by first | exact id | omega | (dsimp only; omega) | (dsimp only))
  have a1_106_1 := f1.1 106 1 (by first | exact id | omega | (dsimp only; omega) | (dsimp only))
  have a1_106_3 := f1.1 106 3 (by first | exact id | omega | (dsimp only; omega) | (dsimp only))
  have a1_106_17 := f1.1 106 17 (by first | exact id | omega | (dsimp only; omega) | (dsimp only))
  have a1_43_1 := f1.1 43 1 (by first | exact id | omega | (dsimp only; omega) | (dsimp only))
  have a1_106_20 := f1.1 106 20 (by first | exact id | omega | (dsimp only; omega) | (dsimp only))
  have b1_4 := f1.2 4 (by first | exact id | omega | (dsimp only; omega) | (dsimp only))
  have b1_107 := f1.2 107 (by first | exact id | omega | (dsimp only; omega) | (dsimp only))
  have b1_108 := f1.2 108 (by first | exact id | omega | (dsimp only; omega) | (dsimp only))
  have b1_109 := f1.2 109 (by first | exact id | omega | (dsimp only; omega) | (dsimp only))
  have b1_46 := f1.2 46 (by first | exact id | omega | (dsimp only; omega) | (dsimp only))
  have b1_116 := f1.2 116 (by first | exact id | omega | (dsimp only; omega) | (dsimp only))
  have b1_110 := f1.2 110 (by first | exact id | omega | (dsimp only; omega) | (dsimp only))
  have b1_111 := f1.2 111 (by first | exact id | omega | (dsimp only; omega) | (dsimp only))
  have b1_117 := f1.2 117 (by first | exact id | omega | (dsimp only; omega) | (dsimp only))
  have b1_118 := f1.2 118 (by first | exact id | omega | (dsimp only; omega) | (dsimp only))
  have b1_6 := f1.2 6 (by first | exact id | omega | (dsimp only; omega) | (dsimp only))
  refine W.eq (g2 := F0 m 897 ls [.long v1]) rfl ?_
  refine lv_pop2_2 hx hb d_law_897 rfl ?_
  have hS := am_S hK.2.1 hW hlo
  refine lv_aload_n hx hb d_law_898 rfl (lv_at hl 1 rfl) ?_
  refine lv_aload_n hx hb d_law_899 rfl (lv_at hl 3 rfl) ?_
  refine lv_iload_n hx hb d_law_900 rfl (lv_at hl 0 rfl) ?_
  refine lv_iconst (v := 1) hx hb d_law_901 (by decide) ?_
  refine lv_iadd hx hb d_law_902 ?_
  refine va_sld hx hb hXx hbl hbA hS (i := Int32.ofInt i + 1) (q_in1 hi (by omega)) d_law_903 ?_
  rw [e1]
  refine lv_aload_n hx hb d_law_904 rfl (lv_at hl 3 rfl) ?_
  refine lv_iload_n hx hb d_law_905 rfl (lv_at hl 0 rfl) ?_
  refine lv_iconst (v := 2) hx hb d_law_906 (by decide) ?_
  refine lv_iadd hx hb d_law_907 ?_
  refine va_sld hx hb hXx hbl hbA hS (i := Int32.ofInt i + 2) (q_in2 hi (by omega)) d_law_908 ?_
  rw [e2]
  refine gw_callV (G := (q_G l s dC dI aC pl)) (cc := code) (own := R_law) (nL := 4) (y2 := m_X9_character) (n2 := 2) (d2 := 8) (mc2 := 0) (ms2 := 0) (a := 106) (ci := 9) (q := (RX9, TX9, 28)) (as := [gs_iv z1, gs_iv z2]) (rest := []) hx hb hml hown hts2 hK hW hlo hl.1 d_law_909 ok_X9_character.1 (ri_lw_in (pl := 1141) (by decide +kernel)) ok_X9_character.2.1 ok_X9_character.2.2 rfl rfl (by decide) (gs_en_obj _ _ (show gs_sh 106 = .inl (9, _) from rfl)) rfl (Nat.le_of_ble_eq_true rfl) (by decide) (by decide) (by show _ ≤ 600000; omega) (by show _ ≤ 7302249; omega) (c_X9_character I1 r1 r2 (q_G l s dC dI aC pl)) rfl (fun r N2 h2 H locs hp hW hlo => ?_)
  obtain ⟨F2, A2, n2, h2, v2, w2, I2, f2, x2⟩ := hp
  subst n2 h2 w2
  have X2 := gs_X_fr X1 (f2.1 106 3 (by first | exact id | (dsimp only; omega))) (f2.2 108 (by first | exact id | (dsimp only; omega)))
  have a2_0_11 := f2.1 0 11 (by first | exact id | omega | (dsimp only; omega) | (dsimp only))
  have a2_0_12 := f2.1 0 12 (by first | exact id | omega | (dsimp only; omega) | (dsimp only))
  have a2_5_0 := f2.1 5 0 (by first | exact id | omega | (dsimp only; omega) | (dsimp only))
  have a2_3_1 := f2.1 3 1 (by first | exact id | omega | (dsimp only; omega) | (dsimp only))
  have a2_43_0 := f2.1 43 0 (by first | exact id | omega | (dsimp only; omega) | (dsimp only))
  have a2_106_0 := f2.1 106 0 (by first | exact id | omega | (dsimp only; omega) | (dsimp only))
  have a2_106_1 := f2.1 106 1 (by first | exact id | omega | (dsimp only; omega) | (dsimp only))
  have a2_106_3 := f2.1 106 3 (by first | exact id | omega | (dsimp only; omega) | (dsimp only))
  have a2_106_17 := f2.1 106 17 (by first | exact id | omega | (dsimp only; omega) | (dsimp only))
  have a2_43_1 := f2.1 43 1 (by first | exact id | omega | (dsimp only; omega) | (dsimp only))
  have a2_106_20 := f2.1 106 20 (by first | exact id | omega | (dsimp only; omega) | (dsimp only))
  have b2_4 := f2.2 4 (by first | exact id | omega | (dsimp only; omega) | (dsimp only))
  have b2_107 := f2.2 107 (by first | exact id | omega | (dsimp only; omega) | (dsimp only))
  have b2_108 := f2.2 108 (by first | exact id | omega | (dsimp only; omega) | (dsimp only))
  have b2_109 := f2.2 109 (by first | exact id | omega | (dsimp only; omega) | (dsimp only))
  have b2_46 := f2.2 46 (by first | exact id | omega | (dsimp only; omega) | (dsimp only))
  have b2_116 := f2.2 116 (by first | exact id | omega | (dsimp only; omega) | (dsimp only))
  have b2_110 := f2.2 110 (by first | exact id | omega | (dsimp only; omega) | (dsimp only))
  have b2_111 := f2.2 111 (by first | exact id | omega | (dsimp only; omega) | (dsimp only))
  have b2_117 := f2.2 117 (by first | exact id | omega | (dsimp only; omega) | (dsimp only))
  have b2_118 := f2.2 118 (by first | exact id | omega | (dsimp only; omega) | (dsimp only))
  have b2_6 := f2.2 6 (by first | exact id | omega | (dsimp only; omega) | (dsimp only))
  have R2a : gs_R1 F2 A2 := gs_R1_mk hR1 (by omega) (by omega) (by omega) (by omega) (by omega) (b2_4.trans b1_4) (b2_107.trans b1_107) (by omega)
  have hF3 : ∀ c j, 54 ≤ c → c < 90 → F2 c j = F c j := fun c j q1 q2 => (f2.1 c j (by first | exact id | (dsimp only; omega))).trans (f1.1 c j (by first | exact id | (dsimp only; omega)))
  have hA3 : ∀ c, 54 ≤ c → c < 90 → A2 c = A c := fun c q1 q2 => (f2.2 c (by first | exact id | (dsimp only; omega))).trans (f1.2 c (by first | exact id | (dsimp only; omega)))
  have R2c : gs_R3 F2 A2 := gs_R3_fr hR3 hI (by omega) hF3 hA3 (b2_108.trans b1_108) (b2_109.trans b1_109)
  have R2a0 : gs_R13 F2 A2 := ⟨R2a, R2c⟩
  have R2a := R2a0
  have R2t : gs_Rt F2 A2 := gs_Rt_fr hRt (by omega) (by omega) (by omega) (b2_46.trans b1_46) (b2_116.trans b1_116)
  have hF9 : ∀ c j, 90 ≤ c → c < 106 → F2 c j = F c j := fun c j q1 q2 => (f2.1 c j (by first | exact id | (dsimp only; omega))).trans (f1.1 c j (by first | exact id | (dsimp only; omega)))
  have hA9 : ∀ c, 90 ≤ c → c < 106 → A2 c = A c := fun c q1 q2 => (f2.2 c (by first | exact id | (dsimp only; omega))).trans (f1.2 c (by first | exact id | (dsimp only; omega)))
  have R2p : gs_Rp F2 A2 := gs_Rp_fr hRp hI (by omega) hF9 hA9 (gs_k8_fr (b2_110.trans b1_110) (b2_111.trans b1_111))
  have R2q : gs_R123 F2 A2 := ⟨R2a, R2t, R2p⟩
  have R2w : gs_W (A2 6) (F2 0 11) := by
    rw [b2_6, b1_6, a2_0_11, a1_0_11]
    exact hRw
  have R2u : gs_R1234 F2 A2 := ⟨R2q, R2w⟩
  have R2v : gs_Rv F2 A2 := gs_Rv_fr hRv (by omega) (by omega) (by omega) (b2_107.trans b1_107) (b2_108.trans b1_108) (b2_109.trans b1_109)
  have R2t2 : gs_R5 F2 A2 := ⟨R2u, R2v⟩
  have R2s : gs_R6 F2 A2 := gs_R6_fr hR6 (by omega) (by omega) hF3 hA3
  have R2 : gs_R5m F2 A2 := ⟨R2t2, R2s⟩
  refine W.eq (g2 := F0 m 912 ls [.long v2]) rfl ?_
  refine lv_pop2_2 hx hb d_law_912 rfl ?_
  refine lv_goto (tgt := 1111) hx hb d_law_913 (by decide) ?_
  exact kk _ _ _ _ _ I2 ⟨X2, R2⟩ hW hlo hl
theorem q_op24 {p : Program} {e : Env} {s : State} {m : MethodId} {below : List Frame} {meth : Method} {c : Code} {b L : Nat} {xs : Nat → Int32} {l : Launch} {dC : Nat → ClassId} {dI : Nat → Nat → Nat} {aC : Nat → ClassId} {pl : Nat} (hL : L ≤ 2560) (C0 : lw_At p s m meth c b L xs) (hK : am_K (q_G l s dC dI aC pl) s) {n : Nat} (hn : n ≤ 1000000) {i : Int} (hi : 0 ≤ i ∧ i + 5 ≤ L) (kk : (∀ (F A : gs_F) (H : Heap) (locs : List Loc) (ls : Array Slot), gs_I F A → ((∀ r : Nat, (r : Int) < F 106 3 → 1 ≤ A 108 r) ∧ gs_R5m F A) → am_W (q_G l s dC dI aC pl) 122 (gs_en F A) H → (∀ q ∈ locs, s.heap.size ≤ q.base) → lv_has ls 4 [(3, .int (Int32.ofInt i)), (2, .ref (s.heap.size + 106)), (1, .ref (s.heap.size + 0)), (0, .ref b)] → W p l e room_1 s m #[Value.ref b] below meth c H locs 122 n (lw_Z below #[Value.ref b] s) (F0 m 1111 ls []))) {F A : gs_F} {H : Heap} {locs : List Loc} {ls : Array Slot} (hI : gs_I F A) (hX : (∀ r : Nat, (r : Int) < F 106 3 → 1 ≤ A 108 r) ∧ gs_R5m F A) (hW : am_W (q_G l s dC dI aC pl) 122 (gs_en F A) H) (hlo : ∀ q ∈ locs, s.heap.size ≤ q.base) (hl : lv_has ls 4 [(3, .int (Int32.ofInt i)), (2, .ref (s.heap.size + 106)), (1, .ref (s.heap.size + 0)), (0, .ref b)]) : W p l e room_1 s m #[Value.ref b] below meth c H locs 122 n (lw_Z below #[Value.ref b] s) (F0 m 916 ls []) := by
  obtain ⟨hx, hb, hr, hml, hown, hts, hXx, hbl, hlocks, hgv⟩ := C0
  obtain ⟨hX, hR⟩ := hX
  obtain ⟨hR, hR6⟩ := hR
  obtain ⟨hR, hRv⟩ := hR
  obtain ⟨hR, hRw⟩ := hR
  obtain ⟨hR, hRt, hRp⟩ := hR
  obtain ⟨hR1, hR3⟩ := hR
  have hR0 := hR1
  obtain ⟨R_1, R_2, R_3, R_4, R_5, R_6, _⟩ := hR0
  have R_0 : (0 : Int) ≤ F 106 1 ∧ F 106 1 ≤ 60 := hI.1 106 1
  have R_c : (0 : Int) ≤ F 106 3 ∧ F 106 3 ≤ 12 := hI.1 106 3
  have R_d : (0 : Int) ≤ F 0 12 ∧ F 0 12 ≤ 12 := hI.1 0 12
  have R_t := hRt.1
  have hg0 : (1 : Int) ≤ F 106 0 ∧ F 106 0 ≤ 3 := hI.1 106 0
  have hts2 := am_hts hts
  have hbA : ¬ (fun q : Nat => s.heap.size ≤ q) b := Nat.not_le.mpr hbl
  obtain ⟨z1, e1, r1⟩ := q_val (xs (Int32.ofInt i + 1).toNatClampNeg)
  obtain ⟨z2, e2, r2⟩ := q_val (xs (Int32.ofInt i + 2).toNatClampNeg)
  have hS := am_S hK.2.1 hW hlo
  refine lv_aload_n hx hb d_law_916 rfl (lv_at hl 2 rfl) ?_
  refine lv_aload_n hx hb d_law_917 rfl (lv_at hl 3 rfl) ?_
  refine lv_iload_n hx hb d_law_918 rfl (lv_at hl 0 rfl) ?_
  refine lv_iconst (v := 1) hx hb d_law_919 (by decide) ?_
  refine lv_iadd hx hb d_law_920 ?_
  refine va_sld hx hb hXx hbl hbA hS (i := Int32.ofInt i + 1) (q_in1 hi (by omega)) d_law_921 ?_
  rw [e1]
  refine lv_aload_n hx hb d_law_922 rfl (lv_at hl 3 rfl) ?_
  refine lv_iload_n hx hb d_law_923 rfl (lv_at hl 0 rfl) ?_
  refine lv_iconst (v := 2) hx hb d_law_924 (by decide) ?_
  refine lv_iadd hx hb d_law_925 ?_
  refine va_sld hx hb hXx hbl hbA hS (i := Int32.ofInt i + 2) (q_in2 hi (by omega)) d_law_926 ?_
  rw [e2]
  refine gw_callV (G := (q_G l s dC dI aC pl)) (cc := code) (own := R_law) (nL := 4) (y2 := m_X8_length) (n2 := 2) (d2 := 5) (mc2 := 0) (ms2 := 0) (a := 0) (ci := 8) (q := (RX8, TX8, 13)) (as := [gs_iv z1, gs_iv z2]) (rest := []) hx hb hml hown hts2 hK hW hlo hl.1 d_law_927 ok_X8_length.1 (ri_lw_in (pl := 697) (by decide +kernel)) ok_X8_length.2.1 ok_X8_length.2.2 rfl rfl (by decide) (gs_en_obj _ _ (show gs_sh 0 = .inl (8, _) from rfl)) rfl (Nat.le_of_ble_eq_true rfl) (by decide) (by decide) (by show _ ≤ 600000; omega) (by show _ ≤ 7302249; omega) (c_X8_length hI r1 r2 (q_G l s dC dI aC pl)) rfl (fun r N2 h2 H locs hp hW hlo => ?_)
  obtain ⟨F1, A1, n1, h1, v1, w1, I1, f1, x1⟩ := hp
  subst n1 h1 w1
  have X1 := gs_X_fr hX (f1.1 106 3 (by first | exact id | (dsimp only; omega))) (f1.2 108 (by first | exact id | (dsimp only; omega)))
  have a1_0_11 := f1.1 0 11 (by first | exact id | omega | (dsimp only; omega) | (dsimp only))
  have a1_0_12 := f1.1 0 12 (by first | exact id | omega | (dsimp only; omega) | (dsimp only))
  have a1_5_0 := f1.1 5 0 (by first | exact id | omega | (dsimp only; omega) | (dsimp only))
  have a1_3_1 := f1.1 3 1 (by first | exact id | omega | (dsimp only; omega) | (dsimp only))
  have a1_43_0 := f1.1 43 0 (by first | exact id | omega | (dsimp only; omega) | (dsimp only))
  have a1_106_0 := f1.1 106 0 (by first | exact id | omega | (dsimp only; omega) | (dsimp only))
  have a1_106_1 := f1.1 106 1 (by first | exact id | omega | (dsimp only; omega) | (dsimp only))
  have a1_106_3 := f1.1 106 3 (by first | exact id | omega | (dsimp only; omega) | (dsimp only))
  have a1_106_17 := f1.1 106 17 (by first | exact id | omega | (dsimp only; omega) | (dsimp only))
  have a1_43_1 := f1.1 43 1 (by first | exact id | omega | (dsimp only; omega) | (dsimp only))
  have a1_106_20 := f1.1 106 20 (by first | exact id | omega | (dsimp only; omega) | (dsimp only))
  have b1_4 := f1.2 4 (by first | exact id | omega | (dsimp only; omega) | (dsimp only))
  have b1_107 := f1.2 107 (by first | exact id | omega | (dsimp only; omega) | (dsimp only))
  have b1_108 := f1.2 108 (by first | exact id | omega | (dsimp only; omega) | (dsimp only))
  have b1_109 := f1.2 109 (by first | exact id | omega | (dsimp only; omega) | (dsimp only))
  have b1_46 := f1.2 46 (by first | exact id | omega | (dsimp only; omega) | (dsimp only))
  have b1_116 := f1.2 116 (by first | exact id | omega | (dsimp only; omega) | (dsimp only))
  have b1_110 := f1.2 110 (by first | exact id | omega | (dsimp only; omega) | (dsimp only))
  have b1_111 := f1.2 111 (by first | exact id | omega | (dsimp only; omega) | (dsimp only))
  have b1_117 := f1.2 117 (by first | exact id | omega | (dsimp only; omega) | (dsimp only))
  have b1_118 := f1.2 118 (by first | exact id | omega | (dsimp only; omega) | (dsimp only))
  have b1_6 := f1.2 6 (by first | exact id | omega | (dsimp only; omega) | (dsimp only))
  refine W.eq (g2 := F0 m 930 ls [.int (Int32.ofInt v1)]) rfl ?_
  refine lv_pop hx hb d_law_930 rfl ?_
  have hS := am_S hK.2.1 hW hlo
  refine lv_aload_n hx hb d_law_931 rfl (lv_at hl 1 rfl) ?_
  refine lv_aload_n hx hb d_law_932 rfl (lv_at hl 3 rfl) ?_
  refine lv_iload_n hx hb d_law_933 rfl (lv_at hl 0 rfl) ?_
  refine lv_iconst (v := 1) hx hb d_law_934 (by decide) ?_
  refine lv_iadd hx hb d_law_935 ?_
  refine va_sld hx hb hXx hbl hbA hS (i := Int32.ofInt i + 1) (q_in1 hi (by omega)) d_law_936 ?_
  rw [e1]
  refine lv_aload_n hx hb d_law_937 rfl (lv_at hl 3 rfl) ?_
  refine lv_iload_n hx hb d_law_938 rfl (lv_at hl 0 rfl) ?_
  refine lv_iconst (v := 2) hx hb d_law_939 (by decide) ?_
  refine lv_iadd hx hb d_law_940 ?_
  refine va_sld hx hb hXx hbl hbA hS (i := Int32.ofInt i + 2) (q_in2 hi (by omega)) d_law_941 ?_
  rw [e2]
  refine gw_callV (G := (q_G l s dC dI aC pl)) (cc := code) (own := R_law) (nL := 4) (y2 := m_X9_length) (n2 := 2) (d2 := 8) (mc2 := 0) (ms2 := 0) (a := 106) (ci := 9) (q := (RX9, TX9, 28)) (as := [gs_iv z1, gs_iv z2]) (rest := []) hx hb hml hown hts2 hK hW hlo hl.1 d_law_942 ok_X9_length.1 (ri_lw_in (pl := 1156) (by decide +kernel)) ok_X9_length.2.1 ok_X9_length.2.2 rfl rfl (by decide) (gs_en_obj _ _ (show gs_sh 106 = .inl (9, _) from rfl)) rfl (Nat.le_of_ble_eq_true rfl) (by decide) (by decide) (by show _ ≤ 600000; omega) (by show _ ≤ 7302249; omega) (c_X9_length I1 r1 r2 (q_G l s dC dI aC pl)) rfl (fun r N2 h2 H locs hp hW hlo => ?_)
  obtain ⟨F2, A2, n2, h2, v2, w2, I2, f2, x2⟩ := hp
  subst n2 h2 w2
  have X2 := gs_X_fr X1 (f2.1 106 3 (by first | exact id | (dsimp only; omega))) (f2.2 108 (by first | exact id | (dsimp only; omega)))
  have a2_0_11 := f2.1 0 11 (by first | exact id | omega | (dsimp only; omega) | (dsimp only))
  have a2_0_12 := f2.1 0 12 (by first | exact id | omega | (dsimp only; omega) | (dsimp only))
  have a2_5_0 := f2.1 5 0 (by first | exact id | omega | (dsimp only; omega) | (dsimp only))
  have a2_3_1 := f2.1 3 1 (by first | exact id | omega | (dsimp only; omega) | (dsimp only))
  have a2_43_0 := f2.1 43 0 (by first | exact id | omega | (dsimp only; omega) | (dsimp only))
  have a2_106_0 := f2.1 106 0 (by first | exact id | omega | (dsimp only; omega) | (dsimp only))
  have a2_106_1 := f2.1 106 1 (by first | exact id | omega | (dsimp only; omega) | (dsimp only))
  have a2_106_3 := f2.1 106 3 (by first | exact id | omega | (dsimp only; omega) | (dsimp only))
  have a2_106_17 := f2.1 106 17 (by first | exact id | omega | (dsimp only; omega) | (dsimp only))
  have a2_43_1 := f2.1 43 1 (by first | exact id | omega | (dsimp only; omega) | (dsimp only))
  have a2_106_20 := f2.1 106 20 (by first | exact id | omega | (dsimp only; omega) | (dsimp only))
  have b2_4 := f2.2 4 (by first | exact id | omega | (dsimp only; omega) | (dsimp only))
  have b2_107 := f2.2 107 (by first | exact id | omega | (dsimp only; omega) | (dsimp only))
  have b2_108 := f2.2 108 (by first | exact id | omega | (dsimp only; omega) | (dsimp only))
  have b2_109 := f2.2 109 (by first | exact id | omega | (dsimp only; omega) | (dsimp only))
  have b2_46 := f2.2 46 (by first | exact id | omega | (dsimp only; omega) | (dsimp only))
  have b2_116 := f2.2 116 (by first | exact id | omega | (dsimp only; omega) | (dsimp only))
  have b2_110 := f2.2 110 (by first | exact id | omega | (dsimp only; omega) | (dsimp only))
  have b2_111 := f2.2 111 (by first | exact id | omega | (dsimp only; omega) | (dsimp only))
  have b2_117 := f2.2 117 (by first | exact id | omega | (dsimp only; omega) | (dsimp only))
  have b2_118 := f2.2 118 (by first | exact id | omega | (dsimp only; omega) | (dsimp only))
  have b2_6 := f2.2 6 (by first | exact id | omega | (dsimp only; omega) | (dsimp only))
  have R2a : gs_R1 F2 A2 := gs_R1_mk hR1 (by omega) (by omega) (by omega) (by omega) (by omega) (b2_4.trans b1_4) (b2_107.trans b1_107) (by omega)
  have hF3 : ∀ c j, 54 ≤ c → c < 90 → F2 c j = F c j := fun c j q1 q2 => (f2.1 c j (by first | exact id | (dsimp only; omega))).trans (f1.1 c j (by first | exact id | (dsimp only; omega)))
  have hA3 : ∀ c, 54 ≤ c → c < 90 → A2 c = A c := fun c q1 q2 => (f2.2 c (by first | exact id | (dsimp only; omega))).trans (f1.2 c (by first | exact id | (dsimp only; omega)))
  have R2c : gs_R3 F2 A2 := gs_R3_fr hR3 hI (by omega) hF3 hA3 (b2_108.trans b1_108) (b2_109.trans b1_109)
  have R2a0 : gs_R13 F2 A2 := ⟨R2a, R2c⟩
  have R2a := R2a0
  have R2t : gs_Rt F2 A2 := gs_Rt_fr hRt (by omega) (by omega) (by omega) (b2_46.trans b1_46) (b2_116.trans b1_116)
  have hF9 : ∀ c j, 90 ≤ c → c < 106 → F2 c j = F c j := fun c j q1 q2 => (f2.1 c j (by first | exact id | (dsimp only; omega))).trans (f1.1 c j (by first | exact id | (dsimp only; omega)))
  have hA9 : ∀ c, 90 ≤ c → c < 106 → A2 c = A c := fun c q1 q2 => (f2.2 c (by first | exact id | (dsimp only; omega))).trans (f1.2 c (by first | exact id | (dsimp only; omega)))
  have R2p : gs_Rp F2 A2 := gs_Rp_fr hRp hI (by omega) hF9 hA9 (gs_k8_fr (b2_110.trans b1_110) (b2_111.trans b1_111))
  have R2q : gs_R123 F2 A2 := ⟨R2a, R2t, R2p⟩
  have R2w : gs_W (A2 6) (F2 0 11) := by
    rw [b2_6, b1_6, a2_0_11, a1_0_11]
    exact hRw
  have R2u : gs_R1234 F2 A2 := ⟨R2q, R2w⟩
  have R2v : gs_Rv F2 A2 := gs_Rv_fr hRv (by omega) (by omega) (by omega) (b2_107.trans b1_107) (b2_108.trans b1_108) (b2_109.trans b1_109)
  have R2t2 : gs_R5 F2 A2 := ⟨R2u, R2v⟩
  have R2s : gs_R6 F2 A2 := gs_R6_fr hR6 (by omega) (by omega) hF3 hA3
  have R2 : gs_R5m F2 A2 := ⟨R2t2, R2s⟩
  refine W.eq (g2 := F0 m 945 ls [.int (Int32.ofInt v2)]) rfl ?_
  refine lv_pop hx hb d_law_945 rfl ?_
  refine lv_goto (tgt := 1111) hx hb d_law_946 (by decide) ?_
  exact kk _ _ _ _ _ I2 ⟨X2, R2⟩ hW hlo hl
theorem q_op25 {p : Program} {e : Env} {s : State} {m : MethodId} {below : List Frame} {meth : Method} {c : Code} {b L : Nat} {xs : Nat → Int32} {l : Launch} {dC : Nat → ClassId} {dI : Nat → Nat → Nat} {aC : Nat → ClassId} {pl : Nat} (hL : L ≤ 2560) (C0 : lw_At p s m meth c b L xs) (hK : am_K (q_G l s dC dI aC pl) s) {n : Nat} (hn : n ≤ 1000000) {i : Int} (hi : 0 ≤ i ∧ i + 5 ≤ L) (kk : (∀ (F A : gs_F) (H : Heap) (locs : List Loc) (ls : Array Slot), gs_I F A → ((∀ r : Nat, (r : Int) < F 106 3 → 1 ≤ A 108 r) ∧ gs_R5m F A) → am_W (q_G l s dC dI aC pl) 122 (gs_en F A) H → (∀ q ∈ locs, s.heap.size ≤ q.base) → lv_has ls 4 [(3, .int (Int32.ofInt i)), (2, .ref (s.heap.size + 106)), (1, .ref (s.heap.size + 0)), (0, .ref b)] → W p l e room_1 s m #[Value.ref b] below meth c H locs 122 n (lw_Z below #[Value.ref b] s) (F0 m 1111 ls []))) {F A : gs_F} {H : Heap} {locs : List Loc} {ls : Array Slot} (hI : gs_I F A) (hX : (∀ r : Nat, (r : Int) < F 106 3 → 1 ≤ A 108 r) ∧ gs_R5m F A) (hW : am_W (q_G l s dC dI aC pl) 122 (gs_en F A) H) (hlo : ∀ q ∈ locs, s.heap.size ≤ q.base) (hl : lv_has ls 4 [(3, .int (Int32.ofInt i)), (2, .ref (s.heap.size + 106)), (1, .ref (s.heap.size + 0)), (0, .ref b)]) : W p l e room_1 s m #[Value.ref b] below meth c H locs 122 n (lw_Z below #[Value.ref b] s) (F0 m 949 ls []) := by
  obtain ⟨hx, hb, hr, hml, hown, hts, hXx, hbl, hlocks, hgv⟩ := C0
  obtain ⟨hX, hR⟩ := hX
  obtain ⟨hR, hR6⟩ := hR
  obtain ⟨hR, hRv⟩ := hR
  obtain ⟨hR, hRw⟩ := hR
  obtain ⟨hR, hRt, hRp⟩ := hR
  obtain ⟨hR1, hR3⟩ := hR
  have hR0 := hR1
  obtain ⟨R_1, R_2, R_3, R_4, R_5, R_6, _⟩ := hR0
  have R_0 : (0 : Int) ≤ F 106 1 ∧ F 106 1 ≤ 60 := hI.1 106 1
  have R_c : (0 : Int) ≤ F 106 3 ∧ F 106 3 ≤ 12 := hI.1 106 3
  have R_d : (0 : Int) ≤ F 0 12 ∧ F 0 12 ≤ 12 := hI.1 0 12
  have R_t := hRt.1
  have hg0 : (1 : Int) ≤ F 106 0 ∧ F 106 0 ≤ 3 := hI.1 106 0
  have hts2 := am_hts hts
  have hbA : ¬ (fun q : Nat => s.heap.size ≤ q) b := Nat.not_le.mpr hbl
  obtain ⟨z1, e1, r1⟩ := q_val (xs (Int32.ofInt i + 1).toNatClampNeg)
  obtain ⟨z2, e2, r2⟩ := q_val (xs (Int32.ofInt i + 2).toNatClampNeg)
  have hS := am_S hK.2.1 hW hlo
  refine lv_aload_n hx hb d_law_949 rfl (lv_at hl 2 rfl) ?_
  refine lv_aload_n hx hb d_law_950 rfl (lv_at hl 3 rfl) ?_
  refine lv_iload_n hx hb d_law_951 rfl (lv_at hl 0 rfl) ?_
  refine lv_iconst (v := 1) hx hb d_law_952 (by decide) ?_
  refine lv_iadd hx hb d_law_953 ?_
  refine va_sld hx hb hXx hbl hbA hS (i := Int32.ofInt i + 1) (q_in1 hi (by omega)) d_law_954 ?_
  rw [e1]
  refine lv_aload_n hx hb d_law_955 rfl (lv_at hl 3 rfl) ?_
  refine lv_iload_n hx hb d_law_956 rfl (lv_at hl 0 rfl) ?_
  refine lv_iconst (v := 2) hx hb d_law_957 (by decide) ?_
  refine lv_iadd hx hb d_law_958 ?_
  refine va_sld hx hb hXx hbl hbA hS (i := Int32.ofInt i + 2) (q_in2 hi (by omega)) d_law_959 ?_
  rw [e2]
  refine gw_callV (G := (q_G l s dC dI aC pl)) (cc := code) (own := R_law) (nL := 4) (y2 := m_X8_sort) (n2 := 2) (d2 := 6) (mc2 := 0) (ms2 := 0) (a := 0) (ci := 8) (q := (RX8, TX8, 13)) (as := [gs_iv z1, gs_iv z2]) (rest := []) hx hb hml hown hts2 hK hW hlo hl.1 d_law_960 ok_X8_sort.1 (ri_lw_in (pl := 705) (by decide +kernel)) ok_X8_sort.2.1 ok_X8_sort.2.2 rfl rfl (by decide) (gs_en_obj _ _ (show gs_sh 0 = .inl (8, _) from rfl)) rfl (Nat.le_of_ble_eq_true rfl) (by decide) (by decide) (by show _ ≤ 600000; omega) (by show _ ≤ 7302249; omega) (c_X8_sort hI r1 r2 (q_G l s dC dI aC pl)) rfl (fun r N2 h2 H locs hp hW hlo => ?_)
  obtain ⟨F1, A1, n1, h1, v1, w1, I1, f1, x1⟩ := hp
  subst n1 h1 w1
  have X1 := gs_X_fr hX (f1.1 106 3 (by first | exact id | (dsimp only; omega))) (f1.2 108 (by first | exact id | (dsimp only; omega)))
  have a1_0_11 := f1.1 0 11 (by first | exact id | omega | (dsimp only; omega) | (dsimp only))
  have a1_0_12 := f1.1 0 12 (by first | exact id | omega | (dsimp only; omega) | (dsimp only))
  have a1_5_0 := f1.1 5 0 (by first | exact id | omega | (dsimp only; omega) | (dsimp only))
  have a1_3_1 := f1.1 3 1 (by first | exact id | omega | (dsimp only; omega) | (dsimp only))
  have a1_43_0 := f1.1 43 0 (by first | exact id | omega | (dsimp only; omega) | (dsimp only))
  have a1_106_0 := f1.1 106 0 (by first | exact id | omega | (dsimp only; omega) | (dsimp only))
  have a1_106_1 := f1.1 106 1 (by first | exact id | omega | (dsimp only; omega) | (dsimp only))
  have a1_106_3 := f1.1 106 3 (by first | exact id | omega | (dsimp only; omega) | (dsimp only))
  have a1_106_17 := f1.1 106 17 (by first | exact id | omega | (dsimp only; omega) | (dsimp only))
  have a1_43_1 := f1.1 43 1 (by first | exact id | omega | (dsimp only; omega) | (dsimp only))
  have a1_106_20 := f1.1 106 20 (by first | exact id | omega | (dsimp only; omega) | (dsimp only))
  have b1_4 := f1.2 4 (by first | exact id | omega | (dsimp only; omega) | (dsimp only))
  have b1_107 := f1.2 107 (by first | exact id | omega | (dsimp only; omega) | (dsimp only))
  have b1_108 := f1.2 108 (by first | exact id | omega | (dsimp only; omega) | (dsimp only))
  have b1_109 := f1.2 109 (by first | exact id | omega | (dsimp only; omega) | (dsimp only))
  have b1_46 := f1.2 46 (by first | exact id | omega | (dsimp only; omega) | (dsimp only))
  have b1_116 := f1.2 116 (by first | exact id | omega | (dsimp only; omega) | (dsimp only))
  have b1_110 := f1.2 110 (by first | exact id | omega | (dsimp only; omega) | (dsimp only))
  have b1_111 := f1.2 111 (by first | exact id | omega | (dsimp only; omega) | (dsimp only))
  have b1_117 := f1.2 117 (by first | exact id | omega | (dsimp only; omega) | (dsimp only))
  have b1_118 := f1.2 118 (by first | exact id | omega | (dsimp only; omega) | (dsimp only))
  have b1_6 := f1.2 6 (by first | exact id | omega | (dsimp only; omega) | (dsimp only))
  refine W.eq (g2 := F0 m 963 ls [.int (Int32.ofInt v1)]) rfl ?_
  refine lv_pop hx hb d_law_963 rfl ?_
  have hS := am_S hK.2.1 hW hlo
  refine lv_aload_n hx hb d_law_964 rfl (lv_at hl 1 rfl) ?_
  refine lv_aload_n hx hb d_law_965 rfl (lv_at hl 3 rfl) ?_
  refine lv_iload_n hx hb d_law_966 rfl (lv_at hl 0 rfl) ?_
  refine lv_iconst (v := 1) hx hb d_law_967 (by decide) ?_
  refine lv_iadd hx hb d_law_968 ?_
  refine va_sld hx hb hXx hbl hbA hS (i := Int32.ofInt i + 1) (q_in1 hi (by omega)) d_law_969 ?_
  rw [e1]
  refine lv_aload_n hx hb d_law_970 rfl (lv_at hl 3 rfl) ?_
  refine lv_iload_n hx hb d_law_971 rfl (lv_at hl 0 rfl) ?_
  refine lv_iconst (v := 2) hx hb d_law_972 (by decide) ?_
  refine lv_iadd hx hb d_law_973 ?_
  refine va_sld hx hb hXx hbl hbA hS (i := Int32.ofInt i + 2) (q_in2 hi (by omega)) d_law_974 ?_
  rw [e2]
  refine gw_callV (G := (q_G l s dC dI aC pl)) (cc := code) (own := R_law) (nL := 4) (y2 := m_X9_sort) (n2 := 2) (d2 := 9) (mc2 := 0) (ms2 := 0) (a := 106) (ci := 9) (q := (RX9, TX9, 28)) (as := [gs_iv z1, gs_iv z2]) (rest := []) hx hb hml hown hts2 hK hW hlo hl.1 d_law_975 ok_X9_sort.1 (ri_lw_in (pl := 1164) (by decide +kernel)) ok_X9_sort.2.1 ok_X9_sort.2.2 rfl rfl (by decide) (gs_en_obj _ _ (show gs_sh 106 = .inl (9, _) from rfl)) rfl (Nat.le_of_ble_eq_true rfl) (by decide) (by decide) (by show _ ≤ 600000; omega) (by show _ ≤ 7302249; omega) (c_X9_sort I1 r1 r2 X1 (q_G l s dC dI aC pl)) rfl (fun r N2 h2 H locs hp hW hlo => ?_)
  obtain ⟨F2, A2, n2, h2, v2, w2, I2, f2, x2⟩ := hp
  subst n2 h2 w2
  have X2 := gs_X_fr X1 (f2.1 106 3 (by first | exact id | (dsimp only; omega))) (f2.2 108 (by first | exact id | (dsimp only; omega)))
  have a2_0_11 := f2.1 0 11 (by first | exact id | omega | (dsimp only; omega) | (dsimp only))
  have a2_0_12 := f2.1 0 12 (by first | exact id | omega | (dsimp only; omega) | (dsimp only))
  have a2_5_0 := f2.1 5 0 (by first | exact id | omega | (dsimp only; omega) | (dsimp only))
  have a2_3_1 := f2.1 3 1 (by first | exact id | omega | (dsimp only; omega) | (dsimp only))
  have a2_43_0 := f2.1 43 0 (by first | exact id | omega | (dsimp only; omega) | (dsimp only))
  have a2_106_0 := f2.1 106 0 (by first | exact id | omega | (dsimp only; omega) | (dsimp only))
  have a2_106_1 := f2.1 106 1 (by first | exact id | omega | (dsimp only; omega) | (dsimp only))
  have a2_106_3 := f2.1 106 3 (by first | exact id | omega | (dsimp only; omega) | (dsimp only))
  have a2_106_17 := f2.1 106 17 (by first | exact id | omega | (dsimp only; omega) | (dsimp only))
  have a2_43_1 := f2.1 43 1 (by first | exact id | omega | (dsimp only; omega) | (dsimp only))
  have a2_106_20 := f2.1 106 20 (by first | exact id | omega | (dsimp only; omega) | (dsimp only))
  have b2_4 := f2.2 4 (by first | exact id | omega | (dsimp only; omega) | (dsimp only))
  have b2_107 := f2.2 107 (by first | exact id | omega | (dsimp only; omega) | (dsimp only))
  have b2_108 := f2.2 108 (by first | exact id | omega | (dsimp only; omega) | (dsimp only))
  have b2_109 := f2.2 109 (by first | exact id | omega | (dsimp only; omega) | (dsimp only))
  have b2_46 := f2.2 46 (by first | exact id | omega | (dsimp only; omega) | (dsimp only))
  have b2_116 := f2.2 116 (by first | exact id | omega | (dsimp only; omega) | (dsimp only))
  have b2_110 := f2.2 110 (by first | exact id | omega | (dsimp only; omega) | (dsimp only))
  have b2_111 := f2.2 111 (by first | exact id | omega | (dsimp only; omega) | (dsimp only))
  have b2_117 := f2.2 117 (by first | exact id | omega | (dsimp only; omega) | (dsimp only))
  have b2_118 := f2.2 118 (by first | exact id | omega | (dsimp only; omega) | (dsimp only))
  have b2_6 := f2.2 6 (by first | exact id | omega | (dsimp only; omega) | (dsimp only))
  have R2a : gs_R1 F2 A2 := gs_R1_mk hR1 (by omega) (by omega) (by omega) (by omega) (by omega) (b2_4.trans b1_4) (b2_107.trans b1_107) (by omega)
  have hF3 : ∀ c j, 54 ≤ c → c < 90 → F2 c j = F c j := fun c j q1 q2 => (f2.1 c j (by first | exact id | (dsimp only; omega))).trans (f1.1 c j (by first | exact id | (dsimp only; omega)))
  have hA3 : ∀ c, 54 ≤ c → c < 90 → A2 c = A c := fun c q1 q2 => (f2.2 c (by first | exact id | (dsimp only; omega))).trans (f1.2 c (by first | exact id | (dsimp only; omega)))
  have R2c : gs_R3 F2 A2 := gs_R3_fr hR3 hI (by omega) hF3 hA3 (b2_108.trans b1_108) (b2_109.trans b1_109)
  have R2a0 : gs_R13 F2 A2 := ⟨R2a, R2c⟩
  have R2a := R2a0
  have R2t : gs_Rt F2 A2 := gs_Rt_fr hRt (by omega) (by omega) (by omega) (b2_46.trans b1_46) (b2_116.trans b1_116)
  have hF9 : ∀ c j, 90 ≤ c → c < 106 → F2 c j = F c j := fun c j q1 q2 => (f2.1 c j (by first | exact id | (dsimp only; omega))).trans (f1.1 c j (by first | exact id | (dsimp only; omega)))
  have hA9 : ∀ c, 90 ≤ c → c < 106 → A2 c = A c := fun c q1 q2 => (f2.2 c (by first | exact id | (dsimp only; omega))).trans (f1.2 c (by first | exact id | (dsimp only; omega)))
  have R2p : gs_Rp F2 A2 := gs_Rp_fr hRp hI (by omega) hF9 hA9 (gs_k8_fr (b2_110.trans b1_110) (b2_111.trans b1_111))
  have R2q : gs_R123 F2 A2 := ⟨R2a, R2t, R2p⟩
  have R2w : gs_W (A2 6) (F2 0 11) := by
    rw [b2_6, b1_6, a2_0_11, a1_0_11]
    exact hRw
  have R2u : gs_R1234 F2 A2 := ⟨R2q, R2w⟩
  have R2v : gs_Rv F2 A2 := gs_Rv_fr hRv (by omega) (by omega) (by omega) (b2_107.trans b1_107) (b2_108.trans b1_108) (b2_109.trans b1_109)
  have R2t2 : gs_R5 F2 A2 := ⟨R2u, R2v⟩
  have R2s : gs_R6 F2 A2 := gs_R6_fr hR6 (by omega) (by omega) hF3 hA3
  have R2 : gs_R5m F2 A2 := ⟨R2t2, R2s⟩
  refine W.eq (g2 := F0 m 978 ls [.int (Int32.ofInt v2)]) rfl ?_
  refine lv_pop hx hb d_law_978 rfl ?_
  refine lv_goto (tgt := 1111) hx hb d_law_979 (by decide) ?_
  exact kk _ _ _ _ _ I2 ⟨X2, R2⟩ hW hlo hl
theorem q_op26 {p : Program} {e : Env} {s : State} {m : MethodId} {below : List Frame} {meth : Method} {c : Code} {b L : Nat} {xs : Nat → Int32} {l : Launch} {dC : Nat → ClassId} {dI : Nat → Nat → Nat} {aC : Nat → ClassId} {pl : Nat} (hL : L ≤ 2560) (C0 : lw_At p s m meth c b L xs) (hK : am_K (q_G l s dC dI aC pl) s) {n : Nat} (hn : n ≤ 1000000) {i : Int} (hi : 0 ≤ i ∧ i + 5 ≤ L) (kk : (∀ (F A : gs_F) (H : Heap) (locs : List Loc) (ls : Array Slot), gs_I F A → ((∀ r : Nat, (r : Int) < F 106 3 → 1 ≤ A 108 r) ∧ gs_R5m F A) → am_W (q_G l s dC dI aC pl) 122 (gs_en F A) H → (∀ q ∈ locs, s.heap.size ≤ q.base) → lv_has ls 4 [(3, .int (Int32.ofInt i)), (2, .ref (s.heap.size + 106)), (1, .ref (s.heap.size + 0)), (0, .ref b)] → W p l e room_1 s m #[Value.ref b] below meth c H locs 122 n (lw_Z below #[Value.ref b] s) (F0 m 1111 ls []))) {F A : gs_F} {H : Heap} {locs : List Loc} {ls : Array Slot} (hI : gs_I F A) (hX : (∀ r : Nat, (r : Int) < F 106 3 → 1 ≤ A 108 r) ∧ gs_R5m F A) (hW : am_W (q_G l s dC dI aC pl) 122 (gs_en F A) H) (hlo : ∀ q ∈ locs, s.heap.size ≤ q.base) (hl : lv_has ls 4 [(3, .int (Int32.ofInt i)), (2, .ref (s.heap.size + 106)), (1, .ref (s.heap.size + 0)), (0, .ref b)]) : W p l e room_1 s m #[Value.ref b] below meth c H locs 122 n (lw_Z below #[Value.ref b] s) (F0 m 982 ls []) := by
  obtain ⟨hx, hb, hr, hml, hown, hts, hXx, hbl, hlocks, hgv⟩ := C0
  obtain ⟨hX, hR⟩ := hX
  obtain ⟨hR, hR6⟩ := hR
  obtain ⟨hR, hRv⟩ := hR
  obtain ⟨hR, hRw⟩ := hR
  obtain ⟨hR, hRt, hRp⟩ := hR
  obtain ⟨hR1, hR3⟩ := hR
  have hR0 := hR1
  obtain ⟨R_1, R_2, R_3, R_4, R_5, R_6, _⟩ := hR0
  have R_0 : (0 : Int) ≤ F 106 1 ∧ F 106 1 ≤ 60 := hI.1 106 1
  have R_c : (0 : Int) ≤ F 106 3 ∧ F 106 3 ≤ 12 := hI.1 106 3
  have R_d : (0 : Int) ≤ F 0 12 ∧ F 0 12 ≤ 12 := hI.1 0 12
  have R_t := hRt.1
  have hg0 : (1 : Int) ≤ F 106 0 ∧ F 106 0 ≤ 3 := hI.1 106 0
  have hts2 := am_hts hts
  have hbA : ¬ (fun q : Nat => s.heap.size ≤ q) b := Nat.not_le.mpr hbl
  obtain ⟨z1, e1, r1⟩ := q_val (xs (Int32.ofInt i + 1).toNatClampNeg)
  obtain ⟨z2, e2, r2⟩ := q_val (xs (Int32.ofInt i + 2).toNatClampNeg)
  have hS := am_S hK.2.1 hW hlo
  refine lv_aload_n hx hb d_law_982 rfl (lv_at hl 2 rfl) ?_
  refine lv_aload_n hx hb d_law_983 rfl (lv_at hl 3 rfl) ?_
  refine lv_iload_n hx hb d_law_984 rfl (lv_at hl 0 rfl) ?_
  refine lv_iconst (v := 1) hx hb d_law_985 (by decide) ?_
  refine lv_iadd hx hb d_law_986 ?_
  refine va_sld hx hb hXx hbl hbA hS (i := Int32.ofInt i + 1) (q_in1 hi (by omega)) d_law_987 ?_
  rw [e1]
  refine lv_aload_n hx hb d_law_988 rfl (lv_at hl 3 rfl) ?_
  refine lv_iload_n hx hb d_law_989 rfl (lv_at hl 0 rfl) ?_
  refine lv_iconst (v := 2) hx hb d_law_990 (by decide) ?_
  refine lv_iadd hx hb d_law_991 ?_
  refine va_sld hx hb hXx hbl hbA hS (i := Int32.ofInt i + 2) (q_in2 hi (by omega)) d_law_992 ?_
  rw [e2]
  refine gw_callV (G := (q_G l s dC dI aC pl)) (cc := code) (own := R_law) (nL := 4) (y2 := m_X8_law) (n2 := 2) (d2 := 6) (mc2 := 0) (ms2 := 0) (a := 0) (ci := 8) (q := (RX8, TX8, 13)) (as := [gs_iv z1, gs_iv z2]) (rest := []) hx hb hml hown hts2 hK hW hlo hl.1 d_law_993 ok_X8_law.1 (ri_lw_in (pl := 717) (by decide +kernel)) ok_X8_law.2.1 ok_X8_law.2.2 rfl rfl (by decide) (gs_en_obj _ _ (show gs_sh 0 = .inl (8, _) from rfl)) rfl (Nat.le_of_ble_eq_true rfl) (by decide) (by decide) (by show _ ≤ 600000; omega) (by show _ ≤ 7302249; omega) (c_X8_law hI r1 r2 (q_G l s dC dI aC pl)) rfl (fun r N2 h2 H locs hp hW hlo => ?_)
  obtain ⟨F1, A1, n1, h1, v1, w1, I1, f1, x1⟩ := hp
  subst n1 h1 w1
  have X1 := gs_X_fr hX (f1.1 106 3 (by first | exact id | (dsimp only; omega))) (f1.2 108 (by first | exact id | (dsimp only; omega)))
  have a1_0_11 := f1.1 0 11 (by first | exact id | omega | (dsimp only; omega) | (dsimp only))
  have a1_0_12 := f1.1 0 12 (by first | exact id | omega | (dsimp only; omega) | (dsimp only))
  have a1_5_0 := f1.1 5 0 (by first | exact id | omega | (dsimp only; omega) | (dsimp only))
  have a1_3_1 := f1.1 3 1 (by first | exact id | omega | (dsimp only; omega) | (dsimp only))
  have a1_43_0 := f1.1 43 0 (by first | exact id | omega | (dsimp only; omega) | (dsimp only))
  have a1_106_0 := f1.1 106 0 (by first | exact id | omega | (dsimp only; omega) | (dsimp only))
  have a1_106_1 := f1.1 106 1 (by first | exact id | omega | (dsimp only; omega) | (dsimp only))
  have a1_106_3 := f1.1 106 3 (by first | exact id | omega | (dsimp only; omega) | (dsimp only))
  have a1_106_17 := f1.1 106 17 (by first | exact id | omega | (dsimp only; omega) | (dsimp only))
  have a1_43_1 := f1.1 43 1 (by first | exact id | omega | (dsimp only; omega) | (dsimp only))
  have a1_106_20 := f1.1 106 20 (by first | exact id | omega | (dsimp only; omega) | (dsimp only))
  have b1_4 := f1.2 4 (by first | exact id | omega | (dsimp only; omega) | (dsimp only))
  have b1_107 := f1.2 107 (by first | exact id | omega | (dsimp only; omega) | (dsimp only))
  have b1_108 := f1.2 108 (by first | exact id | omega | (dsimp only; omega) | (dsimp only))
  have b1_109 := f1.2 109 (by first | exact id | omega | (dsimp only; omega) | (dsimp only))
  have b1_46 := f1.2 46 (by first | exact id | omega | (dsimp only; omega) | (dsimp only))
  have b1_116 := f1.2 116 (by first | exact id | omega | (dsimp only; omega) | (dsimp only))
  have b1_110 := f1.2 110 (by first | exact id | omega | (dsimp only; omega) | (dsimp only))
  have b1_111 := f1.2 111 (by first | exact id | omega | (dsimp only; omega) | (dsimp only))
  have b1_117 := f1.2 117 (by first | exact id | omega | (dsimp only; omega) | (dsimp only))
  have b1_118 := f1.2 118 (by first | exact id | omega | (dsimp only; omega) | (dsimp only))
  have b1_6 := f1.2 6 (by first | exact id | omega | (dsimp only; omega) | (dsimp only))
  refine W.eq (g2 := F0 m 996 ls [.int (Int32.ofInt v1)]) rfl ?_
  refine lv_pop hx hb d_law_996 rfl ?_
  have hS := am_S hK.2.1 hW hlo
  refine lv_aload_n hx hb d_law_997 rfl (lv_at hl 1 rfl) ?_
  refine lv_aload_n hx hb d_law_998 rfl (lv_at hl 3 rfl) ?_
  refine lv_iload_n hx hb d_law_999 rfl (lv_at hl 0 rfl) ?_
  refine lv_iconst (v := 1) hx hb d_law_1000 (by decide) ?_
  refine lv_iadd hx hb d_law_1001 ?_
  refine va_sld hx hb hXx hbl hbA hS (i := Int32.ofInt i + 1) (q_in1 hi (by omega)) d_law_1002 ?_
  rw [e1]
  refine lv_aload_n hx hb d_law_1003 rfl (lv_at hl 3 rfl) ?_
  refine lv_iload_n hx hb d_law_1004 rfl (lv_at hl 0 rfl) ?_
  refine lv_iconst (v := 2) hx hb d_law_1005 (by decide) ?_
  refine lv_iadd hx hb d_law_1006 ?_
  refine va_sld hx hb hXx hbl hbA hS (i := Int32.ofInt i + 2) (q_in2 hi (by omega)) d_law_1007 ?_
  rw [e2]
  refine gw_callV (G := (q_G l s dC dI aC pl)) (cc := code) (own := R_law) (nL := 4) (y2 := m_X9_law) (n2 := 2) (d2 := 8) (mc2 := 0) (ms2 := 0) (a := 106) (ci := 9) (q := (RX9, TX9, 28)) (as := [gs_iv z1, gs_iv z2]) (rest := []) hx hb hml hown hts2 hK hW hlo hl.1 d_law_1008 ok_X9_law.1 (ri_lw_in (pl := 1173) (by decide +kernel)) ok_X9_law.2.1 ok_X9_law.2.2 rfl rfl (by decide) (gs_en_obj _ _ (show gs_sh 106 = .inl (9, _) from rfl)) rfl (Nat.le_of_ble_eq_true rfl) (by decide) (by decide) (by show _ ≤ 600000; omega) (by show _ ≤ 7302249; omega) (c_X9_law_vf I1 r1 r2 (q_G l s dC dI aC pl)) rfl (fun r N2 h2 H locs hp hW hlo => ?_)
  obtain ⟨F2, A2, n2, h2, v2, w2, I2, f2, x2⟩ := hp
  subst n2 h2 w2
  have X2 := gs_X_fr X1 (f2.1 106 3 (by first | exact id | (dsimp only; omega))) (f2.2 108 (by first | exact id | (dsimp only; omega)))
  have a2_0_11 := f2.1 0 11 (by first | exact id | omega | (dsimp only; omega) | (dsimp only))
  have a2_0_12 := f2.1 0 12 (by first | exact id | omega | (dsimp only; omega) | (dsimp only))
  have a2_5_0 := f2.1 5 0 (by first | exact id | omega | (dsimp only; omega) | (dsimp only))
  have a2_3_1 := f2.1 3 1 (by first | exact id | omega | (dsimp only; omega) | (dsimp only))
  have a2_43_0 := f2.1 43 0 (by first | exact id | omega | (dsimp only; omega) | (dsimp only))
  have a2_106_0 := f2.1 106 0 (by first | exact id | omega | (dsimp only; omega) | (dsimp only))
  have a2_106_1 := f2.1 106 1 (by first | exact id | omega | (dsimp only; omega) | (dsimp only))
  have a2_106_3 := f2.1 106 3 (by first | exact id | omega | (dsimp only; omega) | (dsimp only))
  have a2_106_17 := f2.1 106 17 (by first | exact id | omega | (dsimp only; omega) | (dsimp only))
  have a2_43_1 := f2.1 43 1 (by first | exact id | omega | (dsimp only; omega) | (dsimp only))
  have a2_106_20 := f2.1 106 20 (by first | exact id | omega | (dsimp only; omega) | (dsimp only))
  have b2_4 := f2.2 4 (by first | exact id | omega | (dsimp only; omega) | (dsimp only))
  have b2_107 := f2.2 107 (by first | exact id | omega | (dsimp only; omega) | (dsimp only))
  have b2_108 := f2.2 108 (by first | exact id | omega | (dsimp only; omega) | (dsimp only))
  have b2_109 := f2.2 109 (by first | exact id | omega | (dsimp only; omega) | (dsimp only))
  have b2_46 := f2.2 46 (by first | exact id | omega | (dsimp only; omega) | (dsimp only))
  have b2_116 := f2.2 116 (by first | exact id | omega | (dsimp only; omega) | (dsimp only))
  have b2_117 := f2.2 117 (by first | exact id | omega | (dsimp only; omega) | (dsimp only))
  have b2_118 := f2.2 118 (by first | exact id | omega | (dsimp only; omega) | (dsimp only))
  have b2_6 := f2.2 6 (by first | exact id | omega | (dsimp only; omega) | (dsimp only))
  have R2a : gs_R1 F2 A2 := gs_R1_mk hR1 (by omega) (by omega) (by omega) (by omega) (by omega) (b2_4.trans b1_4) (b2_107.trans b1_107) (by omega)
  have hF3 : ∀ c j, 54 ≤ c → c < 90 → F2 c j = F c j := fun c j q1 q2 => (f2.1 c j (by first | exact id | (dsimp only; omega))).trans (f1.1 c j (by first | exact id | (dsimp only; omega)))
  have hA3 : ∀ c, 54 ≤ c → c < 90 → A2 c = A c := fun c q1 q2 => (f2.2 c (by first | exact id | (dsimp only; omega))).trans (f1.2 c (by first | exact id | (dsimp only; omega)))
  have R2c : gs_R3 F2 A2 := gs_R3_fr hR3 hI (by omega) hF3 hA3 (b2_108.trans b1_108) (b2_109.trans b1_109)
  have R2a0 : gs_R13 F2 A2 := ⟨R2a, R2c⟩
  have R2a := R2a0
  have R2t : gs_Rt F2 A2 := gs_Rt_fr hRt (by omega) (by omega) (by omega) (b2_46.trans b1_46) (b2_116.trans b1_116)
  have hF9 : ∀ c j, 90 ≤ c → c < 106 → F2 c j = F c j := fun c j q1 q2 => (f2.1 c j (by first | exact id | (dsimp only; omega))).trans (f1.1 c j (by first | exact id | (dsimp only; omega)))
  have hA9 : ∀ c, 90 ≤ c → c < 106 → A2 c = A c := fun c q1 q2 => (f2.2 c (by first | exact id | (dsimp only; omega))).trans (f1.2 c (by first | exact id | (dsimp only; omega)))
  have R2p : gs_Rp F2 A2 := gs_Rp_fr hRp hI (by omega) hF9 hA9 (gs_k8_tr (gs_k8_fr b1_110 b1_111) x2)
  have R2q : gs_R123 F2 A2 := ⟨R2a, R2t, R2p⟩
  have R2w : gs_W (A2 6) (F2 0 11) := by
    rw [b2_6, b1_6, a2_0_11, a1_0_11]
    exact hRw
  have R2u : gs_R1234 F2 A2 := ⟨R2q, R2w⟩
  have R2v : gs_Rv F2 A2 := gs_Rv_fr hRv (by omega) (by omega) (by omega) (b2_107.trans b1_107) (b2_108.trans b1_108) (b2_109.trans b1_109)
  have R2t2 : gs_R5 F2 A2 := ⟨R2u, R2v⟩
  have R2s : gs_R6 F2 A2 := gs_R6_fr hR6 (by omega) (by omega) hF3 hA3
  have R2 : gs_R5m F2 A2 := ⟨R2t2, R2s⟩
  refine W.eq (g2 := F0 m 1011 ls [.int (Int32.ofInt v2)]) rfl ?_
  refine lv_pop hx hb d_law_1011 rfl ?_
  refine lv_goto (tgt := 1111) hx hb d_law_1012 (by decide) ?_
  exact kk _ _ _ _ _ I2 ⟨X2, R2⟩ hW hlo hl
theorem q_op27 {p : Program} {e : Env} {s : State} {m : MethodId} {below : List Frame} {meth : Method} {c : Code} {b L : Nat} {xs : Nat → Int32} {l : Launch} {dC : Nat → ClassId} {dI : Nat → Nat → Nat} {aC : Nat → ClassId} {pl : Nat} (hL : L ≤ 2560) (C0 : lw_At p s m meth c b L xs) (hK : am_K (q_G l s dC dI aC pl) s) {n : Nat} (hn : n ≤ 1000000) {i : Int} (hi : 0 ≤ i ∧ i + 5 ≤ L) (kk : (∀ (F A : gs_F) (H : Heap) (locs : List Loc) (ls : Array Slot), gs_I F A → ((∀ r : Nat, (r : Int) < F 106 3 → 1 ≤ A 108 r) ∧ gs_R5m F A) → am_W (q_G l s dC dI aC pl) 122 (gs_en F A) H → (∀ q ∈ locs, s.heap.size ≤ q.base) → lv_has ls 4 [(3, .int (Int32.ofInt i)), (2, .ref (s.heap.size + 106)), (1, .ref (s.heap.size + 0)), (0, .ref b)] → W p l e room_1 s m #[Value.ref b] below meth c H locs 122 n (lw_Z below #[Value.ref b] s) (F0 m 1111 ls []))) {F A : gs_F} {H : Heap} {locs : List Loc} {ls : Array Slot} (hI : gs_I F A) (hX : (∀ r : Nat, (r : Int) < F 106 3 → 1 ≤ A 108 r) ∧ gs_R5m F A) (hW : am_W (q_G l s dC dI aC pl) 122 (gs_en F A) H) (hlo : ∀ q ∈ locs, s.heap.size ≤ q.base) (hl : lv_has ls 4 [(3, .int (Int32.ofInt i)), (2, .ref (s.heap.size + 106)), (1, .ref (s.heap.size + 0)), (0, .ref b)]) : W p l e room_1 s m #[Value.ref b] below meth c H locs 122 n (lw_Z below #[Value.ref b] s) (F0 m 1015 ls []) := by
  obtain ⟨hx, hb, hr, hml, hown, hts, hXx, hbl, hlocks, hgv⟩ := C0
  obtain ⟨hX, hR⟩ := hX
  obtain ⟨hR, hR6⟩ := hR
  obtain ⟨hR, hRv⟩ := hR
  obtain ⟨hR, hRw⟩ := hR
  obtain ⟨hR, hRt, hRp⟩ := hR
  obtain ⟨hR1, hR3⟩ := hR
  have hR0 := hR1
  obtain ⟨R_1, R_2, R_3, R_4, R_5, R_6, _⟩ := hR0
  have R_0 : (0 : Int) ≤ F 106 1 ∧ F 106 1 ≤ 60 := hI.1 106 1
  have R_c : (0 : Int) ≤ F 106 3 ∧ F 106 3 ≤ 12 := hI.1 106 3
  have R_d : (0 : Int) ≤ F 0 12 ∧ F 0 12 ≤ 12 := hI.1 0 12
  have R_t := hRt.1
  have hg0 : (1 : Int) ≤ F 106 0 ∧ F 106 0 ≤ 3 := hI.1 106 0
  have hts2 := am_hts hts
  have hbA : ¬ (fun q : Nat => s.heap.size ≤ q) b := Nat.not_le.mpr hbl
  obtain ⟨z1, e1, r1⟩ := q_val (xs (Int32.ofInt i + 1).toNatClampNeg)
  obtain ⟨z2, e2, r2⟩ := q_val (xs (Int32.ofInt i + 2).toNatClampNeg)
  obtain ⟨z3, e3, r3⟩ := q_val (xs (Int32.ofInt i + 3).toNatClampNeg)
  obtain ⟨z4, e4, r4⟩ := q_val (xs (Int32.ofInt i + 4).toNatClampNeg)
  have hS := am_S hK.2.1 hW hlo
  refine lv_aload_n hx hb d_law_1015 rfl (lv_at hl 2 rfl) ?_
  refine lv_aload_n hx hb d_law_1016 rfl (lv_at hl 3 rfl) ?_
  refine lv_iload_n hx hb d_law_1017 rfl (lv_at hl 0 rfl) ?_
  refine lv_iconst (v := 1) hx hb d_law_1018 (by decide) ?_
  refine lv_iadd hx hb d_law_1019 ?_
  refine va_sld hx hb hXx hbl hbA hS (i := Int32.ofInt i + 1) (q_in1 hi (by omega)) d_law_1020 ?_
  rw [e1]
  refine lv_aload_n hx hb d_law_1021 rfl (lv_at hl 3 rfl) ?_
  refine lv_iload_n hx hb d_law_1022 rfl (lv_at hl 0 rfl) ?_
  refine lv_iconst (v := 2) hx hb d_law_1023 (by decide) ?_
  refine lv_iadd hx hb d_law_1024 ?_
  refine va_sld hx hb hXx hbl hbA hS (i := Int32.ofInt i + 2) (q_in2 hi (by omega)) d_law_1025 ?_
  rw [e2]
  refine lv_aload_n hx hb d_law_1026 rfl (lv_at hl 3 rfl) ?_
  refine lv_iload_n hx hb d_law_1027 rfl (lv_at hl 0 rfl) ?_
  refine lv_iconst (v := 3) hx hb d_law_1028 (by decide) ?_
  refine lv_iadd hx hb d_law_1029 ?_
  refine va_sld hx hb hXx hbl hbA hS (i := Int32.ofInt i + 3) (q_in3 hi (by omega)) d_law_1030 ?_
  rw [e3]
  refine lv_aload_n hx hb d_law_1031 rfl (lv_at hl 3 rfl) ?_
  refine lv_iload_n hx hb d_law_1032 rfl (lv_at hl 0 rfl) ?_
  refine lv_iconst (v := 4) hx hb d_law_1033 (by decide) ?_
  refine lv_iadd hx hb d_law_1034 ?_
  refine va_sld hx hb hXx hbl hbA hS (i := Int32.ofInt i + 4) (q_in4 hi (by omega)) d_law_1035 ?_
  rw [e4]
  refine gw_callV (G := (q_G l s dC dI aC pl)) (cc := code) (own := R_law) (nL := 4) (y2 := m_X8_carry) (n2 := 4) (d2 := 8) (mc2 := 0) (ms2 := 0) (a := 0) (ci := 8) (q := (RX8, TX8, 13)) (as := [gs_iv z1, gs_iv z2, gs_iv z3, gs_iv z4]) (rest := []) hx hb hml hown hts2 hK hW hlo hl.1 d_law_1036 ok_X8_carry.1 (ri_lw_in (pl := 726) (by decide +kernel)) ok_X8_carry.2.1 ok_X8_carry.2.2 rfl rfl (by decide) (gs_en_obj _ _ (show gs_sh 0 = .inl (8, _) from rfl)) rfl (Nat.le_of_ble_eq_true rfl) (by decide) (by decide) (by show _ ≤ 600000; omega) (by show _ ≤ 7302249; omega) (c_X8_carry_vf hI r1 r2 r3 r4 hRw (by omega) (gs_R5_vs hR3 hRv R_1 R_2) (gs_R5_rs hR3 hRv R_2) (q_G l s dC dI aC pl)) rfl (fun r N2 h2 H locs hp hW hlo => ?_)
  obtain ⟨F1, A1, n1, h1, v1, w1, I1, f1, x1⟩ := hp
  subst n1 h1 w1
  have X1 := gs_X_fr hX (f1.1 106 3 (by first | exact id | (dsimp only; omega))) (f1.2 108 (by first | exact id | (dsimp only; omega)))
  have a1_0_11 := f1.1 0 11 (by first | exact id | omega | (dsimp only; omega) | (dsimp only))
  have a1_0_12 := f1.1 0 12 (by first | exact id | omega | (dsimp only; omega) | (dsimp only))
  have a1_5_0 := f1.1 5 0 (by first | exact id | omega | (dsimp only; omega) | (dsimp only))
  have a1_3_1 := f1.1 3 1 (by first | exact id | omega | (dsimp only; omega) | (dsimp only))
  have a1_43_0 := f1.1 43 0 (by first | exact id | omega | (dsimp only; omega) | (dsimp only))
  have a1_106_0 := f1.1 106 0 (by first | exact id | omega | (dsimp only; omega) | (dsimp only))
  have a1_106_1 := f1.1 106 1 (by first | exact id | omega | (dsimp only; omega) | (dsimp only))
  have a1_106_3 := f1.1 106 3 (by first | exact id | omega | (dsimp only; omega) | (dsimp only))
  have a1_106_17 := f1.1 106 17 (by first | exact id | omega | (dsimp only; omega) | (dsimp only))
  have a1_43_1 := f1.1 43 1 (by first | exact id | omega | (dsimp only; omega) | (dsimp only))
  have a1_106_20 := f1.1 106 20 (by first | exact id | omega | (dsimp only; omega) | (dsimp only))
  have b1_4 := f1.2 4 (by first | exact id | omega | (dsimp only; omega) | (dsimp only))
  have b1_107 := f1.2 107 (by first | exact id | omega | (dsimp only; omega) | (dsimp only))
  have b1_108 := f1.2 108 (by first | exact id | omega | (dsimp only; omega) | (dsimp only))
  have b1_109 := f1.2 109 (by first | exact id | omega | (dsimp only; omega) | (dsimp only))
  have b1_46 := f1.2 46 (by first | exact id | omega | (dsimp only; omega) | (dsimp only))
  have b1_116 := f1.2 116 (by first | exact id | omega | (dsimp only; omega) | (dsimp only))
  have b1_110 := f1.2 110 (by first | exact id | omega | (dsimp only; omega) | (dsimp only))
  have b1_111 := f1.2 111 (by first | exact id | omega | (dsimp only; omega) | (dsimp only))
  have b1_117 := f1.2 117 (by first | exact id | omega | (dsimp only; omega) | (dsimp only))
  have b1_118 := f1.2 118 (by first | exact id | omega | (dsimp only; omega) | (dsimp only))
  have b1_6 := f1.2 6 (by first | exact id | omega | (dsimp only; omega) | (dsimp only))
  refine W.eq (g2 := F0 m 1039 ls [.int (Int32.ofInt v1)]) rfl ?_
  have hS := am_S hK.2.1 hW hlo
  refine lv_aload_n hx hb d_law_1039 rfl (lv_at hl 1 rfl) ?_
  refine lv_aload_n hx hb d_law_1040 rfl (lv_at hl 3 rfl) ?_
  refine lv_iload_n hx hb d_law_1041 rfl (lv_at hl 0 rfl) ?_
  refine lv_iconst (v := 1) hx hb d_law_1042 (by decide) ?_
  refine lv_iadd hx hb d_law_1043 ?_
  refine va_sld hx hb hXx hbl hbA hS (i := Int32.ofInt i + 1) (q_in1 hi (by omega)) d_law_1044 ?_
  rw [e1]
  refine lv_aload_n hx hb d_law_1045 rfl (lv_at hl 3 rfl) ?_
  refine lv_iload_n hx hb d_law_1046 rfl (lv_at hl 0 rfl) ?_
  refine lv_iconst (v := 2) hx hb d_law_1047 (by decide) ?_
  refine lv_iadd hx hb d_law_1048 ?_
  refine va_sld hx hb hXx hbl hbA hS (i := Int32.ofInt i + 2) (q_in2 hi (by omega)) d_law_1049 ?_
  rw [e2]
  refine lv_aload_n hx hb d_law_1050 rfl (lv_at hl 3 rfl) ?_
  refine lv_iload_n hx hb d_law_1051 rfl (lv_at hl 0 rfl) ?_
  refine lv_iconst (v := 3) hx hb d_law_1052 (by decide) ?_
  refine lv_iadd hx hb d_law_1053 ?_
  refine va_sld hx hb hXx hbl hbA hS (i := Int32.ofInt i + 3) (q_in3 hi (by omega)) d_law_1054 ?_
  rw [e3]
  refine lv_aload_n hx hb d_law_1055 rfl (lv_at hl 3 rfl) ?_
  refine lv_iload_n hx hb d_law_1056 rfl (lv_at hl 0 rfl) ?_
  refine lv_iconst (v := 4) hx hb d_law_1057 (by decide) ?_
  refine lv_iadd hx hb d_law_1058 ?_
  refine va_sld hx hb hXx hbl hbA hS (i := Int32.ofInt i + 4) (q_in4 hi (by omega)) d_law_1059 ?_
  rw [e4]
  refine gw_callV (G := (q_G l s dC dI aC pl)) (cc := code) (own := R_law) (nL := 4) (y2 := m_X9_carry) (n2 := 4) (d2 := 7) (mc2 := 0) (ms2 := 0) (a := 106) (ci := 9) (q := (RX9, TX9, 28)) (as := [gs_iv z1, gs_iv z2, gs_iv z3, gs_iv z4]) (rest := [.int (Int32.ofInt v1)]) hx hb hml hown hts2 hK hW hlo hl.1 d_law_1060 ok_X9_carry.1 (ri_lw_in (pl := 1189) (by decide +kernel)) ok_X9_carry.2.1 ok_X9_carry.2.2 rfl rfl (by decide) (gs_en_obj _ _ (show gs_sh 106 = .inl (9, _) from rfl)) rfl (Nat.le_of_ble_eq_true rfl) (by decide) (by decide) (by show _ ≤ 600000; omega) (by show _ ≤ 7302249; omega) (c_X9_carry_vg I1 r1 r2 r3 r4 X1 (q_G l s dC dI aC pl)) rfl (fun r N2 h2 H locs hp hW hlo => ?_)
  obtain ⟨F2, A2, n2, h2, v2, w2, I2, f2, x2⟩ := hp
  subst n2 h2 w2
  have X2 := gs_X_fr X1 (f2.1 106 3 (by first | exact id | (dsimp only; omega))) (f2.2 108 (by first | exact id | (dsimp only; omega)))
  have a2_0_11 := f2.1 0 11 (by first | exact id | omega | (dsimp only; omega) | (dsimp only))
  have a2_0_12 := f2.1 0 12 (by first | exact id | omega | (dsimp only; omega) | (dsimp only))
  have a2_5_0 := f2.1 5 0 (by first | exact id | omega | (dsimp only; omega) | (dsimp only))
  have a2_3_1 := f2.1 3 1 (by first | exact id | omega | (dsimp only; omega) | (dsimp only))
  have a2_43_0 := f2.1 43 0 (by first | exact id | omega | (dsimp only; omega) | (dsimp only))
  have a2_106_0 := f2.1 106 0 (by first | exact id | omega | (dsimp only; omega) | (dsimp only))
  have a2_106_1 := f2.1 106 1 (by first | exact id | omega | (dsimp only; omega) | (dsimp only))
  have a2_106_3 := f2.1 106 3 (by first | exact id | omega | (dsimp only; omega) | (dsimp only))
  have a2_106_17 := f2.1 106 17 (by first | exact id | omega | (dsimp only; omega) | (dsimp only))
  have a2_43_1 := f2.1 43 1 (by first | exact id | omega | (dsimp only; omega) | (dsimp only))
  have a2_106_20 := f2.1 106 20 (by first | exact id | omega | (dsimp only; omega) | (dsimp only))
  have b2_4 := f2.2 4 (by first | exact id | omega | (dsimp only; omega) | (dsimp only))
  have b2_107 := f2.2 107 (by first | exact id | omega | (dsimp only; omega) | (dsimp only))
  have b2_108 := f2.2 108 (by first | exact id | omega | (dsimp only; omega) | (dsimp only))
  have b2_109 := f2.2 109 (by first | exact id | omega | (dsimp only; omega) | (dsimp only))
  have b2_46 := f2.2 46 (by first | exact id | omega | (dsimp only; omega) | (dsimp only))
  have b2_116 := f2.2 116 (by first | exact id | omega | (dsimp only; omega) | (dsimp only))
  have b2_117 := f2.2 117 (by first | exact id | omega | (dsimp only; omega) | (dsimp only))
  have b2_118 := f2.2 118 (by first | exact id | omega | (dsimp only; omega) | (dsimp only))
  have b2_6 := f2.2 6 (by first | exact id | omega | (dsimp only; omega) | (dsimp only))
  obtain ⟨x2, x2v⟩ := x2
  have R2a : gs_R1 F2 A2 := gs_R1_mk hR1 (by omega) (by omega) (by omega) (by omega) (by omega) (b2_4.trans b1_4) (b2_107.trans b1_107) (by omega)
  have hF3 : ∀ c j, 54 ≤ c → c < 90 → F2 c j = F c j := fun c j q1 q2 => (f2.1 c j (by first | exact id | (dsimp only; omega))).trans (f1.1 c j (by first | exact id | (dsimp only; omega)))
  have hA3 : ∀ c, 54 ≤ c → c < 90 → A2 c = A c := fun c q1 q2 => (f2.2 c (by first | exact id | (dsimp only; omega))).trans (f1.2 c (by first | exact id | (dsimp only; omega)))
  have R2c : gs_R3 F2 A2 := gs_R3_fr hR3 hI (by omega) hF3 hA3 (b2_108.trans b1_108) (b2_109.trans b1_109)
  have R2a0 : gs_R13 F2 A2 := ⟨R2a, R2c⟩
  have R2a := R2a0
  have R2t : gs_Rt F2 A2 := gs_Rt_fr hRt (by omega) (by omega) (by omega) (b2_46.trans b1_46) (b2_116.trans b1_116)
  have hF9 : ∀ c j, 90 ≤ c → c < 106 → F2 c j = F c j := fun c j q1 q2 => (f2.1 c j (by first | exact id | (dsimp only; omega))).trans (f1.1 c j (by first | exact id | (dsimp only; omega)))
  have hA9 : ∀ c, 90 ≤ c → c < 106 → A2 c = A c := fun c q1 q2 => (f2.2 c (by first | exact id | (dsimp only; omega))).trans (f1.2 c (by first | exact id | (dsimp only; omega)))
  have R2p : gs_Rp F2 A2 := gs_Rp_fr hRp hI (by omega) hF9 hA9 (gs_k8_tr (gs_k8_fr b1_110 b1_111) x2)
  have R2q : gs_R123 F2 A2 := ⟨R2a, R2t, R2p⟩
  have R2w : gs_W (A2 6) (F2 0 11) := by
    rw [b2_6, b1_6, a2_0_11, a1_0_11]
    exact hRw
  have R2u : gs_R1234 F2 A2 := ⟨R2q, R2w⟩
  have R2v : gs_Rv F2 A2 := gs_Rv_fr hRv (by omega) (by omega) (by omega) (b2_107.trans b1_107) (b2_108.trans b1_108) (b2_109.trans b1_109)
  have R2t2 : gs_R5 F2 A2 := ⟨R2u, R2v⟩
  have R2s : gs_R6 F2 A2 := gs_R6_fr hR6 (by omega) (by omega) hF3 hA3
  have R2 : gs_R5m F2 A2 := ⟨R2t2, R2s⟩
  have ev : v2 = v1 := by
    rw [a1_106_0, a1_106_3, b1_108, b1_109] at x2v
    exact gs_carry_ev R_1 R_2 hR3 x1 x2v
  rw [ev]
  refine W.eq (g2 := F0 m 1063 ls [.int (Int32.ofInt v1), .int (Int32.ofInt v1)]) rfl ?_
  refine lv_icmp_eq (tgt := 1111) hx hb d_law_1063 (by decide) (fun _ => ?_) (fun q => absurd rfl q)
  exact kk _ _ _ _ _ I2 ⟨X2, R2⟩ hW hlo hl
theorem q_op28 {p : Program} {e : Env} {s : State} {m : MethodId} {below : List Frame} {meth : Method} {c : Code} {b L : Nat} {xs : Nat → Int32} {l : Launch} {dC : Nat → ClassId} {dI : Nat → Nat → Nat} {aC : Nat → ClassId} {pl : Nat} (hL : L ≤ 2560) (C0 : lw_At p s m meth c b L xs) (hK : am_K (q_G l s dC dI aC pl) s) {n : Nat} (hn : n ≤ 1000000) {i : Int} (hi : 0 ≤ i ∧ i + 5 ≤ L) (kk : (∀ (F A : gs_F) (H : Heap) (locs : List Loc) (ls : Array Slot), gs_I F A → ((∀ r : Nat, (r : Int) < F 106 3 → 1 ≤ A 108 r) ∧ gs_R5m F A) → am_W (q_G l s dC dI aC pl) 122 (gs_en F A) H → (∀ q ∈ locs, s.heap.size ≤ q.base) → lv_has ls 4 [(3, .int (Int32.ofInt i)), (2, .ref (s.heap.size + 106)), (1, .ref (s.heap.size + 0)), (0, .ref b)] → W p l e room_1 s m #[Value.ref b] below meth c H locs 122 n (lw_Z below #[Value.ref b] s) (F0 m 1111 ls []))) {F A : gs_F} {H : Heap} {locs : List Loc} {ls : Array Slot} (hI : gs_I F A) (hX : (∀ r : Nat, (r : Int) < F 106 3 → 1 ≤ A 108 r) ∧ gs_R5m F A) (hW : am_W (q_G l s dC dI aC pl) 122 (gs_en F A) H) (hlo : ∀ q ∈ locs, s.heap.size ≤ q.base) (hl : lv_has ls 4 [(3, .int (Int32.ofInt i)), (2, .ref (s.heap.size + 106)), (1, .ref (s.heap.size + 0)), (0, .ref b)]) : W p l e room_1 s m #[Value.ref b] below meth c H locs 122 n (lw_Z below #[Value.ref b] s) (F0 m 1068 ls []) := by
  obtain ⟨hx, hb, hr, hml, hown, hts, hXx, hbl, hlocks, hgv⟩ := C0
  obtain ⟨hX, hR⟩ := hX
  obtain ⟨hR, hR6⟩ := hR
  obtain ⟨hR, hRv⟩ := hR
  obtain ⟨hR, hRw⟩ := hR
  obtain ⟨hR, hRt, hRp⟩ := hR
  obtain ⟨hR1, hR3⟩ := hR
  have hR0 := hR1
  obtain ⟨R_1, R_2, R_3, R_4, R_5, R_6, _⟩ := hR0
  have R_0 : (0 : Int) ≤ F 106 1 ∧ F 106 1 ≤ 60 := hI.1 106 1
  have R_c : (0 : Int) ≤ F 106 3 ∧ F 106 3 ≤ 12 := hI.1 106 3
  have R_d : (0 : Int) ≤ F 0 12 ∧ F 0 12 ≤ 12 := hI.1 0 12
  have R_t := hRt.1
  have hg0 : (1 : Int) ≤ F 106 0 ∧ F 106 0 ≤ 3 := hI.1 106 0
  have hts2 := am_hts hts
  have hbA : ¬ (fun q : Nat => s.heap.size ≤ q) b := Nat.not_le.mpr hbl
  obtain ⟨z1, e1, r1⟩ := q_val (xs (Int32.ofInt i + 1).toNatClampNeg)
  obtain ⟨z2, e2, r2⟩ := q_val (xs (Int32.ofInt i + 2).toNatClampNeg)
  obtain ⟨z3, e3, r3⟩ := q_val (xs (Int32.ofInt i + 3).toNatClampNeg)
  have hS := am_S hK.2.1 hW hlo
  refine lv_aload_n hx hb d_law_1068 rfl (lv_at hl 2 rfl) ?_
  refine lv_aload_n hx hb d_law_1069 rfl (lv_at hl 3 rfl) ?_
  refine lv_iload_n hx hb d_law_1070 rfl (lv_at hl 0 rfl) ?_
  refine lv_iconst (v := 1) hx hb d_law_1071 (by decide) ?_
  refine lv_iadd hx hb d_law_1072 ?_
  refine va_sld hx hb hXx hbl hbA hS (i := Int32.ofInt i + 1) (q_in1 hi (by omega)) d_law_1073 ?_
  rw [e1]
  refine lv_aload_n hx hb d_law_1074 rfl (lv_at hl 3 rfl) ?_
  refine lv_iload_n hx hb d_law_1075 rfl (lv_at hl 0 rfl) ?_
  refine lv_iconst (v := 2) hx hb d_law_1076 (by decide) ?_
  refine lv_iadd hx hb d_law_1077 ?_
  refine va_sld hx hb hXx hbl hbA hS (i := Int32.ofInt i + 2) (q_in2 hi (by omega)) d_law_1078 ?_
  rw [e2]
  refine lv_aload_n hx hb d_law_1079 rfl (lv_at hl 3 rfl) ?_
  refine lv_iload_n hx hb d_law_1080 rfl (lv_at hl 0 rfl) ?_
  refine lv_iconst (v := 3) hx hb d_law_1081 (by decide) ?_
  refine lv_iadd hx hb d_law_1082 ?_
  refine va_sld hx hb hXx hbl hbA hS (i := Int32.ofInt i + 3) (q_in3 hi (by omega)) d_law_1083 ?_
  rw [e3]
  refine gw_callV (G := (q_G l s dC dI aC pl)) (cc := code) (own := R_law) (nL := 4) (y2 := m_X8_fewest) (n2 := 3) (d2 := 6) (mc2 := 0) (ms2 := 0) (a := 0) (ci := 8) (q := (RX8, TX8, 13)) (as := [gs_iv z1, gs_iv z2, gs_iv z3]) (rest := []) hx hb hml hown hts2 hK hW hlo hl.1 d_law_1084 ok_X8_fewest.1 (ri_lw_in (pl := 757) (by decide +kernel)) ok_X8_fewest.2.1 ok_X8_fewest.2.2 rfl rfl (by decide) (gs_en_obj _ _ (show gs_sh 0 = .inl (8, _) from rfl)) rfl (Nat.le_of_ble_eq_true rfl) (by decide) (by decide) (by show _ ≤ 600000; omega) (by show _ ≤ 7302249; omega) (c_X8_fewest hI r1 r2 r3 (q_G l s dC dI aC pl)) rfl (fun r N2 h2 H locs hp hW hlo => ?_)
  obtain ⟨F1, A1, n1, h1, v1, w1, I1, f1, x1⟩ := hp
  subst n1 h1 w1
  have X1 := gs_X_fr hX (f1.1 106 3 (by first | exact id | (dsimp only; omega))) (f1.2 108 (by first | exact id | (dsimp only; omega)))
  have a1_0_11 := f1.1 0 11 (by first | exact id | omega | (dsimp only; omega) | (dsimp only))
  have a1_0_12 := f1.1 0 12 (by first | exact id | omega | (dsimp only; omega) | (dsimp only))
  have a1_5_0 := f1.1 5 0 (by first | exact id | omega | (dsimp only; omega) | (dsimp only))
  have a1_3_1 := f1.1 3 1 (by first | exact id | omega | (dsimp only; omega) | (dsimp only))
  have a1_43_0 := f1.1 43 0 (by first | exact id | omega | (dsimp only; omega) | (dsimp only))
  have a1_106_0 := f1.1 106 0 (by first | exact id | omega | (dsimp only; omega) | (dsimp only))
  have a1_106_1 := f1.1 106 1 (by first | exact id | omega | (dsimp only; omega) | (dsimp only))
  have a1_106_3 := f1.1 106 3 (by first | exact id | omega | (dsimp only; omega) | (dsimp only))
  have a1_106_17 := f1.1 106 17 (by first | exact id | omega | (dsimp only; omega) | (dsimp only))
  have a1_43_1 := f1.1 43 1 (by first | exact id | omega | (dsimp only; omega) | (dsimp only))
  have a1_106_20 := f1.1 106 20 (by first | exact id | omega | (dsimp only; omega) | (dsimp only))
  have b1_4 := f1.2 4 (by first | exact id | omega | (dsimp only; omega) | (dsimp only))
  have b1_107 := f1.2 107 (by first | exact id | omega | (dsimp only; omega) | (dsimp only))
  have b1_108 := f1.2 108 (by first | exact id | omega | (dsimp only; omega) | (dsimp only))
  have b1_109 := f1.2 109 (by first | exact id | omega | (dsimp only; omega) | (dsimp only))
  have b1_46 := f1.2 46 (by first | exact id | omega | (dsimp only; omega) | (dsimp only))
  have b1_116 := f1.2 116 (by first | exact id | omega | (dsimp only; omega) | (dsimp only))
  have b1_110 := f1.2 110 (by first | exact id | omega | (dsimp only; omega) | (dsimp only))
  have b1_111 := f1.2 111 (by first | exact id | omega | (dsimp only; omega) | (dsimp only))
  have b1_117 := f1.2 117 (by first | exact id | omega | (dsimp only; omega) | (dsimp only))
  have b1_118 := f1.2 118 (by first | exact id | omega | (dsimp only; omega) | (dsimp only))
  have b1_6 := f1.2 6 (by first | exact id | omega | (dsimp only; omega) | (dsimp only))
  refine W.eq (g2 := F0 m 1087 ls [.int (Int32.ofInt v1)]) rfl ?_
  refine lv_pop hx hb d_law_1087 rfl ?_
  have hS := am_S hK.2.1 hW hlo
  refine lv_aload_n hx hb d_law_1088 rfl (lv_at hl 1 rfl) ?_
  refine lv_aload_n hx hb d_law_1089 rfl (lv_at hl 3 rfl) ?_
  refine lv_iload_n hx hb d_law_1090 rfl (lv_at hl 0 rfl) ?_
  refine lv_iconst (v := 1) hx hb d_law_1091 (by decide) ?_
  refine lv_iadd hx hb d_law_1092 ?_
  refine va_sld hx hb hXx hbl hbA hS (i := Int32.ofInt i + 1) (q_in1 hi (by omega)) d_law_1093 ?_
  rw [e1]
  refine lv_aload_n hx hb d_law_1094 rfl (lv_at hl 3 rfl) ?_
  refine lv_iload_n hx hb d_law_1095 rfl (lv_at hl 0 rfl) ?_
  refine lv_iconst (v := 2) hx hb d_law_1096 (by decide) ?_
  refine lv_iadd hx hb d_law_1097 ?_
  refine va_sld hx hb hXx hbl hbA hS (i := Int32.ofInt i + 2) (q_in2 hi (by omega)) d_law_1098 ?_
  rw [e2]
  refine lv_aload_n hx hb d_law_1099 rfl (lv_at hl 3 rfl) ?_
  refine lv_iload_n hx hb d_law_1100 rfl (lv_at hl 0 rfl) ?_
  refine lv_iconst (v := 3) hx hb d_law_1101 (by decide) ?_
  refine lv_iadd hx hb d_law_1102 ?_
  refine va_sld hx hb hXx hbl hbA hS (i := Int32.ofInt i + 3) (q_in3 hi (by omega)) d_law_1103 ?_
  rw [e3]
  refine gw_callV (G := (q_G l s dC dI aC pl)) (cc := code) (own := R_law) (nL := 4) (y2 := m_X9_fewest) (n2 := 3) (d2 := 8) (mc2 := 0) (ms2 := 0) (a := 106) (ci := 9) (q := (RX9, TX9, 28)) (as := [gs_iv z1, gs_iv z2, gs_iv z3]) (rest := []) hx hb hml hown hts2 hK hW hlo hl.1 d_law_1104 ok_X9_fewest.1 (ri_lw_in (pl := 1206) (by decide +kernel)) ok_X9_fewest.2.1 ok_X9_fewest.2.2 rfl rfl (by decide) (gs_en_obj _ _ (show gs_sh 106 = .inl (9, _) from rfl)) rfl (Nat.le_of_ble_eq_true rfl) (by decide) (by decide) (by show _ ≤ 600000; omega) (by show _ ≤ 7302249; omega) (c_X9_fewest_vf I1 r1 r2 r3 (q_G l s dC dI aC pl)) rfl (fun r N2 h2 H locs hp hW hlo => ?_)
  obtain ⟨F2, A2, n2, h2, v2, w2, I2, f2, x2⟩ := hp
  subst n2 h2 w2
  have X2 := gs_X_fr X1 (f2.1 106 3 (by first | exact id | (dsimp only; omega))) (f2.2 108 (by first | exact id | (dsimp only; omega)))
  have a2_0_11 := f2.1 0 11 (by first | exact id | omega | (dsimp only; omega) | (dsimp only))
  have a2_0_12 := f2.1 0 12 (by first | exact id | omega | (dsimp only; omega) | (dsimp only))
  have a2_5_0 := f2.1 5 0 (by first | exact id | omega | (dsimp only; omega) | (dsimp only))
  have a2_3_1 := f2.1 3 1 (by first | exact id | omega | (dsimp only; omega) | (dsimp only))
  have a2_43_0 := f2.1 43 0 (by first | exact id | omega | (dsimp only; omega) | (dsimp only))
  have a2_106_0 := f2.1 106 0 (by first | exact id | omega | (dsimp only; omega) | (dsimp only))
  have a2_106_1 := f2.1 106 1 (by first | exact id | omega | (dsimp only; omega) | (dsimp only))
  have a2_106_3 := f2.1 106 3 (by first | exact id | omega | (dsimp only; omega) | (dsimp only))
  have a2_106_17 := f2.1 106 17 (by first | exact id | omega | (dsimp only; omega) | (dsimp only))
  have a2_43_1 := f2.1 43 1 (by first | exact id | omega | (dsimp only; omega) | (dsimp only))
  have a2_106_20 := f2.1 106 20 (by first | exact id | omega | (dsimp only; omega) | (dsimp only))
  have b2_4 := f2.2 4 (by first | exact id | omega | (dsimp only; omega) | (dsimp only))
  have b2_107 := f2.2 107 (by first | exact id | omega | (dsimp only; omega) | (dsimp only))
  have b2_108 := f2.2 108 (by first | exact id | omega | (dsimp only; omega) | (dsimp only))
  have b2_109 := f2.2 109 (by first | exact id | omega | (dsimp only; omega) | (dsimp only))
  have b2_46 := f2.2 46 (by first | exact id | omega | (dsimp only; omega) | (dsimp only))
  have b2_116 := f2.2 116 (by first | exact id | omega | (dsimp only; omega) | (dsimp only))
  have b2_117 := f2.2 117 (by first | exact id | omega | (dsimp only; omega) | (dsimp only))
  have b2_118 := f2.2 118 (by first | exact id | omega | (dsimp only; omega) | (dsimp only))
  have b2_6 := f2.2 6 (by first | exact id | omega | (dsimp only; omega) | (dsimp only))
  have R2a : gs_R1 F2 A2 := gs_R1_mk hR1 (by omega) (by omega) (by omega) (by omega) (by omega) (b2_4.trans b1_4) (b2_107.trans b1_107) (by omega)
  have hF3 : ∀ c j, 54 ≤ c → c < 90 → F2 c j = F c j := fun c j q1 q2 => (f2.1 c j (by first | exact id | (dsimp only; omega))).trans (f1.1 c j (by first | exact id | (dsimp only; omega)))
  have hA3 : ∀ c, 54 ≤ c → c < 90 → A2 c = A c := fun c q1 q2 => (f2.2 c (by first | exact id | (dsimp only; omega))).trans (f1.2 c (by first | exact id | (dsimp only; omega)))
  have R2c : gs_R3 F2 A2 := gs_R3_fr hR3 hI (by omega) hF3 hA3 (b2_108.trans b1_108) (b2_109.trans b1_109)
  have R2a0 : gs_R13 F2 A2 := ⟨R2a, R2c⟩
  have R2a := R2a0
  have R2t : gs_Rt F2 A2 := gs_Rt_fr hRt (by omega) (by omega) (by omega) (b2_46.trans b1_46) (b2_116.trans b1_116)
  have hF9 : ∀ c j, 90 ≤ c → c < 106 → F2 c j = F c j := fun c j q1 q2 => (f2.1 c j (by first | exact id | (dsimp only; omega))).trans (f1.1 c j (by first | exact id | (dsimp only; omega)))
  have hA9 : ∀ c, 90 ≤ c → c < 106 → A2 c = A c := fun c q1 q2 => (f2.2 c (by first | exact id | (dsimp only; omega))).trans (f1.2 c (by first | exact id | (dsimp only; omega)))
  have R2p : gs_Rp F2 A2 := gs_Rp_fr hRp hI (by omega) hF9 hA9 (gs_k8_tr (gs_k8_fr b1_110 b1_111) x2)
  have R2q : gs_R123 F2 A2 := ⟨R2a, R2t, R2p⟩
  have R2w : gs_W (A2 6) (F2 0 11) := by
    rw [b2_6, b1_6, a2_0_11, a1_0_11]
    exact hRw
  have R2u : gs_R1234 F2 A2 := ⟨R2q, R2w⟩
  have R2v : gs_Rv F2 A2 := gs_Rv_fr hRv (by omega) (by omega) (by omega) (b2_107.trans b1_107) (b2_108.trans b1_108) (b2_109.trans b1_109)
  have R2t2 : gs_R5 F2 A2 := ⟨R2u, R2v⟩
  have R2s : gs_R6 F2 A2 := gs_R6_fr hR6 (by omega) (by omega) hF3 hA3
  have R2 : gs_R5m F2 A2 := ⟨R2t2, R2s⟩
  refine W.eq (g2 := F0 m 1107 ls [.int (Int32.ofInt v2)]) rfl ?_
  refine lv_pop hx hb d_law_1107 rfl ?_
  refine lv_goto (tgt := 1111) hx hb d_law_1108 (by decide) ?_
  exact kk _ _ _ _ _ I2 ⟨X2, R2⟩ hW hlo hl
end
