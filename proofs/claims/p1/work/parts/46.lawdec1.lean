theorem dXL_law_250 : decode code 250 = .ok (.aload_n 2, 1) := by decide +kernel
theorem dXL_law_251 : decode code 251 = .ok (.aload_n 0, 1) := by decide +kernel
theorem dXL_law_252 : decode code 252 = .ok (.iload 4, 2) := by decide +kernel
theorem dXL_law_254 : decode code 254 = .ok (.iconst 1, 1) := by decide +kernel
theorem dXL_law_255 : decode code 255 = .ok (.iadd, 1) := by decide +kernel
theorem dXL_law_256 : decode code 256 = .ok (.iaload, 1) := by decide +kernel
theorem dXL_law_257 : decode code 257 = .ok (.aload_n 0, 1) := by decide +kernel
theorem dXL_law_258 : decode code 258 = .ok (.iload 4, 2) := by decide +kernel
theorem dXL_law_260 : decode code 260 = .ok (.iconst 2, 1) := by decide +kernel
theorem dXL_law_261 : decode code 261 = .ok (.iadd, 1) := by decide +kernel
theorem dXL_law_262 : decode code 262 = .ok (.iaload, 1) := by decide +kernel
theorem dXL_law_263 : decode code 263 = .ok (.aload_n 0, 1) := by decide +kernel
theorem dXL_law_264 : decode code 264 = .ok (.iload 4, 2) := by decide +kernel
theorem dXL_law_266 : decode code 266 = .ok (.iconst 3, 1) := by decide +kernel
theorem dXL_law_267 : decode code 267 = .ok (.iadd, 1) := by decide +kernel
theorem dXL_law_268 : decode code 268 = .ok (.iaload, 1) := by decide +kernel
theorem dXL_law_269 : decode code 269 = .ok (.invokevirtual 87, 3) := by decide +kernel
theorem dXL_law_272 : decode code 272 = .ok (.istore 6, 2) := by decide +kernel
theorem dXL_law_274 : decode code 274 = .ok (.aload_n 2, 1) := by decide +kernel
theorem dXL_law_275 : decode code 275 = .ok (.invokevirtual 76, 3) := by decide +kernel
theorem dXL_law_278 : decode code 278 = .ok (.iload 5, 2) := by decide +kernel
theorem dXL_law_280 : decode code 280 = .ok (.if_icmp .eq 5, 3) := by decide +kernel
theorem dXL_law_283 : decode code 283 = .ok (.iconst 0, 1) := by decide +kernel
theorem dXL_law_284 : decode code 284 = .ok (.ireturn, 1) := by decide +kernel
theorem dXL_law_285 : decode code 285 = .ok (.iload 5, 2) := by decide +kernel
theorem dXL_law_287 : decode code 287 = .ok (.ifCond .ne 15, 3) := by decide +kernel
theorem dXL_law_290 : decode code 290 = .ok (.aload_n 3, 1) := by decide +kernel
theorem dXL_law_291 : decode code 291 = .ok (.iconst 0, 1) := by decide +kernel
theorem dXL_law_292 : decode code 292 = .ok (.laload, 1) := by decide +kernel
theorem dXL_law_293 : decode code 293 = .ok (.iload 6, 2) := by decide +kernel
theorem dXL_law_295 : decode code 295 = .ok (.i2l, 1) := by decide +kernel
theorem dXL_law_296 : decode code 296 = .ok (.lcmp, 1) := by decide +kernel
theorem dXL_law_297 : decode code 297 = .ok (.ifCond .eq 5, 3) := by decide +kernel
theorem dXL_law_300 : decode code 300 = .ok (.iconst 0, 1) := by decide +kernel
theorem dXL_law_301 : decode code 301 = .ok (.ireturn, 1) := by decide +kernel
theorem dXL_law_302 : decode code 302 = .ok (.goto 735, 3) := by decide +kernel
theorem dXL_law_305 : decode code 305 = .ok (.aload_n 1, 1) := by decide +kernel
theorem dXL_law_306 : decode code 306 = .ok (.aload_n 0, 1) := by decide +kernel
theorem dXL_law_307 : decode code 307 = .ok (.iload 4, 2) := by decide +kernel
theorem dXL_law_309 : decode code 309 = .ok (.iconst 1, 1) := by decide +kernel
theorem dXL_law_310 : decode code 310 = .ok (.iadd, 1) := by decide +kernel
theorem dXL_law_311 : decode code 311 = .ok (.iaload, 1) := by decide +kernel
theorem dXL_law_312 : decode code 312 = .ok (.aload_n 0, 1) := by decide +kernel
theorem dXL_law_313 : decode code 313 = .ok (.iload 4, 2) := by decide +kernel
theorem dXL_law_315 : decode code 315 = .ok (.iconst 2, 1) := by decide +kernel
theorem dXL_law_316 : decode code 316 = .ok (.iadd, 1) := by decide +kernel
theorem dXL_law_317 : decode code 317 = .ok (.iaload, 1) := by decide +kernel
theorem dXL_law_318 : decode code 318 = .ok (.aload_n 3, 1) := by decide +kernel
theorem dXL_law_319 : decode code 319 = .ok (.invokestatic 88, 3) := by decide +kernel
theorem dXL_law_322 : decode code 322 = .ok (.istore 5, 2) := by decide +kernel
theorem dXL_law_324 : decode code 324 = .ok (.aload_n 2, 1) := by decide +kernel
theorem dXL_law_325 : decode code 325 = .ok (.aload_n 0, 1) := by decide +kernel
theorem dXL_law_326 : decode code 326 = .ok (.iload 4, 2) := by decide +kernel
theorem dXL_law_328 : decode code 328 = .ok (.iconst 1, 1) := by decide +kernel
theorem dXL_law_329 : decode code 329 = .ok (.iadd, 1) := by decide +kernel
theorem dXL_law_330 : decode code 330 = .ok (.iaload, 1) := by decide +kernel
theorem dXL_law_331 : decode code 331 = .ok (.aload_n 0, 1) := by decide +kernel
theorem dXL_law_332 : decode code 332 = .ok (.iload 4, 2) := by decide +kernel
theorem dXL_law_334 : decode code 334 = .ok (.iconst 2, 1) := by decide +kernel
theorem dXL_law_335 : decode code 335 = .ok (.iadd, 1) := by decide +kernel
theorem dXL_law_336 : decode code 336 = .ok (.iaload, 1) := by decide +kernel
theorem dXL_law_337 : decode code 337 = .ok (.invokevirtual 91, 3) := by decide +kernel
theorem dXL_law_340 : decode code 340 = .ok (.istore 6, 2) := by decide +kernel
theorem dXL_law_342 : decode code 342 = .ok (.aload_n 2, 1) := by decide +kernel
theorem dXL_law_343 : decode code 343 = .ok (.invokevirtual 76, 3) := by decide +kernel
theorem dXL_law_346 : decode code 346 = .ok (.iload 5, 2) := by decide +kernel
theorem dXL_law_348 : decode code 348 = .ok (.if_icmp .eq 5, 3) := by decide +kernel
theorem dXL_law_351 : decode code 351 = .ok (.iconst 0, 1) := by decide +kernel
theorem dXL_law_352 : decode code 352 = .ok (.ireturn, 1) := by decide +kernel
theorem dXL_law_353 : decode code 353 = .ok (.iload 5, 2) := by decide +kernel
theorem dXL_law_355 : decode code 355 = .ok (.ifCond .ne 15, 3) := by decide +kernel
theorem dXL_law_358 : decode code 358 = .ok (.aload_n 3, 1) := by decide +kernel
theorem dXL_law_359 : decode code 359 = .ok (.iconst 0, 1) := by decide +kernel
theorem dXL_law_360 : decode code 360 = .ok (.laload, 1) := by decide +kernel
theorem dXL_law_361 : decode code 361 = .ok (.iload 6, 2) := by decide +kernel
theorem dXL_law_363 : decode code 363 = .ok (.i2l, 1) := by decide +kernel
theorem dXL_law_364 : decode code 364 = .ok (.lcmp, 1) := by decide +kernel
theorem dXL_law_365 : decode code 365 = .ok (.ifCond .eq 5, 3) := by decide +kernel
theorem dXL_law_368 : decode code 368 = .ok (.iconst 0, 1) := by decide +kernel
theorem dXL_law_369 : decode code 369 = .ok (.ireturn, 1) := by decide +kernel
theorem dXL_law_370 : decode code 370 = .ok (.goto 667, 3) := by decide +kernel
theorem dXL_law_373 : decode code 373 = .ok (.aload_n 1, 1) := by decide +kernel
theorem dXL_law_374 : decode code 374 = .ok (.aload_n 0, 1) := by decide +kernel
theorem dXL_law_375 : decode code 375 = .ok (.iload 4, 2) := by decide +kernel
theorem dXL_law_377 : decode code 377 = .ok (.iconst 1, 1) := by decide +kernel
theorem dXL_law_378 : decode code 378 = .ok (.iadd, 1) := by decide +kernel
theorem dXL_law_379 : decode code 379 = .ok (.iaload, 1) := by decide +kernel
theorem dXL_law_380 : decode code 380 = .ok (.aload_n 0, 1) := by decide +kernel
theorem dXL_law_381 : decode code 381 = .ok (.iload 4, 2) := by decide +kernel
theorem dXL_law_383 : decode code 383 = .ok (.iconst 2, 1) := by decide +kernel
theorem dXL_law_384 : decode code 384 = .ok (.iadd, 1) := by decide +kernel
theorem dXL_law_385 : decode code 385 = .ok (.iaload, 1) := by decide +kernel
theorem dXL_law_386 : decode code 386 = .ok (.aload_n 0, 1) := by decide +kernel
theorem dXL_law_387 : decode code 387 = .ok (.iload 4, 2) := by decide +kernel
theorem dXL_law_389 : decode code 389 = .ok (.iconst 3, 1) := by decide +kernel
theorem dXL_law_390 : decode code 390 = .ok (.iadd, 1) := by decide +kernel
theorem dXL_law_391 : decode code 391 = .ok (.iaload, 1) := by decide +kernel
theorem dXL_law_392 : decode code 392 = .ok (.aload_n 0, 1) := by decide +kernel
theorem dXL_law_393 : decode code 393 = .ok (.iload 4, 2) := by decide +kernel
theorem dXL_law_395 : decode code 395 = .ok (.iconst 4, 1) := by decide +kernel
theorem dXL_law_396 : decode code 396 = .ok (.iadd, 1) := by decide +kernel
theorem dXL_law_397 : decode code 397 = .ok (.iaload, 1) := by decide +kernel
theorem dXL_law_398 : decode code 398 = .ok (.aload_n 3, 1) := by decide +kernel
theorem dXL_law_399 : decode code 399 = .ok (.invokestatic 92, 3) := by decide +kernel
theorem dXL_law_402 : decode code 402 = .ok (.istore 5, 2) := by decide +kernel
theorem dXL_law_404 : decode code 404 = .ok (.aload_n 2, 1) := by decide +kernel
theorem dXL_law_405 : decode code 405 = .ok (.aload_n 0, 1) := by decide +kernel
theorem dXL_law_406 : decode code 406 = .ok (.iload 4, 2) := by decide +kernel
theorem dXL_law_408 : decode code 408 = .ok (.iconst 1, 1) := by decide +kernel
theorem dXL_law_409 : decode code 409 = .ok (.iadd, 1) := by decide +kernel
theorem dXL_law_410 : decode code 410 = .ok (.iaload, 1) := by decide +kernel
theorem dXL_law_411 : decode code 411 = .ok (.aload_n 0, 1) := by decide +kernel
theorem dXL_law_412 : decode code 412 = .ok (.iload 4, 2) := by decide +kernel
theorem dXL_law_414 : decode code 414 = .ok (.iconst 2, 1) := by decide +kernel
theorem dXL_law_415 : decode code 415 = .ok (.iadd, 1) := by decide +kernel
theorem dXL_law_416 : decode code 416 = .ok (.iaload, 1) := by decide +kernel
theorem dXL_law_417 : decode code 417 = .ok (.aload_n 0, 1) := by decide +kernel
theorem dXL_law_418 : decode code 418 = .ok (.iload 4, 2) := by decide +kernel
theorem dXL_law_420 : decode code 420 = .ok (.iconst 3, 1) := by decide +kernel
theorem dXL_law_421 : decode code 421 = .ok (.iadd, 1) := by decide +kernel
