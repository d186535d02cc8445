theorem dXL_law_244 : decode code 244 = .ok (.istore 6, 2) := by decide +kernel
theorem dXL_law_246 : decode code 246 = .ok (.aload_n 2, 1) := by decide +kernel
theorem dXL_law_247 : decode code 247 = .ok (.invokevirtual 85, 3) := by decide +kernel
theorem dXL_law_250 : decode code 250 = .ok (.iload 5, 2) := by decide +kernel
theorem dXL_law_252 : decode code 252 = .ok (.if_icmp .eq 5, 3) := by decide +kernel
theorem dXL_law_257 : decode code 257 = .ok (.iload 5, 2) := by decide +kernel
theorem dXL_law_259 : decode code 259 = .ok (.ifCond .ne 15, 3) := by decide +kernel
theorem dXL_law_262 : decode code 262 = .ok (.aload_n 3, 1) := by decide +kernel
theorem dXL_law_263 : decode code 263 = .ok (.iconst 0, 1) := by decide +kernel
theorem dXL_law_264 : decode code 264 = .ok (.laload, 1) := by decide +kernel
theorem dXL_law_265 : decode code 265 = .ok (.iload 6, 2) := by decide +kernel
theorem dXL_law_267 : decode code 267 = .ok (.i2l, 1) := by decide +kernel
theorem dXL_law_268 : decode code 268 = .ok (.lcmp, 1) := by decide +kernel
theorem dXL_law_269 : decode code 269 = .ok (.ifCond .eq 5, 3) := by decide +kernel
theorem dXL_law_274 : decode code 274 = .ok (.goto 439, 3) := by decide +kernel
theorem dXL_law_277 : decode code 277 = .ok (.aload_n 1, 1) := by decide +kernel
theorem dXL_law_278 : decode code 278 = .ok (.aload_n 0, 1) := by decide +kernel
theorem dXL_law_279 : decode code 279 = .ok (.iload 4, 2) := by decide +kernel
theorem dXL_law_281 : decode code 281 = .ok (.iconst 1, 1) := by decide +kernel
theorem dXL_law_282 : decode code 282 = .ok (.iadd, 1) := by decide +kernel
theorem dXL_law_283 : decode code 283 = .ok (.iaload, 1) := by decide +kernel
theorem dXL_law_284 : decode code 284 = .ok (.aload_n 0, 1) := by decide +kernel
theorem dXL_law_285 : decode code 285 = .ok (.iload 4, 2) := by decide +kernel
theorem dXL_law_287 : decode code 287 = .ok (.iconst 2, 1) := by decide +kernel
theorem dXL_law_288 : decode code 288 = .ok (.iadd, 1) := by decide +kernel
theorem dXL_law_289 : decode code 289 = .ok (.iaload, 1) := by decide +kernel
theorem dXL_law_290 : decode code 290 = .ok (.aload_n 3, 1) := by decide +kernel
theorem dXL_law_291 : decode code 291 = .ok (.invokestatic 88, 3) := by decide +kernel
theorem dXL_law_294 : decode code 294 = .ok (.istore 5, 2) := by decide +kernel
theorem dXL_law_296 : decode code 296 = .ok (.aload_n 2, 1) := by decide +kernel
theorem dXL_law_297 : decode code 297 = .ok (.aload_n 0, 1) := by decide +kernel
theorem dXL_law_298 : decode code 298 = .ok (.iload 4, 2) := by decide +kernel
theorem dXL_law_300 : decode code 300 = .ok (.iconst 1, 1) := by decide +kernel
theorem dXL_law_301 : decode code 301 = .ok (.iadd, 1) := by decide +kernel
theorem dXL_law_302 : decode code 302 = .ok (.iaload, 1) := by decide +kernel
theorem dXL_law_303 : decode code 303 = .ok (.aload_n 0, 1) := by decide +kernel
theorem dXL_law_304 : decode code 304 = .ok (.iload 4, 2) := by decide +kernel
theorem dXL_law_306 : decode code 306 = .ok (.iconst 2, 1) := by decide +kernel
theorem dXL_law_307 : decode code 307 = .ok (.iadd, 1) := by decide +kernel
theorem dXL_law_308 : decode code 308 = .ok (.iaload, 1) := by decide +kernel
theorem dXL_law_309 : decode code 309 = .ok (.invokevirtual 91, 3) := by decide +kernel
theorem dXL_law_312 : decode code 312 = .ok (.istore 6, 2) := by decide +kernel
theorem dXL_law_314 : decode code 314 = .ok (.goto 399, 3) := by decide +kernel
theorem dXL_law_317 : decode code 317 = .ok (.aload_n 1, 1) := by decide +kernel
theorem dXL_law_318 : decode code 318 = .ok (.aload_n 0, 1) := by decide +kernel
theorem dXL_law_319 : decode code 319 = .ok (.iload 4, 2) := by decide +kernel
theorem dXL_law_321 : decode code 321 = .ok (.iconst 1, 1) := by decide +kernel
theorem dXL_law_322 : decode code 322 = .ok (.iadd, 1) := by decide +kernel
theorem dXL_law_323 : decode code 323 = .ok (.iaload, 1) := by decide +kernel
theorem dXL_law_324 : decode code 324 = .ok (.aload_n 0, 1) := by decide +kernel
theorem dXL_law_325 : decode code 325 = .ok (.iload 4, 2) := by decide +kernel
theorem dXL_law_327 : decode code 327 = .ok (.iconst 2, 1) := by decide +kernel
theorem dXL_law_328 : decode code 328 = .ok (.iadd, 1) := by decide +kernel
theorem dXL_law_329 : decode code 329 = .ok (.iaload, 1) := by decide +kernel
theorem dXL_law_330 : decode code 330 = .ok (.aload_n 0, 1) := by decide +kernel
theorem dXL_law_331 : decode code 331 = .ok (.iload 4, 2) := by decide +kernel
theorem dXL_law_333 : decode code 333 = .ok (.iconst 3, 1) := by decide +kernel
theorem dXL_law_334 : decode code 334 = .ok (.iadd, 1) := by decide +kernel
theorem dXL_law_335 : decode code 335 = .ok (.iaload, 1) := by decide +kernel
theorem dXL_law_336 : decode code 336 = .ok (.aload_n 0, 1) := by decide +kernel
theorem dXL_law_337 : decode code 337 = .ok (.iload 4, 2) := by decide +kernel
theorem dXL_law_339 : decode code 339 = .ok (.iconst 4, 1) := by decide +kernel
theorem dXL_law_340 : decode code 340 = .ok (.iadd, 1) := by decide +kernel
theorem dXL_law_341 : decode code 341 = .ok (.iaload, 1) := by decide +kernel
theorem dXL_law_342 : decode code 342 = .ok (.aload_n 3, 1) := by decide +kernel
theorem dXL_law_343 : decode code 343 = .ok (.invokestatic 92, 3) := by decide +kernel
theorem dXL_law_346 : decode code 346 = .ok (.istore 5, 2) := by decide +kernel
theorem dXL_law_348 : decode code 348 = .ok (.aload_n 2, 1) := by decide +kernel
theorem dXL_law_349 : decode code 349 = .ok (.aload_n 0, 1) := by decide +kernel
theorem dXL_law_350 : decode code 350 = .ok (.iload 4, 2) := by decide +kernel
theorem dXL_law_352 : decode code 352 = .ok (.iconst 1, 1) := by decide +kernel
theorem dXL_law_353 : decode code 353 = .ok (.iadd, 1) := by decide +kernel
theorem dXL_law_354 : decode code 354 = .ok (.iaload, 1) := by decide +kernel
theorem dXL_law_355 : decode code 355 = .ok (.aload_n 0, 1) := by decide +kernel
theorem dXL_law_356 : decode code 356 = .ok (.iload 4, 2) := by decide +kernel
theorem dXL_law_358 : decode code 358 = .ok (.iconst 2, 1) := by decide +kernel
theorem dXL_law_359 : decode code 359 = .ok (.iadd, 1) := by decide +kernel
theorem dXL_law_360 : decode code 360 = .ok (.iaload, 1) := by decide +kernel
theorem dXL_law_361 : decode code 361 = .ok (.aload_n 0, 1) := by decide +kernel
theorem dXL_law_362 : decode code 362 = .ok (.iload 4, 2) := by decide +kernel
theorem dXL_law_364 : decode code 364 = .ok (.iconst 3, 1) := by decide +kernel
theorem dXL_law_365 : decode code 365 = .ok (.iadd, 1) := by decide +kernel
theorem dXL_law_366 : decode code 366 = .ok (.iaload, 1) := by decide +kernel
theorem dXL_law_367 : decode code 367 = .ok (.aload_n 0, 1) := by decide +kernel
theorem dXL_law_368 : decode code 368 = .ok (.iload 4, 2) := by decide +kernel
theorem dXL_law_370 : decode code 370 = .ok (.iconst 4, 1) := by decide +kernel
theorem dXL_law_371 : decode code 371 = .ok (.iadd, 1) := by decide +kernel
theorem dXL_law_372 : decode code 372 = .ok (.iaload, 1) := by decide +kernel
theorem dXL_law_373 : decode code 373 = .ok (.invokevirtual 95, 3) := by decide +kernel
theorem dXL_law_376 : decode code 376 = .ok (.lstore 6, 2) := by decide +kernel
theorem dXL_law_378 : decode code 378 = .ok (.goto 335, 3) := by decide +kernel
theorem dXL_law_381 : decode code 381 = .ok (.aload_n 1, 1) := by decide +kernel
theorem dXL_law_382 : decode code 382 = .ok (.aload_n 0, 1) := by decide +kernel
theorem dXL_law_383 : decode code 383 = .ok (.iload 4, 2) := by decide +kernel
theorem dXL_law_385 : decode code 385 = .ok (.iconst 1, 1) := by decide +kernel
theorem dXL_law_386 : decode code 386 = .ok (.iadd, 1) := by decide +kernel
theorem dXL_law_387 : decode code 387 = .ok (.iaload, 1) := by decide +kernel
theorem dXL_law_388 : decode code 388 = .ok (.aload_n 0, 1) := by decide +kernel
theorem dXL_law_389 : decode code 389 = .ok (.iload 4, 2) := by decide +kernel
theorem dXL_law_391 : decode code 391 = .ok (.iconst 2, 1) := by decide +kernel
theorem dXL_law_392 : decode code 392 = .ok (.iadd, 1) := by decide +kernel
theorem dXL_law_393 : decode code 393 = .ok (.iaload, 1) := by decide +kernel
theorem dXL_law_394 : decode code 394 = .ok (.invokestatic 96, 3) := by decide +kernel
theorem dXL_law_397 : decode code 397 = .ok (.istore 5, 2) := by decide +kernel
theorem dXL_law_399 : decode code 399 = .ok (.aload_n 2, 1) := by decide +kernel
theorem dXL_law_400 : decode code 400 = .ok (.aload_n 0, 1) := by decide +kernel
theorem dXL_law_401 : decode code 401 = .ok (.iload 4, 2) := by decide +kernel
theorem dXL_law_403 : decode code 403 = .ok (.iconst 1, 1) := by decide +kernel
theorem dXL_law_404 : decode code 404 = .ok (.iadd, 1) := by decide +kernel
theorem dXL_law_405 : decode code 405 = .ok (.iaload, 1) := by decide +kernel
theorem dXL_law_406 : decode code 406 = .ok (.aload_n 0, 1) := by decide +kernel
theorem dXL_law_407 : decode code 407 = .ok (.iload 4, 2) := by decide +kernel
theorem dXL_law_409 : decode code 409 = .ok (.iconst 2, 1) := by decide +kernel
theorem dXL_law_410 : decode code 410 = .ok (.iadd, 1) := by decide +kernel
theorem dXL_law_411 : decode code 411 = .ok (.iaload, 1) := by decide +kernel
theorem dXL_law_412 : decode code 412 = .ok (.invokevirtual 99, 3) := by decide +kernel

