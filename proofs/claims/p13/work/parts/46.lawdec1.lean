theorem dXL_law_244 : decode code 244 = .ok (.istore 6, 2) := by decide +kernel
theorem dXL_law_246 : decode code 246 = .ok (.goto 467, 3) := by decide +kernel
theorem dXL_law_249 : decode code 249 = .ok (.aload_n 1, 1) := by decide +kernel
theorem dXL_law_250 : decode code 250 = .ok (.aload_n 0, 1) := by decide +kernel
theorem dXL_law_251 : decode code 251 = .ok (.iload 4, 2) := by decide +kernel
theorem dXL_law_253 : decode code 253 = .ok (.iconst 1, 1) := by decide +kernel
theorem dXL_law_254 : decode code 254 = .ok (.iadd, 1) := by decide +kernel
theorem dXL_law_255 : decode code 255 = .ok (.iaload, 1) := by decide +kernel
theorem dXL_law_256 : decode code 256 = .ok (.aload_n 0, 1) := by decide +kernel
theorem dXL_law_257 : decode code 257 = .ok (.iload 4, 2) := by decide +kernel
theorem dXL_law_259 : decode code 259 = .ok (.iconst 2, 1) := by decide +kernel
theorem dXL_law_260 : decode code 260 = .ok (.iadd, 1) := by decide +kernel
theorem dXL_law_261 : decode code 261 = .ok (.iaload, 1) := by decide +kernel
theorem dXL_law_262 : decode code 262 = .ok (.aload_n 3, 1) := by decide +kernel
theorem dXL_law_263 : decode code 263 = .ok (.invokestatic 85, 3) := by decide +kernel
theorem dXL_law_266 : decode code 266 = .ok (.istore 5, 2) := by decide +kernel
theorem dXL_law_268 : decode code 268 = .ok (.aload_n 2, 1) := by decide +kernel
theorem dXL_law_269 : decode code 269 = .ok (.aload_n 0, 1) := by decide +kernel
theorem dXL_law_270 : decode code 270 = .ok (.iload 4, 2) := by decide +kernel
theorem dXL_law_272 : decode code 272 = .ok (.iconst 1, 1) := by decide +kernel
theorem dXL_law_273 : decode code 273 = .ok (.iadd, 1) := by decide +kernel
theorem dXL_law_274 : decode code 274 = .ok (.iaload, 1) := by decide +kernel
theorem dXL_law_275 : decode code 275 = .ok (.aload_n 0, 1) := by decide +kernel
theorem dXL_law_276 : decode code 276 = .ok (.iload 4, 2) := by decide +kernel
theorem dXL_law_278 : decode code 278 = .ok (.iconst 2, 1) := by decide +kernel
theorem dXL_law_279 : decode code 279 = .ok (.iadd, 1) := by decide +kernel
theorem dXL_law_280 : decode code 280 = .ok (.iaload, 1) := by decide +kernel
theorem dXL_law_281 : decode code 281 = .ok (.invokevirtual 88, 3) := by decide +kernel
theorem dXL_law_284 : decode code 284 = .ok (.istore 6, 2) := by decide +kernel
theorem dXL_law_286 : decode code 286 = .ok (.goto 427, 3) := by decide +kernel
theorem dXL_law_289 : decode code 289 = .ok (.aload_n 1, 1) := by decide +kernel
theorem dXL_law_290 : decode code 290 = .ok (.aload_n 0, 1) := by decide +kernel
theorem dXL_law_291 : decode code 291 = .ok (.iload 4, 2) := by decide +kernel
theorem dXL_law_293 : decode code 293 = .ok (.iconst 1, 1) := by decide +kernel
theorem dXL_law_294 : decode code 294 = .ok (.iadd, 1) := by decide +kernel
theorem dXL_law_295 : decode code 295 = .ok (.iaload, 1) := by decide +kernel
theorem dXL_law_296 : decode code 296 = .ok (.aload_n 0, 1) := by decide +kernel
theorem dXL_law_297 : decode code 297 = .ok (.iload 4, 2) := by decide +kernel
theorem dXL_law_299 : decode code 299 = .ok (.iconst 2, 1) := by decide +kernel
theorem dXL_law_300 : decode code 300 = .ok (.iadd, 1) := by decide +kernel
theorem dXL_law_301 : decode code 301 = .ok (.iaload, 1) := by decide +kernel
theorem dXL_law_302 : decode code 302 = .ok (.aload_n 0, 1) := by decide +kernel
theorem dXL_law_303 : decode code 303 = .ok (.iload 4, 2) := by decide +kernel
theorem dXL_law_305 : decode code 305 = .ok (.iconst 3, 1) := by decide +kernel
theorem dXL_law_306 : decode code 306 = .ok (.iadd, 1) := by decide +kernel
theorem dXL_law_307 : decode code 307 = .ok (.iaload, 1) := by decide +kernel
theorem dXL_law_308 : decode code 308 = .ok (.aload_n 0, 1) := by decide +kernel
theorem dXL_law_309 : decode code 309 = .ok (.iload 4, 2) := by decide +kernel
theorem dXL_law_311 : decode code 311 = .ok (.iconst 4, 1) := by decide +kernel
theorem dXL_law_312 : decode code 312 = .ok (.iadd, 1) := by decide +kernel
theorem dXL_law_313 : decode code 313 = .ok (.iaload, 1) := by decide +kernel
theorem dXL_law_314 : decode code 314 = .ok (.aload_n 3, 1) := by decide +kernel
theorem dXL_law_315 : decode code 315 = .ok (.invokestatic 89, 3) := by decide +kernel
theorem dXL_law_318 : decode code 318 = .ok (.istore 5, 2) := by decide +kernel
theorem dXL_law_320 : decode code 320 = .ok (.aload_n 2, 1) := by decide +kernel
theorem dXL_law_321 : decode code 321 = .ok (.aload_n 0, 1) := by decide +kernel
theorem dXL_law_322 : decode code 322 = .ok (.iload 4, 2) := by decide +kernel
theorem dXL_law_324 : decode code 324 = .ok (.iconst 1, 1) := by decide +kernel
theorem dXL_law_325 : decode code 325 = .ok (.iadd, 1) := by decide +kernel
theorem dXL_law_326 : decode code 326 = .ok (.iaload, 1) := by decide +kernel
theorem dXL_law_327 : decode code 327 = .ok (.aload_n 0, 1) := by decide +kernel
theorem dXL_law_328 : decode code 328 = .ok (.iload 4, 2) := by decide +kernel
theorem dXL_law_330 : decode code 330 = .ok (.iconst 2, 1) := by decide +kernel
theorem dXL_law_331 : decode code 331 = .ok (.iadd, 1) := by decide +kernel
theorem dXL_law_332 : decode code 332 = .ok (.iaload, 1) := by decide +kernel
theorem dXL_law_333 : decode code 333 = .ok (.aload_n 0, 1) := by decide +kernel
theorem dXL_law_334 : decode code 334 = .ok (.iload 4, 2) := by decide +kernel
theorem dXL_law_336 : decode code 336 = .ok (.iconst 3, 1) := by decide +kernel
theorem dXL_law_337 : decode code 337 = .ok (.iadd, 1) := by decide +kernel
theorem dXL_law_338 : decode code 338 = .ok (.iaload, 1) := by decide +kernel
theorem dXL_law_339 : decode code 339 = .ok (.aload_n 0, 1) := by decide +kernel
theorem dXL_law_340 : decode code 340 = .ok (.iload 4, 2) := by decide +kernel
theorem dXL_law_342 : decode code 342 = .ok (.iconst 4, 1) := by decide +kernel
theorem dXL_law_343 : decode code 343 = .ok (.iadd, 1) := by decide +kernel
theorem dXL_law_344 : decode code 344 = .ok (.iaload, 1) := by decide +kernel
theorem dXL_law_345 : decode code 345 = .ok (.invokevirtual 92, 3) := by decide +kernel
theorem dXL_law_348 : decode code 348 = .ok (.lstore 6, 2) := by decide +kernel
theorem dXL_law_350 : decode code 350 = .ok (.goto 363, 3) := by decide +kernel
theorem dXL_law_353 : decode code 353 = .ok (.aload_n 1, 1) := by decide +kernel
theorem dXL_law_354 : decode code 354 = .ok (.aload_n 0, 1) := by decide +kernel
theorem dXL_law_355 : decode code 355 = .ok (.iload 4, 2) := by decide +kernel
theorem dXL_law_357 : decode code 357 = .ok (.iconst 1, 1) := by decide +kernel
theorem dXL_law_358 : decode code 358 = .ok (.iadd, 1) := by decide +kernel
theorem dXL_law_359 : decode code 359 = .ok (.iaload, 1) := by decide +kernel
theorem dXL_law_360 : decode code 360 = .ok (.aload_n 0, 1) := by decide +kernel
theorem dXL_law_361 : decode code 361 = .ok (.iload 4, 2) := by decide +kernel
theorem dXL_law_363 : decode code 363 = .ok (.iconst 2, 1) := by decide +kernel
theorem dXL_law_364 : decode code 364 = .ok (.iadd, 1) := by decide +kernel
theorem dXL_law_365 : decode code 365 = .ok (.iaload, 1) := by decide +kernel
theorem dXL_law_366 : decode code 366 = .ok (.invokestatic 93, 3) := by decide +kernel
theorem dXL_law_369 : decode code 369 = .ok (.istore 5, 2) := by decide +kernel
theorem dXL_law_371 : decode code 371 = .ok (.aload_n 2, 1) := by decide +kernel
theorem dXL_law_372 : decode code 372 = .ok (.aload_n 0, 1) := by decide +kernel
theorem dXL_law_373 : decode code 373 = .ok (.iload 4, 2) := by decide +kernel
theorem dXL_law_375 : decode code 375 = .ok (.iconst 1, 1) := by decide +kernel
theorem dXL_law_376 : decode code 376 = .ok (.iadd, 1) := by decide +kernel
theorem dXL_law_377 : decode code 377 = .ok (.iaload, 1) := by decide +kernel
theorem dXL_law_378 : decode code 378 = .ok (.aload_n 0, 1) := by decide +kernel
theorem dXL_law_379 : decode code 379 = .ok (.iload 4, 2) := by decide +kernel
theorem dXL_law_381 : decode code 381 = .ok (.iconst 2, 1) := by decide +kernel
theorem dXL_law_382 : decode code 382 = .ok (.iadd, 1) := by decide +kernel
theorem dXL_law_383 : decode code 383 = .ok (.iaload, 1) := by decide +kernel
theorem dXL_law_384 : decode code 384 = .ok (.invokevirtual 96, 3) := by decide +kernel
theorem dXL_law_387 : decode code 387 = .ok (.goto 326, 3) := by decide +kernel
theorem dXL_law_390 : decode code 390 = .ok (.aload_n 1, 1) := by decide +kernel
theorem dXL_law_391 : decode code 391 = .ok (.aload_n 0, 1) := by decide +kernel
theorem dXL_law_392 : decode code 392 = .ok (.iload 4, 2) := by decide +kernel
theorem dXL_law_394 : decode code 394 = .ok (.iconst 1, 1) := by decide +kernel
theorem dXL_law_395 : decode code 395 = .ok (.iadd, 1) := by decide +kernel
theorem dXL_law_396 : decode code 396 = .ok (.iaload, 1) := by decide +kernel
theorem dXL_law_397 : decode code 397 = .ok (.aload_n 0, 1) := by decide +kernel
theorem dXL_law_398 : decode code 398 = .ok (.iload 4, 2) := by decide +kernel
theorem dXL_law_400 : decode code 400 = .ok (.iconst 2, 1) := by decide +kernel
theorem dXL_law_401 : decode code 401 = .ok (.iadd, 1) := by decide +kernel
theorem dXL_law_402 : decode code 402 = .ok (.iaload, 1) := by decide +kernel
theorem dXL_law_403 : decode code 403 = .ok (.aload_n 3, 1) := by decide +kernel
theorem dXL_law_404 : decode code 404 = .ok (.invokestatic 97, 3) := by decide +kernel
theorem dXL_law_407 : decode code 407 = .ok (.istore 5, 2) := by decide +kernel
theorem dXL_law_409 : decode code 409 = .ok (.aload_n 2, 1) := by decide +kernel
theorem dXL_law_410 : decode code 410 = .ok (.aload_n 0, 1) := by decide +kernel

