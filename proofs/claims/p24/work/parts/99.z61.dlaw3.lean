theorem dl_312 : decode code 312 = .ok (.iload_n 3, 1) := by decide +kernel
theorem dl_313 : decode code 313 = .ok (.iconst 1, 1) := by decide +kernel
theorem dl_314 : decode code 314 = .ok (.iadd, 1) := by decide +kernel
theorem dl_315 : decode code 315 = .ok (.iaload, 1) := by decide +kernel
theorem dl_316 : decode code 316 = .ok (.aload_n 0, 1) := by decide +kernel
theorem dl_317 : decode code 317 = .ok (.iload_n 3, 1) := by decide +kernel
theorem dl_318 : decode code 318 = .ok (.iconst 2, 1) := by decide +kernel
theorem dl_319 : decode code 319 = .ok (.iadd, 1) := by decide +kernel
theorem dl_320 : decode code 320 = .ok (.iaload, 1) := by decide +kernel
theorem dl_321 : decode code 321 = .ok (.invokevirtual 41, 3) := by decide +kernel
theorem dl_324 : decode code 324 = .ok (.pop, 1) := by decide +kernel
theorem dl_325 : decode code 325 = .ok (.goto 394, 3) := by decide +kernel
theorem dl_328 : decode code 328 = .ok (.aload_n 1, 1) := by decide +kernel
theorem dl_329 : decode code 329 = .ok (.aload_n 0, 1) := by decide +kernel
theorem dl_330 : decode code 330 = .ok (.iload_n 3, 1) := by decide +kernel
theorem dl_331 : decode code 331 = .ok (.iconst 1, 1) := by decide +kernel
theorem dl_332 : decode code 332 = .ok (.iadd, 1) := by decide +kernel
theorem dl_333 : decode code 333 = .ok (.iaload, 1) := by decide +kernel
theorem dl_334 : decode code 334 = .ok (.aload_n 0, 1) := by decide +kernel
theorem dl_335 : decode code 335 = .ok (.iload_n 3, 1) := by decide +kernel
theorem dl_336 : decode code 336 = .ok (.iconst 2, 1) := by decide +kernel
theorem dl_337 : decode code 337 = .ok (.iadd, 1) := by decide +kernel
theorem dl_338 : decode code 338 = .ok (.iaload, 1) := by decide +kernel
theorem dl_339 : decode code 339 = .ok (.invokevirtual 42, 3) := by decide +kernel
theorem dl_342 : decode code 342 = .ok (.pop, 1) := by decide +kernel
theorem dl_343 : decode code 343 = .ok (.aload_n 2, 1) := by decide +kernel
theorem dl_344 : decode code 344 = .ok (.aload_n 0, 1) := by decide +kernel
theorem dl_345 : decode code 345 = .ok (.iload_n 3, 1) := by decide +kernel
theorem dl_346 : decode code 346 = .ok (.iconst 1, 1) := by decide +kernel
theorem dl_347 : decode code 347 = .ok (.iadd, 1) := by decide +kernel
theorem dl_348 : decode code 348 = .ok (.iaload, 1) := by decide +kernel
theorem dl_349 : decode code 349 = .ok (.aload_n 0, 1) := by decide +kernel
theorem dl_350 : decode code 350 = .ok (.iload_n 3, 1) := by decide +kernel
theorem dl_351 : decode code 351 = .ok (.iconst 2, 1) := by decide +kernel
theorem dl_352 : decode code 352 = .ok (.iadd, 1) := by decide +kernel
theorem dl_353 : decode code 353 = .ok (.iaload, 1) := by decide +kernel
theorem dl_354 : decode code 354 = .ok (.invokevirtual 45, 3) := by decide +kernel
theorem dl_357 : decode code 357 = .ok (.pop, 1) := by decide +kernel
theorem dl_358 : decode code 358 = .ok (.goto 361, 3) := by decide +kernel
theorem dl_361 : decode code 361 = .ok (.aload_n 1, 1) := by decide +kernel
theorem dl_362 : decode code 362 = .ok (.aload_n 0, 1) := by decide +kernel
theorem dl_363 : decode code 363 = .ok (.iload_n 3, 1) := by decide +kernel
theorem dl_364 : decode code 364 = .ok (.iconst 1, 1) := by decide +kernel
theorem dl_365 : decode code 365 = .ok (.iadd, 1) := by decide +kernel
theorem dl_366 : decode code 366 = .ok (.iaload, 1) := by decide +kernel
theorem dl_367 : decode code 367 = .ok (.aload_n 0, 1) := by decide +kernel
theorem dl_368 : decode code 368 = .ok (.iload_n 3, 1) := by decide +kernel
theorem dl_369 : decode code 369 = .ok (.iconst 2, 1) := by decide +kernel
theorem dl_370 : decode code 370 = .ok (.iadd, 1) := by decide +kernel
theorem dl_371 : decode code 371 = .ok (.iaload, 1) := by decide +kernel
theorem dl_372 : decode code 372 = .ok (.invokevirtual 46, 3) := by decide +kernel
theorem dl_375 : decode code 375 = .ok (.pop, 1) := by decide +kernel
