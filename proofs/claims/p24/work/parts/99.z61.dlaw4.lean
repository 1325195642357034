theorem dl_376 : decode code 376 = .ok (.aload_n 2, 1) := by decide +kernel
theorem dl_377 : decode code 377 = .ok (.aload_n 0, 1) := by decide +kernel
theorem dl_378 : decode code 378 = .ok (.iload_n 3, 1) := by decide +kernel
theorem dl_379 : decode code 379 = .ok (.iconst 1, 1) := by decide +kernel
theorem dl_380 : decode code 380 = .ok (.iadd, 1) := by decide +kernel
theorem dl_381 : decode code 381 = .ok (.iaload, 1) := by decide +kernel
theorem dl_382 : decode code 382 = .ok (.aload_n 0, 1) := by decide +kernel
theorem dl_383 : decode code 383 = .ok (.iload_n 3, 1) := by decide +kernel
theorem dl_384 : decode code 384 = .ok (.iconst 2, 1) := by decide +kernel
theorem dl_385 : decode code 385 = .ok (.iadd, 1) := by decide +kernel
theorem dl_386 : decode code 386 = .ok (.iaload, 1) := by decide +kernel
theorem dl_387 : decode code 387 = .ok (.invokevirtual 49, 3) := by decide +kernel
theorem dl_390 : decode code 390 = .ok (.pop, 1) := by decide +kernel
theorem dl_391 : decode code 391 = .ok (.goto 328, 3) := by decide +kernel
theorem dl_394 : decode code 394 = .ok (.aload_n 1, 1) := by decide +kernel
theorem dl_395 : decode code 395 = .ok (.aload_n 0, 1) := by decide +kernel
theorem dl_396 : decode code 396 = .ok (.iload_n 3, 1) := by decide +kernel
theorem dl_397 : decode code 397 = .ok (.iconst 1, 1) := by decide +kernel
theorem dl_398 : decode code 398 = .ok (.iadd, 1) := by decide +kernel
theorem dl_399 : decode code 399 = .ok (.iaload, 1) := by decide +kernel
theorem dl_400 : decode code 400 = .ok (.aload_n 0, 1) := by decide +kernel
theorem dl_401 : decode code 401 = .ok (.iload_n 3, 1) := by decide +kernel
theorem dl_402 : decode code 402 = .ok (.iconst 2, 1) := by decide +kernel
theorem dl_403 : decode code 403 = .ok (.iadd, 1) := by decide +kernel
theorem dl_404 : decode code 404 = .ok (.iaload, 1) := by decide +kernel
theorem dl_405 : decode code 405 = .ok (.invokevirtual 50, 3) := by decide +kernel
theorem dl_408 : decode code 408 = .ok (.pop, 1) := by decide +kernel
theorem dl_409 : decode code 409 = .ok (.aload_n 2, 1) := by decide +kernel
theorem dl_410 : decode code 410 = .ok (.aload_n 0, 1) := by decide +kernel
theorem dl_411 : decode code 411 = .ok (.iload_n 3, 1) := by decide +kernel
theorem dl_412 : decode code 412 = .ok (.iconst 1, 1) := by decide +kernel
theorem dl_413 : decode code 413 = .ok (.iadd, 1) := by decide +kernel
theorem dl_414 : decode code 414 = .ok (.iaload, 1) := by decide +kernel
theorem dl_415 : decode code 415 = .ok (.aload_n 0, 1) := by decide +kernel
theorem dl_416 : decode code 416 = .ok (.iload_n 3, 1) := by decide +kernel
theorem dl_417 : decode code 417 = .ok (.iconst 2, 1) := by decide +kernel
theorem dl_418 : decode code 418 = .ok (.iadd, 1) := by decide +kernel
theorem dl_419 : decode code 419 = .ok (.iaload, 1) := by decide +kernel
theorem dl_420 : decode code 420 = .ok (.invokevirtual 53, 3) := by decide +kernel
theorem dl_423 : decode code 423 = .ok (.pop, 1) := by decide +kernel
theorem dl_424 : decode code 424 = .ok (.goto 295, 3) := by decide +kernel
theorem dl_427 : decode code 427 = .ok (.aload_n 1, 1) := by decide +kernel
theorem dl_428 : decode code 428 = .ok (.aload_n 0, 1) := by decide +kernel
theorem dl_429 : decode code 429 = .ok (.iload_n 3, 1) := by decide +kernel
theorem dl_430 : decode code 430 = .ok (.iconst 1, 1) := by decide +kernel
theorem dl_431 : decode code 431 = .ok (.iadd, 1) := by decide +kernel
theorem dl_432 : decode code 432 = .ok (.iaload, 1) := by decide +kernel
theorem dl_433 : decode code 433 = .ok (.invokevirtual 54, 3) := by decide +kernel
theorem dl_436 : decode code 436 = .ok (.pop, 1) := by decide +kernel
theorem dl_437 : decode code 437 = .ok (.aload_n 2, 1) := by decide +kernel
theorem dl_438 : decode code 438 = .ok (.aload_n 0, 1) := by decide +kernel
theorem dl_439 : decode code 439 = .ok (.iload_n 3, 1) := by decide +kernel
