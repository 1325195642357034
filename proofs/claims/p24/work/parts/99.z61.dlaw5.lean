theorem dl_440 : decode code 440 = .ok (.iconst 1, 1) := by decide +kernel
theorem dl_441 : decode code 441 = .ok (.iadd, 1) := by decide +kernel
theorem dl_442 : decode code 442 = .ok (.iaload, 1) := by decide +kernel
theorem dl_443 : decode code 443 = .ok (.invokevirtual 57, 3) := by decide +kernel
theorem dl_446 : decode code 446 = .ok (.pop, 1) := by decide +kernel
theorem dl_447 : decode code 447 = .ok (.goto 272, 3) := by decide +kernel
theorem dl_450 : decode code 450 = .ok (.aload_n 1, 1) := by decide +kernel
theorem dl_451 : decode code 451 = .ok (.invokevirtual 58, 3) := by decide +kernel
theorem dl_454 : decode code 454 = .ok (.pop, 1) := by decide +kernel
theorem dl_455 : decode code 455 = .ok (.aload_n 2, 1) := by decide +kernel
theorem dl_456 : decode code 456 = .ok (.invokevirtual 62, 3) := by decide +kernel
theorem dl_459 : decode code 459 = .ok (.pop, 1) := by decide +kernel
theorem dl_460 : decode code 460 = .ok (.goto 259, 3) := by decide +kernel
theorem dl_463 : decode code 463 = .ok (.aload_n 1, 1) := by decide +kernel
theorem dl_464 : decode code 464 = .ok (.invokevirtual 63, 3) := by decide +kernel
theorem dl_467 : decode code 467 = .ok (.pop, 1) := by decide +kernel
theorem dl_468 : decode code 468 = .ok (.aload_n 2, 1) := by decide +kernel
theorem dl_469 : decode code 469 = .ok (.invokevirtual 66, 3) := by decide +kernel
theorem dl_472 : decode code 472 = .ok (.pop, 1) := by decide +kernel
theorem dl_473 : decode code 473 = .ok (.goto 246, 3) := by decide +kernel
theorem dl_476 : decode code 476 = .ok (.aload_n 1, 1) := by decide +kernel
theorem dl_477 : decode code 477 = .ok (.aload_n 0, 1) := by decide +kernel
theorem dl_478 : decode code 478 = .ok (.iload_n 3, 1) := by decide +kernel
theorem dl_479 : decode code 479 = .ok (.iconst 1, 1) := by decide +kernel
theorem dl_480 : decode code 480 = .ok (.iadd, 1) := by decide +kernel
theorem dl_481 : decode code 481 = .ok (.iaload, 1) := by decide +kernel
theorem dl_482 : decode code 482 = .ok (.aload_n 0, 1) := by decide +kernel
theorem dl_483 : decode code 483 = .ok (.iload_n 3, 1) := by decide +kernel
theorem dl_484 : decode code 484 = .ok (.iconst 2, 1) := by decide +kernel
theorem dl_485 : decode code 485 = .ok (.iadd, 1) := by decide +kernel
theorem dl_486 : decode code 486 = .ok (.iaload, 1) := by decide +kernel
theorem dl_487 : decode code 487 = .ok (.invokevirtual 67, 3) := by decide +kernel
theorem dl_490 : decode code 490 = .ok (.pop, 1) := by decide +kernel
theorem dl_491 : decode code 491 = .ok (.aload_n 2, 1) := by decide +kernel
theorem dl_492 : decode code 492 = .ok (.aload_n 0, 1) := by decide +kernel
theorem dl_493 : decode code 493 = .ok (.iload_n 3, 1) := by decide +kernel
theorem dl_494 : decode code 494 = .ok (.iconst 1, 1) := by decide +kernel
theorem dl_495 : decode code 495 = .ok (.iadd, 1) := by decide +kernel
theorem dl_496 : decode code 496 = .ok (.iaload, 1) := by decide +kernel
theorem dl_497 : decode code 497 = .ok (.aload_n 0, 1) := by decide +kernel
theorem dl_498 : decode code 498 = .ok (.iload_n 3, 1) := by decide +kernel
theorem dl_499 : decode code 499 = .ok (.iconst 2, 1) := by decide +kernel
theorem dl_500 : decode code 500 = .ok (.iadd, 1) := by decide +kernel
theorem dl_501 : decode code 501 = .ok (.iaload, 1) := by decide +kernel
theorem dl_502 : decode code 502 = .ok (.invokevirtual 70, 3) := by decide +kernel
theorem dl_505 : decode code 505 = .ok (.pop, 1) := by decide +kernel
theorem dl_506 : decode code 506 = .ok (.goto 213, 3) := by decide +kernel
theorem dl_509 : decode code 509 = .ok (.aload_n 1, 1) := by decide +kernel
theorem dl_510 : decode code 510 = .ok (.aload_n 0, 1) := by decide +kernel
theorem dl_511 : decode code 511 = .ok (.iload_n 3, 1) := by decide +kernel
theorem dl_512 : decode code 512 = .ok (.iconst 1, 1) := by decide +kernel
theorem dl_513 : decode code 513 = .ok (.iadd, 1) := by decide +kernel
