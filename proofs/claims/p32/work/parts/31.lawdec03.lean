set_option maxRecDepth 20000 in
theorem AdL_law_31lawdec03_0 : decode cL_law 436 = .ok (.aload_n 2, 1) ∧ decode cL_law 437 = .ok (.invokevirtual 64, 3) ∧ decode cL_law 440 = .ok (.pop, 1) ∧ decode cL_law 441 = .ok (.goto 400, 3) ∧ decode cL_law 444 = .ok (.aload_n 1, 1) ∧ decode cL_law 445 = .ok (.aload_n 0, 1) ∧ decode cL_law 446 = .ok (.iload_n 3, 1) ∧ decode cL_law 447 = .ok (.iconst 1, 1) ∧ decode cL_law 448 = .ok (.iadd, 1) ∧ decode cL_law 449 = .ok (.iaload, 1) ∧ decode cL_law 450 = .ok (.invokevirtual 65, 3) ∧ decode cL_law 453 = .ok (.pop, 1) ∧ decode cL_law 454 = .ok (.aload_n 2, 1) ∧ decode cL_law 455 = .ok (.aload_n 0, 1) ∧ decode cL_law 456 = .ok (.iload_n 3, 1) ∧ decode cL_law 457 = .ok (.iconst 1, 1) := by decide +kernel
theorem dL_law_436 : decode cL_law 436 = .ok (.aload_n 2, 1) := AdL_law_31lawdec03_0.1
theorem dL_law_437 : decode cL_law 437 = .ok (.invokevirtual 64, 3) := AdL_law_31lawdec03_0.2.1
theorem dL_law_440 : decode cL_law 440 = .ok (.pop, 1) := AdL_law_31lawdec03_0.2.2.1
theorem dL_law_441 : decode cL_law 441 = .ok (.goto 400, 3) := AdL_law_31lawdec03_0.2.2.2.1
theorem dL_law_444 : decode cL_law 444 = .ok (.aload_n 1, 1) := AdL_law_31lawdec03_0.2.2.2.2.1
theorem dL_law_445 : decode cL_law 445 = .ok (.aload_n 0, 1) := AdL_law_31lawdec03_0.2.2.2.2.2.1
theorem dL_law_446 : decode cL_law 446 = .ok (.iload_n 3, 1) := AdL_law_31lawdec03_0.2.2.2.2.2.2.1
theorem dL_law_447 : decode cL_law 447 = .ok (.iconst 1, 1) := AdL_law_31lawdec03_0.2.2.2.2.2.2.2.1
theorem dL_law_448 : decode cL_law 448 = .ok (.iadd, 1) := AdL_law_31lawdec03_0.2.2.2.2.2.2.2.2.1
theorem dL_law_449 : decode cL_law 449 = .ok (.iaload, 1) := AdL_law_31lawdec03_0.2.2.2.2.2.2.2.2.2.1
theorem dL_law_450 : decode cL_law 450 = .ok (.invokevirtual 65, 3) := AdL_law_31lawdec03_0.2.2.2.2.2.2.2.2.2.2.1
theorem dL_law_453 : decode cL_law 453 = .ok (.pop, 1) := AdL_law_31lawdec03_0.2.2.2.2.2.2.2.2.2.2.2.1
theorem dL_law_454 : decode cL_law 454 = .ok (.aload_n 2, 1) := AdL_law_31lawdec03_0.2.2.2.2.2.2.2.2.2.2.2.2.1
theorem dL_law_455 : decode cL_law 455 = .ok (.aload_n 0, 1) := AdL_law_31lawdec03_0.2.2.2.2.2.2.2.2.2.2.2.2.2.1
theorem dL_law_456 : decode cL_law 456 = .ok (.iload_n 3, 1) := AdL_law_31lawdec03_0.2.2.2.2.2.2.2.2.2.2.2.2.2.2.1
theorem dL_law_457 : decode cL_law 457 = .ok (.iconst 1, 1) := AdL_law_31lawdec03_0.2.2.2.2.2.2.2.2.2.2.2.2.2.2.2
set_option maxRecDepth 20000 in
theorem AdL_law_31lawdec03_1 : decode cL_law 458 = .ok (.iadd, 1) ∧ decode cL_law 459 = .ok (.iaload, 1) ∧ decode cL_law 460 = .ok (.invokevirtual 68, 3) ∧ decode cL_law 463 = .ok (.pop, 1) ∧ decode cL_law 464 = .ok (.goto 377, 3) ∧ decode cL_law 467 = .ok (.aload_n 1, 1) ∧ decode cL_law 468 = .ok (.aload_n 0, 1) ∧ decode cL_law 469 = .ok (.iload_n 3, 1) ∧ decode cL_law 470 = .ok (.iconst 1, 1) ∧ decode cL_law 471 = .ok (.iadd, 1) ∧ decode cL_law 472 = .ok (.iaload, 1) ∧ decode cL_law 473 = .ok (.invokevirtual 69, 3) ∧ decode cL_law 476 = .ok (.pop, 1) ∧ decode cL_law 477 = .ok (.aload_n 2, 1) ∧ decode cL_law 478 = .ok (.aload_n 0, 1) ∧ decode cL_law 479 = .ok (.iload_n 3, 1) := by decide +kernel
theorem dL_law_458 : decode cL_law 458 = .ok (.iadd, 1) := AdL_law_31lawdec03_1.1
theorem dL_law_459 : decode cL_law 459 = .ok (.iaload, 1) := AdL_law_31lawdec03_1.2.1
theorem dL_law_460 : decode cL_law 460 = .ok (.invokevirtual 68, 3) := AdL_law_31lawdec03_1.2.2.1
theorem dL_law_463 : decode cL_law 463 = .ok (.pop, 1) := AdL_law_31lawdec03_1.2.2.2.1
theorem dL_law_464 : decode cL_law 464 = .ok (.goto 377, 3) := AdL_law_31lawdec03_1.2.2.2.2.1
theorem dL_law_467 : decode cL_law 467 = .ok (.aload_n 1, 1) := AdL_law_31lawdec03_1.2.2.2.2.2.1
theorem dL_law_468 : decode cL_law 468 = .ok (.aload_n 0, 1) := AdL_law_31lawdec03_1.2.2.2.2.2.2.1
theorem dL_law_469 : decode cL_law 469 = .ok (.iload_n 3, 1) := AdL_law_31lawdec03_1.2.2.2.2.2.2.2.1
theorem dL_law_470 : decode cL_law 470 = .ok (.iconst 1, 1) := AdL_law_31lawdec03_1.2.2.2.2.2.2.2.2.1
theorem dL_law_471 : decode cL_law 471 = .ok (.iadd, 1) := AdL_law_31lawdec03_1.2.2.2.2.2.2.2.2.2.1
theorem dL_law_472 : decode cL_law 472 = .ok (.iaload, 1) := AdL_law_31lawdec03_1.2.2.2.2.2.2.2.2.2.2.1
theorem dL_law_473 : decode cL_law 473 = .ok (.invokevirtual 69, 3) := AdL_law_31lawdec03_1.2.2.2.2.2.2.2.2.2.2.2.1
theorem dL_law_476 : decode cL_law 476 = .ok (.pop, 1) := AdL_law_31lawdec03_1.2.2.2.2.2.2.2.2.2.2.2.2.1
theorem dL_law_477 : decode cL_law 477 = .ok (.aload_n 2, 1) := AdL_law_31lawdec03_1.2.2.2.2.2.2.2.2.2.2.2.2.2.1
theorem dL_law_478 : decode cL_law 478 = .ok (.aload_n 0, 1) := AdL_law_31lawdec03_1.2.2.2.2.2.2.2.2.2.2.2.2.2.2.1
theorem dL_law_479 : decode cL_law 479 = .ok (.iload_n 3, 1) := AdL_law_31lawdec03_1.2.2.2.2.2.2.2.2.2.2.2.2.2.2.2
set_option maxRecDepth 20000 in
theorem AdL_law_31lawdec03_2 : decode cL_law 480 = .ok (.iconst 1, 1) ∧ decode cL_law 481 = .ok (.iadd, 1) ∧ decode cL_law 482 = .ok (.iaload, 1) ∧ decode cL_law 483 = .ok (.invokevirtual 72, 3) ∧ decode cL_law 486 = .ok (.pop, 1) ∧ decode cL_law 487 = .ok (.goto 354, 3) ∧ decode cL_law 490 = .ok (.aload_n 1, 1) ∧ decode cL_law 491 = .ok (.aload_n 0, 1) ∧ decode cL_law 492 = .ok (.iload_n 3, 1) ∧ decode cL_law 493 = .ok (.iconst 1, 1) ∧ decode cL_law 494 = .ok (.iadd, 1) ∧ decode cL_law 495 = .ok (.iaload, 1) ∧ decode cL_law 496 = .ok (.aload_n 0, 1) ∧ decode cL_law 497 = .ok (.iload_n 3, 1) ∧ decode cL_law 498 = .ok (.iconst 2, 1) ∧ decode cL_law 499 = .ok (.iadd, 1) := by decide +kernel
theorem dL_law_480 : decode cL_law 480 = .ok (.iconst 1, 1) := AdL_law_31lawdec03_2.1
theorem dL_law_481 : decode cL_law 481 = .ok (.iadd, 1) := AdL_law_31lawdec03_2.2.1
theorem dL_law_482 : decode cL_law 482 = .ok (.iaload, 1) := AdL_law_31lawdec03_2.2.2.1
theorem dL_law_483 : decode cL_law 483 = .ok (.invokevirtual 72, 3) := AdL_law_31lawdec03_2.2.2.2.1
theorem dL_law_486 : decode cL_law 486 = .ok (.pop, 1) := AdL_law_31lawdec03_2.2.2.2.2.1
theorem dL_law_487 : decode cL_law 487 = .ok (.goto 354, 3) := AdL_law_31lawdec03_2.2.2.2.2.2.1
theorem dL_law_490 : decode cL_law 490 = .ok (.aload_n 1, 1) := AdL_law_31lawdec03_2.2.2.2.2.2.2.1
theorem dL_law_491 : decode cL_law 491 = .ok (.aload_n 0, 1) := AdL_law_31lawdec03_2.2.2.2.2.2.2.2.1
theorem dL_law_492 : decode cL_law 492 = .ok (.iload_n 3, 1) := AdL_law_31lawdec03_2.2.2.2.2.2.2.2.2.1
theorem dL_law_493 : decode cL_law 493 = .ok (.iconst 1, 1) := AdL_law_31lawdec03_2.2.2.2.2.2.2.2.2.2.1
theorem dL_law_494 : decode cL_law 494 = .ok (.iadd, 1) := AdL_law_31lawdec03_2.2.2.2.2.2.2.2.2.2.2.1
theorem dL_law_495 : decode cL_law 495 = .ok (.iaload, 1) := AdL_law_31lawdec03_2.2.2.2.2.2.2.2.2.2.2.2.1
theorem dL_law_496 : decode cL_law 496 = .ok (.aload_n 0, 1) := AdL_law_31lawdec03_2.2.2.2.2.2.2.2.2.2.2.2.2.1
theorem dL_law_497 : decode cL_law 497 = .ok (.iload_n 3, 1) := AdL_law_31lawdec03_2.2.2.2.2.2.2.2.2.2.2.2.2.2.1
theorem dL_law_498 : decode cL_law 498 = .ok (.iconst 2, 1) := AdL_law_31lawdec03_2.2.2.2.2.2.2.2.2.2.2.2.2.2.2.1
theorem dL_law_499 : decode cL_law 499 = .ok (.iadd, 1) := AdL_law_31lawdec03_2.2.2.2.2.2.2.2.2.2.2.2.2.2.2.2
set_option maxRecDepth 20000 in
theorem AdL_law_31lawdec03_3 : decode cL_law 500 = .ok (.iaload, 1) ∧ decode cL_law 501 = .ok (.invokevirtual 73, 3) ∧ decode cL_law 504 = .ok (.pop, 1) ∧ decode cL_law 505 = .ok (.aload_n 2, 1) ∧ decode cL_law 506 = .ok (.aload_n 0, 1) ∧ decode cL_law 507 = .ok (.iload_n 3, 1) ∧ decode cL_law 508 = .ok (.iconst 1, 1) ∧ decode cL_law 509 = .ok (.iadd, 1) ∧ decode cL_law 510 = .ok (.iaload, 1) ∧ decode cL_law 511 = .ok (.aload_n 0, 1) ∧ decode cL_law 512 = .ok (.iload_n 3, 1) ∧ decode cL_law 513 = .ok (.iconst 2, 1) ∧ decode cL_law 514 = .ok (.iadd, 1) ∧ decode cL_law 515 = .ok (.iaload, 1) ∧ decode cL_law 516 = .ok (.invokevirtual 76, 3) ∧ decode cL_law 519 = .ok (.pop, 1) := by decide +kernel
theorem dL_law_500 : decode cL_law 500 = .ok (.iaload, 1) := AdL_law_31lawdec03_3.1
theorem dL_law_501 : decode cL_law 501 = .ok (.invokevirtual 73, 3) := AdL_law_31lawdec03_3.2.1
theorem dL_law_504 : decode cL_law 504 = .ok (.pop, 1) := AdL_law_31lawdec03_3.2.2.1
theorem dL_law_505 : decode cL_law 505 = .ok (.aload_n 2, 1) := AdL_law_31lawdec03_3.2.2.2.1
theorem dL_law_506 : decode cL_law 506 = .ok (.aload_n 0, 1) := AdL_law_31lawdec03_3.2.2.2.2.1
theorem dL_law_507 : decode cL_law 507 = .ok (.iload_n 3, 1) := AdL_law_31lawdec03_3.2.2.2.2.2.1
theorem dL_law_508 : decode cL_law 508 = .ok (.iconst 1, 1) := AdL_law_31lawdec03_3.2.2.2.2.2.2.1
theorem dL_law_509 : decode cL_law 509 = .ok (.iadd, 1) := AdL_law_31lawdec03_3.2.2.2.2.2.2.2.1
theorem dL_law_510 : decode cL_law 510 = .ok (.iaload, 1) := AdL_law_31lawdec03_3.2.2.2.2.2.2.2.2.1
theorem dL_law_511 : decode cL_law 511 = .ok (.aload_n 0, 1) := AdL_law_31lawdec03_3.2.2.2.2.2.2.2.2.2.1
theorem dL_law_512 : decode cL_law 512 = .ok (.iload_n 3, 1) := AdL_law_31lawdec03_3.2.2.2.2.2.2.2.2.2.2.1
theorem dL_law_513 : decode cL_law 513 = .ok (.iconst 2, 1) := AdL_law_31lawdec03_3.2.2.2.2.2.2.2.2.2.2.2.1
theorem dL_law_514 : decode cL_law 514 = .ok (.iadd, 1) := AdL_law_31lawdec03_3.2.2.2.2.2.2.2.2.2.2.2.2.1
theorem dL_law_515 : decode cL_law 515 = .ok (.iaload, 1) := AdL_law_31lawdec03_3.2.2.2.2.2.2.2.2.2.2.2.2.2.1
theorem dL_law_516 : decode cL_law 516 = .ok (.invokevirtual 76, 3) := AdL_law_31lawdec03_3.2.2.2.2.2.2.2.2.2.2.2.2.2.2.1
theorem dL_law_519 : decode cL_law 519 = .ok (.pop, 1) := AdL_law_31lawdec03_3.2.2.2.2.2.2.2.2.2.2.2.2.2.2.2
set_option maxRecDepth 20000 in
theorem AdL_law_31lawdec03_4 : decode cL_law 520 = .ok (.goto 321, 3) ∧ decode cL_law 523 = .ok (.aload_n 1, 1) ∧ decode cL_law 524 = .ok (.aload_n 0, 1) ∧ decode cL_law 525 = .ok (.iload_n 3, 1) ∧ decode cL_law 526 = .ok (.iconst 1, 1) ∧ decode cL_law 527 = .ok (.iadd, 1) := by decide +kernel
theorem dL_law_520 : decode cL_law 520 = .ok (.goto 321, 3) := AdL_law_31lawdec03_4.1
theorem dL_law_523 : decode cL_law 523 = .ok (.aload_n 1, 1) := AdL_law_31lawdec03_4.2.1
theorem dL_law_524 : decode cL_law 524 = .ok (.aload_n 0, 1) := AdL_law_31lawdec03_4.2.2.1
theorem dL_law_525 : decode cL_law 525 = .ok (.iload_n 3, 1) := AdL_law_31lawdec03_4.2.2.2.1
theorem dL_law_526 : decode cL_law 526 = .ok (.iconst 1, 1) := AdL_law_31lawdec03_4.2.2.2.2.1
theorem dL_law_527 : decode cL_law 527 = .ok (.iadd, 1) := AdL_law_31lawdec03_4.2.2.2.2.2
