set_option maxRecDepth 20000 in
theorem AdL_law_31lawdec04_0 : decode cL_law 528 = .ok (.iaload, 1) ∧ decode cL_law 529 = .ok (.invokevirtual 77, 3) ∧ decode cL_law 532 = .ok (.pop, 1) ∧ decode cL_law 533 = .ok (.aload_n 2, 1) ∧ decode cL_law 534 = .ok (.aload_n 0, 1) ∧ decode cL_law 535 = .ok (.iload_n 3, 1) ∧ decode cL_law 536 = .ok (.iconst 1, 1) ∧ decode cL_law 537 = .ok (.iadd, 1) ∧ decode cL_law 538 = .ok (.iaload, 1) ∧ decode cL_law 539 = .ok (.invokevirtual 80, 3) ∧ decode cL_law 542 = .ok (.pop, 1) ∧ decode cL_law 543 = .ok (.goto 298, 3) ∧ decode cL_law 546 = .ok (.aload_n 1, 1) ∧ decode cL_law 547 = .ok (.aload_n 0, 1) ∧ decode cL_law 548 = .ok (.iload_n 3, 1) ∧ decode cL_law 549 = .ok (.iconst 1, 1) := by decide +kernel
theorem dL_law_528 : decode cL_law 528 = .ok (.iaload, 1) := AdL_law_31lawdec04_0.1
theorem dL_law_529 : decode cL_law 529 = .ok (.invokevirtual 77, 3) := AdL_law_31lawdec04_0.2.1
theorem dL_law_532 : decode cL_law 532 = .ok (.pop, 1) := AdL_law_31lawdec04_0.2.2.1
theorem dL_law_533 : decode cL_law 533 = .ok (.aload_n 2, 1) := AdL_law_31lawdec04_0.2.2.2.1
theorem dL_law_534 : decode cL_law 534 = .ok (.aload_n 0, 1) := AdL_law_31lawdec04_0.2.2.2.2.1
theorem dL_law_535 : decode cL_law 535 = .ok (.iload_n 3, 1) := AdL_law_31lawdec04_0.2.2.2.2.2.1
theorem dL_law_536 : decode cL_law 536 = .ok (.iconst 1, 1) := AdL_law_31lawdec04_0.2.2.2.2.2.2.1
theorem dL_law_537 : decode cL_law 537 = .ok (.iadd, 1) := AdL_law_31lawdec04_0.2.2.2.2.2.2.2.1
theorem dL_law_538 : decode cL_law 538 = .ok (.iaload, 1) := AdL_law_31lawdec04_0.2.2.2.2.2.2.2.2.1
theorem dL_law_539 : decode cL_law 539 = .ok (.invokevirtual 80, 3) := AdL_law_31lawdec04_0.2.2.2.2.2.2.2.2.2.1
theorem dL_law_542 : decode cL_law 542 = .ok (.pop, 1) := AdL_law_31lawdec04_0.2.2.2.2.2.2.2.2.2.2.1
theorem dL_law_543 : decode cL_law 543 = .ok (.goto 298, 3) := AdL_law_31lawdec04_0.2.2.2.2.2.2.2.2.2.2.2.1
theorem dL_law_546 : decode cL_law 546 = .ok (.aload_n 1, 1) := AdL_law_31lawdec04_0.2.2.2.2.2.2.2.2.2.2.2.2.1
theorem dL_law_547 : decode cL_law 547 = .ok (.aload_n 0, 1) := AdL_law_31lawdec04_0.2.2.2.2.2.2.2.2.2.2.2.2.2.1
theorem dL_law_548 : decode cL_law 548 = .ok (.iload_n 3, 1) := AdL_law_31lawdec04_0.2.2.2.2.2.2.2.2.2.2.2.2.2.2.1
theorem dL_law_549 : decode cL_law 549 = .ok (.iconst 1, 1) := AdL_law_31lawdec04_0.2.2.2.2.2.2.2.2.2.2.2.2.2.2.2
set_option maxRecDepth 20000 in
theorem AdL_law_31lawdec04_1 : decode cL_law 550 = .ok (.iadd, 1) ∧ decode cL_law 551 = .ok (.iaload, 1) ∧ decode cL_law 552 = .ok (.invokevirtual 81, 3) ∧ decode cL_law 555 = .ok (.pop, 1) ∧ decode cL_law 556 = .ok (.aload_n 2, 1) ∧ decode cL_law 557 = .ok (.aload_n 0, 1) ∧ decode cL_law 558 = .ok (.iload_n 3, 1) ∧ decode cL_law 559 = .ok (.iconst 1, 1) ∧ decode cL_law 560 = .ok (.iadd, 1) ∧ decode cL_law 561 = .ok (.iaload, 1) ∧ decode cL_law 562 = .ok (.invokevirtual 84, 3) ∧ decode cL_law 565 = .ok (.pop, 1) ∧ decode cL_law 566 = .ok (.goto 275, 3) ∧ decode cL_law 569 = .ok (.aload_n 1, 1) ∧ decode cL_law 570 = .ok (.invokevirtual 85, 3) ∧ decode cL_law 573 = .ok (.pop, 1) := by decide +kernel
theorem dL_law_550 : decode cL_law 550 = .ok (.iadd, 1) := AdL_law_31lawdec04_1.1
theorem dL_law_551 : decode cL_law 551 = .ok (.iaload, 1) := AdL_law_31lawdec04_1.2.1
theorem dL_law_552 : decode cL_law 552 = .ok (.invokevirtual 81, 3) := AdL_law_31lawdec04_1.2.2.1
theorem dL_law_555 : decode cL_law 555 = .ok (.pop, 1) := AdL_law_31lawdec04_1.2.2.2.1
theorem dL_law_556 : decode cL_law 556 = .ok (.aload_n 2, 1) := AdL_law_31lawdec04_1.2.2.2.2.1
theorem dL_law_557 : decode cL_law 557 = .ok (.aload_n 0, 1) := AdL_law_31lawdec04_1.2.2.2.2.2.1
theorem dL_law_558 : decode cL_law 558 = .ok (.iload_n 3, 1) := AdL_law_31lawdec04_1.2.2.2.2.2.2.1
theorem dL_law_559 : decode cL_law 559 = .ok (.iconst 1, 1) := AdL_law_31lawdec04_1.2.2.2.2.2.2.2.1
theorem dL_law_560 : decode cL_law 560 = .ok (.iadd, 1) := AdL_law_31lawdec04_1.2.2.2.2.2.2.2.2.1
theorem dL_law_561 : decode cL_law 561 = .ok (.iaload, 1) := AdL_law_31lawdec04_1.2.2.2.2.2.2.2.2.2.1
theorem dL_law_562 : decode cL_law 562 = .ok (.invokevirtual 84, 3) := AdL_law_31lawdec04_1.2.2.2.2.2.2.2.2.2.2.1
theorem dL_law_565 : decode cL_law 565 = .ok (.pop, 1) := AdL_law_31lawdec04_1.2.2.2.2.2.2.2.2.2.2.2.1
theorem dL_law_566 : decode cL_law 566 = .ok (.goto 275, 3) := AdL_law_31lawdec04_1.2.2.2.2.2.2.2.2.2.2.2.2.1
theorem dL_law_569 : decode cL_law 569 = .ok (.aload_n 1, 1) := AdL_law_31lawdec04_1.2.2.2.2.2.2.2.2.2.2.2.2.2.1
theorem dL_law_570 : decode cL_law 570 = .ok (.invokevirtual 85, 3) := AdL_law_31lawdec04_1.2.2.2.2.2.2.2.2.2.2.2.2.2.2.1
theorem dL_law_573 : decode cL_law 573 = .ok (.pop, 1) := AdL_law_31lawdec04_1.2.2.2.2.2.2.2.2.2.2.2.2.2.2.2
set_option maxRecDepth 20000 in
theorem AdL_law_31lawdec04_2 : decode cL_law 574 = .ok (.aload_n 2, 1) ∧ decode cL_law 575 = .ok (.invokevirtual 88, 3) ∧ decode cL_law 578 = .ok (.pop, 1) ∧ decode cL_law 579 = .ok (.goto 262, 3) ∧ decode cL_law 582 = .ok (.aload_n 1, 1) ∧ decode cL_law 583 = .ok (.invokevirtual 89, 3) ∧ decode cL_law 586 = .ok (.pop, 1) ∧ decode cL_law 587 = .ok (.aload_n 2, 1) ∧ decode cL_law 588 = .ok (.invokevirtual 92, 3) ∧ decode cL_law 591 = .ok (.pop, 1) ∧ decode cL_law 592 = .ok (.goto 249, 3) ∧ decode cL_law 595 = .ok (.aload_n 1, 1) ∧ decode cL_law 596 = .ok (.aload_n 0, 1) ∧ decode cL_law 597 = .ok (.iload_n 3, 1) ∧ decode cL_law 598 = .ok (.iconst 1, 1) ∧ decode cL_law 599 = .ok (.iadd, 1) := by decide +kernel
theorem dL_law_574 : decode cL_law 574 = .ok (.aload_n 2, 1) := AdL_law_31lawdec04_2.1
theorem dL_law_575 : decode cL_law 575 = .ok (.invokevirtual 88, 3) := AdL_law_31lawdec04_2.2.1
theorem dL_law_578 : decode cL_law 578 = .ok (.pop, 1) := AdL_law_31lawdec04_2.2.2.1
theorem dL_law_579 : decode cL_law 579 = .ok (.goto 262, 3) := AdL_law_31lawdec04_2.2.2.2.1
theorem dL_law_582 : decode cL_law 582 = .ok (.aload_n 1, 1) := AdL_law_31lawdec04_2.2.2.2.2.1
theorem dL_law_583 : decode cL_law 583 = .ok (.invokevirtual 89, 3) := AdL_law_31lawdec04_2.2.2.2.2.2.1
theorem dL_law_586 : decode cL_law 586 = .ok (.pop, 1) := AdL_law_31lawdec04_2.2.2.2.2.2.2.1
theorem dL_law_587 : decode cL_law 587 = .ok (.aload_n 2, 1) := AdL_law_31lawdec04_2.2.2.2.2.2.2.2.1
theorem dL_law_588 : decode cL_law 588 = .ok (.invokevirtual 92, 3) := AdL_law_31lawdec04_2.2.2.2.2.2.2.2.2.1
theorem dL_law_591 : decode cL_law 591 = .ok (.pop, 1) := AdL_law_31lawdec04_2.2.2.2.2.2.2.2.2.2.1
theorem dL_law_592 : decode cL_law 592 = .ok (.goto 249, 3) := AdL_law_31lawdec04_2.2.2.2.2.2.2.2.2.2.2.1
theorem dL_law_595 : decode cL_law 595 = .ok (.aload_n 1, 1) := AdL_law_31lawdec04_2.2.2.2.2.2.2.2.2.2.2.2.1
theorem dL_law_596 : decode cL_law 596 = .ok (.aload_n 0, 1) := AdL_law_31lawdec04_2.2.2.2.2.2.2.2.2.2.2.2.2.1
theorem dL_law_597 : decode cL_law 597 = .ok (.iload_n 3, 1) := AdL_law_31lawdec04_2.2.2.2.2.2.2.2.2.2.2.2.2.2.1
theorem dL_law_598 : decode cL_law 598 = .ok (.iconst 1, 1) := AdL_law_31lawdec04_2.2.2.2.2.2.2.2.2.2.2.2.2.2.2.1
theorem dL_law_599 : decode cL_law 599 = .ok (.iadd, 1) := AdL_law_31lawdec04_2.2.2.2.2.2.2.2.2.2.2.2.2.2.2.2
set_option maxRecDepth 20000 in
theorem AdL_law_31lawdec04_3 : decode cL_law 600 = .ok (.iaload, 1) ∧ decode cL_law 601 = .ok (.aload_n 0, 1) ∧ decode cL_law 602 = .ok (.iload_n 3, 1) ∧ decode cL_law 603 = .ok (.iconst 2, 1) ∧ decode cL_law 604 = .ok (.iadd, 1) ∧ decode cL_law 605 = .ok (.iaload, 1) ∧ decode cL_law 606 = .ok (.invokevirtual 93, 3) ∧ decode cL_law 609 = .ok (.pop, 1) ∧ decode cL_law 610 = .ok (.aload_n 2, 1) ∧ decode cL_law 611 = .ok (.aload_n 0, 1) ∧ decode cL_law 612 = .ok (.iload_n 3, 1) ∧ decode cL_law 613 = .ok (.iconst 1, 1) ∧ decode cL_law 614 = .ok (.iadd, 1) ∧ decode cL_law 615 = .ok (.iaload, 1) ∧ decode cL_law 616 = .ok (.aload_n 0, 1) ∧ decode cL_law 617 = .ok (.iload_n 3, 1) := by decide +kernel
theorem dL_law_600 : decode cL_law 600 = .ok (.iaload, 1) := AdL_law_31lawdec04_3.1
theorem dL_law_601 : decode cL_law 601 = .ok (.aload_n 0, 1) := AdL_law_31lawdec04_3.2.1
theorem dL_law_602 : decode cL_law 602 = .ok (.iload_n 3, 1) := AdL_law_31lawdec04_3.2.2.1
theorem dL_law_603 : decode cL_law 603 = .ok (.iconst 2, 1) := AdL_law_31lawdec04_3.2.2.2.1
theorem dL_law_604 : decode cL_law 604 = .ok (.iadd, 1) := AdL_law_31lawdec04_3.2.2.2.2.1
theorem dL_law_605 : decode cL_law 605 = .ok (.iaload, 1) := AdL_law_31lawdec04_3.2.2.2.2.2.1
theorem dL_law_606 : decode cL_law 606 = .ok (.invokevirtual 93, 3) := AdL_law_31lawdec04_3.2.2.2.2.2.2.1
theorem dL_law_609 : decode cL_law 609 = .ok (.pop, 1) := AdL_law_31lawdec04_3.2.2.2.2.2.2.2.1
theorem dL_law_610 : decode cL_law 610 = .ok (.aload_n 2, 1) := AdL_law_31lawdec04_3.2.2.2.2.2.2.2.2.1
theorem dL_law_611 : decode cL_law 611 = .ok (.aload_n 0, 1) := AdL_law_31lawdec04_3.2.2.2.2.2.2.2.2.2.1
theorem dL_law_612 : decode cL_law 612 = .ok (.iload_n 3, 1) := AdL_law_31lawdec04_3.2.2.2.2.2.2.2.2.2.2.1
theorem dL_law_613 : decode cL_law 613 = .ok (.iconst 1, 1) := AdL_law_31lawdec04_3.2.2.2.2.2.2.2.2.2.2.2.1
theorem dL_law_614 : decode cL_law 614 = .ok (.iadd, 1) := AdL_law_31lawdec04_3.2.2.2.2.2.2.2.2.2.2.2.2.1
theorem dL_law_615 : decode cL_law 615 = .ok (.iaload, 1) := AdL_law_31lawdec04_3.2.2.2.2.2.2.2.2.2.2.2.2.2.1
theorem dL_law_616 : decode cL_law 616 = .ok (.aload_n 0, 1) := AdL_law_31lawdec04_3.2.2.2.2.2.2.2.2.2.2.2.2.2.2.1
theorem dL_law_617 : decode cL_law 617 = .ok (.iload_n 3, 1) := AdL_law_31lawdec04_3.2.2.2.2.2.2.2.2.2.2.2.2.2.2.2
set_option maxRecDepth 20000 in
theorem AdL_law_31lawdec04_4 : decode cL_law 618 = .ok (.iconst 2, 1) ∧ decode cL_law 619 = .ok (.iadd, 1) ∧ decode cL_law 620 = .ok (.iaload, 1) ∧ decode cL_law 621 = .ok (.invokevirtual 96, 3) ∧ decode cL_law 624 = .ok (.pop, 1) ∧ decode cL_law 625 = .ok (.goto 216, 3) := by decide +kernel
theorem dL_law_618 : decode cL_law 618 = .ok (.iconst 2, 1) := AdL_law_31lawdec04_4.1
theorem dL_law_619 : decode cL_law 619 = .ok (.iadd, 1) := AdL_law_31lawdec04_4.2.1
theorem dL_law_620 : decode cL_law 620 = .ok (.iaload, 1) := AdL_law_31lawdec04_4.2.2.1
theorem dL_law_621 : decode cL_law 621 = .ok (.invokevirtual 96, 3) := AdL_law_31lawdec04_4.2.2.2.1
theorem dL_law_624 : decode cL_law 624 = .ok (.pop, 1) := AdL_law_31lawdec04_4.2.2.2.2.1
theorem dL_law_625 : decode cL_law 625 = .ok (.goto 216, 3) := AdL_law_31lawdec04_4.2.2.2.2.2
