set_option maxRecDepth 20000 in
theorem AdL_law_31lawdec05_0 : decode cL_law 628 = .ok (.aload_n 1, 1) ∧ decode cL_law 629 = .ok (.aload_n 0, 1) ∧ decode cL_law 630 = .ok (.iload_n 3, 1) ∧ decode cL_law 631 = .ok (.iconst 1, 1) ∧ decode cL_law 632 = .ok (.iadd, 1) ∧ decode cL_law 633 = .ok (.iaload, 1) ∧ decode cL_law 634 = .ok (.aload_n 0, 1) ∧ decode cL_law 635 = .ok (.iload_n 3, 1) ∧ decode cL_law 636 = .ok (.iconst 2, 1) ∧ decode cL_law 637 = .ok (.iadd, 1) ∧ decode cL_law 638 = .ok (.iaload, 1) ∧ decode cL_law 639 = .ok (.invokevirtual 97, 3) ∧ decode cL_law 642 = .ok (.pop, 1) ∧ decode cL_law 643 = .ok (.aload_n 2, 1) ∧ decode cL_law 644 = .ok (.aload_n 0, 1) ∧ decode cL_law 645 = .ok (.iload_n 3, 1) := by decide +kernel
theorem dL_law_628 : decode cL_law 628 = .ok (.aload_n 1, 1) := AdL_law_31lawdec05_0.1
theorem dL_law_629 : decode cL_law 629 = .ok (.aload_n 0, 1) := AdL_law_31lawdec05_0.2.1
theorem dL_law_630 : decode cL_law 630 = .ok (.iload_n 3, 1) := AdL_law_31lawdec05_0.2.2.1
theorem dL_law_631 : decode cL_law 631 = .ok (.iconst 1, 1) := AdL_law_31lawdec05_0.2.2.2.1
theorem dL_law_632 : decode cL_law 632 = .ok (.iadd, 1) := AdL_law_31lawdec05_0.2.2.2.2.1
theorem dL_law_633 : decode cL_law 633 = .ok (.iaload, 1) := AdL_law_31lawdec05_0.2.2.2.2.2.1
theorem dL_law_634 : decode cL_law 634 = .ok (.aload_n 0, 1) := AdL_law_31lawdec05_0.2.2.2.2.2.2.1
theorem dL_law_635 : decode cL_law 635 = .ok (.iload_n 3, 1) := AdL_law_31lawdec05_0.2.2.2.2.2.2.2.1
theorem dL_law_636 : decode cL_law 636 = .ok (.iconst 2, 1) := AdL_law_31lawdec05_0.2.2.2.2.2.2.2.2.1
theorem dL_law_637 : decode cL_law 637 = .ok (.iadd, 1) := AdL_law_31lawdec05_0.2.2.2.2.2.2.2.2.2.1
theorem dL_law_638 : decode cL_law 638 = .ok (.iaload, 1) := AdL_law_31lawdec05_0.2.2.2.2.2.2.2.2.2.2.1
theorem dL_law_639 : decode cL_law 639 = .ok (.invokevirtual 97, 3) := AdL_law_31lawdec05_0.2.2.2.2.2.2.2.2.2.2.2.1
theorem dL_law_642 : decode cL_law 642 = .ok (.pop, 1) := AdL_law_31lawdec05_0.2.2.2.2.2.2.2.2.2.2.2.2.1
theorem dL_law_643 : decode cL_law 643 = .ok (.aload_n 2, 1) := AdL_law_31lawdec05_0.2.2.2.2.2.2.2.2.2.2.2.2.2.1
theorem dL_law_644 : decode cL_law 644 = .ok (.aload_n 0, 1) := AdL_law_31lawdec05_0.2.2.2.2.2.2.2.2.2.2.2.2.2.2.1
theorem dL_law_645 : decode cL_law 645 = .ok (.iload_n 3, 1) := AdL_law_31lawdec05_0.2.2.2.2.2.2.2.2.2.2.2.2.2.2.2
set_option maxRecDepth 20000 in
theorem AdL_law_31lawdec05_1 : decode cL_law 646 = .ok (.iconst 1, 1) ∧ decode cL_law 647 = .ok (.iadd, 1) ∧ decode cL_law 648 = .ok (.iaload, 1) ∧ decode cL_law 649 = .ok (.aload_n 0, 1) ∧ decode cL_law 650 = .ok (.iload_n 3, 1) ∧ decode cL_law 651 = .ok (.iconst 2, 1) ∧ decode cL_law 652 = .ok (.iadd, 1) ∧ decode cL_law 653 = .ok (.iaload, 1) ∧ decode cL_law 654 = .ok (.invokevirtual 100, 3) ∧ decode cL_law 657 = .ok (.pop, 1) ∧ decode cL_law 658 = .ok (.goto 183, 3) ∧ decode cL_law 661 = .ok (.aload_n 1, 1) ∧ decode cL_law 662 = .ok (.invokevirtual 101, 3) ∧ decode cL_law 665 = .ok (.pop, 1) ∧ decode cL_law 666 = .ok (.aload_n 2, 1) ∧ decode cL_law 667 = .ok (.invokevirtual 104, 3) := by decide +kernel
theorem dL_law_646 : decode cL_law 646 = .ok (.iconst 1, 1) := AdL_law_31lawdec05_1.1
theorem dL_law_647 : decode cL_law 647 = .ok (.iadd, 1) := AdL_law_31lawdec05_1.2.1
theorem dL_law_648 : decode cL_law 648 = .ok (.iaload, 1) := AdL_law_31lawdec05_1.2.2.1
theorem dL_law_649 : decode cL_law 649 = .ok (.aload_n 0, 1) := AdL_law_31lawdec05_1.2.2.2.1
theorem dL_law_650 : decode cL_law 650 = .ok (.iload_n 3, 1) := AdL_law_31lawdec05_1.2.2.2.2.1
theorem dL_law_651 : decode cL_law 651 = .ok (.iconst 2, 1) := AdL_law_31lawdec05_1.2.2.2.2.2.1
theorem dL_law_652 : decode cL_law 652 = .ok (.iadd, 1) := AdL_law_31lawdec05_1.2.2.2.2.2.2.1
theorem dL_law_653 : decode cL_law 653 = .ok (.iaload, 1) := AdL_law_31lawdec05_1.2.2.2.2.2.2.2.1
theorem dL_law_654 : decode cL_law 654 = .ok (.invokevirtual 100, 3) := AdL_law_31lawdec05_1.2.2.2.2.2.2.2.2.1
theorem dL_law_657 : decode cL_law 657 = .ok (.pop, 1) := AdL_law_31lawdec05_1.2.2.2.2.2.2.2.2.2.1
theorem dL_law_658 : decode cL_law 658 = .ok (.goto 183, 3) := AdL_law_31lawdec05_1.2.2.2.2.2.2.2.2.2.2.1
theorem dL_law_661 : decode cL_law 661 = .ok (.aload_n 1, 1) := AdL_law_31lawdec05_1.2.2.2.2.2.2.2.2.2.2.2.1
theorem dL_law_662 : decode cL_law 662 = .ok (.invokevirtual 101, 3) := AdL_law_31lawdec05_1.2.2.2.2.2.2.2.2.2.2.2.2.1
theorem dL_law_665 : decode cL_law 665 = .ok (.pop, 1) := AdL_law_31lawdec05_1.2.2.2.2.2.2.2.2.2.2.2.2.2.1
theorem dL_law_666 : decode cL_law 666 = .ok (.aload_n 2, 1) := AdL_law_31lawdec05_1.2.2.2.2.2.2.2.2.2.2.2.2.2.2.1
theorem dL_law_667 : decode cL_law 667 = .ok (.invokevirtual 104, 3) := AdL_law_31lawdec05_1.2.2.2.2.2.2.2.2.2.2.2.2.2.2.2
set_option maxRecDepth 20000 in
theorem AdL_law_31lawdec05_2 : decode cL_law 670 = .ok (.pop, 1) ∧ decode cL_law 671 = .ok (.goto 170, 3) ∧ decode cL_law 674 = .ok (.aload_n 1, 1) ∧ decode cL_law 675 = .ok (.invokevirtual 105, 3) ∧ decode cL_law 678 = .ok (.pop, 1) ∧ decode cL_law 679 = .ok (.aload_n 2, 1) ∧ decode cL_law 680 = .ok (.invokevirtual 108, 3) ∧ decode cL_law 683 = .ok (.pop, 1) ∧ decode cL_law 684 = .ok (.goto 157, 3) ∧ decode cL_law 687 = .ok (.aload_n 1, 1) ∧ decode cL_law 688 = .ok (.aload_n 0, 1) ∧ decode cL_law 689 = .ok (.iload_n 3, 1) ∧ decode cL_law 690 = .ok (.iconst 1, 1) ∧ decode cL_law 691 = .ok (.iadd, 1) ∧ decode cL_law 692 = .ok (.iaload, 1) ∧ decode cL_law 693 = .ok (.invokevirtual 109, 3) := by decide +kernel
theorem dL_law_670 : decode cL_law 670 = .ok (.pop, 1) := AdL_law_31lawdec05_2.1
theorem dL_law_671 : decode cL_law 671 = .ok (.goto 170, 3) := AdL_law_31lawdec05_2.2.1
theorem dL_law_674 : decode cL_law 674 = .ok (.aload_n 1, 1) := AdL_law_31lawdec05_2.2.2.1
theorem dL_law_675 : decode cL_law 675 = .ok (.invokevirtual 105, 3) := AdL_law_31lawdec05_2.2.2.2.1
theorem dL_law_678 : decode cL_law 678 = .ok (.pop, 1) := AdL_law_31lawdec05_2.2.2.2.2.1
theorem dL_law_679 : decode cL_law 679 = .ok (.aload_n 2, 1) := AdL_law_31lawdec05_2.2.2.2.2.2.1
theorem dL_law_680 : decode cL_law 680 = .ok (.invokevirtual 108, 3) := AdL_law_31lawdec05_2.2.2.2.2.2.2.1
theorem dL_law_683 : decode cL_law 683 = .ok (.pop, 1) := AdL_law_31lawdec05_2.2.2.2.2.2.2.2.1
theorem dL_law_684 : decode cL_law 684 = .ok (.goto 157, 3) := AdL_law_31lawdec05_2.2.2.2.2.2.2.2.2.1
theorem dL_law_687 : decode cL_law 687 = .ok (.aload_n 1, 1) := AdL_law_31lawdec05_2.2.2.2.2.2.2.2.2.2.1
theorem dL_law_688 : decode cL_law 688 = .ok (.aload_n 0, 1) := AdL_law_31lawdec05_2.2.2.2.2.2.2.2.2.2.2.1
theorem dL_law_689 : decode cL_law 689 = .ok (.iload_n 3, 1) := AdL_law_31lawdec05_2.2.2.2.2.2.2.2.2.2.2.2.1
theorem dL_law_690 : decode cL_law 690 = .ok (.iconst 1, 1) := AdL_law_31lawdec05_2.2.2.2.2.2.2.2.2.2.2.2.2.1
theorem dL_law_691 : decode cL_law 691 = .ok (.iadd, 1) := AdL_law_31lawdec05_2.2.2.2.2.2.2.2.2.2.2.2.2.2.1
theorem dL_law_692 : decode cL_law 692 = .ok (.iaload, 1) := AdL_law_31lawdec05_2.2.2.2.2.2.2.2.2.2.2.2.2.2.2.1
theorem dL_law_693 : decode cL_law 693 = .ok (.invokevirtual 109, 3) := AdL_law_31lawdec05_2.2.2.2.2.2.2.2.2.2.2.2.2.2.2.2
set_option maxRecDepth 20000 in
theorem AdL_law_31lawdec05_3 : decode cL_law 696 = .ok (.pop, 1) ∧ decode cL_law 697 = .ok (.aload_n 2, 1) ∧ decode cL_law 698 = .ok (.aload_n 0, 1) ∧ decode cL_law 699 = .ok (.iload_n 3, 1) ∧ decode cL_law 700 = .ok (.iconst 1, 1) ∧ decode cL_law 701 = .ok (.iadd, 1) ∧ decode cL_law 702 = .ok (.iaload, 1) ∧ decode cL_law 703 = .ok (.invokevirtual 112, 3) ∧ decode cL_law 706 = .ok (.pop, 1) ∧ decode cL_law 707 = .ok (.goto 134, 3) ∧ decode cL_law 710 = .ok (.aload_n 1, 1) ∧ decode cL_law 711 = .ok (.invokevirtual 113, 3) ∧ decode cL_law 714 = .ok (.pop, 1) ∧ decode cL_law 715 = .ok (.aload_n 2, 1) ∧ decode cL_law 716 = .ok (.invokevirtual 116, 3) ∧ decode cL_law 719 = .ok (.pop, 1) := by decide +kernel
theorem dL_law_696 : decode cL_law 696 = .ok (.pop, 1) := AdL_law_31lawdec05_3.1
theorem dL_law_697 : decode cL_law 697 = .ok (.aload_n 2, 1) := AdL_law_31lawdec05_3.2.1
theorem dL_law_698 : decode cL_law 698 = .ok (.aload_n 0, 1) := AdL_law_31lawdec05_3.2.2.1
theorem dL_law_699 : decode cL_law 699 = .ok (.iload_n 3, 1) := AdL_law_31lawdec05_3.2.2.2.1
theorem dL_law_700 : decode cL_law 700 = .ok (.iconst 1, 1) := AdL_law_31lawdec05_3.2.2.2.2.1
theorem dL_law_701 : decode cL_law 701 = .ok (.iadd, 1) := AdL_law_31lawdec05_3.2.2.2.2.2.1
theorem dL_law_702 : decode cL_law 702 = .ok (.iaload, 1) := AdL_law_31lawdec05_3.2.2.2.2.2.2.1
theorem dL_law_703 : decode cL_law 703 = .ok (.invokevirtual 112, 3) := AdL_law_31lawdec05_3.2.2.2.2.2.2.2.1
theorem dL_law_706 : decode cL_law 706 = .ok (.pop, 1) := AdL_law_31lawdec05_3.2.2.2.2.2.2.2.2.1
theorem dL_law_707 : decode cL_law 707 = .ok (.goto 134, 3) := AdL_law_31lawdec05_3.2.2.2.2.2.2.2.2.2.1
theorem dL_law_710 : decode cL_law 710 = .ok (.aload_n 1, 1) := AdL_law_31lawdec05_3.2.2.2.2.2.2.2.2.2.2.1
theorem dL_law_711 : decode cL_law 711 = .ok (.invokevirtual 113, 3) := AdL_law_31lawdec05_3.2.2.2.2.2.2.2.2.2.2.2.1
theorem dL_law_714 : decode cL_law 714 = .ok (.pop, 1) := AdL_law_31lawdec05_3.2.2.2.2.2.2.2.2.2.2.2.2.1
theorem dL_law_715 : decode cL_law 715 = .ok (.aload_n 2, 1) := AdL_law_31lawdec05_3.2.2.2.2.2.2.2.2.2.2.2.2.2.1
theorem dL_law_716 : decode cL_law 716 = .ok (.invokevirtual 116, 3) := AdL_law_31lawdec05_3.2.2.2.2.2.2.2.2.2.2.2.2.2.2.1
theorem dL_law_719 : decode cL_law 719 = .ok (.pop, 1) := AdL_law_31lawdec05_3.2.2.2.2.2.2.2.2.2.2.2.2.2.2.2
set_option maxRecDepth 20000 in
theorem AdL_law_31lawdec05_4 : decode cL_law 720 = .ok (.goto 121, 3) ∧ decode cL_law 723 = .ok (.aload_n 1, 1) ∧ decode cL_law 724 = .ok (.aload_n 0, 1) ∧ decode cL_law 725 = .ok (.iload_n 3, 1) ∧ decode cL_law 726 = .ok (.iconst 1, 1) ∧ decode cL_law 727 = .ok (.iadd, 1) := by decide +kernel
theorem dL_law_720 : decode cL_law 720 = .ok (.goto 121, 3) := AdL_law_31lawdec05_4.1
theorem dL_law_723 : decode cL_law 723 = .ok (.aload_n 1, 1) := AdL_law_31lawdec05_4.2.1
theorem dL_law_724 : decode cL_law 724 = .ok (.aload_n 0, 1) := AdL_law_31lawdec05_4.2.2.1
theorem dL_law_725 : decode cL_law 725 = .ok (.iload_n 3, 1) := AdL_law_31lawdec05_4.2.2.2.1
theorem dL_law_726 : decode cL_law 726 = .ok (.iconst 1, 1) := AdL_law_31lawdec05_4.2.2.2.2.1
theorem dL_law_727 : decode cL_law 727 = .ok (.iadd, 1) := AdL_law_31lawdec05_4.2.2.2.2.2
