set_option maxRecDepth 20000 in
theorem AdL_law_31lawdec06_0 : decode cL_law 728 = .ok (.iaload, 1) ∧ decode cL_law 729 = .ok (.invokevirtual 117, 3) ∧ decode cL_law 732 = .ok (.pop, 1) ∧ decode cL_law 733 = .ok (.aload_n 2, 1) ∧ decode cL_law 734 = .ok (.aload_n 0, 1) ∧ decode cL_law 735 = .ok (.iload_n 3, 1) ∧ decode cL_law 736 = .ok (.iconst 1, 1) ∧ decode cL_law 737 = .ok (.iadd, 1) ∧ decode cL_law 738 = .ok (.iaload, 1) ∧ decode cL_law 739 = .ok (.invokevirtual 120, 3) ∧ decode cL_law 742 = .ok (.pop, 1) ∧ decode cL_law 743 = .ok (.goto 98, 3) ∧ decode cL_law 746 = .ok (.aload_n 1, 1) ∧ decode cL_law 747 = .ok (.invokevirtual 121, 3) ∧ decode cL_law 750 = .ok (.pop, 1) ∧ decode cL_law 751 = .ok (.aload_n 2, 1) := by decide +kernel
theorem dL_law_728 : decode cL_law 728 = .ok (.iaload, 1) := AdL_law_31lawdec06_0.1
theorem dL_law_729 : decode cL_law 729 = .ok (.invokevirtual 117, 3) := AdL_law_31lawdec06_0.2.1
theorem dL_law_732 : decode cL_law 732 = .ok (.pop, 1) := AdL_law_31lawdec06_0.2.2.1
theorem dL_law_733 : decode cL_law 733 = .ok (.aload_n 2, 1) := AdL_law_31lawdec06_0.2.2.2.1
theorem dL_law_734 : decode cL_law 734 = .ok (.aload_n 0, 1) := AdL_law_31lawdec06_0.2.2.2.2.1
theorem dL_law_735 : decode cL_law 735 = .ok (.iload_n 3, 1) := AdL_law_31lawdec06_0.2.2.2.2.2.1
theorem dL_law_736 : decode cL_law 736 = .ok (.iconst 1, 1) := AdL_law_31lawdec06_0.2.2.2.2.2.2.1
theorem dL_law_737 : decode cL_law 737 = .ok (.iadd, 1) := AdL_law_31lawdec06_0.2.2.2.2.2.2.2.1
theorem dL_law_738 : decode cL_law 738 = .ok (.iaload, 1) := AdL_law_31lawdec06_0.2.2.2.2.2.2.2.2.1
theorem dL_law_739 : decode cL_law 739 = .ok (.invokevirtual 120, 3) := AdL_law_31lawdec06_0.2.2.2.2.2.2.2.2.2.1
theorem dL_law_742 : decode cL_law 742 = .ok (.pop, 1) := AdL_law_31lawdec06_0.2.2.2.2.2.2.2.2.2.2.1
theorem dL_law_743 : decode cL_law 743 = .ok (.goto 98, 3) := AdL_law_31lawdec06_0.2.2.2.2.2.2.2.2.2.2.2.1
theorem dL_law_746 : decode cL_law 746 = .ok (.aload_n 1, 1) := AdL_law_31lawdec06_0.2.2.2.2.2.2.2.2.2.2.2.2.1
theorem dL_law_747 : decode cL_law 747 = .ok (.invokevirtual 121, 3) := AdL_law_31lawdec06_0.2.2.2.2.2.2.2.2.2.2.2.2.2.1
theorem dL_law_750 : decode cL_law 750 = .ok (.pop, 1) := AdL_law_31lawdec06_0.2.2.2.2.2.2.2.2.2.2.2.2.2.2.1
theorem dL_law_751 : decode cL_law 751 = .ok (.aload_n 2, 1) := AdL_law_31lawdec06_0.2.2.2.2.2.2.2.2.2.2.2.2.2.2.2
set_option maxRecDepth 20000 in
theorem AdL_law_31lawdec06_1 : decode cL_law 752 = .ok (.invokevirtual 124, 3) ∧ decode cL_law 755 = .ok (.pop, 1) ∧ decode cL_law 756 = .ok (.goto 85, 3) ∧ decode cL_law 759 = .ok (.aload_n 1, 1) ∧ decode cL_law 760 = .ok (.invokevirtual 125, 3) ∧ decode cL_law 763 = .ok (.pop, 1) ∧ decode cL_law 764 = .ok (.aload_n 2, 1) ∧ decode cL_law 765 = .ok (.invokevirtual 128, 3) ∧ decode cL_law 768 = .ok (.pop, 1) ∧ decode cL_law 769 = .ok (.goto 72, 3) ∧ decode cL_law 772 = .ok (.aload_n 1, 1) ∧ decode cL_law 773 = .ok (.aload_n 0, 1) ∧ decode cL_law 774 = .ok (.iload_n 3, 1) ∧ decode cL_law 775 = .ok (.iconst 1, 1) ∧ decode cL_law 776 = .ok (.iadd, 1) ∧ decode cL_law 777 = .ok (.iaload, 1) := by decide +kernel
theorem dL_law_752 : decode cL_law 752 = .ok (.invokevirtual 124, 3) := AdL_law_31lawdec06_1.1
theorem dL_law_755 : decode cL_law 755 = .ok (.pop, 1) := AdL_law_31lawdec06_1.2.1
theorem dL_law_756 : decode cL_law 756 = .ok (.goto 85, 3) := AdL_law_31lawdec06_1.2.2.1
theorem dL_law_759 : decode cL_law 759 = .ok (.aload_n 1, 1) := AdL_law_31lawdec06_1.2.2.2.1
theorem dL_law_760 : decode cL_law 760 = .ok (.invokevirtual 125, 3) := AdL_law_31lawdec06_1.2.2.2.2.1
theorem dL_law_763 : decode cL_law 763 = .ok (.pop, 1) := AdL_law_31lawdec06_1.2.2.2.2.2.1
theorem dL_law_764 : decode cL_law 764 = .ok (.aload_n 2, 1) := AdL_law_31lawdec06_1.2.2.2.2.2.2.1
theorem dL_law_765 : decode cL_law 765 = .ok (.invokevirtual 128, 3) := AdL_law_31lawdec06_1.2.2.2.2.2.2.2.1
theorem dL_law_768 : decode cL_law 768 = .ok (.pop, 1) := AdL_law_31lawdec06_1.2.2.2.2.2.2.2.2.1
theorem dL_law_769 : decode cL_law 769 = .ok (.goto 72, 3) := AdL_law_31lawdec06_1.2.2.2.2.2.2.2.2.2.1
theorem dL_law_772 : decode cL_law 772 = .ok (.aload_n 1, 1) := AdL_law_31lawdec06_1.2.2.2.2.2.2.2.2.2.2.1
theorem dL_law_773 : decode cL_law 773 = .ok (.aload_n 0, 1) := AdL_law_31lawdec06_1.2.2.2.2.2.2.2.2.2.2.2.1
theorem dL_law_774 : decode cL_law 774 = .ok (.iload_n 3, 1) := AdL_law_31lawdec06_1.2.2.2.2.2.2.2.2.2.2.2.2.1
theorem dL_law_775 : decode cL_law 775 = .ok (.iconst 1, 1) := AdL_law_31lawdec06_1.2.2.2.2.2.2.2.2.2.2.2.2.2.1
theorem dL_law_776 : decode cL_law 776 = .ok (.iadd, 1) := AdL_law_31lawdec06_1.2.2.2.2.2.2.2.2.2.2.2.2.2.2.1
theorem dL_law_777 : decode cL_law 777 = .ok (.iaload, 1) := AdL_law_31lawdec06_1.2.2.2.2.2.2.2.2.2.2.2.2.2.2.2
set_option maxRecDepth 20000 in
theorem AdL_law_31lawdec06_2 : decode cL_law 778 = .ok (.invokevirtual 129, 3) ∧ decode cL_law 781 = .ok (.pop, 1) ∧ decode cL_law 782 = .ok (.aload_n 2, 1) ∧ decode cL_law 783 = .ok (.aload_n 0, 1) ∧ decode cL_law 784 = .ok (.iload_n 3, 1) ∧ decode cL_law 785 = .ok (.iconst 1, 1) ∧ decode cL_law 786 = .ok (.iadd, 1) ∧ decode cL_law 787 = .ok (.iaload, 1) ∧ decode cL_law 788 = .ok (.invokevirtual 132, 3) ∧ decode cL_law 791 = .ok (.pop, 1) ∧ decode cL_law 792 = .ok (.goto 49, 3) ∧ decode cL_law 795 = .ok (.aload_n 1, 1) ∧ decode cL_law 796 = .ok (.aload_n 0, 1) ∧ decode cL_law 797 = .ok (.iload_n 3, 1) ∧ decode cL_law 798 = .ok (.iconst 1, 1) ∧ decode cL_law 799 = .ok (.iadd, 1) := by decide +kernel
theorem dL_law_778 : decode cL_law 778 = .ok (.invokevirtual 129, 3) := AdL_law_31lawdec06_2.1
theorem dL_law_781 : decode cL_law 781 = .ok (.pop, 1) := AdL_law_31lawdec06_2.2.1
theorem dL_law_782 : decode cL_law 782 = .ok (.aload_n 2, 1) := AdL_law_31lawdec06_2.2.2.1
theorem dL_law_783 : decode cL_law 783 = .ok (.aload_n 0, 1) := AdL_law_31lawdec06_2.2.2.2.1
theorem dL_law_784 : decode cL_law 784 = .ok (.iload_n 3, 1) := AdL_law_31lawdec06_2.2.2.2.2.1
theorem dL_law_785 : decode cL_law 785 = .ok (.iconst 1, 1) := AdL_law_31lawdec06_2.2.2.2.2.2.1
theorem dL_law_786 : decode cL_law 786 = .ok (.iadd, 1) := AdL_law_31lawdec06_2.2.2.2.2.2.2.1
theorem dL_law_787 : decode cL_law 787 = .ok (.iaload, 1) := AdL_law_31lawdec06_2.2.2.2.2.2.2.2.1
theorem dL_law_788 : decode cL_law 788 = .ok (.invokevirtual 132, 3) := AdL_law_31lawdec06_2.2.2.2.2.2.2.2.2.1
theorem dL_law_791 : decode cL_law 791 = .ok (.pop, 1) := AdL_law_31lawdec06_2.2.2.2.2.2.2.2.2.2.1
theorem dL_law_792 : decode cL_law 792 = .ok (.goto 49, 3) := AdL_law_31lawdec06_2.2.2.2.2.2.2.2.2.2.2.1
theorem dL_law_795 : decode cL_law 795 = .ok (.aload_n 1, 1) := AdL_law_31lawdec06_2.2.2.2.2.2.2.2.2.2.2.2.1
theorem dL_law_796 : decode cL_law 796 = .ok (.aload_n 0, 1) := AdL_law_31lawdec06_2.2.2.2.2.2.2.2.2.2.2.2.2.1
theorem dL_law_797 : decode cL_law 797 = .ok (.iload_n 3, 1) := AdL_law_31lawdec06_2.2.2.2.2.2.2.2.2.2.2.2.2.2.1
theorem dL_law_798 : decode cL_law 798 = .ok (.iconst 1, 1) := AdL_law_31lawdec06_2.2.2.2.2.2.2.2.2.2.2.2.2.2.2.1
theorem dL_law_799 : decode cL_law 799 = .ok (.iadd, 1) := AdL_law_31lawdec06_2.2.2.2.2.2.2.2.2.2.2.2.2.2.2.2
set_option maxRecDepth 20000 in
theorem AdL_law_31lawdec06_3 : decode cL_law 800 = .ok (.iaload, 1) ∧ decode cL_law 801 = .ok (.invokevirtual 133, 3) ∧ decode cL_law 804 = .ok (.pop, 1) ∧ decode cL_law 805 = .ok (.aload_n 2, 1) ∧ decode cL_law 806 = .ok (.aload_n 0, 1) ∧ decode cL_law 807 = .ok (.iload_n 3, 1) ∧ decode cL_law 808 = .ok (.iconst 1, 1) ∧ decode cL_law 809 = .ok (.iadd, 1) ∧ decode cL_law 810 = .ok (.iaload, 1) ∧ decode cL_law 811 = .ok (.invokevirtual 136, 3) ∧ decode cL_law 814 = .ok (.pop, 1) ∧ decode cL_law 815 = .ok (.goto 26, 3) ∧ decode cL_law 818 = .ok (.aload_n 1, 1) ∧ decode cL_law 819 = .ok (.aload_n 0, 1) ∧ decode cL_law 820 = .ok (.iload_n 3, 1) ∧ decode cL_law 821 = .ok (.iconst 1, 1) := by decide +kernel
theorem dL_law_800 : decode cL_law 800 = .ok (.iaload, 1) := AdL_law_31lawdec06_3.1
theorem dL_law_801 : decode cL_law 801 = .ok (.invokevirtual 133, 3) := AdL_law_31lawdec06_3.2.1
theorem dL_law_804 : decode cL_law 804 = .ok (.pop, 1) := AdL_law_31lawdec06_3.2.2.1
theorem dL_law_805 : decode cL_law 805 = .ok (.aload_n 2, 1) := AdL_law_31lawdec06_3.2.2.2.1
theorem dL_law_806 : decode cL_law 806 = .ok (.aload_n 0, 1) := AdL_law_31lawdec06_3.2.2.2.2.1
theorem dL_law_807 : decode cL_law 807 = .ok (.iload_n 3, 1) := AdL_law_31lawdec06_3.2.2.2.2.2.1
theorem dL_law_808 : decode cL_law 808 = .ok (.iconst 1, 1) := AdL_law_31lawdec06_3.2.2.2.2.2.2.1
theorem dL_law_809 : decode cL_law 809 = .ok (.iadd, 1) := AdL_law_31lawdec06_3.2.2.2.2.2.2.2.1
theorem dL_law_810 : decode cL_law 810 = .ok (.iaload, 1) := AdL_law_31lawdec06_3.2.2.2.2.2.2.2.2.1
theorem dL_law_811 : decode cL_law 811 = .ok (.invokevirtual 136, 3) := AdL_law_31lawdec06_3.2.2.2.2.2.2.2.2.2.1
theorem dL_law_814 : decode cL_law 814 = .ok (.pop, 1) := AdL_law_31lawdec06_3.2.2.2.2.2.2.2.2.2.2.1
theorem dL_law_815 : decode cL_law 815 = .ok (.goto 26, 3) := AdL_law_31lawdec06_3.2.2.2.2.2.2.2.2.2.2.2.1
theorem dL_law_818 : decode cL_law 818 = .ok (.aload_n 1, 1) := AdL_law_31lawdec06_3.2.2.2.2.2.2.2.2.2.2.2.2.1
theorem dL_law_819 : decode cL_law 819 = .ok (.aload_n 0, 1) := AdL_law_31lawdec06_3.2.2.2.2.2.2.2.2.2.2.2.2.2.1
theorem dL_law_820 : decode cL_law 820 = .ok (.iload_n 3, 1) := AdL_law_31lawdec06_3.2.2.2.2.2.2.2.2.2.2.2.2.2.2.1
theorem dL_law_821 : decode cL_law 821 = .ok (.iconst 1, 1) := AdL_law_31lawdec06_3.2.2.2.2.2.2.2.2.2.2.2.2.2.2.2
set_option maxRecDepth 20000 in
theorem AdL_law_31lawdec06_4 : decode cL_law 822 = .ok (.iadd, 1) ∧ decode cL_law 823 = .ok (.iaload, 1) ∧ decode cL_law 824 = .ok (.invokevirtual 137, 3) ∧ decode cL_law 827 = .ok (.aload_n 2, 1) ∧ decode cL_law 828 = .ok (.aload_n 0, 1) ∧ decode cL_law 829 = .ok (.iload_n 3, 1) := by decide +kernel
theorem dL_law_822 : decode cL_law 822 = .ok (.iadd, 1) := AdL_law_31lawdec06_4.1
theorem dL_law_823 : decode cL_law 823 = .ok (.iaload, 1) := AdL_law_31lawdec06_4.2.1
theorem dL_law_824 : decode cL_law 824 = .ok (.invokevirtual 137, 3) := AdL_law_31lawdec06_4.2.2.1
theorem dL_law_827 : decode cL_law 827 = .ok (.aload_n 2, 1) := AdL_law_31lawdec06_4.2.2.2.1
theorem dL_law_828 : decode cL_law 828 = .ok (.aload_n 0, 1) := AdL_law_31lawdec06_4.2.2.2.2.1
theorem dL_law_829 : decode cL_law 829 = .ok (.iload_n 3, 1) := AdL_law_31lawdec06_4.2.2.2.2.2
