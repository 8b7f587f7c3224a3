set_option maxRecDepth 20000 in
theorem AdL_law_31lawdec07_0 : decode cL_law 830 = .ok (.iload_n 3, 1) ∧ decode cL_law 831 = .ok (.iconst 1, 1) ∧ decode cL_law 832 = .ok (.iadd, 1) ∧ decode cL_law 833 = .ok (.iaload, 1) ∧ decode cL_law 834 = .ok (.invokevirtual 140, 3) ∧ decode cL_law 837 = .ok (.pop, 1) ∧ decode cL_law 838 = .ok (.goto 3, 3) ∧ decode cL_law 841 = .ok (.iinc 3 3, 3) ∧ decode cL_law 844 = .ok (.goto (-826), 3) ∧ decode cL_law 847 = .ok (.iconst 1, 1) ∧ decode cL_law 848 = .ok (.ireturn, 1) := by decide +kernel
theorem dL_law_830 : decode cL_law 830 = .ok (.iload_n 3, 1) := AdL_law_31lawdec07_0.1
theorem dL_law_831 : decode cL_law 831 = .ok (.iconst 1, 1) := AdL_law_31lawdec07_0.2.1
theorem dL_law_832 : decode cL_law 832 = .ok (.iadd, 1) := AdL_law_31lawdec07_0.2.2.1
theorem dL_law_833 : decode cL_law 833 = .ok (.iaload, 1) := AdL_law_31lawdec07_0.2.2.2.1
theorem dL_law_834 : decode cL_law 834 = .ok (.invokevirtual 140, 3) := AdL_law_31lawdec07_0.2.2.2.2.1
theorem dL_law_837 : decode cL_law 837 = .ok (.pop, 1) := AdL_law_31lawdec07_0.2.2.2.2.2.1
theorem dL_law_838 : decode cL_law 838 = .ok (.goto 3, 3) := AdL_law_31lawdec07_0.2.2.2.2.2.2.1
theorem dL_law_841 : decode cL_law 841 = .ok (.iinc 3 3, 3) := AdL_law_31lawdec07_0.2.2.2.2.2.2.2.1
theorem dL_law_844 : decode cL_law 844 = .ok (.goto (-826), 3) := AdL_law_31lawdec07_0.2.2.2.2.2.2.2.2.1
theorem dL_law_847 : decode cL_law 847 = .ok (.iconst 1, 1) := AdL_law_31lawdec07_0.2.2.2.2.2.2.2.2.2.1
theorem dL_law_848 : decode cL_law 848 = .ok (.ireturn, 1) := AdL_law_31lawdec07_0.2.2.2.2.2.2.2.2.2.2
