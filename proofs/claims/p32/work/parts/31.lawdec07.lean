set_option maxRecDepth 20000 in
theorem AdL_law_31lawdec07_0 : decode cL_law 830 = .ok (.iconst 1, 1) ∧ decode cL_law 831 = .ok (.iadd, 1) ∧ decode cL_law 832 = .ok (.iaload, 1) ∧ decode cL_law 833 = .ok (.invokevirtual 140, 3) ∧ decode cL_law 836 = .ok (.if_icmp .eq 5, 3) ∧ decode cL_law 839 = .ok (.iconst 0, 1) ∧ decode cL_law 840 = .ok (.ireturn, 1) ∧ decode cL_law 841 = .ok (.iinc 3 3, 3) ∧ decode cL_law 844 = .ok (.goto (-826), 3) ∧ decode cL_law 847 = .ok (.iconst 1, 1) ∧ decode cL_law 848 = .ok (.ireturn, 1) := by decide +kernel
theorem dL_law_830 : decode cL_law 830 = .ok (.iconst 1, 1) := AdL_law_31lawdec07_0.1
theorem dL_law_831 : decode cL_law 831 = .ok (.iadd, 1) := AdL_law_31lawdec07_0.2.1
theorem dL_law_832 : decode cL_law 832 = .ok (.iaload, 1) := AdL_law_31lawdec07_0.2.2.1
theorem dL_law_833 : decode cL_law 833 = .ok (.invokevirtual 140, 3) := AdL_law_31lawdec07_0.2.2.2.1
theorem dL_law_836 : decode cL_law 836 = .ok (.if_icmp .eq 5, 3) := AdL_law_31lawdec07_0.2.2.2.2.1
theorem dL_law_839 : decode cL_law 839 = .ok (.iconst 0, 1) := AdL_law_31lawdec07_0.2.2.2.2.2.1
theorem dL_law_840 : decode cL_law 840 = .ok (.ireturn, 1) := AdL_law_31lawdec07_0.2.2.2.2.2.2.1
theorem dL_law_841 : decode cL_law 841 = .ok (.iinc 3 3, 3) := AdL_law_31lawdec07_0.2.2.2.2.2.2.2.1
theorem dL_law_844 : decode cL_law 844 = .ok (.goto (-826), 3) := AdL_law_31lawdec07_0.2.2.2.2.2.2.2.2.1
theorem dL_law_847 : decode cL_law 847 = .ok (.iconst 1, 1) := AdL_law_31lawdec07_0.2.2.2.2.2.2.2.2.2.1
theorem dL_law_848 : decode cL_law 848 = .ok (.ireturn, 1) := AdL_law_31lawdec07_0.2.2.2.2.2.2.2.2.2.2
