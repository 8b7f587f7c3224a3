theorem dX5_readRoad_30 : decode cX5_readRoad 30 = .ok (.iload_n 2, 1) := by decide +kernel
theorem dX5_readRoad_31 : decode cX5_readRoad 31 = .ok (.iconst 0, 1) := by decide +kernel
theorem dX5_readRoad_32 : decode cX5_readRoad 32 = .ok (.invokevirtual 81, 3) := by decide +kernel
theorem dX5_readRoad_35 : decode cX5_readRoad 35 = .ok (.iload_n 3, 1) := by decide +kernel
theorem dX5_readRoad_36 : decode cX5_readRoad 36 = .ok (.ishr, 1) := by decide +kernel
theorem dX5_readRoad_37 : decode cX5_readRoad 37 = .ok (.iconst 1, 1) := by decide +kernel
theorem dX5_readRoad_38 : decode cX5_readRoad 38 = .ok (.iand, 1) := by decide +kernel
theorem dX5_readRoad_39 : decode cX5_readRoad 39 = .ok (.ifCond .eq 12, 3) := by decide +kernel
theorem dX5_readRoad_42 : decode cX5_readRoad 42 = .ok (.aload_n 0, 1) := by decide +kernel
theorem dX5_readRoad_43 : decode cX5_readRoad 43 = .ok (.iconst 4, 1) := by decide +kernel
theorem dX5_readRoad_44 : decode cX5_readRoad 44 = .ok (.aload_n 0, 1) := by decide +kernel
theorem dX5_readRoad_45 : decode cX5_readRoad 45 = .ok (.getfield 84, 3) := by decide +kernel
theorem dX5_readRoad_48 : decode cX5_readRoad 48 = .ok (.invokevirtual 45, 3) := by decide +kernel
theorem dX5_readRoad_51 : decode cX5_readRoad 51 = .ok (.aload_n 0, 1) := by decide +kernel
theorem dX5_readRoad_52 : decode cX5_readRoad 52 = .ok (.invokevirtual 71, 3) := by decide +kernel
theorem dX5_readRoad_55 : decode cX5_readRoad 55 = .ok (.aload_n 1, 1) := by decide +kernel
theorem dX5_readRoad_56 : decode cX5_readRoad 56 = .ok (.iload_n 2, 1) := by decide +kernel
theorem dX5_readRoad_57 : decode cX5_readRoad 57 = .ok (.iload_n 3, 1) := by decide +kernel
theorem dX5_readRoad_58 : decode cX5_readRoad 58 = .ok (.invokevirtual 87, 3) := by decide +kernel
theorem dX5_readRoad_61 : decode cX5_readRoad 61 = .ok (.return_, 1) := by decide +kernel
set_option maxRecDepth 20000 in
theorem ggX5_readNumber_X5_skipBlanks : GoodIn wsX5_readNumber wsX5_skipBlanks := goodIn_m (fun w hw => by
  revert w hw; unfold wsX5_skipBlanks
  exact am_cons (am_at in_wsX5_readNumber_0 9 rfl) (am_app (am_cons (am_at in_wsX5_readNumber_0 2 rfl) (am_cons (am_at in_wsX5_readNumber_0 4 rfl) (am_cons (am_at in_wsX5_readNumber_0 1 rfl) am_nil))) in_wsX5_readNumber_1)) gw_wsX5_skipBlanks
set_option maxRecDepth 20000 in
theorem gX5_readNumber_X5_skipBlanks : GoodIn wsX5_readNumber (wsV RX5 30 RX5 yX5_skipBlanks wsX5_skipBlanks) := goodIn_app (goodIn_m (am_cons (am_at in_wsX5_readNumber_0 5 rfl) (am_cons (am_at in_wsX5_readNumber_0 6 rfl) (am_cons (am_at in_wsX5_readNumber_0 7 rfl) (am_cons (am_at in_wsX5_readNumber_0 8 rfl) am_nil)))) (by decide +kernel)) ggX5_readNumber_X5_skipBlanks
set_option maxRecDepth 20000 in
theorem ggX5_readNumber_X5_isFigure : GoodIn wsX5_readNumber wsX5_isFigure := goodIn_m (fun w hw => by
  revert w hw; unfold wsX5_isFigure
  exact am_cons (am_at in_wsX5_readNumber_0 12 rfl) am_nil) gw_wsX5_isFigure
set_option maxRecDepth 20000 in
theorem gX5_readNumber_X5_isFigure : GoodIn wsX5_readNumber (va_wsS RX5 90 yX5_isFigure wsX5_isFigure) := goodIn_app (goodIn_m (am_cons (am_at in_wsX5_readNumber_0 10 rfl) (am_cons (am_at in_wsX5_readNumber_0 11 rfl) (am_cons (am_at in_wsX5_readNumber_0 8 rfl) am_nil))) (by decide +kernel)) ggX5_readNumber_X5_isFigure
set_option maxRecDepth 20000 in
theorem ggX5_readNumber_X5_blame : GoodIn wsX5_readNumber wsX5_blame := goodIn_m (fun w hw => by
  revert w hw; unfold wsX5_blame
  exact am_cons (am_at in_wsX5_readNumber_0 16 rfl) (am_app (am_cons (am_at in_wsX5_readNumber_0 0 rfl) (am_cons (am_at in_wsX5_readNumber_0 17 rfl) am_nil)) in_wsX5_readNumber_1)) gw_wsX5_blame
set_option maxRecDepth 20000 in
theorem gX5_readNumber_X5_blame : GoodIn wsX5_readNumber (wsV RX5 45 RX5 yX5_blame wsX5_blame) := goodIn_app (goodIn_m (am_cons (am_at in_wsX5_readNumber_0 13 rfl) (am_cons (am_at in_wsX5_readNumber_0 14 rfl) (am_cons (am_at in_wsX5_readNumber_0 15 rfl) (am_cons (am_at in_wsX5_readNumber_0 8 rfl) am_nil)))) (by decide +kernel)) ggX5_readNumber_X5_blame
theorem dX5_readNumber_0 : decode cX5_readNumber 0 = .ok (.aload_n 0, 1) := by decide +kernel
theorem dX5_readNumber_1 : decode cX5_readNumber 1 = .ok (.getfield 27, 3) := by decide +kernel
theorem dX5_readNumber_4 : decode cX5_readNumber 4 = .ok (.ifCond .eq 5, 3) := by decide +kernel
theorem dX5_readNumber_7 : decode cX5_readNumber 7 = .ok (.iload_n 1, 1) := by decide +kernel
theorem dX5_readNumber_8 : decode cX5_readNumber 8 = .ok (.ireturn, 1) := by decide +kernel
theorem dX5_readNumber_9 : decode cX5_readNumber 9 = .ok (.aload_n 0, 1) := by decide +kernel
theorem dX5_readNumber_10 : decode cX5_readNumber 10 = .ok (.invokevirtual 30, 3) := by decide +kernel
theorem dX5_readNumber_13 : decode cX5_readNumber 13 = .ok (.ifCond .eq 18, 3) := by decide +kernel
theorem dX5_readNumber_16 : decode cX5_readNumber 16 = .ok (.aload_n 0, 1) := by decide +kernel
theorem dX5_readNumber_17 : decode cX5_readNumber 17 = .ok (.getfield 9, 3) := by decide +kernel
theorem dX5_readNumber_20 : decode cX5_readNumber 20 = .ok (.aload_n 0, 1) := by decide +kernel
theorem dX5_readNumber_21 : decode cX5_readNumber 21 = .ok (.getfield 24, 3) := by decide +kernel
theorem dX5_readNumber_24 : decode cX5_readNumber 24 = .ok (.caload, 1) := by decide +kernel
theorem dX5_readNumber_25 : decode cX5_readNumber 25 = .ok (.invokestatic 90, 3) := by decide +kernel
theorem dX5_readNumber_28 : decode cX5_readNumber 28 = .ok (.ifCond .ne 14, 3) := by decide +kernel
theorem dX5_readNumber_31 : decode cX5_readNumber 31 = .ok (.aload_n 0, 1) := by decide +kernel
theorem dX5_readNumber_32 : decode cX5_readNumber 32 = .ok (.iconst 1, 1) := by decide +kernel
theorem dX5_readNumber_33 : decode cX5_readNumber 33 = .ok (.aload_n 0, 1) := by decide +kernel
theorem dX5_readNumber_34 : decode cX5_readNumber 34 = .ok (.getfield 24, 3) := by decide +kernel
theorem dX5_readNumber_37 : decode cX5_readNumber 37 = .ok (.invokevirtual 45, 3) := by decide +kernel
theorem dX5_readNumber_40 : decode cX5_readNumber 40 = .ok (.iload_n 1, 1) := by decide +kernel
theorem dX5_readNumber_41 : decode cX5_readNumber 41 = .ok (.ireturn, 1) := by decide +kernel
theorem dX5_readNumber_42 : decode cX5_readNumber 42 = .ok (.aload_n 0, 1) := by decide +kernel
theorem dX5_readNumber_43 : decode cX5_readNumber 43 = .ok (.aload_n 0, 1) := by decide +kernel
theorem dX5_readNumber_44 : decode cX5_readNumber 44 = .ok (.getfield 24, 3) := by decide +kernel
theorem dX5_readNumber_47 : decode cX5_readNumber 47 = .ok (.putfield 84, 3) := by decide +kernel
theorem dX5_readNumber_50 : decode cX5_readNumber 50 = .ok (.iconst 0, 1) := by decide +kernel
theorem dX5_readNumber_51 : decode cX5_readNumber 51 = .ok (.istore_n 3, 1) := by decide +kernel
theorem dX5_readNumber_52 : decode cX5_readNumber 52 = .ok (.aload_n 0, 1) := by decide +kernel
theorem dX5_readNumber_53 : decode cX5_readNumber 53 = .ok (.getfield 24, 3) := by decide +kernel
theorem dX5_readNumber_56 : decode cX5_readNumber 56 = .ok (.aload_n 0, 1) := by decide +kernel
theorem dX5_readNumber_57 : decode cX5_readNumber 57 = .ok (.getfield 38, 3) := by decide +kernel
theorem dX5_readNumber_60 : decode cX5_readNumber 60 = .ok (.if_icmp .ge 62, 3) := by decide +kernel
theorem dX5_readNumber_63 : decode cX5_readNumber 63 = .ok (.aload_n 0, 1) := by decide +kernel
theorem dX5_readNumber_64 : decode cX5_readNumber 64 = .ok (.getfield 9, 3) := by decide +kernel
theorem dX5_readNumber_67 : decode cX5_readNumber 67 = .ok (.aload_n 0, 1) := by decide +kernel
theorem dX5_readNumber_68 : decode cX5_readNumber 68 = .ok (.getfield 24, 3) := by decide +kernel
theorem dX5_readNumber_71 : decode cX5_readNumber 71 = .ok (.caload, 1) := by decide +kernel
theorem dX5_readNumber_72 : decode cX5_readNumber 72 = .ok (.invokestatic 90, 3) := by decide +kernel
theorem dX5_readNumber_75 : decode cX5_readNumber 75 = .ok (.ifCond .eq 47, 3) := by decide +kernel
theorem dX5_readNumber_78 : decode cX5_readNumber 78 = .ok (.aload_n 0, 1) := by decide +kernel
theorem dX5_readNumber_79 : decode cX5_readNumber 79 = .ok (.getfield 24, 3) := by decide +kernel
theorem dX5_readNumber_82 : decode cX5_readNumber 82 = .ok (.aload_n 0, 1) := by decide +kernel
theorem dX5_readNumber_83 : decode cX5_readNumber 83 = .ok (.getfield 84, 3) := by decide +kernel
theorem dX5_readNumber_86 : decode cX5_readNumber 86 = .ok (.isub, 1) := by decide +kernel
theorem dX5_readNumber_87 : decode cX5_readNumber 87 = .ok (.iconst 4, 1) := by decide +kernel
theorem dX5_readNumber_88 : decode cX5_readNumber 88 = .ok (.if_icmp .ge 21, 3) := by decide +kernel
theorem dX5_readNumber_91 : decode cX5_readNumber 91 = .ok (.iload_n 3, 1) := by decide +kernel
theorem dX5_readNumber_92 : decode cX5_readNumber 92 = .ok (.bipush 10, 2) := by decide +kernel
theorem dX5_readNumber_94 : decode cX5_readNumber 94 = .ok (.imul, 1) := by decide +kernel
theorem dX5_readNumber_95 : decode cX5_readNumber 95 = .ok (.aload_n 0, 1) := by decide +kernel
theorem dX5_readNumber_96 : decode cX5_readNumber 96 = .ok (.getfield 9, 3) := by decide +kernel
theorem dX5_readNumber_99 : decode cX5_readNumber 99 = .ok (.aload_n 0, 1) := by decide +kernel
theorem dX5_readNumber_100 : decode cX5_readNumber 100 = .ok (.getfield 24, 3) := by decide +kernel
theorem dX5_readNumber_103 : decode cX5_readNumber 103 = .ok (.caload, 1) := by decide +kernel
theorem dX5_readNumber_104 : decode cX5_readNumber 104 = .ok (.iadd, 1) := by decide +kernel
theorem dX5_readNumber_105 : decode cX5_readNumber 105 = .ok (.bipush 48, 2) := by decide +kernel
theorem dX5_readNumber_107 : decode cX5_readNumber 107 = .ok (.isub, 1) := by decide +kernel
theorem dX5_readNumber_108 : decode cX5_readNumber 108 = .ok (.istore_n 3, 1) := by decide +kernel
theorem dX5_readNumber_109 : decode cX5_readNumber 109 = .ok (.aload_n 0, 1) := by decide +kernel
theorem dX5_readNumber_110 : decode cX5_readNumber 110 = .ok (.dup, 1) := by decide +kernel
theorem dX5_readNumber_111 : decode cX5_readNumber 111 = .ok (.getfield 24, 3) := by decide +kernel
theorem dX5_readNumber_114 : decode cX5_readNumber 114 = .ok (.iconst 1, 1) := by decide +kernel
theorem dX5_readNumber_115 : decode cX5_readNumber 115 = .ok (.iadd, 1) := by decide +kernel
theorem dX5_readNumber_116 : decode cX5_readNumber 116 = .ok (.putfield 24, 3) := by decide +kernel
theorem dX5_readNumber_119 : decode cX5_readNumber 119 = .ok (.goto (-67), 3) := by decide +kernel
theorem dX5_readNumber_122 : decode cX5_readNumber 122 = .ok (.aload_n 0, 1) := by decide +kernel
theorem dX5_readNumber_123 : decode cX5_readNumber 123 = .ok (.getfield 24, 3) := by decide +kernel
theorem dX5_readNumber_126 : decode cX5_readNumber 126 = .ok (.aload_n 0, 1) := by decide +kernel
theorem dX5_readNumber_127 : decode cX5_readNumber 127 = .ok (.getfield 84, 3) := by decide +kernel
theorem dX5_readNumber_130 : decode cX5_readNumber 130 = .ok (.isub, 1) := by decide +kernel
theorem dX5_readNumber_131 : decode cX5_readNumber 131 = .ok (.iconst 4, 1) := by decide +kernel
theorem dX5_readNumber_132 : decode cX5_readNumber 132 = .ok (.if_icmp .gt 13, 3) := by decide +kernel
theorem dX5_readNumber_135 : decode cX5_readNumber 135 = .ok (.iload_n 3, 1) := by decide +kernel
theorem dX5_readNumber_136 : decode cX5_readNumber 136 = .ok (.iload_n 1, 1) := by decide +kernel
theorem dX5_readNumber_137 : decode cX5_readNumber 137 = .ok (.if_icmp .lt 8, 3) := by decide +kernel
theorem dX5_readNumber_140 : decode cX5_readNumber 140 = .ok (.iload_n 3, 1) := by decide +kernel
theorem dX5_readNumber_141 : decode cX5_readNumber 141 = .ok (.iload_n 2, 1) := by decide +kernel
theorem dX5_readNumber_142 : decode cX5_readNumber 142 = .ok (.if_icmp .le 14, 3) := by decide +kernel
theorem dX5_readNumber_145 : decode cX5_readNumber 145 = .ok (.aload_n 0, 1) := by decide +kernel
theorem dX5_readNumber_146 : decode cX5_readNumber 146 = .ok (.iconst 2, 1) := by decide +kernel
theorem dX5_readNumber_147 : decode cX5_readNumber 147 = .ok (.aload_n 0, 1) := by decide +kernel
theorem dX5_readNumber_148 : decode cX5_readNumber 148 = .ok (.getfield 84, 3) := by decide +kernel
theorem dX5_readNumber_151 : decode cX5_readNumber 151 = .ok (.invokevirtual 45, 3) := by decide +kernel
theorem dX5_readNumber_154 : decode cX5_readNumber 154 = .ok (.iload_n 1, 1) := by decide +kernel
theorem dX5_readNumber_155 : decode cX5_readNumber 155 = .ok (.ireturn, 1) := by decide +kernel
theorem dX5_readNumber_156 : decode cX5_readNumber 156 = .ok (.iload_n 3, 1) := by decide +kernel
theorem dX5_readNumber_157 : decode cX5_readNumber 157 = .ok (.ireturn, 1) := by decide +kernel
set_option maxRecDepth 20000 in
theorem ggX5_readEnd_X5_skipBlanks : GoodIn wsX5_readEnd wsX5_skipBlanks := goodIn_m (fun w hw => by
  revert w hw; unfold wsX5_skipBlanks
  exact am_cons (am_at in_wsX5_readEnd_0 7 rfl) (am_app (am_cons (am_at in_wsX5_readEnd_0 2 rfl) (am_cons (am_at in_wsX5_readEnd_0 8 rfl) (am_cons (am_at in_wsX5_readEnd_0 1 rfl) am_nil))) in_wsX5_readEnd_1)) gw_wsX5_skipBlanks
set_option maxRecDepth 20000 in
theorem gX5_readEnd_X5_skipBlanks : GoodIn wsX5_readEnd (wsV RX5 30 RX5 yX5_skipBlanks wsX5_skipBlanks) := goodIn_app (goodIn_m (am_cons (am_at in_wsX5_readEnd_0 3 rfl) (am_cons (am_at in_wsX5_readEnd_0 4 rfl) (am_cons (am_at in_wsX5_readEnd_0 5 rfl) (am_cons (am_at in_wsX5_readEnd_0 6 rfl) am_nil)))) (by decide +kernel)) ggX5_readEnd_X5_skipBlanks
set_option maxRecDepth 20000 in
theorem ggX5_readEnd_X5_blame : GoodIn wsX5_readEnd wsX5_blame := goodIn_m (fun w hw => by
  revert w hw; unfold wsX5_blame
  exact am_cons (am_at in_wsX5_readEnd_0 12 rfl) (am_app (am_cons (am_at in_wsX5_readEnd_0 0 rfl) (am_cons (am_at in_wsX5_readEnd_0 13 rfl) am_nil)) in_wsX5_readEnd_1)) gw_wsX5_blame
set_option maxRecDepth 20000 in
theorem gX5_readEnd_X5_blame : GoodIn wsX5_readEnd (wsV RX5 45 RX5 yX5_blame wsX5_blame) := goodIn_app (goodIn_m (am_cons (am_at in_wsX5_readEnd_0 9 rfl) (am_cons (am_at in_wsX5_readEnd_0 10 rfl) (am_cons (am_at in_wsX5_readEnd_0 11 rfl) (am_cons (am_at in_wsX5_readEnd_0 6 rfl) am_nil)))) (by decide +kernel)) ggX5_readEnd_X5_blame
theorem dX5_readEnd_0 : decode cX5_readEnd 0 = .ok (.aload_n 0, 1) := by decide +kernel
theorem dX5_readEnd_1 : decode cX5_readEnd 1 = .ok (.getfield 27, 3) := by decide +kernel
theorem dX5_readEnd_4 : decode cX5_readEnd 4 = .ok (.ifCond .eq 4, 3) := by decide +kernel
theorem dX5_readEnd_7 : decode cX5_readEnd 7 = .ok (.return_, 1) := by decide +kernel
theorem dX5_readEnd_8 : decode cX5_readEnd 8 = .ok (.aload_n 0, 1) := by decide +kernel
theorem dX5_readEnd_9 : decode cX5_readEnd 9 = .ok (.invokevirtual 30, 3) := by decide +kernel
theorem dX5_readEnd_12 : decode cX5_readEnd 12 = .ok (.ifCond .eq 17, 3) := by decide +kernel
theorem dX5_readEnd_15 : decode cX5_readEnd 15 = .ok (.aload_n 0, 1) := by decide +kernel
theorem dX5_readEnd_16 : decode cX5_readEnd 16 = .ok (.getfield 9, 3) := by decide +kernel
theorem dX5_readEnd_19 : decode cX5_readEnd 19 = .ok (.aload_n 0, 1) := by decide +kernel
theorem dX5_readEnd_20 : decode cX5_readEnd 20 = .ok (.getfield 24, 3) := by decide +kernel
theorem dX5_readEnd_23 : decode cX5_readEnd 23 = .ok (.caload, 1) := by decide +kernel
theorem dX5_readEnd_24 : decode cX5_readEnd 24 = .ok (.bipush 59, 2) := by decide +kernel
theorem dX5_readEnd_26 : decode cX5_readEnd 26 = .ok (.if_icmp .eq 13, 3) := by decide +kernel
theorem dX5_readEnd_29 : decode cX5_readEnd 29 = .ok (.aload_n 0, 1) := by decide +kernel
theorem dX5_readEnd_30 : decode cX5_readEnd 30 = .ok (.iconst 1, 1) := by decide +kernel
theorem dX5_readEnd_31 : decode cX5_readEnd 31 = .ok (.aload_n 0, 1) := by decide +kernel
theorem dX5_readEnd_32 : decode cX5_readEnd 32 = .ok (.getfield 24, 3) := by decide +kernel
theorem dX5_readEnd_35 : decode cX5_readEnd 35 = .ok (.invokevirtual 45, 3) := by decide +kernel
theorem dX5_readEnd_38 : decode cX5_readEnd 38 = .ok (.return_, 1) := by decide +kernel
theorem dX5_readEnd_39 : decode cX5_readEnd 39 = .ok (.aload_n 0, 1) := by decide +kernel
theorem dX5_readEnd_40 : decode cX5_readEnd 40 = .ok (.dup, 1) := by decide +kernel
theorem dX5_readEnd_41 : decode cX5_readEnd 41 = .ok (.getfield 24, 3) := by decide +kernel
theorem dX5_readEnd_44 : decode cX5_readEnd 44 = .ok (.iconst 1, 1) := by decide +kernel
theorem dX5_readEnd_45 : decode cX5_readEnd 45 = .ok (.iadd, 1) := by decide +kernel
theorem dX5_readEnd_46 : decode cX5_readEnd 46 = .ok (.putfield 24, 3) := by decide +kernel
theorem dX5_readEnd_49 : decode cX5_readEnd 49 = .ok (.return_, 1) := by decide +kernel
theorem dX5_skipBlanks_0 : decode cX5_skipBlanks 0 = .ok (.aload_n 0, 1) := by decide +kernel
theorem dX5_skipBlanks_1 : decode cX5_skipBlanks 1 = .ok (.getfield 24, 3) := by decide +kernel
theorem dX5_skipBlanks_4 : decode cX5_skipBlanks 4 = .ok (.aload_n 0, 1) := by decide +kernel
theorem dX5_skipBlanks_5 : decode cX5_skipBlanks 5 = .ok (.getfield 38, 3) := by decide +kernel
theorem dX5_skipBlanks_8 : decode cX5_skipBlanks 8 = .ok (.if_icmp .ge 30, 3) := by decide +kernel
theorem dX5_skipBlanks_11 : decode cX5_skipBlanks 11 = .ok (.aload_n 0, 1) := by decide +kernel
theorem dX5_skipBlanks_12 : decode cX5_skipBlanks 12 = .ok (.getfield 9, 3) := by decide +kernel
theorem dX5_skipBlanks_15 : decode cX5_skipBlanks 15 = .ok (.aload_n 0, 1) := by decide +kernel
theorem dX5_skipBlanks_16 : decode cX5_skipBlanks 16 = .ok (.getfield 24, 3) := by decide +kernel
theorem dX5_skipBlanks_19 : decode cX5_skipBlanks 19 = .ok (.caload, 1) := by decide +kernel
theorem dX5_skipBlanks_20 : decode cX5_skipBlanks 20 = .ok (.bipush 32, 2) := by decide +kernel
theorem dX5_skipBlanks_22 : decode cX5_skipBlanks 22 = .ok (.if_icmp .ne 16, 3) := by decide +kernel
theorem dX5_skipBlanks_25 : decode cX5_skipBlanks 25 = .ok (.aload_n 0, 1) := by decide +kernel
theorem dX5_skipBlanks_26 : decode cX5_skipBlanks 26 = .ok (.dup, 1) := by decide +kernel
theorem dX5_skipBlanks_27 : decode cX5_skipBlanks 27 = .ok (.getfield 24, 3) := by decide +kernel
theorem dX5_skipBlanks_30 : decode cX5_skipBlanks 30 = .ok (.iconst 1, 1) := by decide +kernel
theorem dX5_skipBlanks_31 : decode cX5_skipBlanks 31 = .ok (.iadd, 1) := by decide +kernel
theorem dX5_skipBlanks_32 : decode cX5_skipBlanks 32 = .ok (.putfield 24, 3) := by decide +kernel
theorem dX5_skipBlanks_35 : decode cX5_skipBlanks 35 = .ok (.goto (-35), 3) := by decide +kernel
theorem dX5_skipBlanks_38 : decode cX5_skipBlanks 38 = .ok (.aload_n 0, 1) := by decide +kernel
theorem dX5_skipBlanks_39 : decode cX5_skipBlanks 39 = .ok (.getfield 24, 3) := by decide +kernel
theorem dX5_skipBlanks_42 : decode cX5_skipBlanks 42 = .ok (.aload_n 0, 1) := by decide +kernel
theorem dX5_skipBlanks_43 : decode cX5_skipBlanks 43 = .ok (.getfield 38, 3) := by decide +kernel
theorem dX5_skipBlanks_46 : decode cX5_skipBlanks 46 = .ok (.if_icmp .ge 7, 3) := by decide +kernel
theorem dX5_skipBlanks_49 : decode cX5_skipBlanks 49 = .ok (.iconst 1, 1) := by decide +kernel
theorem dX5_skipBlanks_50 : decode cX5_skipBlanks 50 = .ok (.goto 4, 3) := by decide +kernel
theorem dX5_skipBlanks_53 : decode cX5_skipBlanks 53 = .ok (.iconst 0, 1) := by decide +kernel
theorem dX5_skipBlanks_54 : decode cX5_skipBlanks 54 = .ok (.ireturn, 1) := by decide +kernel
theorem dX5_isFigure_0 : decode cX5_isFigure 0 = .ok (.iload_n 0, 1) := by decide +kernel
theorem dX5_isFigure_1 : decode cX5_isFigure 1 = .ok (.bipush 48, 2) := by decide +kernel
theorem dX5_isFigure_3 : decode cX5_isFigure 3 = .ok (.if_icmp .lt 13, 3) := by decide +kernel
theorem dX5_isFigure_6 : decode cX5_isFigure 6 = .ok (.iload_n 0, 1) := by decide +kernel
theorem dX5_isFigure_7 : decode cX5_isFigure 7 = .ok (.bipush 57, 2) := by decide +kernel
theorem dX5_isFigure_9 : decode cX5_isFigure 9 = .ok (.if_icmp .gt 7, 3) := by decide +kernel
theorem dX5_isFigure_12 : decode cX5_isFigure 12 = .ok (.iconst 1, 1) := by decide +kernel
theorem dX5_isFigure_13 : decode cX5_isFigure 13 = .ok (.goto 4, 3) := by decide +kernel
theorem dX5_isFigure_16 : decode cX5_isFigure 16 = .ok (.iconst 0, 1) := by decide +kernel
theorem dX5_isFigure_17 : decode cX5_isFigure 17 = .ok (.ireturn, 1) := by decide +kernel
theorem dX5_blame_0 : decode cX5_blame 0 = .ok (.aload_n 0, 1) := by decide +kernel
theorem dX5_blame_1 : decode cX5_blame 1 = .ok (.getfield 27, 3) := by decide +kernel
theorem dX5_blame_4 : decode cX5_blame 4 = .ok (.ifCond .ne 13, 3) := by decide +kernel
theorem dX5_blame_7 : decode cX5_blame 7 = .ok (.aload_n 0, 1) := by decide +kernel
theorem dX5_blame_8 : decode cX5_blame 8 = .ok (.iload_n 1, 1) := by decide +kernel
theorem dX5_blame_9 : decode cX5_blame 9 = .ok (.putfield 27, 3) := by decide +kernel
theorem dX5_blame_12 : decode cX5_blame 12 = .ok (.aload_n 0, 1) := by decide +kernel
theorem dX5_blame_13 : decode cX5_blame 13 = .ok (.iload_n 2, 1) := by decide +kernel
theorem dX5_blame_14 : decode cX5_blame 14 = .ok (.putfield 15, 3) := by decide +kernel
theorem dX5_blame_17 : decode cX5_blame 17 = .ok (.return_, 1) := by decide +kernel
theorem dX6_init_0 : decode cX6_init 0 = .ok (.aload_n 0, 1) := by decide +kernel
theorem dX6_init_1 : decode cX6_init 1 = .ok (.invokespecial 3, 3) := by decide +kernel
theorem dX6_init_4 : decode cX6_init 4 = .ok (.aload_n 0, 1) := by decide +kernel
theorem dX6_init_5 : decode cX6_init 5 = .ok (.bipush 8, 2) := by decide +kernel
theorem dX6_init_7 : decode cX6_init 7 = .ok (.newarray .int, 2) := by decide +kernel
theorem dX6_init_9 : decode cX6_init 9 = .ok (.putfield 9, 3) := by decide +kernel
theorem dX6_init_12 : decode cX6_init 12 = .ok (.aload_n 0, 1) := by decide +kernel
theorem dX6_init_13 : decode cX6_init 13 = .ok (.bipush 8, 2) := by decide +kernel
theorem dX6_init_15 : decode cX6_init 15 = .ok (.newarray .int, 2) := by decide +kernel
theorem dX6_init_17 : decode cX6_init 17 = .ok (.putfield 15, 3) := by decide +kernel
theorem dX6_init_20 : decode cX6_init 20 = .ok (.aload_n 0, 1) := by decide +kernel
theorem dX6_init_21 : decode cX6_init 21 = .ok (.bipush 8, 2) := by decide +kernel
theorem dX6_init_23 : decode cX6_init 23 = .ok (.newarray .int, 2) := by decide +kernel
theorem dX6_init_25 : decode cX6_init 25 = .ok (.putfield 18, 3) := by decide +kernel
theorem dX6_init_28 : decode cX6_init 28 = .ok (.aload_n 0, 1) := by decide +kernel
theorem dX6_init_29 : decode cX6_init 29 = .ok (.sipush 245, 3) := by decide +kernel
theorem dX6_init_32 : decode cX6_init 32 = .ok (.newarray .int, 2) := by decide +kernel
theorem dX6_init_34 : decode cX6_init 34 = .ok (.putfield 21, 3) := by decide +kernel
theorem dX6_init_37 : decode cX6_init 37 = .ok (.aload_n 0, 1) := by decide +kernel
theorem dX6_init_38 : decode cX6_init 38 = .ok (.sipush 245, 3) := by decide +kernel
theorem dX6_init_41 : decode cX6_init 41 = .ok (.newarray .int, 2) := by decide +kernel
theorem dX6_init_43 : decode cX6_init 43 = .ok (.putfield 24, 3) := by decide +kernel
theorem dX6_init_46 : decode cX6_init 46 = .ok (.return_, 1) := by decide +kernel
theorem dX6_add_0 : decode cX6_add 0 = .ok (.aload_n 0, 1) := by decide +kernel
theorem dX6_add_1 : decode cX6_add 1 = .ok (.getfield 27, 3) := by decide +kernel
theorem dX6_add_4 : decode cX6_add 4 = .ok (.bipush 8, 2) := by decide +kernel
theorem dX6_add_6 : decode cX6_add 6 = .ok (.if_icmp .ge 33, 3) := by decide +kernel
theorem dX6_add_9 : decode cX6_add 9 = .ok (.aload_n 0, 1) := by decide +kernel
theorem dX6_add_10 : decode cX6_add 10 = .ok (.getfield 9, 3) := by decide +kernel
theorem dX6_add_13 : decode cX6_add 13 = .ok (.aload_n 0, 1) := by decide +kernel
theorem dX6_add_14 : decode cX6_add 14 = .ok (.getfield 27, 3) := by decide +kernel
theorem dX6_add_17 : decode cX6_add 17 = .ok (.iload_n 1, 1) := by decide +kernel
theorem dX6_add_18 : decode cX6_add 18 = .ok (.iastore, 1) := by decide +kernel
theorem dX6_add_19 : decode cX6_add 19 = .ok (.aload_n 0, 1) := by decide +kernel
theorem dX6_add_20 : decode cX6_add 20 = .ok (.getfield 15, 3) := by decide +kernel
theorem dX6_add_23 : decode cX6_add 23 = .ok (.aload_n 0, 1) := by decide +kernel
theorem dX6_add_24 : decode cX6_add 24 = .ok (.getfield 27, 3) := by decide +kernel
theorem dX6_add_27 : decode cX6_add 27 = .ok (.iload_n 2, 1) := by decide +kernel
theorem dX6_add_28 : decode cX6_add 28 = .ok (.iastore, 1) := by decide +kernel
theorem dX6_add_29 : decode cX6_add 29 = .ok (.aload_n 0, 1) := by decide +kernel
theorem dX6_add_30 : decode cX6_add 30 = .ok (.dup, 1) := by decide +kernel
theorem dX6_add_31 : decode cX6_add 31 = .ok (.getfield 27, 3) := by decide +kernel
theorem dX6_add_34 : decode cX6_add 34 = .ok (.iconst 1, 1) := by decide +kernel
theorem dX6_add_35 : decode cX6_add 35 = .ok (.iadd, 1) := by decide +kernel
theorem dX6_add_36 : decode cX6_add 36 = .ok (.putfield 27, 3) := by decide +kernel
theorem dX6_add_39 : decode cX6_add 39 = .ok (.return_, 1) := by decide +kernel
set_option maxRecDepth 20000 in
theorem ggX6_someWay_X6_sweepAhead : GoodIn wsX6_someWay wsX6_sweepAhead := goodIn_m (fun w hw => by
  revert w hw; unfold wsX6_sweepAhead wsX6_sweepAhead_r1 wsX6_sweepAhead_r2 wsX6_sweepAhead_r3
  exact am_cons (am_at in_wsX6_someWay_0 5 rfl) (am_app (am_app (am_app (am_cons (am_at in_wsX6_someWay_0 6 rfl) (am_cons (am_at in_wsX6_someWay_0 0 rfl) (am_cons (am_at in_wsX6_someWay_0 7 rfl) (am_cons (am_at in_wsX6_someWay_0 8 rfl) (am_cons (am_at in_wsX6_someWay_0 9 rfl) (am_cons (am_at in_wsX6_someWay_0 10 rfl) (am_cons (am_at in_wsX6_someWay_0 11 rfl) (am_cons (am_at in_wsX6_someWay_0 12 rfl) (am_cons (am_at in_wsX6_someWay_0 13 rfl) (am_cons (am_at in_wsX6_someWay_0 14 rfl) (am_cons (am_at in_wsX6_someWay_0 15 rfl) (am_cons (am_at in_wsX6_someWay_0 16 rfl) (am_cons (am_at in_wsX6_someWay_0 17 rfl) (am_cons (am_at in_wsX6_someWay_0 18 rfl) (am_cons (am_at in_wsX6_someWay_0 19 rfl) (am_cons (am_at in_wsX6_someWay_0 20 rfl) (am_cons (am_at in_wsX6_someWay_0 21 rfl) (am_cons (am_at in_wsX6_someWay_0 22 rfl) (am_cons (am_at in_wsX6_someWay_0 23 rfl) (am_cons (am_at in_wsX6_someWay_1 0 rfl) (am_cons (am_at in_wsX6_someWay_1 1 rfl) (am_cons (am_at in_wsX6_someWay_1 2 rfl) (am_cons (am_at in_wsX6_someWay_1 3 rfl) (am_cons (am_at in_wsX6_someWay_1 4 rfl) am_nil)))))))))))))))))))))))) (am_app (am_cons (am_at in_wsX6_someWay_1 5 rfl) (am_cons (am_at in_wsX6_someWay_0 4 rfl) (am_cons (am_at in_wsX6_someWay_1 6 rfl) (am_cons (am_at in_wsX6_someWay_1 7 rfl) (am_cons (am_at in_wsX6_someWay_1 8 rfl) (am_cons (am_at in_wsX6_someWay_1 9 rfl) (am_cons (am_at in_wsX6_someWay_1 10 rfl) (am_cons (am_at in_wsX6_someWay_1 11 rfl) (am_cons (am_at in_wsX6_someWay_1 12 rfl) (am_cons (am_at in_wsX6_someWay_1 13 rfl) (am_cons (am_at in_wsX6_someWay_1 14 rfl) (am_cons (am_at in_wsX6_someWay_1 15 rfl) (am_cons (am_at in_wsX6_someWay_1 16 rfl) (am_cons (am_at in_wsX6_someWay_1 17 rfl) (am_cons (am_at in_wsX6_someWay_1 18 rfl) (am_cons (am_at in_wsX6_someWay_1 19 rfl) (am_cons (am_at in_wsX6_someWay_1 20 rfl) (am_cons (am_at in_wsX6_someWay_1 21 rfl) (am_cons (am_at in_wsX6_someWay_1 22 rfl) (am_cons (am_at in_wsX6_someWay_1 23 rfl) (am_cons (am_at in_wsX6_someWay_2 0 rfl) (am_cons (am_at in_wsX6_someWay_2 1 rfl) (am_cons (am_at in_wsX6_someWay_2 2 rfl) (am_cons (am_at in_wsX6_someWay_2 3 rfl) am_nil)))))))))))))))))))))))) (am_cons (am_at in_wsX6_someWay_2 4 rfl) (am_cons (am_at in_wsX6_someWay_2 5 rfl) am_nil)))) in_wsX6_someWay_3) in_wsX6_someWay_4)) gw_wsX6_sweepAhead
set_option maxRecDepth 20000 in
theorem gX6_someWay_X6_sweepAhead : GoodIn wsX6_someWay (wsV RX6 31 RX6 yX6_sweepAhead wsX6_sweepAhead) := goodIn_app (goodIn_m (am_cons (am_at in_wsX6_someWay_0 1 rfl) (am_cons (am_at in_wsX6_someWay_0 2 rfl) (am_cons (am_at in_wsX6_someWay_0 3 rfl) (am_cons (am_at in_wsX6_someWay_0 4 rfl) am_nil)))) (by decide +kernel)) ggX6_someWay_X6_sweepAhead
set_option maxRecDepth 20000 in
theorem ggX6_someWay_X6_union : GoodIn wsX6_someWay wsX6_union := goodIn_m (fun w hw => by
  revert w hw; unfold wsX6_union
  exact am_cons (am_at in_wsX6_someWay_2 2 rfl) am_nil) gw_wsX6_union
set_option maxRecDepth 20000 in
theorem gX6_someWay_X6_union : GoodIn wsX6_someWay (va_wsS RX6 35 yX6_union wsX6_union) := goodIn_app (goodIn_m (am_cons (am_at in_wsX6_someWay_2 0 rfl) (am_cons (am_at in_wsX6_someWay_2 1 rfl) (am_cons (am_at in_wsX6_someWay_0 4 rfl) am_nil))) (by decide +kernel)) ggX6_someWay_X6_union
theorem dX6_someWay_0 : decode cX6_someWay 0 = .ok (.aload_n 0, 1) := by decide +kernel
theorem dX6_someWay_1 : decode cX6_someWay 1 = .ok (.aload_n 1, 1) := by decide +kernel
theorem dX6_someWay_2 : decode cX6_someWay 2 = .ok (.iload_n 2, 1) := by decide +kernel
theorem dX6_someWay_3 : decode cX6_someWay 3 = .ok (.invokevirtual 31, 3) := by decide +kernel
theorem dX6_someWay_6 : decode cX6_someWay 6 = .ok (.aload_n 0, 1) := by decide +kernel
theorem dX6_someWay_7 : decode cX6_someWay 7 = .ok (.getfield 21, 3) := by decide +kernel
theorem dX6_someWay_10 : decode cX6_someWay 10 = .ok (.bipush 48, 2) := by decide +kernel
theorem dX6_someWay_12 : decode cX6_someWay 12 = .ok (.invokestatic 35, 3) := by decide +kernel
theorem dX6_someWay_15 : decode cX6_someWay 15 = .ok (.ifCond .eq 7, 3) := by decide +kernel
theorem dX6_someWay_18 : decode cX6_someWay 18 = .ok (.iconst 1, 1) := by decide +kernel
theorem dX6_someWay_19 : decode cX6_someWay 19 = .ok (.goto 4, 3) := by decide +kernel
theorem dX6_someWay_22 : decode cX6_someWay 22 = .ok (.iconst 0, 1) := by decide +kernel
theorem dX6_someWay_23 : decode cX6_someWay 23 = .ok (.ireturn, 1) := by decide +kernel
set_option maxRecDepth 20000 in
theorem ggX6_boughtSeals_X6_someWay : GoodIn wsX6_boughtSeals wsX6_someWay := goodIn_m (fun w hw => by
  revert w hw; unfold wsX6_someWay wsX6_someWay_r1 wsX6_someWay_r2 wsX6_someWay_r3
  exact am_cons (am_at in_wsX6_boughtSeals_0 5 rfl) (am_app (am_app (am_app (am_cons (am_at in_wsX6_boughtSeals_0 6 rfl) (am_cons (am_at in_wsX6_boughtSeals_0 7 rfl) (am_cons (am_at in_wsX6_boughtSeals_0 8 rfl) (am_cons (am_at in_wsX6_boughtSeals_0 9 rfl) (am_cons (am_at in_wsX6_boughtSeals_0 4 rfl) (am_cons (am_at in_wsX6_boughtSeals_0 10 rfl) (am_cons (am_at in_wsX6_boughtSeals_0 11 rfl) (am_cons (am_at in_wsX6_boughtSeals_0 12 rfl) (am_cons (am_at in_wsX6_boughtSeals_0 13 rfl) (am_cons (am_at in_wsX6_boughtSeals_0 14 rfl) (am_cons (am_at in_wsX6_boughtSeals_0 15 rfl) (am_cons (am_at in_wsX6_boughtSeals_0 16 rfl) (am_cons (am_at in_wsX6_boughtSeals_0 17 rfl) (am_cons (am_at in_wsX6_boughtSeals_0 18 rfl) (am_cons (am_at in_wsX6_boughtSeals_0 19 rfl) (am_cons (am_at in_wsX6_boughtSeals_0 20 rfl) (am_cons (am_at in_wsX6_boughtSeals_0 21 rfl) (am_cons (am_at in_wsX6_boughtSeals_0 22 rfl) (am_cons (am_at in_wsX6_boughtSeals_0 23 rfl) (am_cons (am_at in_wsX6_boughtSeals_1 0 rfl) (am_cons (am_at in_wsX6_boughtSeals_1 1 rfl) (am_cons (am_at in_wsX6_boughtSeals_1 2 rfl) (am_cons (am_at in_wsX6_boughtSeals_1 3 rfl) (am_cons (am_at in_wsX6_boughtSeals_1 4 rfl) am_nil)))))))))))))))))))))))) (am_app (am_cons (am_at in_wsX6_boughtSeals_1 5 rfl) (am_cons (am_at in_wsX6_boughtSeals_1 6 rfl) (am_cons (am_at in_wsX6_boughtSeals_1 7 rfl) (am_cons (am_at in_wsX6_boughtSeals_1 8 rfl) (am_cons (am_at in_wsX6_boughtSeals_1 9 rfl) (am_cons (am_at in_wsX6_boughtSeals_1 10 rfl) (am_cons (am_at in_wsX6_boughtSeals_1 11 rfl) (am_cons (am_at in_wsX6_boughtSeals_0 0 rfl) (am_cons (am_at in_wsX6_boughtSeals_1 12 rfl) (am_cons (am_at in_wsX6_boughtSeals_1 13 rfl) (am_cons (am_at in_wsX6_boughtSeals_1 14 rfl) (am_cons (am_at in_wsX6_boughtSeals_1 15 rfl) (am_cons (am_at in_wsX6_boughtSeals_1 16 rfl) (am_cons (am_at in_wsX6_boughtSeals_1 17 rfl) (am_cons (am_at in_wsX6_boughtSeals_1 18 rfl) (am_cons (am_at in_wsX6_boughtSeals_1 19 rfl) (am_cons (am_at in_wsX6_boughtSeals_1 20 rfl) (am_cons (am_at in_wsX6_boughtSeals_1 21 rfl) (am_cons (am_at in_wsX6_boughtSeals_1 22 rfl) (am_cons (am_at in_wsX6_boughtSeals_1 23 rfl) (am_cons (am_at in_wsX6_boughtSeals_2 0 rfl) (am_cons (am_at in_wsX6_boughtSeals_2 1 rfl) (am_cons (am_at in_wsX6_boughtSeals_2 2 rfl) (am_cons (am_at in_wsX6_boughtSeals_2 3 rfl) am_nil)))))))))))))))))))))))) (am_cons (am_at in_wsX6_boughtSeals_2 4 rfl) (am_cons (am_at in_wsX6_boughtSeals_2 5 rfl) (am_cons (am_at in_wsX6_boughtSeals_2 6 rfl) (am_cons (am_at in_wsX6_boughtSeals_2 7 rfl) (am_cons (am_at in_wsX6_boughtSeals_2 8 rfl) (am_cons (am_at in_wsX6_boughtSeals_2 9 rfl) am_nil)))))))) in_wsX6_boughtSeals_3) in_wsX6_boughtSeals_4)) gw_wsX6_someWay
set_option maxRecDepth 20000 in
theorem gX6_boughtSeals_X6_someWay : GoodIn wsX6_boughtSeals (wsV RX6 39 RX6 yX6_someWay wsX6_someWay) := goodIn_app (goodIn_m (am_cons (am_at in_wsX6_boughtSeals_0 1 rfl) (am_cons (am_at in_wsX6_boughtSeals_0 2 rfl) (am_cons (am_at in_wsX6_boughtSeals_0 3 rfl) (am_cons (am_at in_wsX6_boughtSeals_0 4 rfl) am_nil)))) (by decide +kernel)) ggX6_boughtSeals_X6_someWay
theorem dX6_boughtSeals_0 : decode cX6_boughtSeals 0 = .ok (.aload_n 0, 1) := by decide +kernel
theorem dX6_boughtSeals_1 : decode cX6_boughtSeals 1 = .ok (.aload_n 1, 1) := by decide +kernel
theorem dX6_boughtSeals_2 : decode cX6_boughtSeals 2 = .ok (.iconst (-1), 1) := by decide +kernel
theorem dX6_boughtSeals_3 : decode cX6_boughtSeals 3 = .ok (.invokevirtual 39, 3) := by decide +kernel
theorem dX6_boughtSeals_6 : decode cX6_boughtSeals 6 = .ok (.ifCond .eq 5, 3) := by decide +kernel
theorem dX6_boughtSeals_9 : decode cX6_boughtSeals 9 = .ok (.iconst 0, 1) := by decide +kernel
theorem dX6_boughtSeals_10 : decode cX6_boughtSeals 10 = .ok (.ireturn, 1) := by decide +kernel
theorem dX6_boughtSeals_11 : decode cX6_boughtSeals 11 = .ok (.iconst 0, 1) := by decide +kernel
theorem dX6_boughtSeals_12 : decode cX6_boughtSeals 12 = .ok (.istore_n 2, 1) := by decide +kernel
theorem dX6_boughtSeals_13 : decode cX6_boughtSeals 13 = .ok (.iconst 0, 1) := by decide +kernel
theorem dX6_boughtSeals_14 : decode cX6_boughtSeals 14 = .ok (.istore_n 3, 1) := by decide +kernel
theorem dX6_boughtSeals_15 : decode cX6_boughtSeals 15 = .ok (.iload_n 3, 1) := by decide +kernel
theorem dX6_boughtSeals_16 : decode cX6_boughtSeals 16 = .ok (.aload_n 0, 1) := by decide +kernel
theorem dX6_boughtSeals_17 : decode cX6_boughtSeals 17 = .ok (.getfield 27, 3) := by decide +kernel
theorem dX6_boughtSeals_20 : decode cX6_boughtSeals 20 = .ok (.if_icmp .ge 24, 3) := by decide +kernel
theorem dX6_boughtSeals_23 : decode cX6_boughtSeals 23 = .ok (.aload_n 0, 1) := by decide +kernel
theorem dX6_boughtSeals_24 : decode cX6_boughtSeals 24 = .ok (.aload_n 1, 1) := by decide +kernel
theorem dX6_boughtSeals_25 : decode cX6_boughtSeals 25 = .ok (.iload_n 3, 1) := by decide +kernel
theorem dX6_boughtSeals_26 : decode cX6_boughtSeals 26 = .ok (.invokevirtual 39, 3) := by decide +kernel
theorem dX6_boughtSeals_29 : decode cX6_boughtSeals 29 = .ok (.ifCond .eq 9, 3) := by decide +kernel
theorem dX6_boughtSeals_32 : decode cX6_boughtSeals 32 = .ok (.iload_n 2, 1) := by decide +kernel
theorem dX6_boughtSeals_33 : decode cX6_boughtSeals 33 = .ok (.iconst 1, 1) := by decide +kernel
theorem dX6_boughtSeals_34 : decode cX6_boughtSeals 34 = .ok (.iload_n 3, 1) := by decide +kernel
theorem dX6_boughtSeals_35 : decode cX6_boughtSeals 35 = .ok (.ishl, 1) := by decide +kernel
theorem dX6_boughtSeals_36 : decode cX6_boughtSeals 36 = .ok (.ior, 1) := by decide +kernel
theorem dX6_boughtSeals_37 : decode cX6_boughtSeals 37 = .ok (.istore_n 2, 1) := by decide +kernel
theorem dX6_boughtSeals_38 : decode cX6_boughtSeals 38 = .ok (.iinc 3 1, 3) := by decide +kernel
theorem dX6_boughtSeals_41 : decode cX6_boughtSeals 41 = .ok (.goto (-26), 3) := by decide +kernel
theorem dX6_boughtSeals_44 : decode cX6_boughtSeals 44 = .ok (.iload_n 2, 1) := by decide +kernel
theorem dX6_boughtSeals_45 : decode cX6_boughtSeals 45 = .ok (.ireturn, 1) := by decide +kernel
set_option maxRecDepth 20000 in
theorem ggX6_sweepBoth_X6_sweepAhead : GoodIn wsX6_sweepBoth wsX6_sweepAhead := goodIn_m (fun w hw => by
  revert w hw; unfold wsX6_sweepAhead wsX6_sweepAhead_r1 wsX6_sweepAhead_r2 wsX6_sweepAhead_r3
  exact am_cons (am_at in_wsX6_sweepBoth_0 4 rfl) (am_app (am_app (am_app (am_cons (am_at in_wsX6_sweepBoth_0 5 rfl) (am_cons (am_at in_wsX6_sweepBoth_0 6 rfl) (am_cons (am_at in_wsX6_sweepBoth_0 7 rfl) (am_cons (am_at in_wsX6_sweepBoth_0 8 rfl) (am_cons (am_at in_wsX6_sweepBoth_0 9 rfl) (am_cons (am_at in_wsX6_sweepBoth_0 10 rfl) (am_cons (am_at in_wsX6_sweepBoth_0 11 rfl) (am_cons (am_at in_wsX6_sweepBoth_0 12 rfl) (am_cons (am_at in_wsX6_sweepBoth_0 13 rfl) (am_cons (am_at in_wsX6_sweepBoth_0 14 rfl) (am_cons (am_at in_wsX6_sweepBoth_0 15 rfl) (am_cons (am_at in_wsX6_sweepBoth_0 16 rfl) (am_cons (am_at in_wsX6_sweepBoth_0 17 rfl) (am_cons (am_at in_wsX6_sweepBoth_0 18 rfl) (am_cons (am_at in_wsX6_sweepBoth_0 19 rfl) (am_cons (am_at in_wsX6_sweepBoth_0 20 rfl) (am_cons (am_at in_wsX6_sweepBoth_0 21 rfl) (am_cons (am_at in_wsX6_sweepBoth_0 22 rfl) (am_cons (am_at in_wsX6_sweepBoth_0 23 rfl) (am_cons (am_at in_wsX6_sweepBoth_1 0 rfl) (am_cons (am_at in_wsX6_sweepBoth_1 1 rfl) (am_cons (am_at in_wsX6_sweepBoth_1 2 rfl) (am_cons (am_at in_wsX6_sweepBoth_1 3 rfl) (am_cons (am_at in_wsX6_sweepBoth_1 4 rfl) am_nil)))))))))))))))))))))))) (am_app (am_cons (am_at in_wsX6_sweepBoth_1 5 rfl) (am_cons (am_at in_wsX6_sweepBoth_0 3 rfl) (am_cons (am_at in_wsX6_sweepBoth_1 6 rfl) (am_cons (am_at in_wsX6_sweepBoth_1 7 rfl) (am_cons (am_at in_wsX6_sweepBoth_1 8 rfl) (am_cons (am_at in_wsX6_sweepBoth_1 9 rfl) (am_cons (am_at in_wsX6_sweepBoth_1 10 rfl) (am_cons (am_at in_wsX6_sweepBoth_1 11 rfl) (am_cons (am_at in_wsX6_sweepBoth_1 12 rfl) (am_cons (am_at in_wsX6_sweepBoth_1 13 rfl) (am_cons (am_at in_wsX6_sweepBoth_1 14 rfl) (am_cons (am_at in_wsX6_sweepBoth_1 15 rfl) (am_cons (am_at in_wsX6_sweepBoth_1 16 rfl) (am_cons (am_at in_wsX6_sweepBoth_1 17 rfl) (am_cons (am_at in_wsX6_sweepBoth_1 18 rfl) (am_cons (am_at in_wsX6_sweepBoth_1 19 rfl) (am_cons (am_at in_wsX6_sweepBoth_1 20 rfl) (am_cons (am_at in_wsX6_sweepBoth_1 21 rfl) (am_cons (am_at in_wsX6_sweepBoth_1 22 rfl) (am_cons (am_at in_wsX6_sweepBoth_1 23 rfl) (am_cons (am_at in_wsX6_sweepBoth_2 0 rfl) (am_cons (am_at in_wsX6_sweepBoth_2 1 rfl) (am_cons (am_at in_wsX6_sweepBoth_2 2 rfl) (am_cons (am_at in_wsX6_sweepBoth_2 3 rfl) am_nil)))))))))))))))))))))))) (am_cons (am_at in_wsX6_sweepBoth_2 4 rfl) (am_cons (am_at in_wsX6_sweepBoth_2 5 rfl) am_nil)))) in_wsX6_sweepBoth_3) in_wsX6_sweepBoth_4)) gw_wsX6_sweepAhead
set_option maxRecDepth 20000 in
theorem gX6_sweepBoth_X6_sweepAhead : GoodIn wsX6_sweepBoth (wsV RX6 31 RX6 yX6_sweepAhead wsX6_sweepAhead) := goodIn_app (goodIn_m (am_cons (am_at in_wsX6_sweepBoth_0 0 rfl) (am_cons (am_at in_wsX6_sweepBoth_0 1 rfl) (am_cons (am_at in_wsX6_sweepBoth_0 2 rfl) (am_cons (am_at in_wsX6_sweepBoth_0 3 rfl) am_nil)))) (by decide +kernel)) ggX6_sweepBoth_X6_sweepAhead
set_option maxRecDepth 20000 in
theorem ggX6_sweepBoth_X6_sweepBehind : GoodIn wsX6_sweepBoth wsX6_sweepBehind := goodIn_m (fun w hw => by
  revert w hw; unfold wsX6_sweepBehind wsX6_sweepBehind_r1 wsX6_sweepBehind_r2
  exact am_cons (am_at in_wsX6_sweepBoth_2 9 rfl) (am_app (am_app (am_app (am_cons (am_at in_wsX6_sweepBoth_2 10 rfl) (am_cons (am_at in_wsX6_sweepBoth_0 8 rfl) (am_cons (am_at in_wsX6_sweepBoth_2 11 rfl) (am_cons (am_at in_wsX6_sweepBoth_2 12 rfl) (am_cons (am_at in_wsX6_sweepBoth_2 13 rfl) (am_cons (am_at in_wsX6_sweepBoth_0 12 rfl) (am_cons (am_at in_wsX6_sweepBoth_2 14 rfl) (am_cons (am_at in_wsX6_sweepBoth_0 14 rfl) (am_cons (am_at in_wsX6_sweepBoth_1 3 rfl) (am_cons (am_at in_wsX6_sweepBoth_1 4 rfl) (am_cons (am_at in_wsX6_sweepBoth_1 5 rfl) (am_cons (am_at in_wsX6_sweepBoth_0 3 rfl) (am_cons (am_at in_wsX6_sweepBoth_1 6 rfl) (am_cons (am_at in_wsX6_sweepBoth_1 7 rfl) (am_cons (am_at in_wsX6_sweepBoth_1 8 rfl) (am_cons (am_at in_wsX6_sweepBoth_1 9 rfl) (am_cons (am_at in_wsX6_sweepBoth_1 10 rfl) (am_cons (am_at in_wsX6_sweepBoth_1 11 rfl) (am_cons (am_at in_wsX6_sweepBoth_1 12 rfl) (am_cons (am_at in_wsX6_sweepBoth_1 13 rfl) (am_cons (am_at in_wsX6_sweepBoth_1 14 rfl) (am_cons (am_at in_wsX6_sweepBoth_1 15 rfl) (am_cons (am_at in_wsX6_sweepBoth_1 16 rfl) (am_cons (am_at in_wsX6_sweepBoth_1 17 rfl) am_nil)))))))))))))))))))))))) (am_cons (am_at in_wsX6_sweepBoth_1 18 rfl) (am_cons (am_at in_wsX6_sweepBoth_1 19 rfl) (am_cons (am_at in_wsX6_sweepBoth_1 20 rfl) (am_cons (am_at in_wsX6_sweepBoth_1 21 rfl) (am_cons (am_at in_wsX6_sweepBoth_1 22 rfl) (am_cons (am_at in_wsX6_sweepBoth_1 23 rfl) (am_cons (am_at in_wsX6_sweepBoth_2 15 rfl) (am_cons (am_at in_wsX6_sweepBoth_2 16 rfl) (am_cons (am_at in_wsX6_sweepBoth_2 17 rfl) (am_cons (am_at in_wsX6_sweepBoth_2 18 rfl) (am_cons (am_at in_wsX6_sweepBoth_0 5 rfl) am_nil)))))))))))) in_wsX6_sweepBoth_3) in_wsX6_sweepBoth_4)) gw_wsX6_sweepBehind
set_option maxRecDepth 20000 in
theorem gX6_sweepBoth_X6_sweepBehind : GoodIn wsX6_sweepBoth (wsV RX6 43 RX6 yX6_sweepBehind wsX6_sweepBehind) := goodIn_app (goodIn_m (am_cons (am_at in_wsX6_sweepBoth_2 6 rfl) (am_cons (am_at in_wsX6_sweepBoth_2 7 rfl) (am_cons (am_at in_wsX6_sweepBoth_2 8 rfl) (am_cons (am_at in_wsX6_sweepBoth_0 3 rfl) am_nil)))) (by decide +kernel)) ggX6_sweepBoth_X6_sweepBehind
theorem dX6_sweepBoth_0 : decode cX6_sweepBoth 0 = .ok (.aload_n 0, 1) := by decide +kernel
theorem dX6_sweepBoth_1 : decode cX6_sweepBoth 1 = .ok (.aload_n 1, 1) := by decide +kernel
theorem dX6_sweepBoth_2 : decode cX6_sweepBoth 2 = .ok (.iconst (-1), 1) := by decide +kernel
theorem dX6_sweepBoth_3 : decode cX6_sweepBoth 3 = .ok (.invokevirtual 31, 3) := by decide +kernel
theorem dX6_sweepBoth_6 : decode cX6_sweepBoth 6 = .ok (.aload_n 0, 1) := by decide +kernel
theorem dX6_sweepBoth_7 : decode cX6_sweepBoth 7 = .ok (.aload_n 1, 1) := by decide +kernel
theorem dX6_sweepBoth_8 : decode cX6_sweepBoth 8 = .ok (.invokevirtual 43, 3) := by decide +kernel
theorem dX6_sweepBoth_11 : decode cX6_sweepBoth 11 = .ok (.return_, 1) := by decide +kernel
theorem dX6_townsAt_0 : decode cX6_townsAt 0 = .ok (.iconst 0, 1) := by decide +kernel
theorem dX6_townsAt_1 : decode cX6_townsAt 1 = .ok (.istore_n 2, 1) := by decide +kernel
theorem dX6_townsAt_2 : decode cX6_townsAt 2 = .ok (.iconst 0, 1) := by decide +kernel
theorem dX6_townsAt_3 : decode cX6_townsAt 3 = .ok (.istore_n 3, 1) := by decide +kernel
theorem dX6_townsAt_4 : decode cX6_townsAt 4 = .ok (.iload_n 3, 1) := by decide +kernel
theorem dX6_townsAt_5 : decode cX6_townsAt 5 = .ok (.iconst 5, 1) := by decide +kernel
theorem dX6_townsAt_6 : decode cX6_townsAt 6 = .ok (.if_icmp .ge 33, 3) := by decide +kernel
theorem dX6_townsAt_9 : decode cX6_townsAt 9 = .ok (.iload_n 2, 1) := by decide +kernel
theorem dX6_townsAt_10 : decode cX6_townsAt 10 = .ok (.aload_n 0, 1) := by decide +kernel
theorem dX6_townsAt_11 : decode cX6_townsAt 11 = .ok (.getfield 21, 3) := by decide +kernel
theorem dX6_townsAt_14 : decode cX6_townsAt 14 = .ok (.iload_n 1, 1) := by decide +kernel
theorem dX6_townsAt_15 : decode cX6_townsAt 15 = .ok (.iconst 5, 1) := by decide +kernel
theorem dX6_townsAt_16 : decode cX6_townsAt 16 = .ok (.imul, 1) := by decide +kernel
theorem dX6_townsAt_17 : decode cX6_townsAt 17 = .ok (.iload_n 3, 1) := by decide +kernel
theorem dX6_townsAt_18 : decode cX6_townsAt 18 = .ok (.iadd, 1) := by decide +kernel
theorem dX6_townsAt_19 : decode cX6_townsAt 19 = .ok (.iaload, 1) := by decide +kernel
theorem dX6_townsAt_20 : decode cX6_townsAt 20 = .ok (.aload_n 0, 1) := by decide +kernel
theorem dX6_townsAt_21 : decode cX6_townsAt 21 = .ok (.getfield 24, 3) := by decide +kernel
theorem dX6_townsAt_24 : decode cX6_townsAt 24 = .ok (.iload_n 1, 1) := by decide +kernel
theorem dX6_townsAt_25 : decode cX6_townsAt 25 = .ok (.iconst 5, 1) := by decide +kernel
theorem dX6_townsAt_26 : decode cX6_townsAt 26 = .ok (.imul, 1) := by decide +kernel
theorem dX6_townsAt_27 : decode cX6_townsAt 27 = .ok (.iload_n 3, 1) := by decide +kernel
theorem dX6_townsAt_28 : decode cX6_townsAt 28 = .ok (.iadd, 1) := by decide +kernel
theorem dX6_townsAt_29 : decode cX6_townsAt 29 = .ok (.iaload, 1) := by decide +kernel
theorem dX6_townsAt_30 : decode cX6_townsAt 30 = .ok (.iand, 1) := by decide +kernel
theorem dX6_townsAt_31 : decode cX6_townsAt 31 = .ok (.ior, 1) := by decide +kernel
theorem dX6_townsAt_32 : decode cX6_townsAt 32 = .ok (.istore_n 2, 1) := by decide +kernel
theorem dX6_townsAt_33 : decode cX6_townsAt 33 = .ok (.iinc 3 1, 3) := by decide +kernel
theorem dX6_townsAt_36 : decode cX6_townsAt 36 = .ok (.goto (-32), 3) := by decide +kernel
theorem dX6_townsAt_39 : decode cX6_townsAt 39 = .ok (.iload_n 2, 1) := by decide +kernel
theorem dX6_townsAt_40 : decode cX6_townsAt 40 = .ok (.ireturn, 1) := by decide +kernel
set_option maxRecDepth 20000 in
theorem ggX6_widestMonth_X6_townsAt : GoodIn wsX6_widestMonth wsX6_townsAt := goodIn_m (fun w hw => by
  revert w hw; unfold wsX6_townsAt
  exact am_cons (am_at in_wsX6_widestMonth_0 4 rfl) (am_app (am_cons (am_at in_wsX6_widestMonth_0 5 rfl) (am_cons (am_at in_wsX6_widestMonth_0 6 rfl) am_nil)) in_wsX6_widestMonth_1)) gw_wsX6_townsAt
set_option maxRecDepth 20000 in
theorem gX6_widestMonth_X6_townsAt : GoodIn wsX6_widestMonth (wsV RX6 47 RX6 yX6_townsAt wsX6_townsAt) := goodIn_app (goodIn_m (am_cons (am_at in_wsX6_widestMonth_0 0 rfl) (am_cons (am_at in_wsX6_widestMonth_0 1 rfl) (am_cons (am_at in_wsX6_widestMonth_0 2 rfl) (am_cons (am_at in_wsX6_widestMonth_0 3 rfl) am_nil)))) (by decide +kernel)) ggX6_widestMonth_X6_townsAt
set_option maxRecDepth 20000 in
theorem ggX6_widestMonth_J6_bitCount_0f7a4 : GoodIn wsX6_widestMonth wsJ6_bitCount_0f7a4 := goodIn_m (fun w hw => by
  revert w hw; unfold wsJ6_bitCount_0f7a4
  exact am_cons (am_at in_wsX6_widestMonth_0 10 rfl) (am_cons (am_at in_wsX6_widestMonth_0 11 rfl) (am_cons (am_at in_wsX6_widestMonth_0 12 rfl) (am_cons (am_at in_wsX6_widestMonth_0 13 rfl) am_nil)))) gw_wsJ6_bitCount_0f7a4
set_option maxRecDepth 20000 in
theorem gX6_widestMonth_J6_bitCount_0f7a4 : GoodIn wsX6_widestMonth (va_wsS RX6 51 yJ6_bitCount_0f7a4 wsJ6_bitCount_0f7a4) := goodIn_app (goodIn_m (am_cons (am_at in_wsX6_widestMonth_0 7 rfl) (am_cons (am_at in_wsX6_widestMonth_0 8 rfl) (am_cons (am_at in_wsX6_widestMonth_0 9 rfl) am_nil))) (by decide +kernel)) ggX6_widestMonth_J6_bitCount_0f7a4
theorem dX6_widestMonth_0 : decode cX6_widestMonth 0 = .ok (.iconst (-1), 1) := by decide +kernel
theorem dX6_widestMonth_1 : decode cX6_widestMonth 1 = .ok (.istore_n 1, 1) := by decide +kernel
theorem dX6_widestMonth_2 : decode cX6_widestMonth 2 = .ok (.iconst 1, 1) := by decide +kernel
theorem dX6_widestMonth_3 : decode cX6_widestMonth 3 = .ok (.istore_n 2, 1) := by decide +kernel
theorem dX6_widestMonth_4 : decode cX6_widestMonth 4 = .ok (.iconst 1, 1) := by decide +kernel
theorem dX6_widestMonth_5 : decode cX6_widestMonth 5 = .ok (.istore_n 3, 1) := by decide +kernel
theorem dX6_widestMonth_6 : decode cX6_widestMonth 6 = .ok (.iload_n 3, 1) := by decide +kernel
theorem dX6_widestMonth_7 : decode cX6_widestMonth 7 = .ok (.bipush 48, 2) := by decide +kernel
theorem dX6_widestMonth_9 : decode cX6_widestMonth 9 = .ok (.if_icmp .gt 30, 3) := by decide +kernel
theorem dX6_widestMonth_12 : decode cX6_widestMonth 12 = .ok (.aload_n 0, 1) := by decide +kernel
theorem dX6_widestMonth_13 : decode cX6_widestMonth 13 = .ok (.iload_n 3, 1) := by decide +kernel
theorem dX6_widestMonth_14 : decode cX6_widestMonth 14 = .ok (.invokevirtual 47, 3) := by decide +kernel
theorem dX6_widestMonth_17 : decode cX6_widestMonth 17 = .ok (.invokestatic 51, 3) := by decide +kernel
theorem dX6_widestMonth_20 : decode cX6_widestMonth 20 = .ok (.istore 4, 2) := by decide +kernel
theorem dX6_widestMonth_22 : decode cX6_widestMonth 22 = .ok (.iload 4, 2) := by decide +kernel
theorem dX6_widestMonth_24 : decode cX6_widestMonth 24 = .ok (.iload_n 2, 1) := by decide +kernel
theorem dX6_widestMonth_25 : decode cX6_widestMonth 25 = .ok (.if_icmp .le 8, 3) := by decide +kernel
theorem dX6_widestMonth_28 : decode cX6_widestMonth 28 = .ok (.iload 4, 2) := by decide +kernel
theorem dX6_widestMonth_30 : decode cX6_widestMonth 30 = .ok (.istore_n 2, 1) := by decide +kernel
theorem dX6_widestMonth_31 : decode cX6_widestMonth 31 = .ok (.iload_n 3, 1) := by decide +kernel
theorem dX6_widestMonth_32 : decode cX6_widestMonth 32 = .ok (.istore_n 1, 1) := by decide +kernel
theorem dX6_widestMonth_33 : decode cX6_widestMonth 33 = .ok (.iinc 3 1, 3) := by decide +kernel
theorem dX6_widestMonth_36 : decode cX6_widestMonth 36 = .ok (.goto (-30), 3) := by decide +kernel
theorem dX6_widestMonth_39 : decode cX6_widestMonth 39 = .ok (.iload_n 1, 1) := by decide +kernel
theorem dX6_widestMonth_40 : decode cX6_widestMonth 40 = .ok (.ireturn, 1) := by decide +kernel
set_option maxRecDepth 20000 in
theorem ggX6_sweepAhead_X0_fillExits : GoodIn wsX6_sweepAhead wsX0_fillExits := goodIn_m (fun w hw => by
  revert w hw; unfold wsX0_fillExits
  exact am_cons (am_at in_wsX6_sweepAhead_0 8 rfl) (am_app (am_cons (am_at in_wsX6_sweepAhead_0 9 rfl) (am_cons (am_at in_wsX6_sweepAhead_0 10 rfl) (am_cons (am_at in_wsX6_sweepAhead_0 11 rfl) (am_cons (am_at in_wsX6_sweepAhead_0 12 rfl) (am_cons (am_at in_wsX6_sweepAhead_0 7 rfl) (am_cons (am_at in_wsX6_sweepAhead_0 13 rfl) (am_cons (am_at in_wsX6_sweepAhead_0 14 rfl) (am_cons (am_at in_wsX6_sweepAhead_0 15 rfl) (am_cons (am_at in_wsX6_sweepAhead_0 16 rfl) (am_cons (am_at in_wsX6_sweepAhead_0 17 rfl) (am_cons (am_at in_wsX6_sweepAhead_0 18 rfl) (am_cons (am_at in_wsX6_sweepAhead_0 19 rfl) (am_cons (am_at in_wsX6_sweepAhead_0 20 rfl) (am_cons (am_at in_wsX6_sweepAhead_0 21 rfl) am_nil)))))))))))))) in_wsX6_sweepAhead_4)) gw_wsX0_fillExits
set_option maxRecDepth 20000 in
theorem gX6_sweepAhead_X0_fillExits : GoodIn wsX6_sweepAhead (wsV RX6 56 RX0 yX0_fillExits wsX0_fillExits) := goodIn_app (goodIn_m (am_cons (am_at in_wsX6_sweepAhead_0 4 rfl) (am_cons (am_at in_wsX6_sweepAhead_0 5 rfl) (am_cons (am_at in_wsX6_sweepAhead_0 6 rfl) (am_cons (am_at in_wsX6_sweepAhead_0 7 rfl) am_nil)))) (by decide +kernel)) ggX6_sweepAhead_X0_fillExits
set_option maxRecDepth 20000 in
theorem ggX6_sweepAhead_X6_staysIn : GoodIn wsX6_sweepAhead wsX6_staysIn := goodIn_m (fun w hw => by
  revert w hw; unfold wsX6_staysIn
  exact am_cons (am_at in_wsX6_sweepAhead_1 2 rfl) (am_app (am_app (am_cons (am_at in_wsX6_sweepAhead_1 3 rfl) (am_cons (am_at in_wsX6_sweepAhead_1 4 rfl) (am_cons (am_at in_wsX6_sweepAhead_1 5 rfl) (am_cons (am_at in_wsX6_sweepAhead_1 6 rfl) (am_cons (am_at in_wsX6_sweepAhead_1 7 rfl) (am_cons (am_at in_wsX6_sweepAhead_1 8 rfl) (am_cons (am_at in_wsX6_sweepAhead_0 7 rfl) (am_cons (am_at in_wsX6_sweepAhead_1 9 rfl) (am_cons (am_at in_wsX6_sweepAhead_1 10 rfl) (am_cons (am_at in_wsX6_sweepAhead_1 11 rfl) (am_cons (am_at in_wsX6_sweepAhead_1 12 rfl) (am_cons (am_at in_wsX6_sweepAhead_1 13 rfl) (am_cons (am_at in_wsX6_sweepAhead_1 14 rfl) (am_cons (am_at in_wsX6_sweepAhead_1 15 rfl) (am_cons (am_at in_wsX6_sweepAhead_0 9 rfl) am_nil))))))))))))))) in_wsX6_sweepAhead_3) in_wsX6_sweepAhead_4)) gw_wsX6_staysIn
set_option maxRecDepth 20000 in
theorem gX6_sweepAhead_X6_staysIn : GoodIn wsX6_sweepAhead (wsV RX6 65 RX6 yX6_staysIn wsX6_staysIn) := goodIn_app (goodIn_m (am_cons (am_at in_wsX6_sweepAhead_0 22 rfl) (am_cons (am_at in_wsX6_sweepAhead_0 23 rfl) (am_cons (am_at in_wsX6_sweepAhead_1 0 rfl) (am_cons (am_at in_wsX6_sweepAhead_1 1 rfl) am_nil)))) (by decide +kernel)) ggX6_sweepAhead_X6_staysIn
set_option maxRecDepth 20000 in
theorem ggX6_sweepAhead_X6_isTold : GoodIn wsX6_sweepAhead wsX6_isTold := goodIn_m (fun w hw => by
  revert w hw; unfold wsX6_isTold
  exact am_cons (am_at in_wsX6_sweepAhead_1 19 rfl) (am_app (am_cons (am_at in_wsX6_sweepAhead_1 3 rfl) (am_cons (am_at in_wsX6_sweepAhead_1 4 rfl) am_nil)) in_wsX6_sweepAhead_3)) gw_wsX6_isTold
set_option maxRecDepth 20000 in
theorem gX6_sweepAhead_X6_isTold : GoodIn wsX6_sweepAhead (wsV RX6 69 RX6 yX6_isTold wsX6_isTold) := goodIn_app (goodIn_m (am_cons (am_at in_wsX6_sweepAhead_1 16 rfl) (am_cons (am_at in_wsX6_sweepAhead_1 17 rfl) (am_cons (am_at in_wsX6_sweepAhead_1 18 rfl) (am_cons (am_at in_wsX6_sweepAhead_1 1 rfl) am_nil)))) (by decide +kernel)) ggX6_sweepAhead_X6_isTold
set_option maxRecDepth 20000 in
theorem ggX6_sweepAhead_X6_union : GoodIn wsX6_sweepAhead wsX6_union := goodIn_m (fun w hw => by
  revert w hw; unfold wsX6_union
  exact am_cons (am_at in_wsX6_sweepAhead_1 22 rfl) am_nil) gw_wsX6_union
set_option maxRecDepth 20000 in
theorem gX6_sweepAhead_X6_union : GoodIn wsX6_sweepAhead (va_wsS RX6 35 yX6_union wsX6_union) := goodIn_app (goodIn_m (am_cons (am_at in_wsX6_sweepAhead_1 20 rfl) (am_cons (am_at in_wsX6_sweepAhead_1 21 rfl) (am_cons (am_at in_wsX6_sweepAhead_1 1 rfl) am_nil))) (by decide +kernel)) ggX6_sweepAhead_X6_union
set_option maxRecDepth 20000 in
theorem ggX6_sweepAhead_X7_exitsOf : GoodIn wsX6_sweepAhead wsX7_exitsOf := goodIn_m (fun w hw => by
  revert w hw; unfold wsX7_exitsOf
  exact am_cons (am_at in_wsX6_sweepAhead_2 1 rfl) am_nil) gw_wsX7_exitsOf
set_option maxRecDepth 20000 in
theorem gX6_sweepAhead_X7_exitsOf_n73 : GoodIn wsX6_sweepAhead (wsX7_exitsOf) := ggX6_sweepAhead_X7_exitsOf
theorem dX6_sweepAhead_0 : decode cX6_sweepAhead 0 = .ok (.aload_n 1, 1) := by decide +kernel
theorem dX6_sweepAhead_1 : decode cX6_sweepAhead 1 = .ok (.aload_n 0, 1) := by decide +kernel
theorem dX6_sweepAhead_2 : decode cX6_sweepAhead 2 = .ok (.getfield 18, 3) := by decide +kernel
theorem dX6_sweepAhead_5 : decode cX6_sweepAhead 5 = .ok (.iconst 0, 1) := by decide +kernel
theorem dX6_sweepAhead_6 : decode cX6_sweepAhead 6 = .ok (.invokevirtual 56, 3) := by decide +kernel
theorem dX6_sweepAhead_9 : decode cX6_sweepAhead 9 = .ok (.iconst 0, 1) := by decide +kernel
theorem dX6_sweepAhead_10 : decode cX6_sweepAhead 10 = .ok (.istore_n 3, 1) := by decide +kernel
theorem dX6_sweepAhead_11 : decode cX6_sweepAhead 11 = .ok (.iload_n 3, 1) := by decide +kernel
theorem dX6_sweepAhead_12 : decode cX6_sweepAhead 12 = .ok (.iconst 5, 1) := by decide +kernel
theorem dX6_sweepAhead_13 : decode cX6_sweepAhead 13 = .ok (.if_icmp .ge 31, 3) := by decide +kernel
theorem dX6_sweepAhead_16 : decode cX6_sweepAhead 16 = .ok (.aload_n 0, 1) := by decide +kernel
theorem dX6_sweepAhead_17 : decode cX6_sweepAhead 17 = .ok (.getfield 21, 3) := by decide +kernel
theorem dX6_sweepAhead_20 : decode cX6_sweepAhead 20 = .ok (.iload_n 3, 1) := by decide +kernel
theorem dX6_sweepAhead_21 : decode cX6_sweepAhead 21 = .ok (.iload_n 3, 1) := by decide +kernel
theorem dX6_sweepAhead_22 : decode cX6_sweepAhead 22 = .ok (.ifCond .ne 14, 3) := by decide +kernel
theorem dX6_sweepAhead_25 : decode cX6_sweepAhead 25 = .ok (.aload_n 1, 1) := by decide +kernel
theorem dX6_sweepAhead_26 : decode cX6_sweepAhead 26 = .ok (.getfield 62, 3) := by decide +kernel
theorem dX6_sweepAhead_29 : decode cX6_sweepAhead 29 = .ok (.ifCond .le 7, 3) := by decide +kernel
theorem dX6_sweepAhead_32 : decode cX6_sweepAhead 32 = .ok (.iconst 1, 1) := by decide +kernel
theorem dX6_sweepAhead_33 : decode cX6_sweepAhead 33 = .ok (.goto 4, 3) := by decide +kernel
theorem dX6_sweepAhead_36 : decode cX6_sweepAhead 36 = .ok (.iconst 0, 1) := by decide +kernel
theorem dX6_sweepAhead_37 : decode cX6_sweepAhead 37 = .ok (.iastore, 1) := by decide +kernel
theorem dX6_sweepAhead_38 : decode cX6_sweepAhead 38 = .ok (.iinc 3 1, 3) := by decide +kernel
theorem dX6_sweepAhead_41 : decode cX6_sweepAhead 41 = .ok (.goto (-30), 3) := by decide +kernel
theorem dX6_sweepAhead_44 : decode cX6_sweepAhead 44 = .ok (.iconst 0, 1) := by decide +kernel
theorem dX6_sweepAhead_45 : decode cX6_sweepAhead 45 = .ok (.istore_n 3, 1) := by decide +kernel
theorem dX6_sweepAhead_46 : decode cX6_sweepAhead 46 = .ok (.iload_n 3, 1) := by decide +kernel
theorem dX6_sweepAhead_47 : decode cX6_sweepAhead 47 = .ok (.bipush 48, 2) := by decide +kernel
theorem dX6_sweepAhead_49 : decode cX6_sweepAhead 49 = .ok (.if_icmp .ge 117, 3) := by decide +kernel
theorem dX6_sweepAhead_52 : decode cX6_sweepAhead 52 = .ok (.iload_n 3, 1) := by decide +kernel
theorem dX6_sweepAhead_53 : decode cX6_sweepAhead 53 = .ok (.iconst 5, 1) := by decide +kernel
theorem dX6_sweepAhead_54 : decode cX6_sweepAhead 54 = .ok (.imul, 1) := by decide +kernel
theorem dX6_sweepAhead_55 : decode cX6_sweepAhead 55 = .ok (.istore 4, 2) := by decide +kernel
theorem dX6_sweepAhead_57 : decode cX6_sweepAhead 57 = .ok (.iload 4, 2) := by decide +kernel
theorem dX6_sweepAhead_59 : decode cX6_sweepAhead 59 = .ok (.iconst 5, 1) := by decide +kernel
theorem dX6_sweepAhead_60 : decode cX6_sweepAhead 60 = .ok (.iadd, 1) := by decide +kernel
theorem dX6_sweepAhead_61 : decode cX6_sweepAhead 61 = .ok (.istore 5, 2) := by decide +kernel
theorem dX6_sweepAhead_63 : decode cX6_sweepAhead 63 = .ok (.aload_n 0, 1) := by decide +kernel
theorem dX6_sweepAhead_64 : decode cX6_sweepAhead 64 = .ok (.aload_n 1, 1) := by decide +kernel
theorem dX6_sweepAhead_65 : decode cX6_sweepAhead 65 = .ok (.iload_n 3, 1) := by decide +kernel
theorem dX6_sweepAhead_66 : decode cX6_sweepAhead 66 = .ok (.iload_n 2, 1) := by decide +kernel
theorem dX6_sweepAhead_67 : decode cX6_sweepAhead 67 = .ok (.invokevirtual 65, 3) := by decide +kernel
theorem dX6_sweepAhead_70 : decode cX6_sweepAhead 70 = .ok (.istore 6, 2) := by decide +kernel
theorem dX6_sweepAhead_72 : decode cX6_sweepAhead 72 = .ok (.aload_n 0, 1) := by decide +kernel
theorem dX6_sweepAhead_73 : decode cX6_sweepAhead 73 = .ok (.getfield 21, 3) := by decide +kernel
theorem dX6_sweepAhead_76 : decode cX6_sweepAhead 76 = .ok (.iload 5, 2) := by decide +kernel
theorem dX6_sweepAhead_78 : decode cX6_sweepAhead 78 = .ok (.aload_n 0, 1) := by decide +kernel
theorem dX6_sweepAhead_79 : decode cX6_sweepAhead 79 = .ok (.iload_n 3, 1) := by decide +kernel
theorem dX6_sweepAhead_80 : decode cX6_sweepAhead 80 = .ok (.iload_n 2, 1) := by decide +kernel
theorem dX6_sweepAhead_81 : decode cX6_sweepAhead 81 = .ok (.invokevirtual 69, 3) := by decide +kernel
theorem dX6_sweepAhead_84 : decode cX6_sweepAhead 84 = .ok (.ifCond .eq 7, 3) := by decide +kernel
theorem dX6_sweepAhead_87 : decode cX6_sweepAhead 87 = .ok (.iconst 0, 1) := by decide +kernel
theorem dX6_sweepAhead_88 : decode cX6_sweepAhead 88 = .ok (.goto 18, 3) := by decide +kernel
theorem dX6_sweepAhead_91 : decode cX6_sweepAhead 91 = .ok (.aload_n 0, 1) := by decide +kernel
theorem dX6_sweepAhead_92 : decode cX6_sweepAhead 92 = .ok (.getfield 21, 3) := by decide +kernel
theorem dX6_sweepAhead_95 : decode cX6_sweepAhead 95 = .ok (.iload_n 3, 1) := by decide +kernel
theorem dX6_sweepAhead_96 : decode cX6_sweepAhead 96 = .ok (.invokestatic 35, 3) := by decide +kernel
theorem dX6_sweepAhead_99 : decode cX6_sweepAhead 99 = .ok (.aload_n 0, 1) := by decide +kernel
theorem dX6_sweepAhead_100 : decode cX6_sweepAhead 100 = .ok (.getfield 18, 3) := by decide +kernel
theorem dX6_sweepAhead_103 : decode cX6_sweepAhead 103 = .ok (.invokestatic 73, 3) := by decide +kernel
theorem dX6_sweepAhead_106 : decode cX6_sweepAhead 106 = .ok (.iastore, 1) := by decide +kernel
theorem dX6_sweepAhead_107 : decode cX6_sweepAhead 107 = .ok (.iconst 1, 1) := by decide +kernel
theorem dX6_sweepAhead_108 : decode cX6_sweepAhead 108 = .ok (.istore 7, 2) := by decide +kernel
theorem dX6_sweepAhead_110 : decode cX6_sweepAhead 110 = .ok (.iload 7, 2) := by decide +kernel
theorem dX6_sweepAhead_112 : decode cX6_sweepAhead 112 = .ok (.iconst 5, 1) := by decide +kernel
theorem dX6_sweepAhead_113 : decode cX6_sweepAhead 113 = .ok (.if_icmp .ge 47, 3) := by decide +kernel
theorem dX6_sweepAhead_116 : decode cX6_sweepAhead 116 = .ok (.aload_n 0, 1) := by decide +kernel
theorem dX6_sweepAhead_117 : decode cX6_sweepAhead 117 = .ok (.getfield 21, 3) := by decide +kernel
theorem dX6_sweepAhead_120 : decode cX6_sweepAhead 120 = .ok (.iload 5, 2) := by decide +kernel
theorem dX6_sweepAhead_122 : decode cX6_sweepAhead 122 = .ok (.iload 7, 2) := by decide +kernel
theorem dX6_sweepAhead_124 : decode cX6_sweepAhead 124 = .ok (.iadd, 1) := by decide +kernel
theorem dX6_sweepAhead_125 : decode cX6_sweepAhead 125 = .ok (.iload 7, 2) := by decide +kernel
theorem dX6_sweepAhead_127 : decode cX6_sweepAhead 127 = .ok (.aload_n 1, 1) := by decide +kernel
theorem dX6_sweepAhead_128 : decode cX6_sweepAhead 128 = .ok (.getfield 77, 3) := by decide +kernel
theorem dX6_sweepAhead_131 : decode cX6_sweepAhead 131 = .ok (.if_icmp .gt 21, 3) := by decide +kernel
theorem dX6_sweepAhead_134 : decode cX6_sweepAhead 134 = .ok (.aload_n 0, 1) := by decide +kernel
theorem dX6_sweepAhead_135 : decode cX6_sweepAhead 135 = .ok (.getfield 21, 3) := by decide +kernel
theorem dX6_sweepAhead_138 : decode cX6_sweepAhead 138 = .ok (.iload 4, 2) := by decide +kernel
theorem dX6_sweepAhead_140 : decode cX6_sweepAhead 140 = .ok (.iload 7, 2) := by decide +kernel
theorem dX6_sweepAhead_142 : decode cX6_sweepAhead 142 = .ok (.iadd, 1) := by decide +kernel
theorem dX6_sweepAhead_143 : decode cX6_sweepAhead 143 = .ok (.iconst 1, 1) := by decide +kernel
theorem dX6_sweepAhead_144 : decode cX6_sweepAhead 144 = .ok (.isub, 1) := by decide +kernel
theorem dX6_sweepAhead_145 : decode cX6_sweepAhead 145 = .ok (.iaload, 1) := by decide +kernel
theorem dX6_sweepAhead_146 : decode cX6_sweepAhead 146 = .ok (.iload 6, 2) := by decide +kernel
theorem dX6_sweepAhead_148 : decode cX6_sweepAhead 148 = .ok (.iand, 1) := by decide +kernel
theorem dX6_sweepAhead_149 : decode cX6_sweepAhead 149 = .ok (.goto 4, 3) := by decide +kernel
theorem dX6_sweepAhead_152 : decode cX6_sweepAhead 152 = .ok (.iconst 0, 1) := by decide +kernel
theorem dX6_sweepAhead_153 : decode cX6_sweepAhead 153 = .ok (.iastore, 1) := by decide +kernel
theorem dX6_sweepAhead_154 : decode cX6_sweepAhead 154 = .ok (.iinc 7 1, 3) := by decide +kernel
theorem dX6_sweepAhead_157 : decode cX6_sweepAhead 157 = .ok (.goto (-47), 3) := by decide +kernel
theorem dX6_sweepAhead_160 : decode cX6_sweepAhead 160 = .ok (.iinc 3 1, 3) := by decide +kernel
theorem dX6_sweepAhead_163 : decode cX6_sweepAhead 163 = .ok (.goto (-117), 3) := by decide +kernel
theorem dX6_sweepAhead_166 : decode cX6_sweepAhead 166 = .ok (.return_, 1) := by decide +kernel
set_option maxRecDepth 20000 in
theorem ggX6_sweepBehind_X0_allTowns : GoodIn wsX6_sweepBehind wsX0_allTowns := goodIn_m (fun w hw => by
  revert w hw; unfold wsX0_allTowns
  exact am_cons (am_at in_wsX6_sweepBehind_0 6 rfl) (am_app (am_cons (am_at in_wsX6_sweepBehind_0 7 rfl) am_nil) in_wsX6_sweepBehind_3)) gw_wsX0_allTowns
set_option maxRecDepth 20000 in
theorem gX6_sweepBehind_X0_allTowns : GoodIn wsX6_sweepBehind (wsV RX6 80 RX0 yX0_allTowns wsX0_allTowns) := goodIn_app (goodIn_m (am_cons (am_at in_wsX6_sweepBehind_0 2 rfl) (am_cons (am_at in_wsX6_sweepBehind_0 3 rfl) (am_cons (am_at in_wsX6_sweepBehind_0 4 rfl) (am_cons (am_at in_wsX6_sweepBehind_0 5 rfl) am_nil)))) (by decide +kernel)) ggX6_sweepBehind_X0_allTowns
set_option maxRecDepth 20000 in
theorem ggX6_sweepBehind_X6_staysIn : GoodIn wsX6_sweepBehind wsX6_staysIn := goodIn_m (fun w hw => by
  revert w hw; unfold wsX6_staysIn
  exact am_cons (am_at in_wsX6_sweepBehind_0 12 rfl) (am_app (am_app (am_cons (am_at in_wsX6_sweepBehind_0 13 rfl) (am_cons (am_at in_wsX6_sweepBehind_0 14 rfl) (am_cons (am_at in_wsX6_sweepBehind_0 15 rfl) (am_cons (am_at in_wsX6_sweepBehind_0 16 rfl) (am_cons (am_at in_wsX6_sweepBehind_0 17 rfl) (am_cons (am_at in_wsX6_sweepBehind_0 18 rfl) (am_cons (am_at in_wsX6_sweepBehind_0 5 rfl) (am_cons (am_at in_wsX6_sweepBehind_0 19 rfl) (am_cons (am_at in_wsX6_sweepBehind_0 20 rfl) (am_cons (am_at in_wsX6_sweepBehind_0 21 rfl) (am_cons (am_at in_wsX6_sweepBehind_0 22 rfl) (am_cons (am_at in_wsX6_sweepBehind_0 23 rfl) (am_cons (am_at in_wsX6_sweepBehind_1 0 rfl) (am_cons (am_at in_wsX6_sweepBehind_1 1 rfl) (am_cons (am_at in_wsX6_sweepBehind_0 7 rfl) am_nil))))))))))))))) in_wsX6_sweepBehind_2) in_wsX6_sweepBehind_3)) gw_wsX6_staysIn
set_option maxRecDepth 20000 in
theorem gX6_sweepBehind_X6_staysIn : GoodIn wsX6_sweepBehind (wsV RX6 65 RX6 yX6_staysIn wsX6_staysIn) := goodIn_app (goodIn_m (am_cons (am_at in_wsX6_sweepBehind_0 8 rfl) (am_cons (am_at in_wsX6_sweepBehind_0 9 rfl) (am_cons (am_at in_wsX6_sweepBehind_0 10 rfl) (am_cons (am_at in_wsX6_sweepBehind_0 11 rfl) am_nil)))) (by decide +kernel)) ggX6_sweepBehind_X6_staysIn
set_option maxRecDepth 20000 in
theorem ggX6_sweepBehind_X6_isTold : GoodIn wsX6_sweepBehind wsX6_isTold := goodIn_m (fun w hw => by
  revert w hw; unfold wsX6_isTold
  exact am_cons (am_at in_wsX6_sweepBehind_1 5 rfl) (am_app (am_cons (am_at in_wsX6_sweepBehind_0 13 rfl) (am_cons (am_at in_wsX6_sweepBehind_0 14 rfl) am_nil)) in_wsX6_sweepBehind_2)) gw_wsX6_isTold
set_option maxRecDepth 20000 in
theorem gX6_sweepBehind_X6_isTold : GoodIn wsX6_sweepBehind (wsV RX6 69 RX6 yX6_isTold wsX6_isTold) := goodIn_app (goodIn_m (am_cons (am_at in_wsX6_sweepBehind_1 2 rfl) (am_cons (am_at in_wsX6_sweepBehind_1 3 rfl) (am_cons (am_at in_wsX6_sweepBehind_1 4 rfl) (am_cons (am_at in_wsX6_sweepBehind_0 11 rfl) am_nil)))) (by decide +kernel)) ggX6_sweepBehind_X6_isTold
set_option maxRecDepth 20000 in
theorem ggX6_sweepBehind_X6_entriesTo : GoodIn wsX6_sweepBehind wsX6_entriesTo := goodIn_m (fun w hw => by
  revert w hw; unfold wsX6_entriesTo
  exact am_cons (am_at in_wsX6_sweepBehind_1 9 rfl) (am_app (am_cons (am_at in_wsX6_sweepBehind_1 10 rfl) am_nil) in_wsX6_sweepBehind_2)) gw_wsX6_entriesTo
set_option maxRecDepth 20000 in
theorem gX6_sweepBehind_X6_entriesTo : GoodIn wsX6_sweepBehind (wsV RX6 84 RX6 yX6_entriesTo wsX6_entriesTo) := goodIn_app (goodIn_m (am_cons (am_at in_wsX6_sweepBehind_1 6 rfl) (am_cons (am_at in_wsX6_sweepBehind_1 7 rfl) (am_cons (am_at in_wsX6_sweepBehind_1 8 rfl) (am_cons (am_at in_wsX6_sweepBehind_0 11 rfl) am_nil)))) (by decide +kernel)) ggX6_sweepBehind_X6_entriesTo
theorem dX6_sweepBehind_0 : decode cX6_sweepBehind 0 = .ok (.iconst 0, 1) := by decide +kernel
theorem dX6_sweepBehind_1 : decode cX6_sweepBehind 1 = .ok (.istore_n 2, 1) := by decide +kernel
theorem dX6_sweepBehind_2 : decode cX6_sweepBehind 2 = .ok (.iload_n 2, 1) := by decide +kernel
theorem dX6_sweepBehind_3 : decode cX6_sweepBehind 3 = .ok (.iconst 5, 1) := by decide +kernel
theorem dX6_sweepBehind_4 : decode cX6_sweepBehind 4 = .ok (.if_icmp .ge 23, 3) := by decide +kernel
theorem dX6_sweepBehind_7 : decode cX6_sweepBehind 7 = .ok (.aload_n 0, 1) := by decide +kernel
theorem dX6_sweepBehind_8 : decode cX6_sweepBehind 8 = .ok (.getfield 24, 3) := by decide +kernel
theorem dX6_sweepBehind_11 : decode cX6_sweepBehind 11 = .ok (.sipush 240, 3) := by decide +kernel
theorem dX6_sweepBehind_14 : decode cX6_sweepBehind 14 = .ok (.iload_n 2, 1) := by decide +kernel
theorem dX6_sweepBehind_15 : decode cX6_sweepBehind 15 = .ok (.iadd, 1) := by decide +kernel
theorem dX6_sweepBehind_16 : decode cX6_sweepBehind 16 = .ok (.aload_n 1, 1) := by decide +kernel
theorem dX6_sweepBehind_17 : decode cX6_sweepBehind 17 = .ok (.invokevirtual 80, 3) := by decide +kernel
theorem dX6_sweepBehind_20 : decode cX6_sweepBehind 20 = .ok (.iastore, 1) := by decide +kernel
theorem dX6_sweepBehind_21 : decode cX6_sweepBehind 21 = .ok (.iinc 2 1, 3) := by decide +kernel
theorem dX6_sweepBehind_24 : decode cX6_sweepBehind 24 = .ok (.goto (-22), 3) := by decide +kernel
theorem dX6_sweepBehind_27 : decode cX6_sweepBehind 27 = .ok (.bipush 47, 2) := by decide +kernel
theorem dX6_sweepBehind_29 : decode cX6_sweepBehind 29 = .ok (.istore_n 2, 1) := by decide +kernel
theorem dX6_sweepBehind_30 : decode cX6_sweepBehind 30 = .ok (.iload_n 2, 1) := by decide +kernel
theorem dX6_sweepBehind_31 : decode cX6_sweepBehind 31 = .ok (.ifCond .lt 108, 3) := by decide +kernel
theorem dX6_sweepBehind_34 : decode cX6_sweepBehind 34 = .ok (.iload_n 2, 1) := by decide +kernel
theorem dX6_sweepBehind_35 : decode cX6_sweepBehind 35 = .ok (.iconst 5, 1) := by decide +kernel
theorem dX6_sweepBehind_36 : decode cX6_sweepBehind 36 = .ok (.imul, 1) := by decide +kernel
theorem dX6_sweepBehind_37 : decode cX6_sweepBehind 37 = .ok (.istore_n 3, 1) := by decide +kernel
theorem dX6_sweepBehind_38 : decode cX6_sweepBehind 38 = .ok (.iload_n 3, 1) := by decide +kernel
theorem dX6_sweepBehind_39 : decode cX6_sweepBehind 39 = .ok (.iconst 5, 1) := by decide +kernel
theorem dX6_sweepBehind_40 : decode cX6_sweepBehind 40 = .ok (.iadd, 1) := by decide +kernel
theorem dX6_sweepBehind_41 : decode cX6_sweepBehind 41 = .ok (.istore 4, 2) := by decide +kernel
theorem dX6_sweepBehind_43 : decode cX6_sweepBehind 43 = .ok (.aload_n 0, 1) := by decide +kernel
theorem dX6_sweepBehind_44 : decode cX6_sweepBehind 44 = .ok (.aload_n 1, 1) := by decide +kernel
theorem dX6_sweepBehind_45 : decode cX6_sweepBehind 45 = .ok (.iload_n 2, 1) := by decide +kernel
theorem dX6_sweepBehind_46 : decode cX6_sweepBehind 46 = .ok (.iconst (-1), 1) := by decide +kernel
theorem dX6_sweepBehind_47 : decode cX6_sweepBehind 47 = .ok (.invokevirtual 65, 3) := by decide +kernel
theorem dX6_sweepBehind_50 : decode cX6_sweepBehind 50 = .ok (.istore 5, 2) := by decide +kernel
theorem dX6_sweepBehind_52 : decode cX6_sweepBehind 52 = .ok (.aload_n 0, 1) := by decide +kernel
theorem dX6_sweepBehind_53 : decode cX6_sweepBehind 53 = .ok (.iload_n 2, 1) := by decide +kernel
theorem dX6_sweepBehind_54 : decode cX6_sweepBehind 54 = .ok (.iconst (-1), 1) := by decide +kernel
theorem dX6_sweepBehind_55 : decode cX6_sweepBehind 55 = .ok (.invokevirtual 69, 3) := by decide +kernel
theorem dX6_sweepBehind_58 : decode cX6_sweepBehind 58 = .ok (.ifCond .eq 7, 3) := by decide +kernel
theorem dX6_sweepBehind_61 : decode cX6_sweepBehind 61 = .ok (.iconst 0, 1) := by decide +kernel
theorem dX6_sweepBehind_62 : decode cX6_sweepBehind 62 = .ok (.goto 14, 3) := by decide +kernel
theorem dX6_sweepBehind_65 : decode cX6_sweepBehind 65 = .ok (.aload_n 0, 1) := by decide +kernel
theorem dX6_sweepBehind_66 : decode cX6_sweepBehind 66 = .ok (.aload_n 0, 1) := by decide +kernel
theorem dX6_sweepBehind_67 : decode cX6_sweepBehind 67 = .ok (.getfield 24, 3) := by decide +kernel
theorem dX6_sweepBehind_70 : decode cX6_sweepBehind 70 = .ok (.iload 4, 2) := by decide +kernel
theorem dX6_sweepBehind_72 : decode cX6_sweepBehind 72 = .ok (.iaload, 1) := by decide +kernel
theorem dX6_sweepBehind_73 : decode cX6_sweepBehind 73 = .ok (.invokevirtual 84, 3) := by decide +kernel
theorem dX6_sweepBehind_76 : decode cX6_sweepBehind 76 = .ok (.istore 6, 2) := by decide +kernel
theorem dX6_sweepBehind_78 : decode cX6_sweepBehind 78 = .ok (.iconst 0, 1) := by decide +kernel
theorem dX6_sweepBehind_79 : decode cX6_sweepBehind 79 = .ok (.istore 7, 2) := by decide +kernel
theorem dX6_sweepBehind_81 : decode cX6_sweepBehind 81 = .ok (.iload 7, 2) := by decide +kernel
theorem dX6_sweepBehind_83 : decode cX6_sweepBehind 83 = .ok (.iconst 5, 1) := by decide +kernel
theorem dX6_sweepBehind_84 : decode cX6_sweepBehind 84 = .ok (.if_icmp .ge 49, 3) := by decide +kernel
theorem dX6_sweepBehind_87 : decode cX6_sweepBehind 87 = .ok (.aload_n 0, 1) := by decide +kernel
theorem dX6_sweepBehind_88 : decode cX6_sweepBehind 88 = .ok (.getfield 24, 3) := by decide +kernel
theorem dX6_sweepBehind_91 : decode cX6_sweepBehind 91 = .ok (.iload_n 3, 1) := by decide +kernel
theorem dX6_sweepBehind_92 : decode cX6_sweepBehind 92 = .ok (.iload 7, 2) := by decide +kernel
theorem dX6_sweepBehind_94 : decode cX6_sweepBehind 94 = .ok (.iadd, 1) := by decide +kernel
theorem dX6_sweepBehind_95 : decode cX6_sweepBehind 95 = .ok (.iload 6, 2) := by decide +kernel
theorem dX6_sweepBehind_97 : decode cX6_sweepBehind 97 = .ok (.iload 7, 2) := by decide +kernel
theorem dX6_sweepBehind_99 : decode cX6_sweepBehind 99 = .ok (.aload_n 1, 1) := by decide +kernel
theorem dX6_sweepBehind_100 : decode cX6_sweepBehind 100 = .ok (.getfield 77, 3) := by decide +kernel
theorem dX6_sweepBehind_103 : decode cX6_sweepBehind 103 = .ok (.if_icmp .ge 21, 3) := by decide +kernel
theorem dX6_sweepBehind_106 : decode cX6_sweepBehind 106 = .ok (.aload_n 0, 1) := by decide +kernel
theorem dX6_sweepBehind_107 : decode cX6_sweepBehind 107 = .ok (.getfield 24, 3) := by decide +kernel
theorem dX6_sweepBehind_110 : decode cX6_sweepBehind 110 = .ok (.iload 4, 2) := by decide +kernel
theorem dX6_sweepBehind_112 : decode cX6_sweepBehind 112 = .ok (.iload 7, 2) := by decide +kernel
theorem dX6_sweepBehind_114 : decode cX6_sweepBehind 114 = .ok (.iadd, 1) := by decide +kernel
theorem dX6_sweepBehind_115 : decode cX6_sweepBehind 115 = .ok (.iconst 1, 1) := by decide +kernel
theorem dX6_sweepBehind_116 : decode cX6_sweepBehind 116 = .ok (.iadd, 1) := by decide +kernel
theorem dX6_sweepBehind_117 : decode cX6_sweepBehind 117 = .ok (.iaload, 1) := by decide +kernel
theorem dX6_sweepBehind_118 : decode cX6_sweepBehind 118 = .ok (.iload 5, 2) := by decide +kernel
theorem dX6_sweepBehind_120 : decode cX6_sweepBehind 120 = .ok (.iand, 1) := by decide +kernel
theorem dX6_sweepBehind_121 : decode cX6_sweepBehind 121 = .ok (.goto 4, 3) := by decide +kernel
theorem dX6_sweepBehind_124 : decode cX6_sweepBehind 124 = .ok (.iconst 0, 1) := by decide +kernel
theorem dX6_sweepBehind_125 : decode cX6_sweepBehind 125 = .ok (.ior, 1) := by decide +kernel
theorem dX6_sweepBehind_126 : decode cX6_sweepBehind 126 = .ok (.iastore, 1) := by decide +kernel
theorem dX6_sweepBehind_127 : decode cX6_sweepBehind 127 = .ok (.iinc 7 1, 3) := by decide +kernel
theorem dX6_sweepBehind_130 : decode cX6_sweepBehind 130 = .ok (.goto (-49), 3) := by decide +kernel
theorem dX6_sweepBehind_133 : decode cX6_sweepBehind 133 = .ok (.iinc 2 (-1), 3) := by decide +kernel
theorem dX6_sweepBehind_136 : decode cX6_sweepBehind 136 = .ok (.goto (-106), 3) := by decide +kernel
theorem dX6_sweepBehind_139 : decode cX6_sweepBehind 139 = .ok (.return_, 1) := by decide +kernel
theorem dX6_entriesTo_0 : decode cX6_entriesTo 0 = .ok (.iconst 0, 1) := by decide +kernel
theorem dX6_entriesTo_1 : decode cX6_entriesTo 1 = .ok (.istore_n 2, 1) := by decide +kernel
theorem dX6_entriesTo_2 : decode cX6_entriesTo 2 = .ok (.iconst 0, 1) := by decide +kernel
theorem dX6_entriesTo_3 : decode cX6_entriesTo 3 = .ok (.istore_n 3, 1) := by decide +kernel
theorem dX6_entriesTo_4 : decode cX6_entriesTo 4 = .ok (.iload_n 3, 1) := by decide +kernel
theorem dX6_entriesTo_5 : decode cX6_entriesTo 5 = .ok (.bipush 8, 2) := by decide +kernel
theorem dX6_entriesTo_7 : decode cX6_entriesTo 7 = .ok (.if_icmp .ge 26, 3) := by decide +kernel
theorem dX6_entriesTo_10 : decode cX6_entriesTo 10 = .ok (.aload_n 0, 1) := by decide +kernel
theorem dX6_entriesTo_11 : decode cX6_entriesTo 11 = .ok (.getfield 18, 3) := by decide +kernel
theorem dX6_entriesTo_14 : decode cX6_entriesTo 14 = .ok (.iload_n 3, 1) := by decide +kernel
theorem dX6_entriesTo_15 : decode cX6_entriesTo 15 = .ok (.iaload, 1) := by decide +kernel
theorem dX6_entriesTo_16 : decode cX6_entriesTo 16 = .ok (.iload_n 1, 1) := by decide +kernel
theorem dX6_entriesTo_17 : decode cX6_entriesTo 17 = .ok (.iand, 1) := by decide +kernel
theorem dX6_entriesTo_18 : decode cX6_entriesTo 18 = .ok (.ifCond .eq 9, 3) := by decide +kernel
theorem dX6_entriesTo_21 : decode cX6_entriesTo 21 = .ok (.iload_n 2, 1) := by decide +kernel
theorem dX6_entriesTo_22 : decode cX6_entriesTo 22 = .ok (.iconst 1, 1) := by decide +kernel
theorem dX6_entriesTo_23 : decode cX6_entriesTo 23 = .ok (.iload_n 3, 1) := by decide +kernel
theorem dX6_entriesTo_24 : decode cX6_entriesTo 24 = .ok (.ishl, 1) := by decide +kernel
theorem dX6_entriesTo_25 : decode cX6_entriesTo 25 = .ok (.ior, 1) := by decide +kernel
theorem dX6_entriesTo_26 : decode cX6_entriesTo 26 = .ok (.istore_n 2, 1) := by decide +kernel
theorem dX6_entriesTo_27 : decode cX6_entriesTo 27 = .ok (.iinc 3 1, 3) := by decide +kernel
theorem dX6_entriesTo_30 : decode cX6_entriesTo 30 = .ok (.goto (-26), 3) := by decide +kernel
theorem dX6_entriesTo_33 : decode cX6_entriesTo 33 = .ok (.iload_n 2, 1) := by decide +kernel
theorem dX6_entriesTo_34 : decode cX6_entriesTo 34 = .ok (.ireturn, 1) := by decide +kernel
theorem dX6_isTold_0 : decode cX6_isTold 0 = .ok (.iconst 0, 1) := by decide +kernel
theorem dX6_isTold_1 : decode cX6_isTold 1 = .ok (.istore_n 3, 1) := by decide +kernel
theorem dX6_isTold_2 : decode cX6_isTold 2 = .ok (.iload_n 3, 1) := by decide +kernel
theorem dX6_isTold_3 : decode cX6_isTold 3 = .ok (.aload_n 0, 1) := by decide +kernel
theorem dX6_isTold_4 : decode cX6_isTold 4 = .ok (.getfield 27, 3) := by decide +kernel
theorem dX6_isTold_7 : decode cX6_isTold 7 = .ok (.if_icmp .ge 26, 3) := by decide +kernel
theorem dX6_isTold_10 : decode cX6_isTold 10 = .ok (.iload_n 3, 1) := by decide +kernel
theorem dX6_isTold_11 : decode cX6_isTold 11 = .ok (.iload_n 2, 1) := by decide +kernel
theorem dX6_isTold_12 : decode cX6_isTold 12 = .ok (.if_icmp .eq 15, 3) := by decide +kernel
theorem dX6_isTold_15 : decode cX6_isTold 15 = .ok (.aload_n 0, 1) := by decide +kernel
theorem dX6_isTold_16 : decode cX6_isTold 16 = .ok (.getfield 15, 3) := by decide +kernel
theorem dX6_isTold_19 : decode cX6_isTold 19 = .ok (.iload_n 3, 1) := by decide +kernel
theorem dX6_isTold_20 : decode cX6_isTold 20 = .ok (.iaload, 1) := by decide +kernel
theorem dX6_isTold_21 : decode cX6_isTold 21 = .ok (.iload_n 1, 1) := by decide +kernel
theorem dX6_isTold_22 : decode cX6_isTold 22 = .ok (.if_icmp .ne 5, 3) := by decide +kernel
theorem dX6_isTold_25 : decode cX6_isTold 25 = .ok (.iconst 1, 1) := by decide +kernel
theorem dX6_isTold_26 : decode cX6_isTold 26 = .ok (.ireturn, 1) := by decide +kernel
theorem dX6_isTold_27 : decode cX6_isTold 27 = .ok (.iinc 3 1, 3) := by decide +kernel
theorem dX6_isTold_30 : decode cX6_isTold 30 = .ok (.goto (-28), 3) := by decide +kernel
theorem dX6_isTold_33 : decode cX6_isTold 33 = .ok (.iconst 0, 1) := by decide +kernel
theorem dX6_isTold_34 : decode cX6_isTold 34 = .ok (.ireturn, 1) := by decide +kernel
set_option maxRecDepth 20000 in
theorem ggX6_staysIn_X0_worksIn : GoodIn wsX6_staysIn wsX0_worksIn := goodIn_m (fun w hw => by
  revert w hw; unfold wsX0_worksIn
  exact am_cons (am_at in_wsX6_staysIn_0 7 rfl) (am_app (am_cons (am_at in_wsX6_staysIn_0 8 rfl) (am_cons (am_at in_wsX6_staysIn_0 9 rfl) (am_cons (am_at in_wsX6_staysIn_0 10 rfl) (am_cons (am_at in_wsX6_staysIn_0 11 rfl) (am_cons (am_at in_wsX6_staysIn_0 12 rfl) (am_cons (am_at in_wsX6_staysIn_0 6 rfl) (am_cons (am_at in_wsX6_staysIn_0 13 rfl) (am_cons (am_at in_wsX6_staysIn_0 14 rfl) am_nil)))))))) in_wsX6_staysIn_2)) gw_wsX0_worksIn
set_option maxRecDepth 20000 in
theorem gX6_staysIn_X0_worksIn : GoodIn wsX6_staysIn (wsV RX6 87 RX0 yX0_worksIn wsX0_worksIn) := goodIn_app (goodIn_m (am_cons (am_at in_wsX6_staysIn_0 3 rfl) (am_cons (am_at in_wsX6_staysIn_0 4 rfl) (am_cons (am_at in_wsX6_staysIn_0 5 rfl) (am_cons (am_at in_wsX6_staysIn_0 6 rfl) am_nil)))) (by decide +kernel)) ggX6_staysIn_X0_worksIn
theorem dX6_staysIn_0 : decode cX6_staysIn 0 = .ok (.sipush 255, 3) := by decide +kernel
theorem dX6_staysIn_3 : decode cX6_staysIn 3 = .ok (.istore 4, 2) := by decide +kernel
theorem dX6_staysIn_5 : decode cX6_staysIn 5 = .ok (.iconst 0, 1) := by decide +kernel
theorem dX6_staysIn_6 : decode cX6_staysIn 6 = .ok (.istore 5, 2) := by decide +kernel
theorem dX6_staysIn_8 : decode cX6_staysIn 8 = .ok (.iload 5, 2) := by decide +kernel
theorem dX6_staysIn_10 : decode cX6_staysIn 10 = .ok (.aload_n 0, 1) := by decide +kernel
theorem dX6_staysIn_11 : decode cX6_staysIn 11 = .ok (.getfield 27, 3) := by decide +kernel
theorem dX6_staysIn_14 : decode cX6_staysIn 14 = .ok (.if_icmp .ge 59, 3) := by decide +kernel
theorem dX6_staysIn_17 : decode cX6_staysIn 17 = .ok (.iload 5, 2) := by decide +kernel
theorem dX6_staysIn_19 : decode cX6_staysIn 19 = .ok (.iload_n 3, 1) := by decide +kernel
theorem dX6_staysIn_20 : decode cX6_staysIn 20 = .ok (.if_icmp .eq 47, 3) := by decide +kernel
theorem dX6_staysIn_23 : decode cX6_staysIn 23 = .ok (.aload_n 0, 1) := by decide +kernel
theorem dX6_staysIn_24 : decode cX6_staysIn 24 = .ok (.getfield 15, 3) := by decide +kernel
theorem dX6_staysIn_27 : decode cX6_staysIn 27 = .ok (.iload 5, 2) := by decide +kernel
theorem dX6_staysIn_29 : decode cX6_staysIn 29 = .ok (.iaload, 1) := by decide +kernel
theorem dX6_staysIn_30 : decode cX6_staysIn 30 = .ok (.iload_n 2, 1) := by decide +kernel
theorem dX6_staysIn_31 : decode cX6_staysIn 31 = .ok (.if_icmp .ne 36, 3) := by decide +kernel
theorem dX6_staysIn_34 : decode cX6_staysIn 34 = .ok (.iload 4, 2) := by decide +kernel
theorem dX6_staysIn_36 : decode cX6_staysIn 36 = .ok (.aload_n 1, 1) := by decide +kernel
theorem dX6_staysIn_37 : decode cX6_staysIn 37 = .ok (.aload_n 0, 1) := by decide +kernel
theorem dX6_staysIn_38 : decode cX6_staysIn 38 = .ok (.getfield 9, 3) := by decide +kernel
theorem dX6_staysIn_41 : decode cX6_staysIn 41 = .ok (.iload 5, 2) := by decide +kernel
theorem dX6_staysIn_43 : decode cX6_staysIn 43 = .ok (.iaload, 1) := by decide +kernel
theorem dX6_staysIn_44 : decode cX6_staysIn 44 = .ok (.iload_n 2, 1) := by decide +kernel
theorem dX6_staysIn_45 : decode cX6_staysIn 45 = .ok (.invokevirtual 87, 3) := by decide +kernel
theorem dX6_staysIn_48 : decode cX6_staysIn 48 = .ok (.ifCond .eq 15, 3) := by decide +kernel
theorem dX6_staysIn_51 : decode cX6_staysIn 51 = .ok (.iconst 1, 1) := by decide +kernel
theorem dX6_staysIn_52 : decode cX6_staysIn 52 = .ok (.aload_n 0, 1) := by decide +kernel
theorem dX6_staysIn_53 : decode cX6_staysIn 53 = .ok (.getfield 9, 3) := by decide +kernel
theorem dX6_staysIn_56 : decode cX6_staysIn 56 = .ok (.iload 5, 2) := by decide +kernel
theorem dX6_staysIn_58 : decode cX6_staysIn 58 = .ok (.iaload, 1) := by decide +kernel
theorem dX6_staysIn_59 : decode cX6_staysIn 59 = .ok (.ishl, 1) := by decide +kernel
theorem dX6_staysIn_60 : decode cX6_staysIn 60 = .ok (.goto 4, 3) := by decide +kernel
theorem dX6_staysIn_63 : decode cX6_staysIn 63 = .ok (.iconst 0, 1) := by decide +kernel
theorem dX6_staysIn_64 : decode cX6_staysIn 64 = .ok (.iand, 1) := by decide +kernel
theorem dX6_staysIn_65 : decode cX6_staysIn 65 = .ok (.istore 4, 2) := by decide +kernel
theorem dX6_staysIn_67 : decode cX6_staysIn 67 = .ok (.iinc 5 1, 3) := by decide +kernel
theorem dX6_staysIn_70 : decode cX6_staysIn 70 = .ok (.goto (-62), 3) := by decide +kernel
theorem dX6_staysIn_73 : decode cX6_staysIn 73 = .ok (.iload 4, 2) := by decide +kernel
theorem dX6_staysIn_75 : decode cX6_staysIn 75 = .ok (.ireturn, 1) := by decide +kernel
theorem dX6_union_0 : decode cX6_union 0 = .ok (.iconst 0, 1) := by decide +kernel
theorem dX6_union_1 : decode cX6_union 1 = .ok (.istore_n 2, 1) := by decide +kernel
theorem dX6_union_2 : decode cX6_union 2 = .ok (.iconst 0, 1) := by decide +kernel
theorem dX6_union_3 : decode cX6_union 3 = .ok (.istore_n 3, 1) := by decide +kernel
theorem dX6_union_4 : decode cX6_union 4 = .ok (.iload_n 3, 1) := by decide +kernel
theorem dX6_union_5 : decode cX6_union 5 = .ok (.iconst 5, 1) := by decide +kernel
theorem dX6_union_6 : decode cX6_union 6 = .ok (.if_icmp .ge 19, 3) := by decide +kernel
theorem dX6_union_9 : decode cX6_union 9 = .ok (.iload_n 2, 1) := by decide +kernel
theorem dX6_union_10 : decode cX6_union 10 = .ok (.aload_n 0, 1) := by decide +kernel
theorem dX6_union_11 : decode cX6_union 11 = .ok (.iload_n 1, 1) := by decide +kernel
theorem dX6_union_12 : decode cX6_union 12 = .ok (.iconst 5, 1) := by decide +kernel
theorem dX6_union_13 : decode cX6_union 13 = .ok (.imul, 1) := by decide +kernel
theorem dX6_union_14 : decode cX6_union 14 = .ok (.iload_n 3, 1) := by decide +kernel
theorem dX6_union_15 : decode cX6_union 15 = .ok (.iadd, 1) := by decide +kernel
theorem dX6_union_16 : decode cX6_union 16 = .ok (.iaload, 1) := by decide +kernel
theorem dX6_union_17 : decode cX6_union 17 = .ok (.ior, 1) := by decide +kernel
theorem dX6_union_18 : decode cX6_union 18 = .ok (.istore_n 2, 1) := by decide +kernel
theorem dX6_union_19 : decode cX6_union 19 = .ok (.iinc 3 1, 3) := by decide +kernel
theorem dX6_union_22 : decode cX6_union 22 = .ok (.goto (-18), 3) := by decide +kernel
theorem dX6_union_25 : decode cX6_union 25 = .ok (.iload_n 2, 1) := by decide +kernel
theorem dX6_union_26 : decode cX6_union 26 = .ok (.ireturn, 1) := by decide +kernel
set_option maxRecDepth 20000 in
theorem ggX7_init_X5_init : GoodIn wsX7_init wsX5_init := goodIn_m (fun w hw => by
  revert w hw; unfold wsX5_init
  exact am_cons (am_at in_wsX7_init_1 16 rfl) (am_app (am_cons (am_at in_wsX7_init_1 17 rfl) (am_cons (am_at in_wsX7_init_0 1 rfl) (am_cons (am_at in_wsX7_init_0 2 rfl) (am_cons (am_at in_wsX7_init_1 18 rfl) (am_cons (am_at in_wsX7_init_1 19 rfl) (am_cons (am_at in_wsX7_init_1 20 rfl) am_nil)))))) in_wsX7_init_4)) gw_wsX5_init
set_option maxRecDepth 20000 in
theorem gX7_init_X5_init_n11 : GoodIn wsX7_init (wsX5_init) := ggX7_init_X5_init
set_option maxRecDepth 20000 in
theorem ggX7_init_X1_init : GoodIn wsX7_init wsX1_init := goodIn_m (fun w hw => by
  revert w hw; unfold wsX1_init
  exact am_cons (am_at in_wsX7_init_1 22 rfl) (am_cons (am_at in_wsX7_init_1 23 rfl) (am_cons (am_at in_wsX7_init_0 1 rfl) (am_cons (am_at in_wsX7_init_0 2 rfl) am_nil)))) gw_wsX1_init
set_option maxRecDepth 20000 in
theorem gX7_init_X1_init_n18 : GoodIn wsX7_init (wsX1_init) := ggX7_init_X1_init
set_option maxRecDepth 20000 in
theorem ggX7_init_X2_init : GoodIn wsX7_init wsX2_init := goodIn_m (fun w hw => by
  revert w hw; unfold wsX2_init
  exact am_cons (am_at in_wsX7_init_2 2 rfl) (am_app (am_app (am_cons (am_at in_wsX7_init_2 3 rfl) (am_cons (am_at in_wsX7_init_0 1 rfl) (am_cons (am_at in_wsX7_init_0 2 rfl) (am_cons (am_at in_wsX7_init_2 4 rfl) (am_cons (am_at in_wsX7_init_2 5 rfl) (am_cons (am_at in_wsX7_init_0 8 rfl) (am_cons (am_at in_wsX7_init_0 9 rfl) (am_cons (am_at in_wsX7_init_1 21 rfl) (am_cons (am_at in_wsX7_init_1 22 rfl) (am_cons (am_at in_wsX7_init_1 23 rfl) am_nil)))))))))) in_wsX7_init_7) in_wsX7_init_6)) gw_wsX2_init
set_option maxRecDepth 20000 in
theorem gX7_init_X2_init : GoodIn wsX7_init (wsX2_init) := ggX7_init_X2_init
set_option maxRecDepth 20000 in
theorem ggX7_init_X3_init : GoodIn wsX7_init wsX3_init := goodIn_m (fun w hw => by
  revert w hw; unfold wsX3_init
  exact am_cons (am_at in_wsX7_init_2 7 rfl) (am_app (am_cons (am_at in_wsX7_init_2 8 rfl) (am_cons (am_at in_wsX7_init_0 1 rfl) (am_cons (am_at in_wsX7_init_0 2 rfl) (am_cons (am_at in_wsX7_init_1 4 rfl) (am_cons (am_at in_wsX7_init_2 9 rfl) (am_cons (am_at in_wsX7_init_2 10 rfl) (am_cons (am_at in_wsX7_init_2 11 rfl) am_nil))))))) in_wsX7_init_8)) gw_wsX3_init
set_option maxRecDepth 20000 in
theorem gX7_init_X3_init_n32 : GoodIn wsX7_init (wsX3_init) := ggX7_init_X3_init
set_option maxRecDepth 20000 in
theorem ggX7_init_X4_init : GoodIn wsX7_init wsX4_init := goodIn_m (fun w hw => by
  revert w hw; unfold wsX4_init
  exact am_cons (am_at in_wsX7_init_2 13 rfl) (am_app (am_cons (am_at in_wsX7_init_2 14 rfl) (am_cons (am_at in_wsX7_init_0 1 rfl) (am_cons (am_at in_wsX7_init_0 2 rfl) (am_cons (am_at in_wsX7_init_2 15 rfl) (am_cons (am_at in_wsX7_init_2 16 rfl) (am_cons (am_at in_wsX7_init_2 17 rfl) am_nil)))))) in_wsX7_init_9)) gw_wsX4_init
set_option maxRecDepth 20000 in
theorem gX7_init_X4_init_n39 : GoodIn wsX7_init (wsX4_init) := ggX7_init_X4_init
set_option maxRecDepth 20000 in
theorem ggX7_init_X6_init : GoodIn wsX7_init wsX6_init := goodIn_m (fun w hw => by
  revert w hw; unfold wsX6_init
  exact am_cons (am_at in_wsX7_init_2 19 rfl) (am_app (am_cons (am_at in_wsX7_init_2 20 rfl) (am_cons (am_at in_wsX7_init_0 1 rfl) (am_cons (am_at in_wsX7_init_0 2 rfl) (am_cons (am_at in_wsX7_init_1 4 rfl) (am_cons (am_at in_wsX7_init_2 21 rfl) (am_cons (am_at in_wsX7_init_2 22 rfl) (am_cons (am_at in_wsX7_init_2 23 rfl) (am_cons (am_at in_wsX7_init_3 0 rfl) (am_cons (am_at in_wsX7_init_3 1 rfl) am_nil))))))))) in_wsX7_init_10)) gw_wsX6_init
set_option maxRecDepth 20000 in
theorem gX7_init_X6_init_n46 : GoodIn wsX7_init (wsX6_init) := ggX7_init_X6_init
set_option maxRecDepth 20000 in
theorem ggX7_init_X0_init : GoodIn wsX7_init wsX0_init := goodIn_m (fun w hw => by
  revert w hw; unfold wsX0_init
  exact am_cons (am_at in_wsX7_init_3 3 rfl) (am_app (am_cons (am_at in_wsX7_init_3 4 rfl) (am_cons (am_at in_wsX7_init_0 1 rfl) (am_cons (am_at in_wsX7_init_0 2 rfl) (am_cons (am_at in_wsX7_init_1 4 rfl) (am_cons (am_at in_wsX7_init_3 5 rfl) (am_cons (am_at in_wsX7_init_3 6 rfl) (am_cons (am_at in_wsX7_init_3 7 rfl) (am_cons (am_at in_wsX7_init_3 8 rfl) (am_cons (am_at in_wsX7_init_3 9 rfl) am_nil))))))))) in_wsX7_init_11)) gw_wsX0_init
set_option maxRecDepth 20000 in
theorem gX7_init_X0_init_n71 : GoodIn wsX7_init (wsX0_init) := ggX7_init_X0_init
theorem dX7_init_0 : decode cX7_init 0 = .ok (.aload_n 0, 1) := by decide +kernel
theorem dX7_init_1 : decode cX7_init 1 = .ok (.invokespecial 3, 3) := by decide +kernel
theorem dX7_init_4 : decode cX7_init 4 = .ok (.aload_n 0, 1) := by decide +kernel
theorem dX7_init_5 : decode cX7_init 5 = .ok (.new 9, 3) := by decide +kernel
theorem dX7_init_8 : decode cX7_init 8 = .ok (.dup, 1) := by decide +kernel
theorem dX7_init_9 : decode cX7_init 9 = .ok (.invokespecial 11, 3) := by decide +kernel
theorem dX7_init_12 : decode cX7_init 12 = .ok (.putfield 12, 3) := by decide +kernel
theorem dX7_init_15 : decode cX7_init 15 = .ok (.aload_n 0, 1) := by decide +kernel
theorem dX7_init_16 : decode cX7_init 16 = .ok (.new 16, 3) := by decide +kernel
theorem dX7_init_19 : decode cX7_init 19 = .ok (.dup, 1) := by decide +kernel
theorem dX7_init_20 : decode cX7_init 20 = .ok (.invokespecial 18, 3) := by decide +kernel
theorem dX7_init_23 : decode cX7_init 23 = .ok (.putfield 19, 3) := by decide +kernel
theorem dX7_init_26 : decode cX7_init 26 = .ok (.aload_n 0, 1) := by decide +kernel
theorem dX7_init_27 : decode cX7_init 27 = .ok (.new 23, 3) := by decide +kernel
theorem dX7_init_30 : decode cX7_init 30 = .ok (.dup, 1) := by decide +kernel
theorem dX7_init_31 : decode cX7_init 31 = .ok (.invokespecial 25, 3) := by decide +kernel
theorem dX7_init_34 : decode cX7_init 34 = .ok (.putfield 26, 3) := by decide +kernel
theorem dX7_init_37 : decode cX7_init 37 = .ok (.aload_n 0, 1) := by decide +kernel
theorem dX7_init_38 : decode cX7_init 38 = .ok (.new 30, 3) := by decide +kernel
theorem dX7_init_41 : decode cX7_init 41 = .ok (.dup, 1) := by decide +kernel
theorem dX7_init_42 : decode cX7_init 42 = .ok (.invokespecial 32, 3) := by decide +kernel
theorem dX7_init_45 : decode cX7_init 45 = .ok (.putfield 33, 3) := by decide +kernel
theorem dX7_init_48 : decode cX7_init 48 = .ok (.aload_n 0, 1) := by decide +kernel
theorem dX7_init_49 : decode cX7_init 49 = .ok (.new 37, 3) := by decide +kernel
theorem dX7_init_52 : decode cX7_init 52 = .ok (.dup, 1) := by decide +kernel
theorem dX7_init_53 : decode cX7_init 53 = .ok (.invokespecial 39, 3) := by decide +kernel
theorem dX7_init_56 : decode cX7_init 56 = .ok (.putfield 40, 3) := by decide +kernel
theorem dX7_init_59 : decode cX7_init 59 = .ok (.aload_n 0, 1) := by decide +kernel
theorem dX7_init_60 : decode cX7_init 60 = .ok (.new 44, 3) := by decide +kernel
theorem dX7_init_63 : decode cX7_init 63 = .ok (.dup, 1) := by decide +kernel
theorem dX7_init_64 : decode cX7_init 64 = .ok (.invokespecial 46, 3) := by decide +kernel
theorem dX7_init_67 : decode cX7_init 67 = .ok (.putfield 47, 3) := by decide +kernel
theorem dX7_init_70 : decode cX7_init 70 = .ok (.aload_n 0, 1) := by decide +kernel
theorem dX7_init_71 : decode cX7_init 71 = .ok (.iconst 2, 1) := by decide +kernel
theorem dX7_init_72 : decode cX7_init 72 = .ok (.anewarray 16, 3) := by decide +kernel
theorem dX7_init_75 : decode cX7_init 75 = .ok (.putfield 51, 3) := by decide +kernel
theorem dX7_init_78 : decode cX7_init 78 = .ok (.aload_n 0, 1) := by decide +kernel
theorem dX7_init_79 : decode cX7_init 79 = .ok (.iconst 2, 1) := by decide +kernel
theorem dX7_init_80 : decode cX7_init 80 = .ok (.newarray .int, 2) := by decide +kernel
theorem dX7_init_82 : decode cX7_init 82 = .ok (.putfield 55, 3) := by decide +kernel
theorem dX7_init_85 : decode cX7_init 85 = .ok (.aload_n 0, 1) := by decide +kernel
theorem dX7_init_86 : decode cX7_init 86 = .ok (.iconst 2, 1) := by decide +kernel
theorem dX7_init_87 : decode cX7_init 87 = .ok (.newarray .boolean, 2) := by decide +kernel
theorem dX7_init_89 : decode cX7_init 89 = .ok (.putfield 59, 3) := by decide +kernel
theorem dX7_init_92 : decode cX7_init 92 = .ok (.aload_n 0, 1) := by decide +kernel
theorem dX7_init_93 : decode cX7_init 93 = .ok (.bipush 15, 2) := by decide +kernel
theorem dX7_init_95 : decode cX7_init 95 = .ok (.newarray .int, 2) := by decide +kernel
theorem dX7_init_97 : decode cX7_init 97 = .ok (.putfield 63, 3) := by decide +kernel
theorem dX7_init_100 : decode cX7_init 100 = .ok (.aload_n 0, 1) := by decide +kernel
theorem dX7_init_101 : decode cX7_init 101 = .ok (.bipush 8, 2) := by decide +kernel
theorem dX7_init_103 : decode cX7_init 103 = .ok (.newarray .int, 2) := by decide +kernel
theorem dX7_init_105 : decode cX7_init 105 = .ok (.putfield 66, 3) := by decide +kernel
theorem dX7_init_108 : decode cX7_init 108 = .ok (.aload_n 0, 1) := by decide +kernel
theorem dX7_init_109 : decode cX7_init 109 = .ok (.new 69, 3) := by decide +kernel
theorem dX7_init_112 : decode cX7_init 112 = .ok (.dup, 1) := by decide +kernel
theorem dX7_init_113 : decode cX7_init 113 = .ok (.invokespecial 71, 3) := by decide +kernel
theorem dX7_init_116 : decode cX7_init 116 = .ok (.putfield 72, 3) := by decide +kernel
theorem dX7_init_119 : decode cX7_init 119 = .ok (.aload_n 0, 1) := by decide +kernel
theorem dX7_init_120 : decode cX7_init 120 = .ok (.new 69, 3) := by decide +kernel
theorem dX7_init_123 : decode cX7_init 123 = .ok (.dup, 1) := by decide +kernel
theorem dX7_init_124 : decode cX7_init 124 = .ok (.invokespecial 71, 3) := by decide +kernel
theorem dX7_init_127 : decode cX7_init 127 = .ok (.putfield 76, 3) := by decide +kernel
theorem dX7_init_130 : decode cX7_init 130 = .ok (.iconst 0, 1) := by decide +kernel
theorem dX7_init_131 : decode cX7_init 131 = .ok (.istore_n 1, 1) := by decide +kernel
theorem dX7_init_132 : decode cX7_init 132 = .ok (.iload_n 1, 1) := by decide +kernel
theorem dX7_init_133 : decode cX7_init 133 = .ok (.iconst 2, 1) := by decide +kernel
theorem dX7_init_134 : decode cX7_init 134 = .ok (.if_icmp .ge 22, 3) := by decide +kernel
theorem dX7_init_137 : decode cX7_init 137 = .ok (.aload_n 0, 1) := by decide +kernel
theorem dX7_init_138 : decode cX7_init 138 = .ok (.getfield 51, 3) := by decide +kernel
theorem dX7_init_141 : decode cX7_init 141 = .ok (.iload_n 1, 1) := by decide +kernel
theorem dX7_init_142 : decode cX7_init 142 = .ok (.new 16, 3) := by decide +kernel
theorem dX7_init_145 : decode cX7_init 145 = .ok (.dup, 1) := by decide +kernel
theorem dX7_init_146 : decode cX7_init 146 = .ok (.invokespecial 18, 3) := by decide +kernel
theorem dX7_init_149 : decode cX7_init 149 = .ok (.aastore, 1) := by decide +kernel
theorem dX7_init_150 : decode cX7_init 150 = .ok (.iinc 1 1, 3) := by decide +kernel
theorem dX7_init_153 : decode cX7_init 153 = .ok (.goto (-21), 3) := by decide +kernel
theorem dX7_init_156 : decode cX7_init 156 = .ok (.return_, 1) := by decide +kernel
theorem dX7_feed_0 : decode cX7_feed 0 = .ok (.iload_n 1, 1) := by decide +kernel
theorem dX7_feed_1 : decode cX7_feed 1 = .ok (.ifCond .lt 10, 3) := by decide +kernel
theorem dX7_feed_4 : decode cX7_feed 4 = .ok (.iload_n 1, 1) := by decide +kernel
theorem dX7_feed_5 : decode cX7_feed 5 = .ok (.sipush 255, 3) := by decide +kernel
theorem dX7_feed_8 : decode cX7_feed 8 = .ok (.if_icmp .le 6, 3) := by decide +kernel
theorem dX7_feed_11 : decode cX7_feed 11 = .ok (.ldc 79, 2) := by decide +kernel
theorem dX7_feed_13 : decode cX7_feed 13 = .ok (.ireturn, 1) := by decide +kernel
theorem dX7_feed_14 : decode cX7_feed 14 = .ok (.aload_n 0, 1) := by decide +kernel
theorem dX7_feed_15 : decode cX7_feed 15 = .ok (.getfield 12, 3) := by decide +kernel
theorem dX7_feed_18 : decode cX7_feed 18 = .ok (.getfield 80, 3) := by decide +kernel
theorem dX7_feed_21 : decode cX7_feed 21 = .ok (.sipush 240, 3) := by decide +kernel
theorem dX7_feed_24 : decode cX7_feed 24 = .ok (.if_icmp .lt 6, 3) := by decide +kernel
theorem dX7_feed_27 : decode cX7_feed 27 = .ok (.ldc 84, 2) := by decide +kernel
theorem dX7_feed_29 : decode cX7_feed 29 = .ok (.ireturn, 1) := by decide +kernel
theorem dX7_feed_30 : decode cX7_feed 30 = .ok (.aload_n 0, 1) := by decide +kernel
theorem dX7_feed_31 : decode cX7_feed 31 = .ok (.getfield 12, 3) := by decide +kernel
theorem dX7_feed_34 : decode cX7_feed 34 = .ok (.getfield 85, 3) := by decide +kernel
theorem dX7_feed_37 : decode cX7_feed 37 = .ok (.aload_n 0, 1) := by decide +kernel
theorem dX7_feed_38 : decode cX7_feed 38 = .ok (.getfield 12, 3) := by decide +kernel
theorem dX7_feed_41 : decode cX7_feed 41 = .ok (.getfield 80, 3) := by decide +kernel
theorem dX7_feed_44 : decode cX7_feed 44 = .ok (.iload_n 1, 1) := by decide +kernel
theorem dX7_feed_45 : decode cX7_feed 45 = .ok (.i2c, 1) := by decide +kernel
theorem dX7_feed_46 : decode cX7_feed 46 = .ok (.castore, 1) := by decide +kernel
theorem dX7_feed_47 : decode cX7_feed 47 = .ok (.aload_n 0, 1) := by decide +kernel
theorem dX7_feed_48 : decode cX7_feed 48 = .ok (.getfield 12, 3) := by decide +kernel
theorem dX7_feed_51 : decode cX7_feed 51 = .ok (.dup, 1) := by decide +kernel
theorem dX7_feed_52 : decode cX7_feed 52 = .ok (.getfield 80, 3) := by decide +kernel
theorem dX7_feed_55 : decode cX7_feed 55 = .ok (.iconst 1, 1) := by decide +kernel
theorem dX7_feed_56 : decode cX7_feed 56 = .ok (.iadd, 1) := by decide +kernel
theorem dX7_feed_57 : decode cX7_feed 57 = .ok (.putfield 80, 3) := by decide +kernel
theorem dX7_feed_60 : decode cX7_feed 60 = .ok (.aload_n 0, 1) := by decide +kernel
theorem dX7_feed_61 : decode cX7_feed 61 = .ok (.getfield 12, 3) := by decide +kernel
theorem dX7_feed_64 : decode cX7_feed 64 = .ok (.getfield 80, 3) := by decide +kernel
theorem dX7_feed_67 : decode cX7_feed 67 = .ok (.ireturn, 1) := by decide +kernel
set_option maxRecDepth 20000 in
theorem ggX7_land_X5_readInto : GoodIn wsX7_land wsX5_readInto := goodIn_m (fun w hw => by
  revert w hw; unfold wsX5_readInto wsX5_readInto_r1 wsX5_readInto_r2 wsX5_readInto_r3 wsX5_readInto_r4
  exact am_cons (am_at in_wsX7_land_0 16 rfl) (am_app (am_app (am_app (am_cons (am_at in_wsX7_land_0 17 rfl) (am_cons (am_at in_wsX7_land_0 18 rfl) (am_cons (am_at in_wsX7_land_0 19 rfl) (am_cons (am_at in_wsX7_land_0 20 rfl) (am_cons (am_at in_wsX7_land_0 21 rfl) (am_cons (am_at in_wsX7_land_0 22 rfl) (am_cons (am_at in_wsX7_land_0 23 rfl) (am_cons (am_at in_wsX7_land_1 0 rfl) (am_cons (am_at in_wsX7_land_1 1 rfl) (am_cons (am_at in_wsX7_land_1 2 rfl) (am_cons (am_at in_wsX7_land_1 3 rfl) (am_cons (am_at in_wsX7_land_1 4 rfl) (am_cons (am_at in_wsX7_land_1 5 rfl) (am_cons (am_at in_wsX7_land_1 6 rfl) (am_cons (am_at in_wsX7_land_1 7 rfl) (am_cons (am_at in_wsX7_land_1 8 rfl) (am_cons (am_at in_wsX7_land_1 9 rfl) (am_cons (am_at in_wsX7_land_0 15 rfl) (am_cons (am_at in_wsX7_land_1 10 rfl) (am_cons (am_at in_wsX7_land_1 11 rfl) (am_cons (am_at in_wsX7_land_1 12 rfl) (am_cons (am_at in_wsX7_land_1 13 rfl) (am_cons (am_at in_wsX7_land_1 14 rfl) (am_cons (am_at in_wsX7_land_1 15 rfl) am_nil)))))))))))))))))))))))) (am_app (am_cons (am_at in_wsX7_land_1 16 rfl) (am_cons (am_at in_wsX7_land_1 17 rfl) (am_cons (am_at in_wsX7_land_1 18 rfl) (am_cons (am_at in_wsX7_land_1 19 rfl) (am_cons (am_at in_wsX7_land_1 20 rfl) (am_cons (am_at in_wsX7_land_1 21 rfl) (am_cons (am_at in_wsX7_land_1 22 rfl) (am_cons (am_at in_wsX7_land_1 23 rfl) (am_cons (am_at in_wsX7_land_2 0 rfl) (am_cons (am_at in_wsX7_land_2 1 rfl) (am_cons (am_at in_wsX7_land_2 2 rfl) (am_cons (am_at in_wsX7_land_2 3 rfl) (am_cons (am_at in_wsX7_land_2 4 rfl) (am_cons (am_at in_wsX7_land_2 5 rfl) (am_cons (am_at in_wsX7_land_2 6 rfl) (am_cons (am_at in_wsX7_land_2 7 rfl) (am_cons (am_at in_wsX7_land_2 8 rfl) (am_cons (am_at in_wsX7_land_2 9 rfl) (am_cons (am_at in_wsX7_land_2 10 rfl) (am_cons (am_at in_wsX7_land_2 11 rfl) (am_cons (am_at in_wsX7_land_2 12 rfl) (am_cons (am_at in_wsX7_land_2 13 rfl) (am_cons (am_at in_wsX7_land_2 14 rfl) (am_cons (am_at in_wsX7_land_2 15 rfl) am_nil)))))))))))))))))))))))) (am_app (am_cons (am_at in_wsX7_land_2 16 rfl) (am_cons (am_at in_wsX7_land_2 17 rfl) (am_cons (am_at in_wsX7_land_2 18 rfl) (am_cons (am_at in_wsX7_land_2 19 rfl) (am_cons (am_at in_wsX7_land_2 20 rfl) (am_cons (am_at in_wsX7_land_2 21 rfl) (am_cons (am_at in_wsX7_land_2 22 rfl) (am_cons (am_at in_wsX7_land_2 23 rfl) (am_cons (am_at in_wsX7_land_3 0 rfl) (am_cons (am_at in_wsX7_land_3 1 rfl) (am_cons (am_at in_wsX7_land_3 2 rfl) (am_cons (am_at in_wsX7_land_3 3 rfl) (am_cons (am_at in_wsX7_land_3 4 rfl) (am_cons (am_at in_wsX7_land_3 5 rfl) (am_cons (am_at in_wsX7_land_3 6 rfl) (am_cons (am_at in_wsX7_land_3 7 rfl) (am_cons (am_at in_wsX7_land_3 8 rfl) (am_cons (am_at in_wsX7_land_3 9 rfl) (am_cons (am_at in_wsX7_land_3 10 rfl) (am_cons (am_at in_wsX7_land_3 11 rfl) (am_cons (am_at in_wsX7_land_3 12 rfl) (am_cons (am_at in_wsX7_land_3 13 rfl) (am_cons (am_at in_wsX7_land_3 14 rfl) (am_cons (am_at in_wsX7_land_3 15 rfl) am_nil)))))))))))))))))))))))) (am_cons (am_at in_wsX7_land_3 16 rfl) (am_cons (am_at in_wsX7_land_3 17 rfl) (am_cons (am_at in_wsX7_land_3 18 rfl) (am_cons (am_at in_wsX7_land_3 19 rfl) (am_cons (am_at in_wsX7_land_3 20 rfl) am_nil)))))))) in_wsX7_land_6) in_wsX7_land_9)) gw_wsX5_readInto
set_option maxRecDepth 20000 in
theorem gX7_land_X5_readInto : GoodIn wsX7_land (wsV RX7 89 RX5 yX5_readInto wsX5_readInto) := goodIn_app (goodIn_m (am_cons (am_at in_wsX7_land_0 12 rfl) (am_cons (am_at in_wsX7_land_0 13 rfl) (am_cons (am_at in_wsX7_land_0 14 rfl) (am_cons (am_at in_wsX7_land_0 15 rfl) am_nil)))) (by decide +kernel)) ggX7_land_X5_readInto
set_option maxRecDepth 20000 in
theorem ggX7_land_X1_clear : GoodIn wsX7_land wsX1_clear := goodIn_m (fun w hw => by
  revert w hw; unfold wsX1_clear
  exact am_cons (am_at in_wsX7_land_4 1 rfl) (am_app (am_cons (am_at in_wsX7_land_4 2 rfl) (am_cons (am_at in_wsX7_land_4 3 rfl) (am_cons (am_at in_wsX7_land_4 4 rfl) (am_cons (am_at in_wsX7_land_4 5 rfl) (am_cons (am_at in_wsX7_land_4 6 rfl) (am_cons (am_at in_wsX7_land_4 7 rfl) (am_cons (am_at in_wsX7_land_4 8 rfl) am_nil))))))) in_wsX7_land_10)) gw_wsX1_clear
set_option maxRecDepth 20000 in
theorem gX7_land_X1_clear : GoodIn wsX7_land (wsV RX7 96 RX1 yX1_clear wsX1_clear) := goodIn_app (goodIn_m (am_cons (am_at in_wsX7_land_3 21 rfl) (am_cons (am_at in_wsX7_land_3 22 rfl) (am_cons (am_at in_wsX7_land_3 23 rfl) (am_cons (am_at in_wsX7_land_4 0 rfl) am_nil)))) (by decide +kernel)) ggX7_land_X1_clear
theorem dX7_land_0 : decode cX7_land 0 = .ok (.aload_n 0, 1) := by decide +kernel
theorem dX7_land_1 : decode cX7_land 1 = .ok (.getfield 12, 3) := by decide +kernel
theorem dX7_land_4 : decode cX7_land 4 = .ok (.aload_n 0, 1) := by decide +kernel
theorem dX7_land_5 : decode cX7_land 5 = .ok (.getfield 76, 3) := by decide +kernel
theorem dX7_land_8 : decode cX7_land 8 = .ok (.invokevirtual 89, 3) := by decide +kernel
theorem dX7_land_11 : decode cX7_land 11 = .ok (.aload_n 0, 1) := by decide +kernel
theorem dX7_land_12 : decode cX7_land 12 = .ok (.getfield 12, 3) := by decide +kernel
theorem dX7_land_15 : decode cX7_land 15 = .ok (.getfield 93, 3) := by decide +kernel
theorem dX7_land_18 : decode cX7_land 18 = .ok (.ifCond .eq 14, 3) := by decide +kernel
theorem dX7_land_21 : decode cX7_land 21 = .ok (.bipush (-10), 2) := by decide +kernel
theorem dX7_land_23 : decode cX7_land 23 = .ok (.aload_n 0, 1) := by decide +kernel
theorem dX7_land_24 : decode cX7_land 24 = .ok (.getfield 12, 3) := by decide +kernel
theorem dX7_land_27 : decode cX7_land 27 = .ok (.getfield 93, 3) := by decide +kernel
theorem dX7_land_30 : decode cX7_land 30 = .ok (.isub, 1) := by decide +kernel
theorem dX7_land_31 : decode cX7_land 31 = .ok (.ireturn, 1) := by decide +kernel
theorem dX7_land_32 : decode cX7_land 32 = .ok (.aload_n 0, 1) := by decide +kernel
theorem dX7_land_33 : decode cX7_land 33 = .ok (.getfield 76, 3) := by decide +kernel
theorem dX7_land_36 : decode cX7_land 36 = .ok (.astore_n 1, 1) := by decide +kernel
theorem dX7_land_37 : decode cX7_land 37 = .ok (.aload_n 0, 1) := by decide +kernel
theorem dX7_land_38 : decode cX7_land 38 = .ok (.aload_n 0, 1) := by decide +kernel
theorem dX7_land_39 : decode cX7_land 39 = .ok (.getfield 72, 3) := by decide +kernel
theorem dX7_land_42 : decode cX7_land 42 = .ok (.putfield 76, 3) := by decide +kernel
theorem dX7_land_45 : decode cX7_land 45 = .ok (.aload_n 0, 1) := by decide +kernel
theorem dX7_land_46 : decode cX7_land 46 = .ok (.aload_n 1, 1) := by decide +kernel
theorem dX7_land_47 : decode cX7_land 47 = .ok (.putfield 72, 3) := by decide +kernel
theorem dX7_land_50 : decode cX7_land 50 = .ok (.aload_n 0, 1) := by decide +kernel
theorem dX7_land_51 : decode cX7_land 51 = .ok (.getfield 19, 3) := by decide +kernel
theorem dX7_land_54 : decode cX7_land 54 = .ok (.invokevirtual 96, 3) := by decide +kernel
theorem dX7_land_57 : decode cX7_land 57 = .ok (.aload_n 0, 1) := by decide +kernel
theorem dX7_land_58 : decode cX7_land 58 = .ok (.getfield 26, 3) := by decide +kernel
theorem dX7_land_61 : decode cX7_land 61 = .ok (.iconst 0, 1) := by decide +kernel
theorem dX7_land_62 : decode cX7_land 62 = .ok (.putfield 99, 3) := by decide +kernel
theorem dX7_land_65 : decode cX7_land 65 = .ok (.aload_n 0, 1) := by decide +kernel
theorem dX7_land_66 : decode cX7_land 66 = .ok (.getfield 47, 3) := by decide +kernel
theorem dX7_land_69 : decode cX7_land 69 = .ok (.iconst 0, 1) := by decide +kernel
theorem dX7_land_70 : decode cX7_land 70 = .ok (.putfield 102, 3) := by decide +kernel
theorem dX7_land_73 : decode cX7_land 73 = .ok (.aload_n 0, 1) := by decide +kernel
theorem dX7_land_74 : decode cX7_land 74 = .ok (.iconst 0, 1) := by decide +kernel
theorem dX7_land_75 : decode cX7_land 75 = .ok (.putfield 103, 3) := by decide +kernel
theorem dX7_land_78 : decode cX7_land 78 = .ok (.iconst 0, 1) := by decide +kernel
theorem dX7_land_79 : decode cX7_land 79 = .ok (.istore_n 2, 1) := by decide +kernel
theorem dX7_land_80 : decode cX7_land 80 = .ok (.iload_n 2, 1) := by decide +kernel
theorem dX7_land_81 : decode cX7_land 81 = .ok (.iconst 2, 1) := by decide +kernel
theorem dX7_land_82 : decode cX7_land 82 = .ok (.if_icmp .ge 16, 3) := by decide +kernel
theorem dX7_land_85 : decode cX7_land 85 = .ok (.aload_n 0, 1) := by decide +kernel
theorem dX7_land_86 : decode cX7_land 86 = .ok (.getfield 59, 3) := by decide +kernel
theorem dX7_land_89 : decode cX7_land 89 = .ok (.iload_n 2, 1) := by decide +kernel
theorem dX7_land_90 : decode cX7_land 90 = .ok (.iconst 0, 1) := by decide +kernel
theorem dX7_land_91 : decode cX7_land 91 = .ok (.bastore, 1) := by decide +kernel
theorem dX7_land_92 : decode cX7_land 92 = .ok (.iinc 2 1, 3) := by decide +kernel
theorem dX7_land_95 : decode cX7_land 95 = .ok (.goto (-15), 3) := by decide +kernel
theorem dX7_land_98 : decode cX7_land 98 = .ok (.aload_n 0, 1) := by decide +kernel
theorem dX7_land_99 : decode cX7_land 99 = .ok (.getfield 72, 3) := by decide +kernel
theorem dX7_land_102 : decode cX7_land 102 = .ok (.getfield 106, 3) := by decide +kernel
theorem dX7_land_105 : decode cX7_land 105 = .ok (.ireturn, 1) := by decide +kernel
theorem dX7_fault_0 : decode cX7_fault 0 = .ok (.aload_n 0, 1) := by decide +kernel
theorem dX7_fault_1 : decode cX7_fault 1 = .ok (.getfield 12, 3) := by decide +kernel
theorem dX7_fault_4 : decode cX7_fault 4 = .ok (.getfield 109, 3) := by decide +kernel
theorem dX7_fault_7 : decode cX7_fault 7 = .ok (.ireturn, 1) := by decide +kernel
theorem dX7_told_0 : decode cX7_told 0 = .ok (.iload_n 1, 1) := by decide +kernel
theorem dX7_told_1 : decode cX7_told 1 = .ok (.tableswitch 200 0 14 #[75, 83, 91, 99, 107, 115, 123, 131, 139, 147, 155, 163, 179, 187, 192], 75) := by decide +kernel
theorem dX7_told_76 : decode cX7_told 76 = .ok (.aload_n 0, 1) := by decide +kernel
theorem dX7_told_77 : decode cX7_told 77 = .ok (.getfield 72, 3) := by decide +kernel
theorem dX7_told_80 : decode cX7_told 80 = .ok (.getfield 112, 3) := by decide +kernel
theorem dX7_told_83 : decode cX7_told 83 = .ok (.ireturn, 1) := by decide +kernel
theorem dX7_told_84 : decode cX7_told 84 = .ok (.aload_n 0, 1) := by decide +kernel
theorem dX7_told_85 : decode cX7_told 85 = .ok (.getfield 72, 3) := by decide +kernel
theorem dX7_told_88 : decode cX7_told 88 = .ok (.getfield 115, 3) := by decide +kernel
theorem dX7_told_91 : decode cX7_told 91 = .ok (.ireturn, 1) := by decide +kernel
theorem dX7_told_92 : decode cX7_told 92 = .ok (.aload_n 0, 1) := by decide +kernel
theorem dX7_told_93 : decode cX7_told 93 = .ok (.getfield 72, 3) := by decide +kernel
theorem dX7_told_96 : decode cX7_told 96 = .ok (.getfield 106, 3) := by decide +kernel
theorem dX7_told_99 : decode cX7_told 99 = .ok (.ireturn, 1) := by decide +kernel
theorem dX7_told_100 : decode cX7_told 100 = .ok (.aload_n 0, 1) := by decide +kernel
theorem dX7_told_101 : decode cX7_told 101 = .ok (.getfield 72, 3) := by decide +kernel
theorem dX7_told_104 : decode cX7_told 104 = .ok (.getfield 118, 3) := by decide +kernel
theorem dX7_told_107 : decode cX7_told 107 = .ok (.ireturn, 1) := by decide +kernel
theorem dX7_told_108 : decode cX7_told 108 = .ok (.aload_n 0, 1) := by decide +kernel
theorem dX7_told_109 : decode cX7_told 109 = .ok (.getfield 12, 3) := by decide +kernel
theorem dX7_told_112 : decode cX7_told 112 = .ok (.getfield 80, 3) := by decide +kernel
theorem dX7_told_115 : decode cX7_told 115 = .ok (.ireturn, 1) := by decide +kernel
theorem dX7_told_116 : decode cX7_told 116 = .ok (.aload_n 0, 1) := by decide +kernel
theorem dX7_told_117 : decode cX7_told 117 = .ok (.getfield 19, 3) := by decide +kernel
theorem dX7_told_120 : decode cX7_told 120 = .ok (.getfield 121, 3) := by decide +kernel
theorem dX7_told_123 : decode cX7_told 123 = .ok (.ireturn, 1) := by decide +kernel
theorem dX7_told_124 : decode cX7_told 124 = .ok (.aload_n 0, 1) := by decide +kernel
theorem dX7_told_125 : decode cX7_told 125 = .ok (.getfield 19, 3) := by decide +kernel
theorem dX7_told_128 : decode cX7_told 128 = .ok (.getfield 124, 3) := by decide +kernel
theorem dX7_told_131 : decode cX7_told 131 = .ok (.ireturn, 1) := by decide +kernel
theorem dX7_told_132 : decode cX7_told 132 = .ok (.aload_n 0, 1) := by decide +kernel
theorem dX7_told_133 : decode cX7_told 133 = .ok (.getfield 19, 3) := by decide +kernel
theorem dX7_told_136 : decode cX7_told 136 = .ok (.getfield 127, 3) := by decide +kernel
theorem dX7_told_139 : decode cX7_told 139 = .ok (.ireturn, 1) := by decide +kernel
theorem dX7_told_140 : decode cX7_told 140 = .ok (.aload_n 0, 1) := by decide +kernel
theorem dX7_told_141 : decode cX7_told 141 = .ok (.getfield 19, 3) := by decide +kernel
theorem dX7_told_144 : decode cX7_told 144 = .ok (.getfield 130, 3) := by decide +kernel
theorem dX7_told_147 : decode cX7_told 147 = .ok (.ireturn, 1) := by decide +kernel
theorem dX7_told_148 : decode cX7_told 148 = .ok (.aload_n 0, 1) := by decide +kernel
theorem dX7_told_149 : decode cX7_told 149 = .ok (.getfield 19, 3) := by decide +kernel
theorem dX7_told_152 : decode cX7_told 152 = .ok (.getfield 133, 3) := by decide +kernel
theorem dX7_told_155 : decode cX7_told 155 = .ok (.ireturn, 1) := by decide +kernel
theorem dX7_told_156 : decode cX7_told 156 = .ok (.aload_n 0, 1) := by decide +kernel
theorem dX7_told_157 : decode cX7_told 157 = .ok (.getfield 19, 3) := by decide +kernel
theorem dX7_told_160 : decode cX7_told 160 = .ok (.getfield 136, 3) := by decide +kernel
theorem dX7_told_163 : decode cX7_told 163 = .ok (.ireturn, 1) := by decide +kernel
theorem dX7_told_164 : decode cX7_told 164 = .ok (.aload_n 0, 1) := by decide +kernel
theorem dX7_told_165 : decode cX7_told 165 = .ok (.getfield 19, 3) := by decide +kernel
theorem dX7_told_168 : decode cX7_told 168 = .ok (.getfield 139, 3) := by decide +kernel
theorem dX7_told_171 : decode cX7_told 171 = .ok (.ifCond .eq 7, 3) := by decide +kernel
theorem dX7_told_174 : decode cX7_told 174 = .ok (.iconst 1, 1) := by decide +kernel
theorem dX7_told_175 : decode cX7_told 175 = .ok (.goto 4, 3) := by decide +kernel
theorem dX7_told_178 : decode cX7_told 178 = .ok (.iconst 0, 1) := by decide +kernel
theorem dX7_told_179 : decode cX7_told 179 = .ok (.ireturn, 1) := by decide +kernel
theorem dX7_told_180 : decode cX7_told 180 = .ok (.aload_n 0, 1) := by decide +kernel
theorem dX7_told_181 : decode cX7_told 181 = .ok (.getfield 47, 3) := by decide +kernel
theorem dX7_told_184 : decode cX7_told 184 = .ok (.getfield 102, 3) := by decide +kernel
theorem dX7_told_187 : decode cX7_told 187 = .ok (.ireturn, 1) := by decide +kernel
theorem dX7_told_188 : decode cX7_told 188 = .ok (.aload_n 0, 1) := by decide +kernel
theorem dX7_told_189 : decode cX7_told 189 = .ok (.getfield 103, 3) := by decide +kernel
theorem dX7_told_192 : decode cX7_told 192 = .ok (.ireturn, 1) := by decide +kernel
theorem dX7_told_193 : decode cX7_told 193 = .ok (.aload_n 0, 1) := by decide +kernel
theorem dX7_told_194 : decode cX7_told 194 = .ok (.getfield 26, 3) := by decide +kernel
theorem dX7_told_197 : decode cX7_told 197 = .ok (.getfield 99, 3) := by decide +kernel
theorem dX7_told_200 : decode cX7_told 200 = .ok (.ireturn, 1) := by decide +kernel
theorem dX7_told_201 : decode cX7_told 201 = .ok (.ldc 79, 2) := by decide +kernel
theorem dX7_told_203 : decode cX7_told 203 = .ok (.ireturn, 1) := by decide +kernel
set_option maxRecDepth 20000 in
theorem ggX7_town_X0_hasTown : GoodIn wsX7_town wsX0_hasTown := goodIn_m (fun w hw => by
  revert w hw; unfold wsX0_hasTown
  exact am_cons (am_at in_wsX7_town_0 10 rfl) (am_app (am_cons (am_at in_wsX7_town_0 11 rfl) am_nil) in_wsX7_town_2)) gw_wsX0_hasTown
set_option maxRecDepth 20000 in
theorem gX7_town_X0_hasTown : GoodIn wsX7_town (wsV RX7 143 RX0 yX0_hasTown wsX0_hasTown) := goodIn_app (goodIn_m (am_cons (am_at in_wsX7_town_0 6 rfl) (am_cons (am_at in_wsX7_town_0 7 rfl) (am_cons (am_at in_wsX7_town_0 8 rfl) (am_cons (am_at in_wsX7_town_0 9 rfl) am_nil)))) (by decide +kernel)) ggX7_town_X0_hasTown
set_option maxRecDepth 20000 in
theorem ggX7_town_X0_neighbours : GoodIn wsX7_town wsX0_neighbours := goodIn_m (fun w hw => by
  revert w hw; unfold wsX0_neighbours
  exact am_cons (am_at in_wsX7_town_0 15 rfl) (am_app (am_cons (am_at in_wsX7_town_0 16 rfl) (am_cons (am_at in_wsX7_town_0 17 rfl) (am_cons (am_at in_wsX7_town_0 18 rfl) am_nil))) in_wsX7_town_2)) gw_wsX0_neighbours
set_option maxRecDepth 20000 in
theorem gX7_town_X0_neighbours : GoodIn wsX7_town (wsV RX7 157 RX0 yX0_neighbours wsX0_neighbours) := goodIn_app (goodIn_m (am_cons (am_at in_wsX7_town_0 12 rfl) (am_cons (am_at in_wsX7_town_0 13 rfl) (am_cons (am_at in_wsX7_town_0 14 rfl) (am_cons (am_at in_wsX7_town_0 9 rfl) am_nil)))) (by decide +kernel)) ggX7_town_X0_neighbours
set_option maxRecDepth 20000 in
theorem ggX7_town_X0_isBanned : GoodIn wsX7_town wsX0_isBanned := goodIn_m (fun w hw => by
  revert w hw; unfold wsX0_isBanned
  exact am_cons (am_at in_wsX7_town_0 22 rfl) (am_app (am_cons (am_at in_wsX7_town_0 23 rfl) am_nil) in_wsX7_town_2)) gw_wsX0_isBanned
set_option maxRecDepth 20000 in
theorem gX7_town_X0_isBanned : GoodIn wsX7_town (wsV RX7 161 RX0 yX0_isBanned wsX0_isBanned) := goodIn_app (goodIn_m (am_cons (am_at in_wsX7_town_0 19 rfl) (am_cons (am_at in_wsX7_town_0 20 rfl) (am_cons (am_at in_wsX7_town_0 21 rfl) (am_cons (am_at in_wsX7_town_0 9 rfl) am_nil)))) (by decide +kernel)) ggX7_town_X0_isBanned
theorem dX7_town_0 : decode cX7_town 0 = .ok (.aload_n 0, 1) := by decide +kernel
theorem dX7_town_1 : decode cX7_town 1 = .ok (.getfield 72, 3) := by decide +kernel
theorem dX7_town_4 : decode cX7_town 4 = .ok (.iload_n 1, 1) := by decide +kernel
theorem dX7_town_5 : decode cX7_town 5 = .ok (.invokevirtual 143, 3) := by decide +kernel
theorem dX7_town_8 : decode cX7_town 8 = .ok (.ifCond .ne 6, 3) := by decide +kernel
theorem dX7_town_11 : decode cX7_town 11 = .ok (.ldc 147, 2) := by decide +kernel
theorem dX7_town_13 : decode cX7_town 13 = .ok (.ireturn, 1) := by decide +kernel
theorem dX7_town_14 : decode cX7_town 14 = .ok (.iload_n 2, 1) := by decide +kernel
theorem dX7_town_15 : decode cX7_town 15 = .ok (.tableswitch 90 0 4 #[33, 43, 53, 63, 73], 33) := by decide +kernel
theorem dX7_town_48 : decode cX7_town 48 = .ok (.aload_n 0, 1) := by decide +kernel
theorem dX7_town_49 : decode cX7_town 49 = .ok (.getfield 72, 3) := by decide +kernel
theorem dX7_town_52 : decode cX7_town 52 = .ok (.getfield 148, 3) := by decide +kernel
theorem dX7_town_55 : decode cX7_town 55 = .ok (.iload_n 1, 1) := by decide +kernel
theorem dX7_town_56 : decode cX7_town 56 = .ok (.iaload, 1) := by decide +kernel
theorem dX7_town_57 : decode cX7_town 57 = .ok (.ireturn, 1) := by decide +kernel
theorem dX7_town_58 : decode cX7_town 58 = .ok (.aload_n 0, 1) := by decide +kernel
theorem dX7_town_59 : decode cX7_town 59 = .ok (.getfield 72, 3) := by decide +kernel
theorem dX7_town_62 : decode cX7_town 62 = .ok (.getfield 151, 3) := by decide +kernel
theorem dX7_town_65 : decode cX7_town 65 = .ok (.iload_n 1, 1) := by decide +kernel
theorem dX7_town_66 : decode cX7_town 66 = .ok (.iaload, 1) := by decide +kernel
theorem dX7_town_67 : decode cX7_town 67 = .ok (.ireturn, 1) := by decide +kernel
theorem dX7_town_68 : decode cX7_town 68 = .ok (.aload_n 0, 1) := by decide +kernel
theorem dX7_town_69 : decode cX7_town 69 = .ok (.getfield 72, 3) := by decide +kernel
theorem dX7_town_72 : decode cX7_town 72 = .ok (.getfield 154, 3) := by decide +kernel
theorem dX7_town_75 : decode cX7_town 75 = .ok (.iload_n 1, 1) := by decide +kernel
theorem dX7_town_76 : decode cX7_town 76 = .ok (.iaload, 1) := by decide +kernel
theorem dX7_town_77 : decode cX7_town 77 = .ok (.ireturn, 1) := by decide +kernel
theorem dX7_town_78 : decode cX7_town 78 = .ok (.aload_n 0, 1) := by decide +kernel
theorem dX7_town_79 : decode cX7_town 79 = .ok (.getfield 72, 3) := by decide +kernel
theorem dX7_town_82 : decode cX7_town 82 = .ok (.iload_n 1, 1) := by decide +kernel
theorem dX7_town_83 : decode cX7_town 83 = .ok (.iconst 0, 1) := by decide +kernel
theorem dX7_town_84 : decode cX7_town 84 = .ok (.invokevirtual 157, 3) := by decide +kernel
theorem dX7_town_87 : decode cX7_town 87 = .ok (.ireturn, 1) := by decide +kernel
theorem dX7_town_88 : decode cX7_town 88 = .ok (.aload_n 0, 1) := by decide +kernel
theorem dX7_town_89 : decode cX7_town 89 = .ok (.getfield 72, 3) := by decide +kernel
theorem dX7_town_92 : decode cX7_town 92 = .ok (.iload_n 1, 1) := by decide +kernel
theorem dX7_town_93 : decode cX7_town 93 = .ok (.invokevirtual 161, 3) := by decide +kernel
theorem dX7_town_96 : decode cX7_town 96 = .ok (.ifCond .eq 7, 3) := by decide +kernel
theorem dX7_town_99 : decode cX7_town 99 = .ok (.iconst 1, 1) := by decide +kernel
theorem dX7_town_100 : decode cX7_town 100 = .ok (.goto 4, 3) := by decide +kernel
theorem dX7_town_103 : decode cX7_town 103 = .ok (.iconst 0, 1) := by decide +kernel
theorem dX7_town_104 : decode cX7_town 104 = .ok (.ireturn, 1) := by decide +kernel
theorem dX7_town_105 : decode cX7_town 105 = .ok (.ldc 79, 2) := by decide +kernel
theorem dX7_town_107 : decode cX7_town 107 = .ok (.ireturn, 1) := by decide +kernel
set_option maxRecDepth 20000 in
theorem ggX7_road_X0_hasRoad : GoodIn wsX7_road wsX0_hasRoad := goodIn_m (fun w hw => by
  revert w hw; unfold wsX0_hasRoad
  exact am_cons (am_at in_wsX7_road_0 11 rfl) (am_app (am_cons (am_at in_wsX7_road_0 12 rfl) am_nil) in_wsX7_road_2)) gw_wsX0_hasRoad
set_option maxRecDepth 20000 in
theorem gX7_road_X0_hasRoad : GoodIn wsX7_road (wsV RX7 164 RX0 yX0_hasRoad wsX0_hasRoad) := goodIn_app (goodIn_m (am_cons (am_at in_wsX7_road_0 7 rfl) (am_cons (am_at in_wsX7_road_0 8 rfl) (am_cons (am_at in_wsX7_road_0 9 rfl) (am_cons (am_at in_wsX7_road_0 10 rfl) am_nil)))) (by decide +kernel)) ggX7_road_X0_hasRoad
theorem dX7_road_0 : decode cX7_road 0 = .ok (.aload_n 0, 1) := by decide +kernel
theorem dX7_road_1 : decode cX7_road 1 = .ok (.getfield 72, 3) := by decide +kernel
theorem dX7_road_4 : decode cX7_road 4 = .ok (.iload_n 1, 1) := by decide +kernel
theorem dX7_road_5 : decode cX7_road 5 = .ok (.invokevirtual 164, 3) := by decide +kernel
theorem dX7_road_8 : decode cX7_road 8 = .ok (.ifCond .ne 6, 3) := by decide +kernel
theorem dX7_road_11 : decode cX7_road 11 = .ok (.ldc 147, 2) := by decide +kernel
theorem dX7_road_13 : decode cX7_road 13 = .ok (.ireturn, 1) := by decide +kernel
theorem dX7_road_14 : decode cX7_road 14 = .ok (.iload_n 2, 1) := by decide +kernel
theorem dX7_road_15 : decode cX7_road 15 = .ok (.tableswitch 57 0 2 #[25, 35, 45], 25) := by decide +kernel
theorem dX7_road_40 : decode cX7_road 40 = .ok (.aload_n 0, 1) := by decide +kernel
theorem dX7_road_41 : decode cX7_road 41 = .ok (.getfield 72, 3) := by decide +kernel
theorem dX7_road_44 : decode cX7_road 44 = .ok (.getfield 167, 3) := by decide +kernel
theorem dX7_road_47 : decode cX7_road 47 = .ok (.iload_n 1, 1) := by decide +kernel
theorem dX7_road_48 : decode cX7_road 48 = .ok (.iaload, 1) := by decide +kernel
theorem dX7_road_49 : decode cX7_road 49 = .ok (.ireturn, 1) := by decide +kernel
theorem dX7_road_50 : decode cX7_road 50 = .ok (.aload_n 0, 1) := by decide +kernel
theorem dX7_road_51 : decode cX7_road 51 = .ok (.getfield 72, 3) := by decide +kernel
theorem dX7_road_54 : decode cX7_road 54 = .ok (.getfield 170, 3) := by decide +kernel
theorem dX7_road_57 : decode cX7_road 57 = .ok (.iload_n 1, 1) := by decide +kernel
theorem dX7_road_58 : decode cX7_road 58 = .ok (.iaload, 1) := by decide +kernel
theorem dX7_road_59 : decode cX7_road 59 = .ok (.ireturn, 1) := by decide +kernel
theorem dX7_road_60 : decode cX7_road 60 = .ok (.aload_n 0, 1) := by decide +kernel
theorem dX7_road_61 : decode cX7_road 61 = .ok (.getfield 19, 3) := by decide +kernel
theorem dX7_road_64 : decode cX7_road 64 = .ok (.getfield 136, 3) := by decide +kernel
theorem dX7_road_67 : decode cX7_road 67 = .ok (.iload_n 1, 1) := by decide +kernel
theorem dX7_road_68 : decode cX7_road 68 = .ok (.ishr, 1) := by decide +kernel
theorem dX7_road_69 : decode cX7_road 69 = .ok (.iconst 1, 1) := by decide +kernel
theorem dX7_road_70 : decode cX7_road 70 = .ok (.iand, 1) := by decide +kernel
theorem dX7_road_71 : decode cX7_road 71 = .ok (.ireturn, 1) := by decide +kernel
theorem dX7_road_72 : decode cX7_road 72 = .ok (.ldc 79, 2) := by decide +kernel
theorem dX7_road_74 : decode cX7_road 74 = .ok (.ireturn, 1) := by decide +kernel
set_option maxRecDepth 20000 in
theorem ggX7_stay_X7_cannotGoOn : GoodIn wsX7_stay wsX7_cannotGoOn := goodIn_m (fun w hw => by
  revert w hw; unfold wsX7_cannotGoOn
  exact am_cons (am_at in_wsX7_stay_0 10 rfl) (am_app (am_app (am_app (am_cons (am_at in_wsX7_stay_0 1 rfl) (am_cons (am_at in_wsX7_stay_0 11 rfl) (am_cons (am_at in_wsX7_stay_0 0 rfl) (am_cons (am_at in_wsX7_stay_0 12 rfl) am_nil)))) in_wsX7_stay_3) in_wsX7_stay_5) in_wsX7_stay_4)) gw_wsX7_cannotGoOn
set_option maxRecDepth 20000 in
theorem gX7_stay_X7_cannotGoOn : GoodIn wsX7_stay (wsV RX7 173 RX7 yX7_cannotGoOn wsX7_cannotGoOn) := goodIn_app (goodIn_m (am_cons (am_at in_wsX7_stay_0 6 rfl) (am_cons (am_at in_wsX7_stay_0 7 rfl) (am_cons (am_at in_wsX7_stay_0 8 rfl) (am_cons (am_at in_wsX7_stay_0 9 rfl) am_nil)))) (by decide +kernel)) ggX7_stay_X7_cannotGoOn
set_option maxRecDepth 20000 in
theorem ggX7_stay_X1_mayStay : GoodIn wsX7_stay wsX1_mayStay := goodIn_m (fun w hw => by
  revert w hw; unfold wsX1_mayStay
  exact am_cons (am_at in_wsX7_stay_0 17 rfl) (am_app (am_app (am_cons (am_at in_wsX7_stay_0 18 rfl) (am_cons (am_at in_wsX7_stay_0 19 rfl) am_nil)) in_wsX7_stay_4) in_wsX7_stay_5)) gw_wsX1_mayStay
set_option maxRecDepth 20000 in
theorem gX7_stay_X1_mayStay : GoodIn wsX7_stay (wsV RX7 177 RX1 yX1_mayStay wsX1_mayStay) := goodIn_app (goodIn_m (am_cons (am_at in_wsX7_stay_0 13 rfl) (am_cons (am_at in_wsX7_stay_0 14 rfl) (am_cons (am_at in_wsX7_stay_0 15 rfl) (am_cons (am_at in_wsX7_stay_0 16 rfl) am_nil)))) (by decide +kernel)) ggX7_stay_X1_mayStay
set_option maxRecDepth 20000 in
theorem ggX7_stay_X2_push : GoodIn wsX7_stay wsX2_push := goodIn_m (fun w hw => by
  revert w hw; unfold wsX2_push
  exact am_cons (am_at in_wsX7_stay_1 0 rfl) (am_app (am_app (am_cons (am_at in_wsX7_stay_1 1 rfl) (am_cons (am_at in_wsX7_stay_1 2 rfl) (am_cons (am_at in_wsX7_stay_1 3 rfl) (am_cons (am_at in_wsX7_stay_1 4 rfl) (am_cons (am_at in_wsX7_stay_1 5 rfl) (am_cons (am_at in_wsX7_stay_0 23 rfl) (am_cons (am_at in_wsX7_stay_1 6 rfl) (am_cons (am_at in_wsX7_stay_1 7 rfl) (am_cons (am_at in_wsX7_stay_1 8 rfl) (am_cons (am_at in_wsX7_stay_1 9 rfl) (am_cons (am_at in_wsX7_stay_0 16 rfl) (am_cons (am_at in_wsX7_stay_1 10 rfl) (am_cons (am_at in_wsX7_stay_1 11 rfl) (am_cons (am_at in_wsX7_stay_1 12 rfl) (am_cons (am_at in_wsX7_stay_0 18 rfl) (am_cons (am_at in_wsX7_stay_1 13 rfl) (am_cons (am_at in_wsX7_stay_1 14 rfl) (am_cons (am_at in_wsX7_stay_1 15 rfl) (am_cons (am_at in_wsX7_stay_1 16 rfl) am_nil))))))))))))))))))) in_wsX7_stay_6) in_wsX7_stay_4)) gw_wsX2_push
set_option maxRecDepth 20000 in
theorem gX7_stay_X2_push : GoodIn wsX7_stay (wsV RX7 182 RX2 yX2_push wsX2_push) := goodIn_app (goodIn_m (am_cons (am_at in_wsX7_stay_0 20 rfl) (am_cons (am_at in_wsX7_stay_0 21 rfl) (am_cons (am_at in_wsX7_stay_0 22 rfl) (am_cons (am_at in_wsX7_stay_0 23 rfl) am_nil)))) (by decide +kernel)) ggX7_stay_X2_push
set_option maxRecDepth 20000 in
theorem ggX7_stay_X1_stayMonth : GoodIn wsX7_stay wsX1_stayMonth := goodIn_m (fun w hw => by
  revert w hw; unfold wsX1_stayMonth
  exact am_cons (am_at in_wsX7_stay_1 20 rfl) (am_app (am_app (am_cons (am_at in_wsX7_stay_1 11 rfl) (am_cons (am_at in_wsX7_stay_1 12 rfl) (am_cons (am_at in_wsX7_stay_1 14 rfl) (am_cons (am_at in_wsX7_stay_1 13 rfl) (am_cons (am_at in_wsX7_stay_0 18 rfl) (am_cons (am_at in_wsX7_stay_1 21 rfl) (am_cons (am_at in_wsX7_stay_1 22 rfl) (am_cons (am_at in_wsX7_stay_1 23 rfl) (am_cons (am_at in_wsX7_stay_2 0 rfl) (am_cons (am_at in_wsX7_stay_2 1 rfl) (am_cons (am_at in_wsX7_stay_2 2 rfl) (am_cons (am_at in_wsX7_stay_2 3 rfl) (am_cons (am_at in_wsX7_stay_2 4 rfl) (am_cons (am_at in_wsX7_stay_2 5 rfl) (am_cons (am_at in_wsX7_stay_2 6 rfl) (am_cons (am_at in_wsX7_stay_2 7 rfl) (am_cons (am_at in_wsX7_stay_2 8 rfl) (am_cons (am_at in_wsX7_stay_2 9 rfl) (am_cons (am_at in_wsX7_stay_2 10 rfl) (am_cons (am_at in_wsX7_stay_2 11 rfl) (am_cons (am_at in_wsX7_stay_2 12 rfl) (am_cons (am_at in_wsX7_stay_2 13 rfl) (am_cons (am_at in_wsX7_stay_2 14 rfl) am_nil))))))))))))))))))))))) in_wsX7_stay_4) in_wsX7_stay_5)) gw_wsX1_stayMonth
set_option maxRecDepth 20000 in
theorem gX7_stay_X1_stayMonth : GoodIn wsX7_stay (wsV RX7 186 RX1 yX1_stayMonth wsX1_stayMonth) := goodIn_app (goodIn_m (am_cons (am_at in_wsX7_stay_1 17 rfl) (am_cons (am_at in_wsX7_stay_1 18 rfl) (am_cons (am_at in_wsX7_stay_1 19 rfl) (am_cons (am_at in_wsX7_stay_0 16 rfl) am_nil)))) (by decide +kernel)) ggX7_stay_X1_stayMonth
theorem dX7_stay_0 : decode cX7_stay 0 = .ok (.aload_n 0, 1) := by decide +kernel
theorem dX7_stay_1 : decode cX7_stay 1 = .ok (.invokevirtual 173, 3) := by decide +kernel
theorem dX7_stay_4 : decode cX7_stay 4 = .ok (.ifCond .ne 17, 3) := by decide +kernel
theorem dX7_stay_7 : decode cX7_stay 7 = .ok (.aload_n 0, 1) := by decide +kernel
theorem dX7_stay_8 : decode cX7_stay 8 = .ok (.getfield 19, 3) := by decide +kernel
theorem dX7_stay_11 : decode cX7_stay 11 = .ok (.aload_n 0, 1) := by decide +kernel
theorem dX7_stay_12 : decode cX7_stay 12 = .ok (.getfield 72, 3) := by decide +kernel
theorem dX7_stay_15 : decode cX7_stay 15 = .ok (.invokevirtual 177, 3) := by decide +kernel
theorem dX7_stay_18 : decode cX7_stay 18 = .ok (.ifCond .ne 6, 3) := by decide +kernel
theorem dX7_stay_21 : decode cX7_stay 21 = .ok (.ldc 181, 2) := by decide +kernel
theorem dX7_stay_23 : decode cX7_stay 23 = .ok (.ireturn, 1) := by decide +kernel
theorem dX7_stay_24 : decode cX7_stay 24 = .ok (.aload_n 0, 1) := by decide +kernel
theorem dX7_stay_25 : decode cX7_stay 25 = .ok (.getfield 19, 3) := by decide +kernel
theorem dX7_stay_28 : decode cX7_stay 28 = .ok (.getfield 121, 3) := by decide +kernel
theorem dX7_stay_31 : decode cX7_stay 31 = .ok (.sipush 9000, 3) := by decide +kernel
theorem dX7_stay_34 : decode cX7_stay 34 = .ok (.if_icmp .le 6, 3) := by decide +kernel
theorem dX7_stay_37 : decode cX7_stay 37 = .ok (.ldc 84, 2) := by decide +kernel
theorem dX7_stay_39 : decode cX7_stay 39 = .ok (.ireturn, 1) := by decide +kernel
theorem dX7_stay_40 : decode cX7_stay 40 = .ok (.aload_n 0, 1) := by decide +kernel
theorem dX7_stay_41 : decode cX7_stay 41 = .ok (.getfield 26, 3) := by decide +kernel
theorem dX7_stay_44 : decode cX7_stay 44 = .ok (.aload_n 0, 1) := by decide +kernel
theorem dX7_stay_45 : decode cX7_stay 45 = .ok (.getfield 19, 3) := by decide +kernel
theorem dX7_stay_48 : decode cX7_stay 48 = .ok (.invokevirtual 182, 3) := by decide +kernel
theorem dX7_stay_51 : decode cX7_stay 51 = .ok (.aload_n 0, 1) := by decide +kernel
theorem dX7_stay_52 : decode cX7_stay 52 = .ok (.getfield 19, 3) := by decide +kernel
theorem dX7_stay_55 : decode cX7_stay 55 = .ok (.aload_n 0, 1) := by decide +kernel
theorem dX7_stay_56 : decode cX7_stay 56 = .ok (.getfield 72, 3) := by decide +kernel
theorem dX7_stay_59 : decode cX7_stay 59 = .ok (.invokevirtual 186, 3) := by decide +kernel
theorem dX7_stay_62 : decode cX7_stay 62 = .ok (.ireturn, 1) := by decide +kernel
set_option maxRecDepth 20000 in
theorem ggX7_walk_X0_hasTown : GoodIn wsX7_walk wsX0_hasTown := goodIn_m (fun w hw => by
  revert w hw; unfold wsX0_hasTown
  exact am_cons (am_at in_wsX7_walk_0 12 rfl) (am_app (am_cons (am_at in_wsX7_walk_0 13 rfl) am_nil) in_wsX7_walk_5)) gw_wsX0_hasTown
set_option maxRecDepth 20000 in
theorem gX7_walk_X0_hasTown : GoodIn wsX7_walk (wsV RX7 143 RX0 yX0_hasTown wsX0_hasTown) := goodIn_app (goodIn_m (am_cons (am_at in_wsX7_walk_0 8 rfl) (am_cons (am_at in_wsX7_walk_0 9 rfl) (am_cons (am_at in_wsX7_walk_0 10 rfl) (am_cons (am_at in_wsX7_walk_0 11 rfl) am_nil)))) (by decide +kernel)) ggX7_walk_X0_hasTown
set_option maxRecDepth 20000 in
theorem ggX7_walk_X1_walks : GoodIn wsX7_walk wsX1_walks := goodIn_m (fun w hw => by
  revert w hw; unfold wsX1_walks
  exact am_cons (am_at in_wsX7_walk_0 18 rfl) (am_app (am_app (am_cons (am_at in_wsX7_walk_0 19 rfl) (am_cons (am_at in_wsX7_walk_0 20 rfl) (am_cons (am_at in_wsX7_walk_0 21 rfl) (am_cons (am_at in_wsX7_walk_0 22 rfl) (am_cons (am_at in_wsX7_walk_0 23 rfl) (am_cons (am_at in_wsX7_walk_0 11 rfl) (am_cons (am_at in_wsX7_walk_1 0 rfl) (am_cons (am_at in_wsX7_walk_1 1 rfl) (am_cons (am_at in_wsX7_walk_1 2 rfl) (am_cons (am_at in_wsX7_walk_1 3 rfl) (am_cons (am_at in_wsX7_walk_1 4 rfl) (am_cons (am_at in_wsX7_walk_1 5 rfl) (am_cons (am_at in_wsX7_walk_1 6 rfl) (am_cons (am_at in_wsX7_walk_1 7 rfl) (am_cons (am_at in_wsX7_walk_1 8 rfl) am_nil))))))))))))))) in_wsX7_walk_4) in_wsX7_walk_5)) gw_wsX1_walks
set_option maxRecDepth 20000 in
theorem gX7_walk_X1_walks : GoodIn wsX7_walk (wsV RX7 190 RX1 yX1_walks wsX1_walks) := goodIn_app (goodIn_m (am_cons (am_at in_wsX7_walk_0 14 rfl) (am_cons (am_at in_wsX7_walk_0 15 rfl) (am_cons (am_at in_wsX7_walk_0 16 rfl) (am_cons (am_at in_wsX7_walk_0 17 rfl) am_nil)))) (by decide +kernel)) ggX7_walk_X1_walks
set_option maxRecDepth 20000 in
theorem ggX7_walk_X2_push : GoodIn wsX7_walk wsX2_push := goodIn_m (fun w hw => by
  revert w hw; unfold wsX2_push
  exact am_cons (am_at in_wsX7_walk_1 13 rfl) (am_app (am_app (am_cons (am_at in_wsX7_walk_1 14 rfl) (am_cons (am_at in_wsX7_walk_1 15 rfl) (am_cons (am_at in_wsX7_walk_1 16 rfl) (am_cons (am_at in_wsX7_walk_1 17 rfl) (am_cons (am_at in_wsX7_walk_1 18 rfl) (am_cons (am_at in_wsX7_walk_1 12 rfl) (am_cons (am_at in_wsX7_walk_1 19 rfl) (am_cons (am_at in_wsX7_walk_1 20 rfl) (am_cons (am_at in_wsX7_walk_1 21 rfl) (am_cons (am_at in_wsX7_walk_1 22 rfl) (am_cons (am_at in_wsX7_walk_0 17 rfl) (am_cons (am_at in_wsX7_walk_1 23 rfl) (am_cons (am_at in_wsX7_walk_0 19 rfl) (am_cons (am_at in_wsX7_walk_2 0 rfl) (am_cons (am_at in_wsX7_walk_2 1 rfl) (am_cons (am_at in_wsX7_walk_2 2 rfl) (am_cons (am_at in_wsX7_walk_2 3 rfl) (am_cons (am_at in_wsX7_walk_0 20 rfl) (am_cons (am_at in_wsX7_walk_2 4 rfl) am_nil))))))))))))))))))) in_wsX7_walk_6) in_wsX7_walk_4)) gw_wsX2_push
set_option maxRecDepth 20000 in
theorem gX7_walk_X2_push : GoodIn wsX7_walk (wsV RX7 182 RX2 yX2_push wsX2_push) := goodIn_app (goodIn_m (am_cons (am_at in_wsX7_walk_1 9 rfl) (am_cons (am_at in_wsX7_walk_1 10 rfl) (am_cons (am_at in_wsX7_walk_1 11 rfl) (am_cons (am_at in_wsX7_walk_1 12 rfl) am_nil)))) (by decide +kernel)) ggX7_walk_X2_push
set_option maxRecDepth 20000 in
theorem ggX7_walk_X1_walkMonth : GoodIn wsX7_walk wsX1_walkMonth := goodIn_m (fun w hw => by
  revert w hw; unfold wsX1_walkMonth
  exact am_cons (am_at in_wsX7_walk_2 8 rfl) (am_app (am_cons (am_at in_wsX7_walk_0 19 rfl) (am_cons (am_at in_wsX7_walk_2 1 rfl) (am_cons (am_at in_wsX7_walk_2 0 rfl) am_nil))) in_wsX7_walk_4)) gw_wsX1_walkMonth
set_option maxRecDepth 20000 in
theorem gX7_walk_X1_walkMonth : GoodIn wsX7_walk (wsV RX7 193 RX1 yX1_walkMonth wsX1_walkMonth) := goodIn_app (goodIn_m (am_cons (am_at in_wsX7_walk_2 5 rfl) (am_cons (am_at in_wsX7_walk_2 6 rfl) (am_cons (am_at in_wsX7_walk_2 7 rfl) (am_cons (am_at in_wsX7_walk_0 17 rfl) am_nil)))) (by decide +kernel)) ggX7_walk_X1_walkMonth
theorem dX7_walk_0 : decode cX7_walk 0 = .ok (.aload_n 0, 1) := by decide +kernel
theorem dX7_walk_1 : decode cX7_walk 1 = .ok (.getfield 72, 3) := by decide +kernel
theorem dX7_walk_4 : decode cX7_walk 4 = .ok (.iload_n 1, 1) := by decide +kernel
theorem dX7_walk_5 : decode cX7_walk 5 = .ok (.invokevirtual 143, 3) := by decide +kernel
theorem dX7_walk_8 : decode cX7_walk 8 = .ok (.ifCond .ne 6, 3) := by decide +kernel
theorem dX7_walk_11 : decode cX7_walk 11 = .ok (.ldc 147, 2) := by decide +kernel
theorem dX7_walk_13 : decode cX7_walk 13 = .ok (.ireturn, 1) := by decide +kernel
theorem dX7_walk_14 : decode cX7_walk 14 = .ok (.aload_n 0, 1) := by decide +kernel
theorem dX7_walk_15 : decode cX7_walk 15 = .ok (.getfield 19, 3) := by decide +kernel
theorem dX7_walk_18 : decode cX7_walk 18 = .ok (.getfield 139, 3) := by decide +kernel
theorem dX7_walk_21 : decode cX7_walk 21 = .ok (.ifCond .ne 21, 3) := by decide +kernel
theorem dX7_walk_24 : decode cX7_walk 24 = .ok (.aload_n 0, 1) := by decide +kernel
theorem dX7_walk_25 : decode cX7_walk 25 = .ok (.getfield 19, 3) := by decide +kernel
theorem dX7_walk_28 : decode cX7_walk 28 = .ok (.aload_n 0, 1) := by decide +kernel
theorem dX7_walk_29 : decode cX7_walk 29 = .ok (.getfield 72, 3) := by decide +kernel
theorem dX7_walk_32 : decode cX7_walk 32 = .ok (.invokevirtual 190, 3) := by decide +kernel
theorem dX7_walk_35 : decode cX7_walk 35 = .ok (.iload_n 1, 1) := by decide +kernel
theorem dX7_walk_36 : decode cX7_walk 36 = .ok (.ishr, 1) := by decide +kernel
theorem dX7_walk_37 : decode cX7_walk 37 = .ok (.iconst 1, 1) := by decide +kernel
theorem dX7_walk_38 : decode cX7_walk 38 = .ok (.iand, 1) := by decide +kernel
theorem dX7_walk_39 : decode cX7_walk 39 = .ok (.ifCond .ne 6, 3) := by decide +kernel
theorem dX7_walk_42 : decode cX7_walk 42 = .ok (.ldc 181, 2) := by decide +kernel
theorem dX7_walk_44 : decode cX7_walk 44 = .ok (.ireturn, 1) := by decide +kernel
theorem dX7_walk_45 : decode cX7_walk 45 = .ok (.aload_n 0, 1) := by decide +kernel
theorem dX7_walk_46 : decode cX7_walk 46 = .ok (.getfield 19, 3) := by decide +kernel
theorem dX7_walk_49 : decode cX7_walk 49 = .ok (.getfield 121, 3) := by decide +kernel
theorem dX7_walk_52 : decode cX7_walk 52 = .ok (.sipush 9000, 3) := by decide +kernel
theorem dX7_walk_55 : decode cX7_walk 55 = .ok (.if_icmp .le 6, 3) := by decide +kernel
theorem dX7_walk_58 : decode cX7_walk 58 = .ok (.ldc 84, 2) := by decide +kernel
theorem dX7_walk_60 : decode cX7_walk 60 = .ok (.ireturn, 1) := by decide +kernel
theorem dX7_walk_61 : decode cX7_walk 61 = .ok (.aload_n 0, 1) := by decide +kernel
theorem dX7_walk_62 : decode cX7_walk 62 = .ok (.getfield 26, 3) := by decide +kernel
theorem dX7_walk_65 : decode cX7_walk 65 = .ok (.aload_n 0, 1) := by decide +kernel
theorem dX7_walk_66 : decode cX7_walk 66 = .ok (.getfield 19, 3) := by decide +kernel
theorem dX7_walk_69 : decode cX7_walk 69 = .ok (.invokevirtual 182, 3) := by decide +kernel
theorem dX7_walk_72 : decode cX7_walk 72 = .ok (.aload_n 0, 1) := by decide +kernel
theorem dX7_walk_73 : decode cX7_walk 73 = .ok (.getfield 19, 3) := by decide +kernel
theorem dX7_walk_76 : decode cX7_walk 76 = .ok (.iload_n 1, 1) := by decide +kernel
theorem dX7_walk_77 : decode cX7_walk 77 = .ok (.invokevirtual 193, 3) := by decide +kernel
theorem dX7_walk_80 : decode cX7_walk 80 = .ok (.aload_n 0, 1) := by decide +kernel
theorem dX7_walk_81 : decode cX7_walk 81 = .ok (.getfield 19, 3) := by decide +kernel
theorem dX7_walk_84 : decode cX7_walk 84 = .ok (.getfield 121, 3) := by decide +kernel
theorem dX7_walk_87 : decode cX7_walk 87 = .ok (.ireturn, 1) := by decide +kernel
set_option maxRecDepth 20000 in
theorem ggX7_war_X0_hasRoad : GoodIn wsX7_war wsX0_hasRoad := goodIn_m (fun w hw => by
  revert w hw; unfold wsX0_hasRoad
  exact am_cons (am_at in_wsX7_war_0 9 rfl) (am_app (am_cons (am_at in_wsX7_war_0 10 rfl) am_nil) in_wsX7_war_4)) gw_wsX0_hasRoad
set_option maxRecDepth 20000 in
theorem gX7_war_X0_hasRoad : GoodIn wsX7_war (wsV RX7 164 RX0 yX0_hasRoad wsX0_hasRoad) := goodIn_app (goodIn_m (am_cons (am_at in_wsX7_war_0 5 rfl) (am_cons (am_at in_wsX7_war_0 6 rfl) (am_cons (am_at in_wsX7_war_0 7 rfl) (am_cons (am_at in_wsX7_war_0 8 rfl) am_nil)))) (by decide +kernel)) ggX7_war_X0_hasRoad
set_option maxRecDepth 20000 in
theorem ggX7_war_X2_push : GoodIn wsX7_war wsX2_push := goodIn_m (fun w hw => by
  revert w hw; unfold wsX2_push
  exact am_cons (am_at in_wsX7_war_0 15 rfl) (am_app (am_app (am_cons (am_at in_wsX7_war_0 16 rfl) (am_cons (am_at in_wsX7_war_0 17 rfl) (am_cons (am_at in_wsX7_war_0 18 rfl) (am_cons (am_at in_wsX7_war_0 19 rfl) (am_cons (am_at in_wsX7_war_0 20 rfl) (am_cons (am_at in_wsX7_war_0 14 rfl) (am_cons (am_at in_wsX7_war_0 21 rfl) (am_cons (am_at in_wsX7_war_0 22 rfl) (am_cons (am_at in_wsX7_war_0 23 rfl) (am_cons (am_at in_wsX7_war_1 0 rfl) (am_cons (am_at in_wsX7_war_1 1 rfl) (am_cons (am_at in_wsX7_war_1 2 rfl) (am_cons (am_at in_wsX7_war_1 3 rfl) (am_cons (am_at in_wsX7_war_1 4 rfl) (am_cons (am_at in_wsX7_war_1 5 rfl) (am_cons (am_at in_wsX7_war_1 6 rfl) (am_cons (am_at in_wsX7_war_1 7 rfl) (am_cons (am_at in_wsX7_war_1 8 rfl) (am_cons (am_at in_wsX7_war_1 9 rfl) am_nil))))))))))))))))))) in_wsX7_war_5) in_wsX7_war_3)) gw_wsX2_push
set_option maxRecDepth 20000 in
theorem gX7_war_X2_push : GoodIn wsX7_war (wsV RX7 182 RX2 yX2_push wsX2_push) := goodIn_app (goodIn_m (am_cons (am_at in_wsX7_war_0 11 rfl) (am_cons (am_at in_wsX7_war_0 12 rfl) (am_cons (am_at in_wsX7_war_0 13 rfl) (am_cons (am_at in_wsX7_war_0 14 rfl) am_nil)))) (by decide +kernel)) ggX7_war_X2_push
theorem dX7_war_0 : decode cX7_war 0 = .ok (.aload_n 0, 1) := by decide +kernel
theorem dX7_war_1 : decode cX7_war 1 = .ok (.getfield 72, 3) := by decide +kernel
theorem dX7_war_4 : decode cX7_war 4 = .ok (.iload_n 1, 1) := by decide +kernel
theorem dX7_war_5 : decode cX7_war 5 = .ok (.invokevirtual 164, 3) := by decide +kernel
theorem dX7_war_8 : decode cX7_war 8 = .ok (.ifCond .ne 6, 3) := by decide +kernel
theorem dX7_war_11 : decode cX7_war 11 = .ok (.ldc 147, 2) := by decide +kernel
theorem dX7_war_13 : decode cX7_war 13 = .ok (.ireturn, 1) := by decide +kernel
theorem dX7_war_14 : decode cX7_war 14 = .ok (.aload_n 0, 1) := by decide +kernel
theorem dX7_war_15 : decode cX7_war 15 = .ok (.getfield 19, 3) := by decide +kernel
theorem dX7_war_18 : decode cX7_war 18 = .ok (.getfield 136, 3) := by decide +kernel
theorem dX7_war_21 : decode cX7_war 21 = .ok (.iload_n 1, 1) := by decide +kernel
theorem dX7_war_22 : decode cX7_war 22 = .ok (.ishr, 1) := by decide +kernel
theorem dX7_war_23 : decode cX7_war 23 = .ok (.iconst 1, 1) := by decide +kernel
theorem dX7_war_24 : decode cX7_war 24 = .ok (.iand, 1) := by decide +kernel
theorem dX7_war_25 : decode cX7_war 25 = .ok (.istore_n 3, 1) := by decide +kernel
theorem dX7_war_26 : decode cX7_war 26 = .ok (.aload_n 0, 1) := by decide +kernel
theorem dX7_war_27 : decode cX7_war 27 = .ok (.getfield 26, 3) := by decide +kernel
theorem dX7_war_30 : decode cX7_war 30 = .ok (.aload_n 0, 1) := by decide +kernel
theorem dX7_war_31 : decode cX7_war 31 = .ok (.getfield 19, 3) := by decide +kernel
theorem dX7_war_34 : decode cX7_war 34 = .ok (.invokevirtual 182, 3) := by decide +kernel
theorem dX7_war_37 : decode cX7_war 37 = .ok (.aload_n 0, 1) := by decide +kernel
theorem dX7_war_38 : decode cX7_war 38 = .ok (.getfield 19, 3) := by decide +kernel
theorem dX7_war_41 : decode cX7_war 41 = .ok (.iload_n 2, 1) := by decide +kernel
theorem dX7_war_42 : decode cX7_war 42 = .ok (.ifCond .eq 17, 3) := by decide +kernel
theorem dX7_war_45 : decode cX7_war 45 = .ok (.aload_n 0, 1) := by decide +kernel
theorem dX7_war_46 : decode cX7_war 46 = .ok (.getfield 19, 3) := by decide +kernel
theorem dX7_war_49 : decode cX7_war 49 = .ok (.getfield 136, 3) := by decide +kernel
theorem dX7_war_52 : decode cX7_war 52 = .ok (.iconst 1, 1) := by decide +kernel
theorem dX7_war_53 : decode cX7_war 53 = .ok (.iload_n 1, 1) := by decide +kernel
theorem dX7_war_54 : decode cX7_war 54 = .ok (.ishl, 1) := by decide +kernel
theorem dX7_war_55 : decode cX7_war 55 = .ok (.ior, 1) := by decide +kernel
theorem dX7_war_56 : decode cX7_war 56 = .ok (.goto 16, 3) := by decide +kernel
theorem dX7_war_59 : decode cX7_war 59 = .ok (.aload_n 0, 1) := by decide +kernel
theorem dX7_war_60 : decode cX7_war 60 = .ok (.getfield 19, 3) := by decide +kernel
theorem dX7_war_63 : decode cX7_war 63 = .ok (.getfield 136, 3) := by decide +kernel
theorem dX7_war_66 : decode cX7_war 66 = .ok (.iconst 1, 1) := by decide +kernel
theorem dX7_war_67 : decode cX7_war 67 = .ok (.iload_n 1, 1) := by decide +kernel
theorem dX7_war_68 : decode cX7_war 68 = .ok (.ishl, 1) := by decide +kernel
theorem dX7_war_69 : decode cX7_war 69 = .ok (.iconst (-1), 1) := by decide +kernel
theorem dX7_war_70 : decode cX7_war 70 = .ok (.ixor, 1) := by decide +kernel
theorem dX7_war_71 : decode cX7_war 71 = .ok (.iand, 1) := by decide +kernel
theorem dX7_war_72 : decode cX7_war 72 = .ok (.putfield 136, 3) := by decide +kernel
theorem dX7_war_75 : decode cX7_war 75 = .ok (.iload_n 3, 1) := by decide +kernel
theorem dX7_war_76 : decode cX7_war 76 = .ok (.ireturn, 1) := by decide +kernel
set_option maxRecDepth 20000 in
theorem ggX7_home_X7_cannotGoOn : GoodIn wsX7_home wsX7_cannotGoOn := goodIn_m (fun w hw => by
  revert w hw; unfold wsX7_cannotGoOn
  exact am_cons (am_at in_wsX7_home_0 10 rfl) (am_app (am_app (am_app (am_cons (am_at in_wsX7_home_0 11 rfl) (am_cons (am_at in_wsX7_home_0 12 rfl) (am_cons (am_at in_wsX7_home_0 0 rfl) (am_cons (am_at in_wsX7_home_0 4 rfl) am_nil)))) in_wsX7_home_2) in_wsX7_home_4) in_wsX7_home_3)) gw_wsX7_cannotGoOn
set_option maxRecDepth 20000 in
theorem gX7_home_X7_cannotGoOn : GoodIn wsX7_home (wsV RX7 173 RX7 yX7_cannotGoOn wsX7_cannotGoOn) := goodIn_app (goodIn_m (am_cons (am_at in_wsX7_home_0 6 rfl) (am_cons (am_at in_wsX7_home_0 7 rfl) (am_cons (am_at in_wsX7_home_0 8 rfl) (am_cons (am_at in_wsX7_home_0 9 rfl) am_nil)))) (by decide +kernel)) ggX7_home_X7_cannotGoOn
set_option maxRecDepth 20000 in
theorem ggX7_home_X2_push : GoodIn wsX7_home wsX2_push := goodIn_m (fun w hw => by
  revert w hw; unfold wsX2_push
  exact am_cons (am_at in_wsX7_home_0 17 rfl) (am_app (am_app (am_cons (am_at in_wsX7_home_0 18 rfl) (am_cons (am_at in_wsX7_home_0 19 rfl) (am_cons (am_at in_wsX7_home_0 20 rfl) (am_cons (am_at in_wsX7_home_0 21 rfl) (am_cons (am_at in_wsX7_home_0 22 rfl) (am_cons (am_at in_wsX7_home_0 16 rfl) (am_cons (am_at in_wsX7_home_0 23 rfl) (am_cons (am_at in_wsX7_home_1 0 rfl) (am_cons (am_at in_wsX7_home_1 1 rfl) (am_cons (am_at in_wsX7_home_1 2 rfl) (am_cons (am_at in_wsX7_home_1 3 rfl) (am_cons (am_at in_wsX7_home_1 4 rfl) (am_cons (am_at in_wsX7_home_1 5 rfl) (am_cons (am_at in_wsX7_home_1 6 rfl) (am_cons (am_at in_wsX7_home_1 7 rfl) (am_cons (am_at in_wsX7_home_1 8 rfl) (am_cons (am_at in_wsX7_home_1 9 rfl) (am_cons (am_at in_wsX7_home_1 10 rfl) (am_cons (am_at in_wsX7_home_1 11 rfl) am_nil))))))))))))))))))) in_wsX7_home_5) in_wsX7_home_3)) gw_wsX2_push
set_option maxRecDepth 20000 in
theorem gX7_home_X2_push : GoodIn wsX7_home (wsV RX7 182 RX2 yX2_push wsX2_push) := goodIn_app (goodIn_m (am_cons (am_at in_wsX7_home_0 13 rfl) (am_cons (am_at in_wsX7_home_0 14 rfl) (am_cons (am_at in_wsX7_home_0 15 rfl) (am_cons (am_at in_wsX7_home_0 16 rfl) am_nil)))) (by decide +kernel)) ggX7_home_X2_push
theorem dX7_home_0 : decode cX7_home 0 = .ok (.aload_n 0, 1) := by decide +kernel
theorem dX7_home_1 : decode cX7_home 1 = .ok (.invokevirtual 173, 3) := by decide +kernel
theorem dX7_home_4 : decode cX7_home 4 = .ok (.ifCond .ne 15, 3) := by decide +kernel
theorem dX7_home_7 : decode cX7_home 7 = .ok (.aload_n 0, 1) := by decide +kernel
theorem dX7_home_8 : decode cX7_home 8 = .ok (.getfield 19, 3) := by decide +kernel
theorem dX7_home_11 : decode cX7_home 11 = .ok (.getfield 121, 3) := by decide +kernel
theorem dX7_home_14 : decode cX7_home 14 = .ok (.bipush 36, 2) := by decide +kernel
theorem dX7_home_16 : decode cX7_home 16 = .ok (.if_icmp .ge 6, 3) := by decide +kernel
theorem dX7_home_19 : decode cX7_home 19 = .ok (.ldc 181, 2) := by decide +kernel
theorem dX7_home_21 : decode cX7_home 21 = .ok (.ireturn, 1) := by decide +kernel
theorem dX7_home_22 : decode cX7_home 22 = .ok (.aload_n 0, 1) := by decide +kernel
theorem dX7_home_23 : decode cX7_home 23 = .ok (.getfield 26, 3) := by decide +kernel
theorem dX7_home_26 : decode cX7_home 26 = .ok (.aload_n 0, 1) := by decide +kernel
theorem dX7_home_27 : decode cX7_home 27 = .ok (.getfield 19, 3) := by decide +kernel
theorem dX7_home_30 : decode cX7_home 30 = .ok (.invokevirtual 182, 3) := by decide +kernel
theorem dX7_home_33 : decode cX7_home 33 = .ok (.aload_n 0, 1) := by decide +kernel
theorem dX7_home_34 : decode cX7_home 34 = .ok (.getfield 19, 3) := by decide +kernel
theorem dX7_home_37 : decode cX7_home 37 = .ok (.iconst 1, 1) := by decide +kernel
theorem dX7_home_38 : decode cX7_home 38 = .ok (.putfield 139, 3) := by decide +kernel
theorem dX7_home_41 : decode cX7_home 41 = .ok (.aload_n 0, 1) := by decide +kernel
theorem dX7_home_42 : decode cX7_home 42 = .ok (.getfield 19, 3) := by decide +kernel
theorem dX7_home_45 : decode cX7_home 45 = .ok (.getfield 130, 3) := by decide +kernel
theorem dX7_home_48 : decode cX7_home 48 = .ok (.ireturn, 1) := by decide +kernel
set_option maxRecDepth 20000 in
theorem ggX7_drift_X7_cannotGoOn : GoodIn wsX7_drift wsX7_cannotGoOn := goodIn_m (fun w hw => by
  revert w hw; unfold wsX7_cannotGoOn
  exact am_cons (am_at in_wsX7_drift_0 11 rfl) (am_app (am_app (am_app (am_cons (am_at in_wsX7_drift_0 12 rfl) (am_cons (am_at in_wsX7_drift_0 13 rfl) (am_cons (am_at in_wsX7_drift_0 2 rfl) (am_cons (am_at in_wsX7_drift_0 14 rfl) am_nil)))) in_wsX7_drift_5) in_wsX7_drift_7) in_wsX7_drift_6)) gw_wsX7_cannotGoOn
set_option maxRecDepth 20000 in
theorem gX7_drift_X7_cannotGoOn : GoodIn wsX7_drift (wsV RX7 173 RX7 yX7_cannotGoOn wsX7_cannotGoOn) := goodIn_app (goodIn_m (am_cons (am_at in_wsX7_drift_0 7 rfl) (am_cons (am_at in_wsX7_drift_0 8 rfl) (am_cons (am_at in_wsX7_drift_0 9 rfl) (am_cons (am_at in_wsX7_drift_0 10 rfl) am_nil)))) (by decide +kernel)) ggX7_drift_X7_cannotGoOn
set_option maxRecDepth 20000 in
theorem ggX7_drift_X2_push : GoodIn wsX7_drift wsX2_push := goodIn_m (fun w hw => by
  revert w hw; unfold wsX2_push
  exact am_cons (am_at in_wsX7_drift_0 19 rfl) (am_app (am_app (am_cons (am_at in_wsX7_drift_0 20 rfl) (am_cons (am_at in_wsX7_drift_0 21 rfl) (am_cons (am_at in_wsX7_drift_0 22 rfl) (am_cons (am_at in_wsX7_drift_0 23 rfl) (am_cons (am_at in_wsX7_drift_1 0 rfl) (am_cons (am_at in_wsX7_drift_0 18 rfl) (am_cons (am_at in_wsX7_drift_1 1 rfl) (am_cons (am_at in_wsX7_drift_1 2 rfl) (am_cons (am_at in_wsX7_drift_1 3 rfl) (am_cons (am_at in_wsX7_drift_1 4 rfl) (am_cons (am_at in_wsX7_drift_1 5 rfl) (am_cons (am_at in_wsX7_drift_1 6 rfl) (am_cons (am_at in_wsX7_drift_1 7 rfl) (am_cons (am_at in_wsX7_drift_1 8 rfl) (am_cons (am_at in_wsX7_drift_1 9 rfl) (am_cons (am_at in_wsX7_drift_1 10 rfl) (am_cons (am_at in_wsX7_drift_1 11 rfl) (am_cons (am_at in_wsX7_drift_1 12 rfl) (am_cons (am_at in_wsX7_drift_1 13 rfl) am_nil))))))))))))))))))) in_wsX7_drift_8) in_wsX7_drift_6)) gw_wsX2_push
set_option maxRecDepth 20000 in
theorem gX7_drift_X2_push : GoodIn wsX7_drift (wsV RX7 182 RX2 yX2_push wsX2_push) := goodIn_app (goodIn_m (am_cons (am_at in_wsX7_drift_0 15 rfl) (am_cons (am_at in_wsX7_drift_0 16 rfl) (am_cons (am_at in_wsX7_drift_0 17 rfl) (am_cons (am_at in_wsX7_drift_0 18 rfl) am_nil)))) (by decide +kernel)) ggX7_drift_X2_push
set_option maxRecDepth 20000 in
theorem ggX7_drift_X7_driftMonth : GoodIn wsX7_drift wsX7_driftMonth := goodIn_m (fun w hw => by
  revert w hw; unfold wsX7_driftMonth wsX7_driftMonth_r1 wsX7_driftMonth_r2 wsX7_driftMonth_r3
  exact am_cons (am_at in_wsX7_drift_1 17 rfl) (am_app (am_app (am_app (am_app (am_cons (am_at in_wsX7_drift_0 12 rfl) (am_cons (am_at in_wsX7_drift_1 18 rfl) (am_cons (am_at in_wsX7_drift_0 2 rfl) (am_cons (am_at in_wsX7_drift_1 19 rfl) (am_cons (am_at in_wsX7_drift_0 13 rfl) (am_cons (am_at in_wsX7_drift_1 20 rfl) (am_cons (am_at in_wsX7_drift_1 21 rfl) (am_cons (am_at in_wsX7_drift_1 22 rfl) (am_cons (am_at in_wsX7_drift_0 10 rfl) (am_cons (am_at in_wsX7_drift_1 23 rfl) (am_cons (am_at in_wsX7_drift_2 0 rfl) (am_cons (am_at in_wsX7_drift_2 1 rfl) (am_cons (am_at in_wsX7_drift_2 2 rfl) (am_cons (am_at in_wsX7_drift_2 3 rfl) (am_cons (am_at in_wsX7_drift_2 4 rfl) (am_cons (am_at in_wsX7_drift_2 5 rfl) (am_cons (am_at in_wsX7_drift_2 6 rfl) (am_cons (am_at in_wsX7_drift_2 7 rfl) (am_cons (am_at in_wsX7_drift_1 5 rfl) (am_cons (am_at in_wsX7_drift_2 8 rfl) (am_cons (am_at in_wsX7_drift_1 9 rfl) (am_cons (am_at in_wsX7_drift_2 9 rfl) (am_cons (am_at in_wsX7_drift_2 10 rfl) (am_cons (am_at in_wsX7_drift_2 11 rfl) am_nil)))))))))))))))))))))))) (am_app (am_cons (am_at in_wsX7_drift_2 12 rfl) (am_cons (am_at in_wsX7_drift_2 13 rfl) (am_cons (am_at in_wsX7_drift_1 7 rfl) (am_cons (am_at in_wsX7_drift_1 8 rfl) (am_cons (am_at in_wsX7_drift_1 11 rfl) (am_cons (am_at in_wsX7_drift_1 10 rfl) (am_cons (am_at in_wsX7_drift_2 14 rfl) (am_cons (am_at in_wsX7_drift_2 15 rfl) (am_cons (am_at in_wsX7_drift_2 16 rfl) (am_cons (am_at in_wsX7_drift_2 17 rfl) (am_cons (am_at in_wsX7_drift_2 18 rfl) (am_cons (am_at in_wsX7_drift_2 19 rfl) (am_cons (am_at in_wsX7_drift_2 20 rfl) (am_cons (am_at in_wsX7_drift_2 21 rfl) (am_cons (am_at in_wsX7_drift_2 22 rfl) (am_cons (am_at in_wsX7_drift_2 23 rfl) (am_cons (am_at in_wsX7_drift_3 0 rfl) (am_cons (am_at in_wsX7_drift_3 1 rfl) (am_cons (am_at in_wsX7_drift_3 2 rfl) (am_cons (am_at in_wsX7_drift_3 3 rfl) (am_cons (am_at in_wsX7_drift_3 4 rfl) (am_cons (am_at in_wsX7_drift_3 5 rfl) (am_cons (am_at in_wsX7_drift_3 6 rfl) (am_cons (am_at in_wsX7_drift_3 7 rfl) am_nil)))))))))))))))))))))))) (am_cons (am_at in_wsX7_drift_3 8 rfl) (am_cons (am_at in_wsX7_drift_3 9 rfl) (am_cons (am_at in_wsX7_drift_3 10 rfl) (am_cons (am_at in_wsX7_drift_3 11 rfl) (am_cons (am_at in_wsX7_drift_1 12 rfl) (am_cons (am_at in_wsX7_drift_3 12 rfl) (am_cons (am_at in_wsX7_drift_3 13 rfl) (am_cons (am_at in_wsX7_drift_3 14 rfl) (am_cons (am_at in_wsX7_drift_3 15 rfl) (am_cons (am_at in_wsX7_drift_3 16 rfl) (am_cons (am_at in_wsX7_drift_3 17 rfl) (am_cons (am_at in_wsX7_drift_3 18 rfl) (am_cons (am_at in_wsX7_drift_3 19 rfl) (am_cons (am_at in_wsX7_drift_3 20 rfl) (am_cons (am_at in_wsX7_drift_3 21 rfl) (am_cons (am_at in_wsX7_drift_3 22 rfl) (am_cons (am_at in_wsX7_drift_3 23 rfl) (am_cons (am_at in_wsX7_drift_4 0 rfl) (am_cons (am_at in_wsX7_drift_4 1 rfl) (am_cons (am_at in_wsX7_drift_4 2 rfl) (am_cons (am_at in_wsX7_drift_4 3 rfl) am_nil))))))))))))))))))))))) in_wsX7_drift_5) in_wsX7_drift_7) in_wsX7_drift_6)) gw_wsX7_driftMonth
set_option maxRecDepth 20000 in
theorem gX7_drift_X7_driftMonth : GoodIn wsX7_drift (wsV RX7 197 RX7 yX7_driftMonth wsX7_driftMonth) := goodIn_app (goodIn_m (am_cons (am_at in_wsX7_drift_1 14 rfl) (am_cons (am_at in_wsX7_drift_1 15 rfl) (am_cons (am_at in_wsX7_drift_1 16 rfl) (am_cons (am_at in_wsX7_drift_0 10 rfl) am_nil)))) (by decide +kernel)) ggX7_drift_X7_driftMonth
theorem dX7_drift_0 : decode cX7_drift 0 = .ok (.iload_n 1, 1) := by decide +kernel
theorem dX7_drift_1 : decode cX7_drift 1 = .ok (.iconst 1, 1) := by decide +kernel
theorem dX7_drift_2 : decode cX7_drift 2 = .ok (.if_icmp .lt 9, 3) := by decide +kernel
theorem dX7_drift_5 : decode cX7_drift 5 = .ok (.iload_n 1, 1) := by decide +kernel
theorem dX7_drift_6 : decode cX7_drift 6 = .ok (.bipush 40, 2) := by decide +kernel
theorem dX7_drift_8 : decode cX7_drift 8 = .ok (.if_icmp .le 6, 3) := by decide +kernel
theorem dX7_drift_11 : decode cX7_drift 11 = .ok (.ldc 79, 2) := by decide +kernel
theorem dX7_drift_13 : decode cX7_drift 13 = .ok (.ireturn, 1) := by decide +kernel
theorem dX7_drift_14 : decode cX7_drift 14 = .ok (.aload_n 0, 1) := by decide +kernel
theorem dX7_drift_15 : decode cX7_drift 15 = .ok (.invokevirtual 173, 3) := by decide +kernel
theorem dX7_drift_18 : decode cX7_drift 18 = .ok (.ifCond .eq 6, 3) := by decide +kernel
theorem dX7_drift_21 : decode cX7_drift 21 = .ok (.ldc 181, 2) := by decide +kernel
theorem dX7_drift_23 : decode cX7_drift 23 = .ok (.ireturn, 1) := by decide +kernel
theorem dX7_drift_24 : decode cX7_drift 24 = .ok (.aload_n 0, 1) := by decide +kernel
theorem dX7_drift_25 : decode cX7_drift 25 = .ok (.getfield 19, 3) := by decide +kernel
theorem dX7_drift_28 : decode cX7_drift 28 = .ok (.getfield 121, 3) := by decide +kernel
theorem dX7_drift_31 : decode cX7_drift 31 = .ok (.sipush 9000, 3) := by decide +kernel
theorem dX7_drift_34 : decode cX7_drift 34 = .ok (.if_icmp .le 6, 3) := by decide +kernel
theorem dX7_drift_37 : decode cX7_drift 37 = .ok (.ldc 84, 2) := by decide +kernel
theorem dX7_drift_39 : decode cX7_drift 39 = .ok (.ireturn, 1) := by decide +kernel
theorem dX7_drift_40 : decode cX7_drift 40 = .ok (.aload_n 0, 1) := by decide +kernel
theorem dX7_drift_41 : decode cX7_drift 41 = .ok (.getfield 26, 3) := by decide +kernel
theorem dX7_drift_44 : decode cX7_drift 44 = .ok (.aload_n 0, 1) := by decide +kernel
theorem dX7_drift_45 : decode cX7_drift 45 = .ok (.getfield 19, 3) := by decide +kernel
theorem dX7_drift_48 : decode cX7_drift 48 = .ok (.invokevirtual 182, 3) := by decide +kernel
theorem dX7_drift_51 : decode cX7_drift 51 = .ok (.iconst 0, 1) := by decide +kernel
theorem dX7_drift_52 : decode cX7_drift 52 = .ok (.istore_n 2, 1) := by decide +kernel
theorem dX7_drift_53 : decode cX7_drift 53 = .ok (.iload_n 2, 1) := by decide +kernel
theorem dX7_drift_54 : decode cX7_drift 54 = .ok (.iload_n 1, 1) := by decide +kernel
theorem dX7_drift_55 : decode cX7_drift 55 = .ok (.if_icmp .ge 13, 3) := by decide +kernel
theorem dX7_drift_58 : decode cX7_drift 58 = .ok (.aload_n 0, 1) := by decide +kernel
theorem dX7_drift_59 : decode cX7_drift 59 = .ok (.invokevirtual 197, 3) := by decide +kernel
theorem dX7_drift_62 : decode cX7_drift 62 = .ok (.iinc 2 1, 3) := by decide +kernel
theorem dX7_drift_65 : decode cX7_drift 65 = .ok (.goto (-12), 3) := by decide +kernel
theorem dX7_drift_68 : decode cX7_drift 68 = .ok (.aload_n 0, 1) := by decide +kernel
theorem dX7_drift_69 : decode cX7_drift 69 = .ok (.getfield 19, 3) := by decide +kernel
theorem dX7_drift_72 : decode cX7_drift 72 = .ok (.getfield 130, 3) := by decide +kernel
theorem dX7_drift_75 : decode cX7_drift 75 = .ok (.ireturn, 1) := by decide +kernel
set_option maxRecDepth 20000 in
theorem ggX7_undo_X2_pop : GoodIn wsX7_undo wsX2_pop := goodIn_m (fun w hw => by
  revert w hw; unfold wsX2_pop
  exact am_cons (am_at in_wsX7_undo_0 8 rfl) (am_app (am_app (am_cons (am_at in_wsX7_undo_0 9 rfl) (am_cons (am_at in_wsX7_undo_0 10 rfl) (am_cons (am_at in_wsX7_undo_0 11 rfl) (am_cons (am_at in_wsX7_undo_0 12 rfl) (am_cons (am_at in_wsX7_undo_0 13 rfl) (am_cons (am_at in_wsX7_undo_0 14 rfl) (am_cons (am_at in_wsX7_undo_0 15 rfl) (am_cons (am_at in_wsX7_undo_0 16 rfl) (am_cons (am_at in_wsX7_undo_0 17 rfl) (am_cons (am_at in_wsX7_undo_0 18 rfl) (am_cons (am_at in_wsX7_undo_0 19 rfl) (am_cons (am_at in_wsX7_undo_0 20 rfl) (am_cons (am_at in_wsX7_undo_0 21 rfl) (am_cons (am_at in_wsX7_undo_0 22 rfl) am_nil)))))))))))))) in_wsX7_undo_2) in_wsX7_undo_3)) gw_wsX2_pop
set_option maxRecDepth 20000 in
theorem gX7_undo_X2_pop : GoodIn wsX7_undo (wsV RX7 200 RX2 yX2_pop wsX2_pop) := goodIn_app (goodIn_m (am_cons (am_at in_wsX7_undo_0 4 rfl) (am_cons (am_at in_wsX7_undo_0 5 rfl) (am_cons (am_at in_wsX7_undo_0 6 rfl) (am_cons (am_at in_wsX7_undo_0 7 rfl) am_nil)))) (by decide +kernel)) ggX7_undo_X2_pop
theorem dX7_undo_0 : decode cX7_undo 0 = .ok (.aload_n 0, 1) := by decide +kernel
theorem dX7_undo_1 : decode cX7_undo 1 = .ok (.getfield 26, 3) := by decide +kernel
theorem dX7_undo_4 : decode cX7_undo 4 = .ok (.getfield 99, 3) := by decide +kernel
theorem dX7_undo_7 : decode cX7_undo 7 = .ok (.ifCond .ne 6, 3) := by decide +kernel
theorem dX7_undo_10 : decode cX7_undo 10 = .ok (.ldc 181, 2) := by decide +kernel
theorem dX7_undo_12 : decode cX7_undo 12 = .ok (.ireturn, 1) := by decide +kernel
theorem dX7_undo_13 : decode cX7_undo 13 = .ok (.aload_n 0, 1) := by decide +kernel
theorem dX7_undo_14 : decode cX7_undo 14 = .ok (.getfield 26, 3) := by decide +kernel
theorem dX7_undo_17 : decode cX7_undo 17 = .ok (.aload_n 0, 1) := by decide +kernel
theorem dX7_undo_18 : decode cX7_undo 18 = .ok (.getfield 19, 3) := by decide +kernel
theorem dX7_undo_21 : decode cX7_undo 21 = .ok (.invokevirtual 200, 3) := by decide +kernel
theorem dX7_undo_24 : decode cX7_undo 24 = .ok (.aload_n 0, 1) := by decide +kernel
theorem dX7_undo_25 : decode cX7_undo 25 = .ok (.getfield 26, 3) := by decide +kernel
theorem dX7_undo_28 : decode cX7_undo 28 = .ok (.getfield 99, 3) := by decide +kernel
theorem dX7_undo_31 : decode cX7_undo 31 = .ok (.ireturn, 1) := by decide +kernel
set_option maxRecDepth 20000 in
theorem ggX7_may_X7_cannotGoOn : GoodIn wsX7_may wsX7_cannotGoOn := goodIn_m (fun w hw => by
  revert w hw; unfold wsX7_cannotGoOn
  exact am_cons (am_at in_wsX7_may_0 8 rfl) (am_app (am_app (am_app (am_cons (am_at in_wsX7_may_0 3 rfl) (am_cons (am_at in_wsX7_may_0 9 rfl) (am_cons (am_at in_wsX7_may_0 2 rfl) (am_cons (am_at in_wsX7_may_0 10 rfl) am_nil)))) in_wsX7_may_2) in_wsX7_may_3) in_wsX7_may_4)) gw_wsX7_cannotGoOn
set_option maxRecDepth 20000 in
theorem gX7_may_X7_cannotGoOn : GoodIn wsX7_may (wsV RX7 173 RX7 yX7_cannotGoOn wsX7_cannotGoOn) := goodIn_app (goodIn_m (am_cons (am_at in_wsX7_may_0 4 rfl) (am_cons (am_at in_wsX7_may_0 5 rfl) (am_cons (am_at in_wsX7_may_0 6 rfl) (am_cons (am_at in_wsX7_may_0 7 rfl) am_nil)))) (by decide +kernel)) ggX7_may_X7_cannotGoOn
set_option maxRecDepth 20000 in
theorem ggX7_may_X1_walks : GoodIn wsX7_may wsX1_walks := goodIn_m (fun w hw => by
  revert w hw; unfold wsX1_walks
  exact am_cons (am_at in_wsX7_may_0 15 rfl) (am_app (am_app (am_cons (am_at in_wsX7_may_0 16 rfl) (am_cons (am_at in_wsX7_may_0 17 rfl) (am_cons (am_at in_wsX7_may_0 18 rfl) (am_cons (am_at in_wsX7_may_0 19 rfl) (am_cons (am_at in_wsX7_may_0 20 rfl) (am_cons (am_at in_wsX7_may_0 21 rfl) (am_cons (am_at in_wsX7_may_0 22 rfl) (am_cons (am_at in_wsX7_may_0 23 rfl) (am_cons (am_at in_wsX7_may_1 0 rfl) (am_cons (am_at in_wsX7_may_1 1 rfl) (am_cons (am_at in_wsX7_may_1 2 rfl) (am_cons (am_at in_wsX7_may_1 3 rfl) (am_cons (am_at in_wsX7_may_1 4 rfl) (am_cons (am_at in_wsX7_may_1 5 rfl) (am_cons (am_at in_wsX7_may_1 6 rfl) am_nil))))))))))))))) in_wsX7_may_4) in_wsX7_may_3)) gw_wsX1_walks
set_option maxRecDepth 20000 in
theorem gX7_may_X1_walks : GoodIn wsX7_may (wsV RX7 190 RX1 yX1_walks wsX1_walks) := goodIn_app (goodIn_m (am_cons (am_at in_wsX7_may_0 11 rfl) (am_cons (am_at in_wsX7_may_0 12 rfl) (am_cons (am_at in_wsX7_may_0 13 rfl) (am_cons (am_at in_wsX7_may_0 14 rfl) am_nil)))) (by decide +kernel)) ggX7_may_X1_walks
set_option maxRecDepth 20000 in
theorem ggX7_may_X1_mayStay : GoodIn wsX7_may wsX1_mayStay := goodIn_m (fun w hw => by
  revert w hw; unfold wsX1_mayStay
  exact am_cons (am_at in_wsX7_may_1 10 rfl) (am_app (am_app (am_cons (am_at in_wsX7_may_1 11 rfl) (am_cons (am_at in_wsX7_may_1 12 rfl) am_nil)) in_wsX7_may_4) in_wsX7_may_3)) gw_wsX1_mayStay
set_option maxRecDepth 20000 in
theorem gX7_may_X1_mayStay : GoodIn wsX7_may (wsV RX7 177 RX1 yX1_mayStay wsX1_mayStay) := goodIn_app (goodIn_m (am_cons (am_at in_wsX7_may_1 7 rfl) (am_cons (am_at in_wsX7_may_1 8 rfl) (am_cons (am_at in_wsX7_may_1 9 rfl) (am_cons (am_at in_wsX7_may_0 14 rfl) am_nil)))) (by decide +kernel)) ggX7_may_X1_mayStay
theorem dX7_may_0 : decode cX7_may 0 = .ok (.iload_n 1, 1) := by decide +kernel
theorem dX7_may_1 : decode cX7_may 1 = .ok (.ifCond .eq 11, 3) := by decide +kernel
theorem dX7_may_4 : decode cX7_may 4 = .ok (.iload_n 1, 1) := by decide +kernel
theorem dX7_may_5 : decode cX7_may 5 = .ok (.iconst 1, 1) := by decide +kernel
theorem dX7_may_6 : decode cX7_may 6 = .ok (.if_icmp .eq 6, 3) := by decide +kernel
theorem dX7_may_9 : decode cX7_may 9 = .ok (.ldc 79, 2) := by decide +kernel
theorem dX7_may_11 : decode cX7_may 11 = .ok (.ireturn, 1) := by decide +kernel
theorem dX7_may_12 : decode cX7_may 12 = .ok (.aload_n 0, 1) := by decide +kernel
theorem dX7_may_13 : decode cX7_may 13 = .ok (.invokevirtual 173, 3) := by decide +kernel
theorem dX7_may_16 : decode cX7_may 16 = .ok (.ifCond .eq 6, 3) := by decide +kernel
theorem dX7_may_19 : decode cX7_may 19 = .ok (.ldc 181, 2) := by decide +kernel
theorem dX7_may_21 : decode cX7_may 21 = .ok (.ireturn, 1) := by decide +kernel
theorem dX7_may_22 : decode cX7_may 22 = .ok (.iload_n 1, 1) := by decide +kernel
theorem dX7_may_23 : decode cX7_may 23 = .ok (.ifCond .ne 15, 3) := by decide +kernel
theorem dX7_may_26 : decode cX7_may 26 = .ok (.aload_n 0, 1) := by decide +kernel
theorem dX7_may_27 : decode cX7_may 27 = .ok (.getfield 19, 3) := by decide +kernel
theorem dX7_may_30 : decode cX7_may 30 = .ok (.aload_n 0, 1) := by decide +kernel
theorem dX7_may_31 : decode cX7_may 31 = .ok (.getfield 72, 3) := by decide +kernel
theorem dX7_may_34 : decode cX7_may 34 = .ok (.invokevirtual 190, 3) := by decide +kernel
theorem dX7_may_37 : decode cX7_may 37 = .ok (.ireturn, 1) := by decide +kernel
theorem dX7_may_38 : decode cX7_may 38 = .ok (.aload_n 0, 1) := by decide +kernel
theorem dX7_may_39 : decode cX7_may 39 = .ok (.getfield 19, 3) := by decide +kernel
theorem dX7_may_42 : decode cX7_may 42 = .ok (.aload_n 0, 1) := by decide +kernel
theorem dX7_may_43 : decode cX7_may 43 = .ok (.getfield 72, 3) := by decide +kernel
theorem dX7_may_46 : decode cX7_may 46 = .ok (.invokevirtual 177, 3) := by decide +kernel
theorem dX7_may_49 : decode cX7_may 49 = .ok (.ifCond .eq 7, 3) := by decide +kernel
theorem dX7_may_52 : decode cX7_may 52 = .ok (.iconst 1, 1) := by decide +kernel
theorem dX7_may_53 : decode cX7_may 53 = .ok (.goto 4, 3) := by decide +kernel
theorem dX7_may_56 : decode cX7_may 56 = .ok (.iconst 0, 1) := by decide +kernel
theorem dX7_may_57 : decode cX7_may 57 = .ok (.ireturn, 1) := by decide +kernel
set_option maxRecDepth 20000 in
theorem ggX7_reach_X0_hasTown : GoodIn wsX7_reach wsX0_hasTown := goodIn_m (fun w hw => by
  revert w hw; unfold wsX0_hasTown
  exact am_cons (am_at in_wsX7_reach_0 13 rfl) (am_app (am_cons (am_at in_wsX7_reach_0 14 rfl) am_nil) in_wsX7_reach_4)) gw_wsX0_hasTown
set_option maxRecDepth 20000 in
theorem gX7_reach_X0_hasTown : GoodIn wsX7_reach (wsV RX7 143 RX0 yX0_hasTown wsX0_hasTown) := goodIn_app (goodIn_m (am_cons (am_at in_wsX7_reach_0 9 rfl) (am_cons (am_at in_wsX7_reach_0 10 rfl) (am_cons (am_at in_wsX7_reach_0 11 rfl) (am_cons (am_at in_wsX7_reach_0 12 rfl) am_nil)))) (by decide +kernel)) ggX7_reach_X0_hasTown
set_option maxRecDepth 20000 in
theorem ggX7_reach_X0_fillExits : GoodIn wsX7_reach wsX0_fillExits := goodIn_m (fun w hw => by
  revert w hw; unfold wsX0_fillExits
  exact am_cons (am_at in_wsX7_reach_0 18 rfl) (am_app (am_cons (am_at in_wsX7_reach_0 14 rfl) (am_cons (am_at in_wsX7_reach_0 19 rfl) (am_cons (am_at in_wsX7_reach_0 20 rfl) (am_cons (am_at in_wsX7_reach_0 21 rfl) (am_cons (am_at in_wsX7_reach_0 12 rfl) (am_cons (am_at in_wsX7_reach_0 22 rfl) (am_cons (am_at in_wsX7_reach_0 23 rfl) (am_cons (am_at in_wsX7_reach_1 0 rfl) (am_cons (am_at in_wsX7_reach_1 1 rfl) (am_cons (am_at in_wsX7_reach_1 2 rfl) (am_cons (am_at in_wsX7_reach_1 3 rfl) (am_cons (am_at in_wsX7_reach_1 4 rfl) (am_cons (am_at in_wsX7_reach_1 5 rfl) (am_cons (am_at in_wsX7_reach_1 6 rfl) am_nil)))))))))))))) in_wsX7_reach_4)) gw_wsX0_fillExits
set_option maxRecDepth 20000 in
theorem gX7_reach_X0_fillExits : GoodIn wsX7_reach (wsV RX7 203 RX0 yX0_fillExits wsX0_fillExits) := goodIn_app (goodIn_m (am_cons (am_at in_wsX7_reach_0 15 rfl) (am_cons (am_at in_wsX7_reach_0 16 rfl) (am_cons (am_at in_wsX7_reach_0 17 rfl) (am_cons (am_at in_wsX7_reach_0 12 rfl) am_nil)))) (by decide +kernel)) ggX7_reach_X0_fillExits
set_option maxRecDepth 20000 in
theorem ggX7_reach_X7_exitsOf : GoodIn wsX7_reach wsX7_exitsOf := goodIn_m (fun w hw => by
  revert w hw; unfold wsX7_exitsOf
  exact am_cons (am_at in_wsX7_reach_1 10 rfl) am_nil) gw_wsX7_exitsOf
set_option maxRecDepth 20000 in
theorem gX7_reach_X7_exitsOf : GoodIn wsX7_reach (va_wsS RX7 207 yX7_exitsOf wsX7_exitsOf) := goodIn_app (goodIn_m (am_cons (am_at in_wsX7_reach_1 7 rfl) (am_cons (am_at in_wsX7_reach_1 8 rfl) (am_cons (am_at in_wsX7_reach_1 9 rfl) am_nil))) (by decide +kernel)) ggX7_reach_X7_exitsOf
theorem dX7_reach_0 : decode cX7_reach 0 = .ok (.aload_n 0, 1) := by decide +kernel
theorem dX7_reach_1 : decode cX7_reach 1 = .ok (.getfield 72, 3) := by decide +kernel
theorem dX7_reach_4 : decode cX7_reach 4 = .ok (.iload_n 1, 1) := by decide +kernel
theorem dX7_reach_5 : decode cX7_reach 5 = .ok (.invokevirtual 143, 3) := by decide +kernel
theorem dX7_reach_8 : decode cX7_reach 8 = .ok (.ifCond .ne 6, 3) := by decide +kernel
theorem dX7_reach_11 : decode cX7_reach 11 = .ok (.ldc 147, 2) := by decide +kernel
theorem dX7_reach_13 : decode cX7_reach 13 = .ok (.ireturn, 1) := by decide +kernel
theorem dX7_reach_14 : decode cX7_reach 14 = .ok (.aload_n 0, 1) := by decide +kernel
theorem dX7_reach_15 : decode cX7_reach 15 = .ok (.getfield 19, 3) := by decide +kernel
theorem dX7_reach_18 : decode cX7_reach 18 = .ok (.getfield 139, 3) := by decide +kernel
theorem dX7_reach_21 : decode cX7_reach 21 = .ok (.ifCond .eq 6, 3) := by decide +kernel
theorem dX7_reach_24 : decode cX7_reach 24 = .ok (.ldc 181, 2) := by decide +kernel
theorem dX7_reach_26 : decode cX7_reach 26 = .ok (.ireturn, 1) := by decide +kernel
theorem dX7_reach_27 : decode cX7_reach 27 = .ok (.aload_n 0, 1) := by decide +kernel
theorem dX7_reach_28 : decode cX7_reach 28 = .ok (.getfield 72, 3) := by decide +kernel
theorem dX7_reach_31 : decode cX7_reach 31 = .ok (.aload_n 0, 1) := by decide +kernel
theorem dX7_reach_32 : decode cX7_reach 32 = .ok (.getfield 66, 3) := by decide +kernel
theorem dX7_reach_35 : decode cX7_reach 35 = .ok (.aload_n 0, 1) := by decide +kernel
theorem dX7_reach_36 : decode cX7_reach 36 = .ok (.getfield 19, 3) := by decide +kernel
theorem dX7_reach_39 : decode cX7_reach 39 = .ok (.getfield 136, 3) := by decide +kernel
theorem dX7_reach_42 : decode cX7_reach 42 = .ok (.invokevirtual 203, 3) := by decide +kernel
theorem dX7_reach_45 : decode cX7_reach 45 = .ok (.iconst 1, 1) := by decide +kernel
theorem dX7_reach_46 : decode cX7_reach 46 = .ok (.aload_n 0, 1) := by decide +kernel
theorem dX7_reach_47 : decode cX7_reach 47 = .ok (.getfield 19, 3) := by decide +kernel
theorem dX7_reach_50 : decode cX7_reach 50 = .ok (.getfield 124, 3) := by decide +kernel
theorem dX7_reach_53 : decode cX7_reach 53 = .ok (.ishl, 1) := by decide +kernel
theorem dX7_reach_54 : decode cX7_reach 54 = .ok (.istore_n 2, 1) := by decide +kernel
theorem dX7_reach_55 : decode cX7_reach 55 = .ok (.iconst 0, 1) := by decide +kernel
theorem dX7_reach_56 : decode cX7_reach 56 = .ok (.istore_n 3, 1) := by decide +kernel
theorem dX7_reach_57 : decode cX7_reach 57 = .ok (.iload_n 3, 1) := by decide +kernel
theorem dX7_reach_58 : decode cX7_reach 58 = .ok (.aload_n 0, 1) := by decide +kernel
theorem dX7_reach_59 : decode cX7_reach 59 = .ok (.getfield 72, 3) := by decide +kernel
theorem dX7_reach_62 : decode cX7_reach 62 = .ok (.getfield 106, 3) := by decide +kernel
theorem dX7_reach_65 : decode cX7_reach 65 = .ok (.if_icmp .ge 30, 3) := by decide +kernel
theorem dX7_reach_68 : decode cX7_reach 68 = .ok (.iload_n 2, 1) := by decide +kernel
theorem dX7_reach_69 : decode cX7_reach 69 = .ok (.iload_n 1, 1) := by decide +kernel
theorem dX7_reach_70 : decode cX7_reach 70 = .ok (.ishr, 1) := by decide +kernel
theorem dX7_reach_71 : decode cX7_reach 71 = .ok (.iconst 1, 1) := by decide +kernel
theorem dX7_reach_72 : decode cX7_reach 72 = .ok (.iand, 1) := by decide +kernel
theorem dX7_reach_73 : decode cX7_reach 73 = .ok (.ifCond .eq 5, 3) := by decide +kernel
theorem dX7_reach_76 : decode cX7_reach 76 = .ok (.iload_n 3, 1) := by decide +kernel
theorem dX7_reach_77 : decode cX7_reach 77 = .ok (.ireturn, 1) := by decide +kernel
theorem dX7_reach_78 : decode cX7_reach 78 = .ok (.iload_n 2, 1) := by decide +kernel
theorem dX7_reach_79 : decode cX7_reach 79 = .ok (.iload_n 2, 1) := by decide +kernel
theorem dX7_reach_80 : decode cX7_reach 80 = .ok (.aload_n 0, 1) := by decide +kernel
theorem dX7_reach_81 : decode cX7_reach 81 = .ok (.getfield 66, 3) := by decide +kernel
theorem dX7_reach_84 : decode cX7_reach 84 = .ok (.invokestatic 207, 3) := by decide +kernel
theorem dX7_reach_87 : decode cX7_reach 87 = .ok (.ior, 1) := by decide +kernel
theorem dX7_reach_88 : decode cX7_reach 88 = .ok (.istore_n 2, 1) := by decide +kernel
theorem dX7_reach_89 : decode cX7_reach 89 = .ok (.iinc 3 1, 3) := by decide +kernel
theorem dX7_reach_92 : decode cX7_reach 92 = .ok (.goto (-35), 3) := by decide +kernel
theorem dX7_reach_95 : decode cX7_reach 95 = .ok (.iconst (-1), 1) := by decide +kernel
theorem dX7_reach_96 : decode cX7_reach 96 = .ok (.ireturn, 1) := by decide +kernel
set_option maxRecDepth 20000 in
theorem ggX7_best_X7_cannotGoOn : GoodIn wsX7_best wsX7_cannotGoOn := goodIn_m (fun w hw => by
  revert w hw; unfold wsX7_cannotGoOn
  exact am_cons (am_at in_wsX7_best_0 14 rfl) (am_app (am_app (am_app (am_cons (am_at in_wsX7_best_0 2 rfl) (am_cons (am_at in_wsX7_best_0 15 rfl) (am_cons (am_at in_wsX7_best_0 4 rfl) (am_cons (am_at in_wsX7_best_0 16 rfl) am_nil)))) in_wsX7_best_4) in_wsX7_best_6) in_wsX7_best_5)) gw_wsX7_cannotGoOn
set_option maxRecDepth 20000 in
theorem gX7_best_X7_cannotGoOn : GoodIn wsX7_best (wsV RX7 173 RX7 yX7_cannotGoOn wsX7_cannotGoOn) := goodIn_app (goodIn_m (am_cons (am_at in_wsX7_best_0 10 rfl) (am_cons (am_at in_wsX7_best_0 11 rfl) (am_cons (am_at in_wsX7_best_0 12 rfl) (am_cons (am_at in_wsX7_best_0 13 rfl) am_nil)))) (by decide +kernel)) ggX7_best_X7_cannotGoOn
set_option maxRecDepth 20000 in
theorem ggX7_best_X0_fillExits : GoodIn wsX7_best wsX0_fillExits := goodIn_m (fun w hw => by
  revert w hw; unfold wsX0_fillExits
  exact am_cons (am_at in_wsX7_best_0 21 rfl) (am_app (am_cons (am_at in_wsX7_best_0 22 rfl) (am_cons (am_at in_wsX7_best_0 23 rfl) (am_cons (am_at in_wsX7_best_1 0 rfl) (am_cons (am_at in_wsX7_best_1 1 rfl) (am_cons (am_at in_wsX7_best_0 20 rfl) (am_cons (am_at in_wsX7_best_1 2 rfl) (am_cons (am_at in_wsX7_best_1 3 rfl) (am_cons (am_at in_wsX7_best_1 4 rfl) (am_cons (am_at in_wsX7_best_1 5 rfl) (am_cons (am_at in_wsX7_best_1 6 rfl) (am_cons (am_at in_wsX7_best_1 7 rfl) (am_cons (am_at in_wsX7_best_1 8 rfl) (am_cons (am_at in_wsX7_best_1 9 rfl) (am_cons (am_at in_wsX7_best_1 10 rfl) am_nil)))))))))))))) in_wsX7_best_6)) gw_wsX0_fillExits
set_option maxRecDepth 20000 in
theorem gX7_best_X0_fillExits : GoodIn wsX7_best (wsV RX7 203 RX0 yX0_fillExits wsX0_fillExits) := goodIn_app (goodIn_m (am_cons (am_at in_wsX7_best_0 17 rfl) (am_cons (am_at in_wsX7_best_0 18 rfl) (am_cons (am_at in_wsX7_best_0 19 rfl) (am_cons (am_at in_wsX7_best_0 20 rfl) am_nil)))) (by decide +kernel)) ggX7_best_X0_fillExits
set_option maxRecDepth 20000 in
theorem ggX7_best_X3_fill : GoodIn wsX7_best wsX3_fill := goodIn_m (fun w hw => by
  revert w hw; unfold wsX3_fill wsX3_fill_r1 wsX3_fill_r2
  exact am_cons (am_at in_wsX7_best_1 15 rfl) (am_app (am_app (am_app (am_cons (am_at in_wsX7_best_1 16 rfl) (am_cons (am_at in_wsX7_best_1 17 rfl) (am_cons (am_at in_wsX7_best_1 18 rfl) (am_cons (am_at in_wsX7_best_1 19 rfl) (am_cons (am_at in_wsX7_best_1 20 rfl) (am_cons (am_at in_wsX7_best_1 14 rfl) (am_cons (am_at in_wsX7_best_1 21 rfl) (am_cons (am_at in_wsX7_best_1 22 rfl) (am_cons (am_at in_wsX7_best_1 23 rfl) (am_cons (am_at in_wsX7_best_2 0 rfl) (am_cons (am_at in_wsX7_best_2 1 rfl) (am_cons (am_at in_wsX7_best_2 2 rfl) (am_cons (am_at in_wsX7_best_2 3 rfl) (am_cons (am_at in_wsX7_best_2 4 rfl) (am_cons (am_at in_wsX7_best_2 5 rfl) (am_cons (am_at in_wsX7_best_2 6 rfl) (am_cons (am_at in_wsX7_best_2 7 rfl) (am_cons (am_at in_wsX7_best_2 8 rfl) (am_cons (am_at in_wsX7_best_2 9 rfl) (am_cons (am_at in_wsX7_best_0 20 rfl) (am_cons (am_at in_wsX7_best_2 10 rfl) (am_cons (am_at in_wsX7_best_2 11 rfl) (am_cons (am_at in_wsX7_best_2 12 rfl) (am_cons (am_at in_wsX7_best_2 13 rfl) am_nil)))))))))))))))))))))))) (am_cons (am_at in_wsX7_best_2 14 rfl) (am_cons (am_at in_wsX7_best_2 15 rfl) (am_cons (am_at in_wsX7_best_2 16 rfl) (am_cons (am_at in_wsX7_best_2 17 rfl) (am_cons (am_at in_wsX7_best_2 18 rfl) (am_cons (am_at in_wsX7_best_2 19 rfl) (am_cons (am_at in_wsX7_best_2 20 rfl) (am_cons (am_at in_wsX7_best_2 21 rfl) (am_cons (am_at in_wsX7_best_0 22 rfl) am_nil)))))))))) in_wsX7_best_7) in_wsX7_best_6)) gw_wsX3_fill
set_option maxRecDepth 20000 in
theorem gX7_best_X3_fill : GoodIn wsX7_best (wsV RX7 211 RX3 yX3_fill wsX3_fill) := goodIn_app (goodIn_m (am_cons (am_at in_wsX7_best_1 11 rfl) (am_cons (am_at in_wsX7_best_1 12 rfl) (am_cons (am_at in_wsX7_best_1 13 rfl) (am_cons (am_at in_wsX7_best_1 14 rfl) am_nil)))) (by decide +kernel)) ggX7_best_X3_fill
set_option maxRecDepth 20000 in
theorem ggX7_best_X3_mostFrom : GoodIn wsX7_best wsX3_mostFrom := goodIn_m (fun w hw => by
  revert w hw; unfold wsX3_mostFrom
  exact am_cons (am_at in_wsX7_best_2 6 rfl) (am_app (am_cons (am_at in_wsX7_best_1 16 rfl) am_nil) in_wsX7_best_7)) gw_wsX3_mostFrom
set_option maxRecDepth 20000 in
theorem gX7_best_X3_mostFrom : GoodIn wsX7_best (wsV RX7 215 RX3 yX3_mostFrom wsX3_mostFrom) := goodIn_app (goodIn_m (am_cons (am_at in_wsX7_best_2 22 rfl) (am_cons (am_at in_wsX7_best_2 4 rfl) (am_cons (am_at in_wsX7_best_2 5 rfl) (am_cons (am_at in_wsX7_best_1 14 rfl) am_nil)))) (by decide +kernel)) ggX7_best_X3_mostFrom
set_option maxRecDepth 20000 in
theorem ggX7_best_X3_townBehind : GoodIn wsX7_best wsX3_townBehind := goodIn_m (fun w hw => by
  revert w hw; unfold wsX3_townBehind wsX3_townBehind_r1 wsX3_townBehind_r2
  exact am_cons (am_at in_wsX7_best_3 2 rfl) (am_app (am_app (am_app (am_app (am_cons (am_at in_wsX7_best_3 3 rfl) (am_cons (am_at in_wsX7_best_3 4 rfl) (am_cons (am_at in_wsX7_best_3 5 rfl) (am_cons (am_at in_wsX7_best_3 6 rfl) (am_cons (am_at in_wsX7_best_3 7 rfl) (am_cons (am_at in_wsX7_best_3 8 rfl) (am_cons (am_at in_wsX7_best_1 14 rfl) (am_cons (am_at in_wsX7_best_3 9 rfl) (am_cons (am_at in_wsX7_best_2 2 rfl) (am_cons (am_at in_wsX7_best_2 3 rfl) (am_cons (am_at in_wsX7_best_2 4 rfl) (am_cons (am_at in_wsX7_best_2 5 rfl) (am_cons (am_at in_wsX7_best_2 6 rfl) (am_cons (am_at in_wsX7_best_1 16 rfl) (am_cons (am_at in_wsX7_best_2 7 rfl) (am_cons (am_at in_wsX7_best_2 8 rfl) (am_cons (am_at in_wsX7_best_2 9 rfl) (am_cons (am_at in_wsX7_best_0 20 rfl) (am_cons (am_at in_wsX7_best_2 10 rfl) (am_cons (am_at in_wsX7_best_2 11 rfl) (am_cons (am_at in_wsX7_best_2 12 rfl) (am_cons (am_at in_wsX7_best_2 13 rfl) (am_cons (am_at in_wsX7_best_2 14 rfl) (am_cons (am_at in_wsX7_best_2 15 rfl) am_nil)))))))))))))))))))))))) (am_cons (am_at in_wsX7_best_2 16 rfl) (am_cons (am_at in_wsX7_best_2 17 rfl) (am_cons (am_at in_wsX7_best_2 18 rfl) (am_cons (am_at in_wsX7_best_2 19 rfl) (am_cons (am_at in_wsX7_best_2 20 rfl) (am_cons (am_at in_wsX7_best_2 21 rfl) (am_cons (am_at in_wsX7_best_0 22 rfl) (am_cons (am_at in_wsX7_best_3 10 rfl) (am_cons (am_at in_wsX7_best_0 13 rfl) (am_cons (am_at in_wsX7_best_3 11 rfl) (am_cons (am_at in_wsX7_best_3 12 rfl) (am_cons (am_at in_wsX7_best_3 13 rfl) (am_cons (am_at in_wsX7_best_3 14 rfl) (am_cons (am_at in_wsX7_best_3 15 rfl) (am_cons (am_at in_wsX7_best_1 17 rfl) am_nil)))))))))))))))) in_wsX7_best_5) in_wsX7_best_6) in_wsX7_best_7)) gw_wsX3_townBehind
set_option maxRecDepth 20000 in
theorem gX7_best_X3_townBehind : GoodIn wsX7_best (wsV RX7 219 RX3 yX3_townBehind wsX3_townBehind) := goodIn_app (goodIn_m (am_cons (am_at in_wsX7_best_2 23 rfl) (am_cons (am_at in_wsX7_best_3 0 rfl) (am_cons (am_at in_wsX7_best_3 1 rfl) (am_cons (am_at in_wsX7_best_1 14 rfl) am_nil)))) (by decide +kernel)) ggX7_best_X3_townBehind
theorem dX7_best_0 : decode cX7_best 0 = .ok (.iload_n 1, 1) := by decide +kernel
theorem dX7_best_1 : decode cX7_best 1 = .ok (.iconst 1, 1) := by decide +kernel
theorem dX7_best_2 : decode cX7_best 2 = .ok (.if_icmp .lt 19, 3) := by decide +kernel
theorem dX7_best_5 : decode cX7_best 5 = .ok (.iload_n 1, 1) := by decide +kernel
theorem dX7_best_6 : decode cX7_best 6 = .ok (.bipush 36, 2) := by decide +kernel
theorem dX7_best_8 : decode cX7_best 8 = .ok (.if_icmp .gt 13, 3) := by decide +kernel
theorem dX7_best_11 : decode cX7_best 11 = .ok (.iload_n 2, 1) := by decide +kernel
theorem dX7_best_12 : decode cX7_best 12 = .ok (.iconst (-1), 1) := by decide +kernel
theorem dX7_best_13 : decode cX7_best 13 = .ok (.if_icmp .lt 8, 3) := by decide +kernel
theorem dX7_best_16 : decode cX7_best 16 = .ok (.iload_n 2, 1) := by decide +kernel
theorem dX7_best_17 : decode cX7_best 17 = .ok (.iload_n 1, 1) := by decide +kernel
theorem dX7_best_18 : decode cX7_best 18 = .ok (.if_icmp .lt 6, 3) := by decide +kernel
theorem dX7_best_21 : decode cX7_best 21 = .ok (.ldc 79, 2) := by decide +kernel
theorem dX7_best_23 : decode cX7_best 23 = .ok (.ireturn, 1) := by decide +kernel
theorem dX7_best_24 : decode cX7_best 24 = .ok (.aload_n 0, 1) := by decide +kernel
theorem dX7_best_25 : decode cX7_best 25 = .ok (.invokevirtual 173, 3) := by decide +kernel
theorem dX7_best_28 : decode cX7_best 28 = .ok (.ifCond .eq 6, 3) := by decide +kernel
theorem dX7_best_31 : decode cX7_best 31 = .ok (.ldc 181, 2) := by decide +kernel
theorem dX7_best_33 : decode cX7_best 33 = .ok (.ireturn, 1) := by decide +kernel
theorem dX7_best_34 : decode cX7_best 34 = .ok (.aload_n 0, 1) := by decide +kernel
theorem dX7_best_35 : decode cX7_best 35 = .ok (.getfield 72, 3) := by decide +kernel
theorem dX7_best_38 : decode cX7_best 38 = .ok (.aload_n 0, 1) := by decide +kernel
theorem dX7_best_39 : decode cX7_best 39 = .ok (.getfield 66, 3) := by decide +kernel
theorem dX7_best_42 : decode cX7_best 42 = .ok (.aload_n 0, 1) := by decide +kernel
theorem dX7_best_43 : decode cX7_best 43 = .ok (.getfield 19, 3) := by decide +kernel
theorem dX7_best_46 : decode cX7_best 46 = .ok (.getfield 136, 3) := by decide +kernel
theorem dX7_best_49 : decode cX7_best 49 = .ok (.invokevirtual 203, 3) := by decide +kernel
theorem dX7_best_52 : decode cX7_best 52 = .ok (.aload_n 0, 1) := by decide +kernel
theorem dX7_best_53 : decode cX7_best 53 = .ok (.getfield 33, 3) := by decide +kernel
theorem dX7_best_56 : decode cX7_best 56 = .ok (.aload_n 0, 1) := by decide +kernel
theorem dX7_best_57 : decode cX7_best 57 = .ok (.getfield 72, 3) := by decide +kernel
theorem dX7_best_60 : decode cX7_best 60 = .ok (.aload_n 0, 1) := by decide +kernel
theorem dX7_best_61 : decode cX7_best 61 = .ok (.getfield 66, 3) := by decide +kernel
theorem dX7_best_64 : decode cX7_best 64 = .ok (.aload_n 0, 1) := by decide +kernel
theorem dX7_best_65 : decode cX7_best 65 = .ok (.getfield 19, 3) := by decide +kernel
theorem dX7_best_68 : decode cX7_best 68 = .ok (.getfield 121, 3) := by decide +kernel
theorem dX7_best_71 : decode cX7_best 71 = .ok (.iload_n 1, 1) := by decide +kernel
theorem dX7_best_72 : decode cX7_best 72 = .ok (.invokevirtual 211, 3) := by decide +kernel
theorem dX7_best_75 : decode cX7_best 75 = .ok (.aload_n 0, 1) := by decide +kernel
theorem dX7_best_76 : decode cX7_best 76 = .ok (.getfield 33, 3) := by decide +kernel
theorem dX7_best_79 : decode cX7_best 79 = .ok (.iconst 0, 1) := by decide +kernel
theorem dX7_best_80 : decode cX7_best 80 = .ok (.aload_n 0, 1) := by decide +kernel
theorem dX7_best_81 : decode cX7_best 81 = .ok (.getfield 19, 3) := by decide +kernel
theorem dX7_best_84 : decode cX7_best 84 = .ok (.getfield 124, 3) := by decide +kernel
theorem dX7_best_87 : decode cX7_best 87 = .ok (.aload_n 0, 1) := by decide +kernel
theorem dX7_best_88 : decode cX7_best 88 = .ok (.getfield 19, 3) := by decide +kernel
theorem dX7_best_91 : decode cX7_best 91 = .ok (.getfield 127, 3) := by decide +kernel
theorem dX7_best_94 : decode cX7_best 94 = .ok (.invokevirtual 215, 3) := by decide +kernel
theorem dX7_best_97 : decode cX7_best 97 = .ok (.istore_n 3, 1) := by decide +kernel
theorem dX7_best_98 : decode cX7_best 98 = .ok (.iload_n 2, 1) := by decide +kernel
theorem dX7_best_99 : decode cX7_best 99 = .ok (.iconst (-1), 1) := by decide +kernel
theorem dX7_best_100 : decode cX7_best 100 = .ok (.if_icmp .eq 8, 3) := by decide +kernel
theorem dX7_best_103 : decode cX7_best 103 = .ok (.iload_n 3, 1) := by decide +kernel
theorem dX7_best_104 : decode cX7_best 104 = .ok (.iconst (-1), 1) := by decide +kernel
theorem dX7_best_105 : decode cX7_best 105 = .ok (.if_icmp .ne 5, 3) := by decide +kernel
theorem dX7_best_108 : decode cX7_best 108 = .ok (.iload_n 3, 1) := by decide +kernel
theorem dX7_best_109 : decode cX7_best 109 = .ok (.ireturn, 1) := by decide +kernel
theorem dX7_best_110 : decode cX7_best 110 = .ok (.aload_n 0, 1) := by decide +kernel
theorem dX7_best_111 : decode cX7_best 111 = .ok (.getfield 33, 3) := by decide +kernel
theorem dX7_best_114 : decode cX7_best 114 = .ok (.aload_n 0, 1) := by decide +kernel
theorem dX7_best_115 : decode cX7_best 115 = .ok (.getfield 72, 3) := by decide +kernel
theorem dX7_best_118 : decode cX7_best 118 = .ok (.aload_n 0, 1) := by decide +kernel
theorem dX7_best_119 : decode cX7_best 119 = .ok (.getfield 66, 3) := by decide +kernel
theorem dX7_best_122 : decode cX7_best 122 = .ok (.aload_n 0, 1) := by decide +kernel
theorem dX7_best_123 : decode cX7_best 123 = .ok (.getfield 19, 3) := by decide +kernel
theorem dX7_best_126 : decode cX7_best 126 = .ok (.iload_n 2, 1) := by decide +kernel
theorem dX7_best_127 : decode cX7_best 127 = .ok (.invokevirtual 219, 3) := by decide +kernel
theorem dX7_best_130 : decode cX7_best 130 = .ok (.ireturn, 1) := by decide +kernel
set_option maxRecDepth 20000 in
theorem ggX7_seals_X0_allTowns : GoodIn wsX7_seals wsX0_allTowns := goodIn_m (fun w hw => by
  revert w hw; unfold wsX0_allTowns
  exact am_cons (am_at in_wsX7_seals_0 11 rfl) (am_app (am_cons (am_at in_wsX7_seals_0 12 rfl) am_nil) in_wsX7_seals_6)) gw_wsX0_allTowns
set_option maxRecDepth 20000 in
theorem gX7_seals_X0_allTowns : GoodIn wsX7_seals (wsV RX7 223 RX0 yX0_allTowns wsX0_allTowns) := goodIn_app (goodIn_m (am_cons (am_at in_wsX7_seals_0 7 rfl) (am_cons (am_at in_wsX7_seals_0 8 rfl) (am_cons (am_at in_wsX7_seals_0 9 rfl) (am_cons (am_at in_wsX7_seals_0 10 rfl) am_nil)))) (by decide +kernel)) ggX7_seals_X0_allTowns
set_option maxRecDepth 20000 in
theorem ggX7_seals_X7_cannotGoOn : GoodIn wsX7_seals wsX7_cannotGoOn := goodIn_m (fun w hw => by
  revert w hw; unfold wsX7_cannotGoOn
  exact am_cons (am_at in_wsX7_seals_0 17 rfl) (am_app (am_app (am_app (am_cons (am_at in_wsX7_seals_0 0 rfl) (am_cons (am_at in_wsX7_seals_0 18 rfl) (am_cons (am_at in_wsX7_seals_0 4 rfl) (am_cons (am_at in_wsX7_seals_0 19 rfl) am_nil)))) in_wsX7_seals_4) in_wsX7_seals_6) in_wsX7_seals_5)) gw_wsX7_cannotGoOn
set_option maxRecDepth 20000 in
theorem gX7_seals_X7_cannotGoOn : GoodIn wsX7_seals (wsV RX7 173 RX7 yX7_cannotGoOn wsX7_cannotGoOn) := goodIn_app (goodIn_m (am_cons (am_at in_wsX7_seals_0 13 rfl) (am_cons (am_at in_wsX7_seals_0 14 rfl) (am_cons (am_at in_wsX7_seals_0 15 rfl) (am_cons (am_at in_wsX7_seals_0 16 rfl) am_nil)))) (by decide +kernel)) ggX7_seals_X7_cannotGoOn
set_option maxRecDepth 20000 in
theorem ggX7_seals_X0_fillExits : GoodIn wsX7_seals wsX0_fillExits := goodIn_m (fun w hw => by
  revert w hw; unfold wsX0_fillExits
  exact am_cons (am_at in_wsX7_seals_0 23 rfl) (am_app (am_cons (am_at in_wsX7_seals_0 12 rfl) (am_cons (am_at in_wsX7_seals_1 0 rfl) (am_cons (am_at in_wsX7_seals_1 1 rfl) (am_cons (am_at in_wsX7_seals_1 2 rfl) (am_cons (am_at in_wsX7_seals_0 10 rfl) (am_cons (am_at in_wsX7_seals_1 3 rfl) (am_cons (am_at in_wsX7_seals_1 4 rfl) (am_cons (am_at in_wsX7_seals_1 5 rfl) (am_cons (am_at in_wsX7_seals_1 6 rfl) (am_cons (am_at in_wsX7_seals_1 7 rfl) (am_cons (am_at in_wsX7_seals_1 8 rfl) (am_cons (am_at in_wsX7_seals_1 9 rfl) (am_cons (am_at in_wsX7_seals_1 10 rfl) (am_cons (am_at in_wsX7_seals_1 11 rfl) am_nil)))))))))))))) in_wsX7_seals_6)) gw_wsX0_fillExits
set_option maxRecDepth 20000 in
theorem gX7_seals_X0_fillExits : GoodIn wsX7_seals (wsV RX7 203 RX0 yX0_fillExits wsX0_fillExits) := goodIn_app (goodIn_m (am_cons (am_at in_wsX7_seals_0 20 rfl) (am_cons (am_at in_wsX7_seals_0 21 rfl) (am_cons (am_at in_wsX7_seals_0 22 rfl) (am_cons (am_at in_wsX7_seals_0 10 rfl) am_nil)))) (by decide +kernel)) ggX7_seals_X0_fillExits
set_option maxRecDepth 20000 in
theorem ggX7_seals_X4_fewestMonths : GoodIn wsX7_seals wsX4_fewestMonths := goodIn_m (fun w hw => by
  revert w hw; unfold wsX4_fewestMonths wsX4_fewestMonths_r1 wsX4_fewestMonths_r2
  exact am_cons (am_at in_wsX7_seals_1 16 rfl) (am_app (am_app (am_app (am_app (am_cons (am_at in_wsX7_seals_1 17 rfl) (am_cons (am_at in_wsX7_seals_1 18 rfl) (am_cons (am_at in_wsX7_seals_1 19 rfl) (am_cons (am_at in_wsX7_seals_1 20 rfl) (am_cons (am_at in_wsX7_seals_1 21 rfl) (am_cons (am_at in_wsX7_seals_1 22 rfl) (am_cons (am_at in_wsX7_seals_1 23 rfl) (am_cons (am_at in_wsX7_seals_1 15 rfl) (am_cons (am_at in_wsX7_seals_2 0 rfl) (am_cons (am_at in_wsX7_seals_2 1 rfl) (am_cons (am_at in_wsX7_seals_2 2 rfl) (am_cons (am_at in_wsX7_seals_2 3 rfl) (am_cons (am_at in_wsX7_seals_2 4 rfl) (am_cons (am_at in_wsX7_seals_2 5 rfl) (am_cons (am_at in_wsX7_seals_2 6 rfl) (am_cons (am_at in_wsX7_seals_2 7 rfl) (am_cons (am_at in_wsX7_seals_2 8 rfl) (am_cons (am_at in_wsX7_seals_2 9 rfl) (am_cons (am_at in_wsX7_seals_2 10 rfl) (am_cons (am_at in_wsX7_seals_2 11 rfl) (am_cons (am_at in_wsX7_seals_2 12 rfl) (am_cons (am_at in_wsX7_seals_2 13 rfl) (am_cons (am_at in_wsX7_seals_2 14 rfl) (am_cons (am_at in_wsX7_seals_2 15 rfl) am_nil)))))))))))))))))))))))) (am_cons (am_at in_wsX7_seals_2 16 rfl) (am_cons (am_at in_wsX7_seals_2 17 rfl) (am_cons (am_at in_wsX7_seals_0 10 rfl) (am_cons (am_at in_wsX7_seals_2 18 rfl) (am_cons (am_at in_wsX7_seals_2 19 rfl) (am_cons (am_at in_wsX7_seals_2 20 rfl) (am_cons (am_at in_wsX7_seals_2 21 rfl) (am_cons (am_at in_wsX7_seals_2 22 rfl) (am_cons (am_at in_wsX7_seals_2 23 rfl) (am_cons (am_at in_wsX7_seals_3 0 rfl) (am_cons (am_at in_wsX7_seals_0 12 rfl) (am_cons (am_at in_wsX7_seals_3 1 rfl) (am_cons (am_at in_wsX7_seals_3 2 rfl) (am_cons (am_at in_wsX7_seals_3 3 rfl) (am_cons (am_at in_wsX7_seals_3 4 rfl) (am_cons (am_at in_wsX7_seals_3 5 rfl) (am_cons (am_at in_wsX7_seals_3 6 rfl) (am_cons (am_at in_wsX7_seals_3 7 rfl) (am_cons (am_at in_wsX7_seals_3 8 rfl) (am_cons (am_at in_wsX7_seals_3 9 rfl) (am_cons (am_at in_wsX7_seals_3 10 rfl) (am_cons (am_at in_wsX7_seals_3 11 rfl) (am_cons (am_at in_wsX7_seals_3 12 rfl) (am_cons (am_at in_wsX7_seals_3 13 rfl) am_nil))))))))))))))))))))))))) in_wsX7_seals_7) in_wsX7_seals_5) in_wsX7_seals_6)) gw_wsX4_fewestMonths
set_option maxRecDepth 20000 in
theorem gX7_seals_X4_fewestMonths : GoodIn wsX7_seals (wsV RX7 227 RX4 yX4_fewestMonths wsX4_fewestMonths) := goodIn_app (goodIn_m (am_cons (am_at in_wsX7_seals_1 12 rfl) (am_cons (am_at in_wsX7_seals_1 13 rfl) (am_cons (am_at in_wsX7_seals_1 14 rfl) (am_cons (am_at in_wsX7_seals_1 15 rfl) am_nil)))) (by decide +kernel)) ggX7_seals_X4_fewestMonths
theorem dX7_seals_0 : decode cX7_seals 0 = .ok (.iload_n 1, 1) := by decide +kernel
theorem dX7_seals_1 : decode cX7_seals 1 = .ok (.aload_n 0, 1) := by decide +kernel
theorem dX7_seals_2 : decode cX7_seals 2 = .ok (.getfield 72, 3) := by decide +kernel
theorem dX7_seals_5 : decode cX7_seals 5 = .ok (.invokevirtual 223, 3) := by decide +kernel
theorem dX7_seals_8 : decode cX7_seals 8 = .ok (.iconst (-1), 1) := by decide +kernel
theorem dX7_seals_9 : decode cX7_seals 9 = .ok (.ixor, 1) := by decide +kernel
theorem dX7_seals_10 : decode cX7_seals 10 = .ok (.iand, 1) := by decide +kernel
theorem dX7_seals_11 : decode cX7_seals 11 = .ok (.ifCond .eq 6, 3) := by decide +kernel
theorem dX7_seals_14 : decode cX7_seals 14 = .ok (.ldc 147, 2) := by decide +kernel
theorem dX7_seals_16 : decode cX7_seals 16 = .ok (.ireturn, 1) := by decide +kernel
theorem dX7_seals_17 : decode cX7_seals 17 = .ok (.aload_n 0, 1) := by decide +kernel
theorem dX7_seals_18 : decode cX7_seals 18 = .ok (.invokevirtual 173, 3) := by decide +kernel
theorem dX7_seals_21 : decode cX7_seals 21 = .ok (.ifCond .eq 6, 3) := by decide +kernel
theorem dX7_seals_24 : decode cX7_seals 24 = .ok (.ldc 181, 2) := by decide +kernel
theorem dX7_seals_26 : decode cX7_seals 26 = .ok (.ireturn, 1) := by decide +kernel
theorem dX7_seals_27 : decode cX7_seals 27 = .ok (.aload_n 0, 1) := by decide +kernel
theorem dX7_seals_28 : decode cX7_seals 28 = .ok (.getfield 72, 3) := by decide +kernel
theorem dX7_seals_31 : decode cX7_seals 31 = .ok (.aload_n 0, 1) := by decide +kernel
theorem dX7_seals_32 : decode cX7_seals 32 = .ok (.getfield 66, 3) := by decide +kernel
theorem dX7_seals_35 : decode cX7_seals 35 = .ok (.aload_n 0, 1) := by decide +kernel
theorem dX7_seals_36 : decode cX7_seals 36 = .ok (.getfield 19, 3) := by decide +kernel
theorem dX7_seals_39 : decode cX7_seals 39 = .ok (.getfield 136, 3) := by decide +kernel
theorem dX7_seals_42 : decode cX7_seals 42 = .ok (.invokevirtual 203, 3) := by decide +kernel
theorem dX7_seals_45 : decode cX7_seals 45 = .ok (.aload_n 0, 1) := by decide +kernel
theorem dX7_seals_46 : decode cX7_seals 46 = .ok (.getfield 40, 3) := by decide +kernel
theorem dX7_seals_49 : decode cX7_seals 49 = .ok (.aload_n 0, 1) := by decide +kernel
theorem dX7_seals_50 : decode cX7_seals 50 = .ok (.getfield 72, 3) := by decide +kernel
theorem dX7_seals_53 : decode cX7_seals 53 = .ok (.aload_n 0, 1) := by decide +kernel
theorem dX7_seals_54 : decode cX7_seals 54 = .ok (.getfield 66, 3) := by decide +kernel
theorem dX7_seals_57 : decode cX7_seals 57 = .ok (.aload_n 0, 1) := by decide +kernel
theorem dX7_seals_58 : decode cX7_seals 58 = .ok (.getfield 19, 3) := by decide +kernel
theorem dX7_seals_61 : decode cX7_seals 61 = .ok (.iload_n 1, 1) := by decide +kernel
theorem dX7_seals_62 : decode cX7_seals 62 = .ok (.invokevirtual 227, 3) := by decide +kernel
theorem dX7_seals_65 : decode cX7_seals 65 = .ok (.ireturn, 1) := by decide +kernel
set_option maxRecDepth 20000 in
theorem ggX7_two_X0_hasTown : GoodIn wsX7_two wsX0_hasTown := goodIn_m (fun w hw => by
  revert w hw; unfold wsX0_hasTown
  exact am_cons (am_at in_wsX7_two_0 12 rfl) (am_app (am_cons (am_at in_wsX7_two_0 13 rfl) am_nil) in_wsX7_two_5)) gw_wsX0_hasTown
set_option maxRecDepth 20000 in
theorem gX7_two_X0_hasTown : GoodIn wsX7_two (wsV RX7 143 RX0 yX0_hasTown wsX0_hasTown) := goodIn_app (goodIn_m (am_cons (am_at in_wsX7_two_0 8 rfl) (am_cons (am_at in_wsX7_two_0 9 rfl) (am_cons (am_at in_wsX7_two_0 10 rfl) (am_cons (am_at in_wsX7_two_0 11 rfl) am_nil)))) (by decide +kernel)) ggX7_two_X0_hasTown
set_option maxRecDepth 20000 in
theorem ggX7_two_X0_fillExits : GoodIn wsX7_two wsX0_fillExits := goodIn_m (fun w hw => by
  revert w hw; unfold wsX0_fillExits
  exact am_cons (am_at in_wsX7_two_0 17 rfl) (am_app (am_cons (am_at in_wsX7_two_0 13 rfl) (am_cons (am_at in_wsX7_two_0 18 rfl) (am_cons (am_at in_wsX7_two_0 19 rfl) (am_cons (am_at in_wsX7_two_0 20 rfl) (am_cons (am_at in_wsX7_two_0 11 rfl) (am_cons (am_at in_wsX7_two_0 21 rfl) (am_cons (am_at in_wsX7_two_0 22 rfl) (am_cons (am_at in_wsX7_two_0 23 rfl) (am_cons (am_at in_wsX7_two_1 0 rfl) (am_cons (am_at in_wsX7_two_1 1 rfl) (am_cons (am_at in_wsX7_two_1 2 rfl) (am_cons (am_at in_wsX7_two_1 3 rfl) (am_cons (am_at in_wsX7_two_1 4 rfl) (am_cons (am_at in_wsX7_two_1 5 rfl) am_nil)))))))))))))) in_wsX7_two_5)) gw_wsX0_fillExits
set_option maxRecDepth 20000 in
theorem gX7_two_X0_fillExits : GoodIn wsX7_two (wsV RX7 203 RX0 yX0_fillExits wsX0_fillExits) := goodIn_app (goodIn_m (am_cons (am_at in_wsX7_two_0 14 rfl) (am_cons (am_at in_wsX7_two_0 15 rfl) (am_cons (am_at in_wsX7_two_0 16 rfl) (am_cons (am_at in_wsX7_two_0 11 rfl) am_nil)))) (by decide +kernel)) ggX7_two_X0_fillExits
set_option maxRecDepth 20000 in
theorem ggX7_two_X3_monthsToMeet : GoodIn wsX7_two wsX3_monthsToMeet := goodIn_m (fun w hw => by
  revert w hw; unfold wsX3_monthsToMeet
  exact am_cons (am_at in_wsX7_two_1 10 rfl) (am_app (am_app (am_app (am_cons (am_at in_wsX7_two_1 11 rfl) (am_cons (am_at in_wsX7_two_1 12 rfl) (am_cons (am_at in_wsX7_two_1 13 rfl) (am_cons (am_at in_wsX7_two_1 14 rfl) (am_cons (am_at in_wsX7_two_1 15 rfl) (am_cons (am_at in_wsX7_two_1 16 rfl) (am_cons (am_at in_wsX7_two_1 17 rfl) (am_cons (am_at in_wsX7_two_1 9 rfl) (am_cons (am_at in_wsX7_two_1 18 rfl) (am_cons (am_at in_wsX7_two_1 19 rfl) (am_cons (am_at in_wsX7_two_1 20 rfl) (am_cons (am_at in_wsX7_two_1 21 rfl) (am_cons (am_at in_wsX7_two_1 22 rfl) (am_cons (am_at in_wsX7_two_1 23 rfl) (am_cons (am_at in_wsX7_two_2 0 rfl) am_nil))))))))))))))) in_wsX7_two_6) in_wsX7_two_4) in_wsX7_two_5)) gw_wsX3_monthsToMeet
set_option maxRecDepth 20000 in
theorem gX7_two_X3_monthsToMeet : GoodIn wsX7_two (wsV RX7 230 RX3 yX3_monthsToMeet wsX3_monthsToMeet) := goodIn_app (goodIn_m (am_cons (am_at in_wsX7_two_1 6 rfl) (am_cons (am_at in_wsX7_two_1 7 rfl) (am_cons (am_at in_wsX7_two_1 8 rfl) (am_cons (am_at in_wsX7_two_1 9 rfl) am_nil)))) (by decide +kernel)) ggX7_two_X3_monthsToMeet
theorem dX7_two_0 : decode cX7_two 0 = .ok (.aload_n 0, 1) := by decide +kernel
theorem dX7_two_1 : decode cX7_two 1 = .ok (.getfield 72, 3) := by decide +kernel
theorem dX7_two_4 : decode cX7_two 4 = .ok (.iload_n 1, 1) := by decide +kernel
theorem dX7_two_5 : decode cX7_two 5 = .ok (.invokevirtual 143, 3) := by decide +kernel
theorem dX7_two_8 : decode cX7_two 8 = .ok (.ifCond .ne 6, 3) := by decide +kernel
theorem dX7_two_11 : decode cX7_two 11 = .ok (.ldc 147, 2) := by decide +kernel
theorem dX7_two_13 : decode cX7_two 13 = .ok (.ireturn, 1) := by decide +kernel
theorem dX7_two_14 : decode cX7_two 14 = .ok (.aload_n 0, 1) := by decide +kernel
theorem dX7_two_15 : decode cX7_two 15 = .ok (.getfield 19, 3) := by decide +kernel
theorem dX7_two_18 : decode cX7_two 18 = .ok (.getfield 139, 3) := by decide +kernel
theorem dX7_two_21 : decode cX7_two 21 = .ok (.ifCond .eq 6, 3) := by decide +kernel
theorem dX7_two_24 : decode cX7_two 24 = .ok (.ldc 181, 2) := by decide +kernel
theorem dX7_two_26 : decode cX7_two 26 = .ok (.ireturn, 1) := by decide +kernel
theorem dX7_two_27 : decode cX7_two 27 = .ok (.aload_n 0, 1) := by decide +kernel
theorem dX7_two_28 : decode cX7_two 28 = .ok (.getfield 72, 3) := by decide +kernel
theorem dX7_two_31 : decode cX7_two 31 = .ok (.aload_n 0, 1) := by decide +kernel
theorem dX7_two_32 : decode cX7_two 32 = .ok (.getfield 66, 3) := by decide +kernel
theorem dX7_two_35 : decode cX7_two 35 = .ok (.aload_n 0, 1) := by decide +kernel
theorem dX7_two_36 : decode cX7_two 36 = .ok (.getfield 19, 3) := by decide +kernel
