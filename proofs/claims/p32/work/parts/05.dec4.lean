theorem dX8_keeps_76 : decode cX8_keeps 76 = .ok (.iastore, 1) := by decide +kernel
theorem dX8_keeps_77 : decode cX8_keeps 77 = .ok (.iinc 1 1, 3) := by decide +kernel
theorem dX8_keeps_80 : decode cX8_keeps 80 = .ok (.goto (-29), 3) := by decide +kernel
theorem dX8_keeps_83 : decode cX8_keeps 83 = .ok (.aload_n 0, 1) := by decide +kernel
theorem dX8_keeps_84 : decode cX8_keeps 84 = .ok (.dup, 1) := by decide +kernel
theorem dX8_keeps_85 : decode cX8_keeps 85 = .ok (.getfield 107, 3) := by decide +kernel
theorem dX8_keeps_88 : decode cX8_keeps 88 = .ok (.iconst 1, 1) := by decide +kernel
theorem dX8_keeps_89 : decode cX8_keeps 89 = .ok (.iadd, 1) := by decide +kernel
theorem dX8_keeps_90 : decode cX8_keeps 90 = .ok (.putfield 107, 3) := by decide +kernel
theorem dX8_keeps_93 : decode cX8_keeps 93 = .ok (.return_, 1) := by decide +kernel
theorem dX8_hasWork_0 : decode cX8_hasWork 0 = .ok (.aload_n 0, 1) := by decide +kernel
theorem dX8_hasWork_1 : decode cX8_hasWork 1 = .ok (.getfield 13, 3) := by decide +kernel
theorem dX8_hasWork_4 : decode cX8_hasWork 4 = .ok (.bipush 12, 2) := by decide +kernel
theorem dX8_hasWork_6 : decode cX8_hasWork 6 = .ok (.iload_n 1, 1) := by decide +kernel
theorem dX8_hasWork_7 : decode cX8_hasWork 7 = .ok (.iadd, 1) := by decide +kernel
theorem dX8_hasWork_8 : decode cX8_hasWork 8 = .ok (.iaload, 1) := by decide +kernel
theorem dX8_hasWork_9 : decode cX8_hasWork 9 = .ok (.aload_n 0, 1) := by decide +kernel
theorem dX8_hasWork_10 : decode cX8_hasWork 10 = .ok (.getfield 13, 3) := by decide +kernel
theorem dX8_hasWork_13 : decode cX8_hasWork 13 = .ok (.iconst 1, 1) := by decide +kernel
theorem dX8_hasWork_14 : decode cX8_hasWork 14 = .ok (.iaload, 1) := by decide +kernel
theorem dX8_hasWork_15 : decode cX8_hasWork 15 = .ok (.iload_n 2, 1) := by decide +kernel
theorem dX8_hasWork_16 : decode cX8_hasWork 16 = .ok (.iadd, 1) := by decide +kernel
theorem dX8_hasWork_17 : decode cX8_hasWork 17 = .ok (.bipush 12, 2) := by decide +kernel
theorem dX8_hasWork_19 : decode cX8_hasWork 19 = .ok (.irem, 1) := by decide +kernel
theorem dX8_hasWork_20 : decode cX8_hasWork 20 = .ok (.ishr, 1) := by decide +kernel
theorem dX8_hasWork_21 : decode cX8_hasWork 21 = .ok (.iconst 1, 1) := by decide +kernel
theorem dX8_hasWork_22 : decode cX8_hasWork 22 = .ok (.iand, 1) := by decide +kernel
theorem dX8_hasWork_23 : decode cX8_hasWork 23 = .ok (.iconst 1, 1) := by decide +kernel
theorem dX8_hasWork_24 : decode cX8_hasWork 24 = .ok (.if_icmp .ne 7, 3) := by decide +kernel
theorem dX8_hasWork_27 : decode cX8_hasWork 27 = .ok (.iconst 1, 1) := by decide +kernel
theorem dX8_hasWork_28 : decode cX8_hasWork 28 = .ok (.goto 4, 3) := by decide +kernel
theorem dX8_hasWork_31 : decode cX8_hasWork 31 = .ok (.iconst 0, 1) := by decide +kernel
theorem dX8_hasWork_32 : decode cX8_hasWork 32 = .ok (.ireturn, 1) := by decide +kernel
theorem dX8_goesOn_0 : decode cX8_goesOn 0 = .ok (.aload_n 0, 1) := by decide +kernel
theorem dX8_goesOn_1 : decode cX8_goesOn 1 = .ok (.getfield 13, 3) := by decide +kernel
theorem dX8_goesOn_4 : decode cX8_goesOn 4 = .ok (.iconst 2, 1) := by decide +kernel
theorem dX8_goesOn_5 : decode cX8_goesOn 5 = .ok (.iaload, 1) := by decide +kernel
theorem dX8_goesOn_6 : decode cX8_goesOn 6 = .ok (.ifCond .le 17, 3) := by decide +kernel
theorem dX8_goesOn_9 : decode cX8_goesOn 9 = .ok (.aload_n 0, 1) := by decide +kernel
theorem dX8_goesOn_10 : decode cX8_goesOn 10 = .ok (.getfield 19, 3) := by decide +kernel
theorem dX8_goesOn_13 : decode cX8_goesOn 13 = .ok (.bipush 6, 2) := by decide +kernel
theorem dX8_goesOn_15 : decode cX8_goesOn 15 = .ok (.iaload, 1) := by decide +kernel
theorem dX8_goesOn_16 : decode cX8_goesOn 16 = .ok (.ifCond .ne 7, 3) := by decide +kernel
theorem dX8_goesOn_19 : decode cX8_goesOn 19 = .ok (.iconst 1, 1) := by decide +kernel
theorem dX8_goesOn_20 : decode cX8_goesOn 20 = .ok (.goto 4, 3) := by decide +kernel
theorem dX8_goesOn_23 : decode cX8_goesOn 23 = .ok (.iconst 0, 1) := by decide +kernel
theorem dX8_goesOn_24 : decode cX8_goesOn 24 = .ok (.ireturn, 1) := by decide +kernel
theorem dX8_mayStay_0 : decode cX8_mayStay 0 = .ok (.aload_n 0, 1) := by decide +kernel
theorem dX8_mayStay_1 : decode cX8_mayStay 1 = .ok (.getfield 19, 3) := by decide +kernel
theorem dX8_mayStay_4 : decode cX8_mayStay 4 = .ok (.iconst 2, 1) := by decide +kernel
theorem dX8_mayStay_5 : decode cX8_mayStay 5 = .ok (.iaload, 1) := by decide +kernel
theorem dX8_mayStay_6 : decode cX8_mayStay 6 = .ok (.aload_n 0, 1) := by decide +kernel
theorem dX8_mayStay_7 : decode cX8_mayStay 7 = .ok (.getfield 13, 3) := by decide +kernel
theorem dX8_mayStay_10 : decode cX8_mayStay 10 = .ok (.iconst 0, 1) := by decide +kernel
theorem dX8_mayStay_11 : decode cX8_mayStay 11 = .ok (.iaload, 1) := by decide +kernel
theorem dX8_mayStay_12 : decode cX8_mayStay 12 = .ok (.if_icmp .ge 7, 3) := by decide +kernel
theorem dX8_mayStay_15 : decode cX8_mayStay 15 = .ok (.iconst 1, 1) := by decide +kernel
theorem dX8_mayStay_16 : decode cX8_mayStay 16 = .ok (.goto 4, 3) := by decide +kernel
theorem dX8_mayStay_19 : decode cX8_mayStay 19 = .ok (.iconst 0, 1) := by decide +kernel
theorem dX8_mayStay_20 : decode cX8_mayStay 20 = .ok (.ireturn, 1) := by decide +kernel
set_option maxRecDepth 20000 in
theorem ggX8_stays_X8_hasWork : GoodIn wsX8_stays wsX8_hasWork := goodIn_m (fun w hw => by
  revert w hw; unfold wsX8_hasWork
  exact am_cons (am_at in_wsX8_stays_0 6 rfl) (am_app (am_cons (am_at in_wsX8_stays_0 1 rfl) am_nil) in_wsX8_stays_1)) gw_wsX8_hasWork
set_option maxRecDepth 20000 in
theorem gX8_stays_X8_hasWork : GoodIn wsX8_stays (wsV RX8 130 RX8 yX8_hasWork wsX8_hasWork) := goodIn_app (goodIn_m (am_cons (am_at in_wsX8_stays_0 2 rfl) (am_cons (am_at in_wsX8_stays_0 3 rfl) (am_cons (am_at in_wsX8_stays_0 4 rfl) (am_cons (am_at in_wsX8_stays_0 5 rfl) am_nil)))) (by decide +kernel)) ggX8_stays_X8_hasWork
theorem dX8_stays_0 : decode cX8_stays 0 = .ok (.aload_n 0, 1) := by decide +kernel
theorem dX8_stays_1 : decode cX8_stays 1 = .ok (.getfield 19, 3) := by decide +kernel
theorem dX8_stays_4 : decode cX8_stays 4 = .ok (.iconst 0, 1) := by decide +kernel
theorem dX8_stays_5 : decode cX8_stays 5 = .ok (.iaload, 1) := by decide +kernel
theorem dX8_stays_6 : decode cX8_stays 6 = .ok (.istore_n 1, 1) := by decide +kernel
theorem dX8_stays_7 : decode cX8_stays 7 = .ok (.aload_n 0, 1) := by decide +kernel
theorem dX8_stays_8 : decode cX8_stays 8 = .ok (.iload_n 1, 1) := by decide +kernel
theorem dX8_stays_9 : decode cX8_stays 9 = .ok (.aload_n 0, 1) := by decide +kernel
theorem dX8_stays_10 : decode cX8_stays 10 = .ok (.getfield 19, 3) := by decide +kernel
theorem dX8_stays_13 : decode cX8_stays 13 = .ok (.iconst 1, 1) := by decide +kernel
theorem dX8_stays_14 : decode cX8_stays 14 = .ok (.iaload, 1) := by decide +kernel
theorem dX8_stays_15 : decode cX8_stays 15 = .ok (.invokevirtual 130, 3) := by decide +kernel
theorem dX8_stays_18 : decode cX8_stays 18 = .ok (.istore_n 2, 1) := by decide +kernel
theorem dX8_stays_19 : decode cX8_stays 19 = .ok (.aload_n 0, 1) := by decide +kernel
theorem dX8_stays_20 : decode cX8_stays 20 = .ok (.getfield 19, 3) := by decide +kernel
theorem dX8_stays_23 : decode cX8_stays 23 = .ok (.iconst 3, 1) := by decide +kernel
theorem dX8_stays_24 : decode cX8_stays 24 = .ok (.dup2, 1) := by decide +kernel
theorem dX8_stays_25 : decode cX8_stays 25 = .ok (.iaload, 1) := by decide +kernel
theorem dX8_stays_26 : decode cX8_stays 26 = .ok (.iload_n 2, 1) := by decide +kernel
theorem dX8_stays_27 : decode cX8_stays 27 = .ok (.ifCond .eq 15, 3) := by decide +kernel
theorem dX8_stays_30 : decode cX8_stays 30 = .ok (.aload_n 0, 1) := by decide +kernel
theorem dX8_stays_31 : decode cX8_stays 31 = .ok (.getfield 13, 3) := by decide +kernel
theorem dX8_stays_34 : decode cX8_stays 34 = .ok (.bipush 20, 2) := by decide +kernel
theorem dX8_stays_36 : decode cX8_stays 36 = .ok (.iload_n 1, 1) := by decide +kernel
theorem dX8_stays_37 : decode cX8_stays 37 = .ok (.iadd, 1) := by decide +kernel
theorem dX8_stays_38 : decode cX8_stays 38 = .ok (.iaload, 1) := by decide +kernel
theorem dX8_stays_39 : decode cX8_stays 39 = .ok (.goto 4, 3) := by decide +kernel
theorem dX8_stays_42 : decode cX8_stays 42 = .ok (.iconst 0, 1) := by decide +kernel
theorem dX8_stays_43 : decode cX8_stays 43 = .ok (.iadd, 1) := by decide +kernel
theorem dX8_stays_44 : decode cX8_stays 44 = .ok (.iastore, 1) := by decide +kernel
theorem dX8_stays_45 : decode cX8_stays 45 = .ok (.aload_n 0, 1) := by decide +kernel
theorem dX8_stays_46 : decode cX8_stays 46 = .ok (.getfield 19, 3) := by decide +kernel
theorem dX8_stays_49 : decode cX8_stays 49 = .ok (.iconst 4, 1) := by decide +kernel
theorem dX8_stays_50 : decode cX8_stays 50 = .ok (.dup2, 1) := by decide +kernel
theorem dX8_stays_51 : decode cX8_stays 51 = .ok (.iaload, 1) := by decide +kernel
theorem dX8_stays_52 : decode cX8_stays 52 = .ok (.iload_n 2, 1) := by decide +kernel
theorem dX8_stays_53 : decode cX8_stays 53 = .ok (.ifCond .eq 9, 3) := by decide +kernel
theorem dX8_stays_56 : decode cX8_stays 56 = .ok (.iconst 1, 1) := by decide +kernel
theorem dX8_stays_57 : decode cX8_stays 57 = .ok (.iload_n 1, 1) := by decide +kernel
theorem dX8_stays_58 : decode cX8_stays 58 = .ok (.ishl, 1) := by decide +kernel
theorem dX8_stays_59 : decode cX8_stays 59 = .ok (.goto 4, 3) := by decide +kernel
theorem dX8_stays_62 : decode cX8_stays 62 = .ok (.iconst 0, 1) := by decide +kernel
theorem dX8_stays_63 : decode cX8_stays 63 = .ok (.ior, 1) := by decide +kernel
theorem dX8_stays_64 : decode cX8_stays 64 = .ok (.iastore, 1) := by decide +kernel
theorem dX8_stays_65 : decode cX8_stays 65 = .ok (.aload_n 0, 1) := by decide +kernel
theorem dX8_stays_66 : decode cX8_stays 66 = .ok (.getfield 19, 3) := by decide +kernel
theorem dX8_stays_69 : decode cX8_stays 69 = .ok (.iconst 2, 1) := by decide +kernel
theorem dX8_stays_70 : decode cX8_stays 70 = .ok (.dup2, 1) := by decide +kernel
theorem dX8_stays_71 : decode cX8_stays 71 = .ok (.iaload, 1) := by decide +kernel
theorem dX8_stays_72 : decode cX8_stays 72 = .ok (.iconst 1, 1) := by decide +kernel
theorem dX8_stays_73 : decode cX8_stays 73 = .ok (.iadd, 1) := by decide +kernel
theorem dX8_stays_74 : decode cX8_stays 74 = .ok (.iastore, 1) := by decide +kernel
theorem dX8_stays_75 : decode cX8_stays 75 = .ok (.aload_n 0, 1) := by decide +kernel
theorem dX8_stays_76 : decode cX8_stays 76 = .ok (.getfield 19, 3) := by decide +kernel
theorem dX8_stays_79 : decode cX8_stays 79 = .ok (.iconst 1, 1) := by decide +kernel
theorem dX8_stays_80 : decode cX8_stays 80 = .ok (.dup2, 1) := by decide +kernel
theorem dX8_stays_81 : decode cX8_stays 81 = .ok (.iaload, 1) := by decide +kernel
theorem dX8_stays_82 : decode cX8_stays 82 = .ok (.iconst 1, 1) := by decide +kernel
theorem dX8_stays_83 : decode cX8_stays 83 = .ok (.iadd, 1) := by decide +kernel
theorem dX8_stays_84 : decode cX8_stays 84 = .ok (.iastore, 1) := by decide +kernel
theorem dX8_stays_85 : decode cX8_stays 85 = .ok (.iload_n 2, 1) := by decide +kernel
theorem dX8_stays_86 : decode cX8_stays 86 = .ok (.ifCond .eq 15, 3) := by decide +kernel
theorem dX8_stays_89 : decode cX8_stays 89 = .ok (.aload_n 0, 1) := by decide +kernel
theorem dX8_stays_90 : decode cX8_stays 90 = .ok (.getfield 13, 3) := by decide +kernel
theorem dX8_stays_93 : decode cX8_stays 93 = .ok (.bipush 20, 2) := by decide +kernel
theorem dX8_stays_95 : decode cX8_stays 95 = .ok (.iload_n 1, 1) := by decide +kernel
theorem dX8_stays_96 : decode cX8_stays 96 = .ok (.iadd, 1) := by decide +kernel
theorem dX8_stays_97 : decode cX8_stays 97 = .ok (.iaload, 1) := by decide +kernel
theorem dX8_stays_98 : decode cX8_stays 98 = .ok (.goto 4, 3) := by decide +kernel
theorem dX8_stays_101 : decode cX8_stays 101 = .ok (.iconst 0, 1) := by decide +kernel
theorem dX8_stays_102 : decode cX8_stays 102 = .ok (.ireturn, 1) := by decide +kernel
theorem dX8_goesTo_0 : decode cX8_goesTo 0 = .ok (.aload_n 0, 1) := by decide +kernel
theorem dX8_goesTo_1 : decode cX8_goesTo 1 = .ok (.getfield 19, 3) := by decide +kernel
theorem dX8_goesTo_4 : decode cX8_goesTo 4 = .ok (.iconst 0, 1) := by decide +kernel
theorem dX8_goesTo_5 : decode cX8_goesTo 5 = .ok (.iload_n 1, 1) := by decide +kernel
theorem dX8_goesTo_6 : decode cX8_goesTo 6 = .ok (.iastore, 1) := by decide +kernel
theorem dX8_goesTo_7 : decode cX8_goesTo 7 = .ok (.aload_n 0, 1) := by decide +kernel
theorem dX8_goesTo_8 : decode cX8_goesTo 8 = .ok (.getfield 19, 3) := by decide +kernel
theorem dX8_goesTo_11 : decode cX8_goesTo 11 = .ok (.iconst 2, 1) := by decide +kernel
theorem dX8_goesTo_12 : decode cX8_goesTo 12 = .ok (.iconst 0, 1) := by decide +kernel
theorem dX8_goesTo_13 : decode cX8_goesTo 13 = .ok (.iastore, 1) := by decide +kernel
theorem dX8_goesTo_14 : decode cX8_goesTo 14 = .ok (.aload_n 0, 1) := by decide +kernel
theorem dX8_goesTo_15 : decode cX8_goesTo 15 = .ok (.getfield 19, 3) := by decide +kernel
theorem dX8_goesTo_18 : decode cX8_goesTo 18 = .ok (.iconst 1, 1) := by decide +kernel
theorem dX8_goesTo_19 : decode cX8_goesTo 19 = .ok (.dup2, 1) := by decide +kernel
theorem dX8_goesTo_20 : decode cX8_goesTo 20 = .ok (.iaload, 1) := by decide +kernel
theorem dX8_goesTo_21 : decode cX8_goesTo 21 = .ok (.iconst 1, 1) := by decide +kernel
theorem dX8_goesTo_22 : decode cX8_goesTo 22 = .ok (.iadd, 1) := by decide +kernel
theorem dX8_goesTo_23 : decode cX8_goesTo 23 = .ok (.iastore, 1) := by decide +kernel
theorem dX8_goesTo_24 : decode cX8_goesTo 24 = .ok (.return_, 1) := by decide +kernel
set_option maxRecDepth 20000 in
theorem ggX8_stay_X8_goesOn : GoodIn wsX8_stay wsX8_goesOn := goodIn_m (fun w hw => by
  revert w hw; unfold wsX8_goesOn
  exact am_cons (am_at in_wsX8_stay_0 7 rfl) (am_app (am_cons (am_at in_wsX8_stay_0 8 rfl) (am_cons (am_at in_wsX8_stay_0 1 rfl) am_nil)) in_wsX8_stay_2)) gw_wsX8_goesOn
set_option maxRecDepth 20000 in
theorem gX8_stay_X8_goesOn : GoodIn wsX8_stay (wsV RX8 133 RX8 yX8_goesOn wsX8_goesOn) := goodIn_app (goodIn_m (am_cons (am_at in_wsX8_stay_0 3 rfl) (am_cons (am_at in_wsX8_stay_0 4 rfl) (am_cons (am_at in_wsX8_stay_0 5 rfl) (am_cons (am_at in_wsX8_stay_0 6 rfl) am_nil)))) (by decide +kernel)) ggX8_stay_X8_goesOn
set_option maxRecDepth 20000 in
theorem ggX8_stay_X8_mayStay : GoodIn wsX8_stay wsX8_mayStay := goodIn_m (fun w hw => by
  revert w hw; unfold wsX8_mayStay
  exact am_cons (am_at in_wsX8_stay_0 12 rfl) (am_app (am_cons (am_at in_wsX8_stay_0 1 rfl) (am_cons (am_at in_wsX8_stay_0 8 rfl) am_nil)) in_wsX8_stay_2)) gw_wsX8_mayStay
set_option maxRecDepth 20000 in
theorem gX8_stay_X8_mayStay : GoodIn wsX8_stay (wsV RX8 136 RX8 yX8_mayStay wsX8_mayStay) := goodIn_app (goodIn_m (am_cons (am_at in_wsX8_stay_0 9 rfl) (am_cons (am_at in_wsX8_stay_0 10 rfl) (am_cons (am_at in_wsX8_stay_0 11 rfl) (am_cons (am_at in_wsX8_stay_0 6 rfl) am_nil)))) (by decide +kernel)) ggX8_stay_X8_mayStay
set_option maxRecDepth 20000 in
theorem ggX8_stay_X8_keeps : GoodIn wsX8_stay wsX8_keeps := goodIn_m (fun w hw => by
  revert w hw; unfold wsX8_keeps
  exact am_cons (am_at in_wsX8_stay_0 16 rfl) (am_app (am_cons (am_at in_wsX8_stay_0 17 rfl) (am_cons (am_at in_wsX8_stay_0 18 rfl) (am_cons (am_at in_wsX8_stay_0 1 rfl) am_nil))) in_wsX8_stay_2)) gw_wsX8_keeps
set_option maxRecDepth 20000 in
theorem gX8_stay_X8_keeps : GoodIn wsX8_stay (wsV RX8 140 RX8 yX8_keeps wsX8_keeps) := goodIn_app (goodIn_m (am_cons (am_at in_wsX8_stay_0 13 rfl) (am_cons (am_at in_wsX8_stay_0 14 rfl) (am_cons (am_at in_wsX8_stay_0 15 rfl) (am_cons (am_at in_wsX8_stay_0 6 rfl) am_nil)))) (by decide +kernel)) ggX8_stay_X8_keeps
set_option maxRecDepth 20000 in
theorem ggX8_stay_X8_stays : GoodIn wsX8_stay wsX8_stays := goodIn_m (fun w hw => by
  revert w hw; unfold wsX8_stays
  exact am_cons (am_at in_wsX8_stay_0 22 rfl) (am_app (am_cons (am_at in_wsX8_stay_0 1 rfl) (am_cons (am_at in_wsX8_stay_0 8 rfl) (am_cons (am_at in_wsX8_stay_0 23 rfl) (am_cons (am_at in_wsX8_stay_1 0 rfl) (am_cons (am_at in_wsX8_stay_1 1 rfl) (am_cons (am_at in_wsX8_stay_0 6 rfl) (am_cons (am_at in_wsX8_stay_1 2 rfl) am_nil))))))) in_wsX8_stay_2)) gw_wsX8_stays
set_option maxRecDepth 20000 in
theorem gX8_stay_X8_stays : GoodIn wsX8_stay (wsV RX8 143 RX8 yX8_stays wsX8_stays) := goodIn_app (goodIn_m (am_cons (am_at in_wsX8_stay_0 19 rfl) (am_cons (am_at in_wsX8_stay_0 20 rfl) (am_cons (am_at in_wsX8_stay_0 21 rfl) (am_cons (am_at in_wsX8_stay_0 6 rfl) am_nil)))) (by decide +kernel)) ggX8_stay_X8_stays
theorem dX8_stay_0 : decode cX8_stay 0 = .ok (.aload_n 0, 1) := by decide +kernel
theorem dX8_stay_1 : decode cX8_stay 1 = .ok (.invokevirtual 133, 3) := by decide +kernel
theorem dX8_stay_4 : decode cX8_stay 4 = .ok (.ifCond .eq 10, 3) := by decide +kernel
theorem dX8_stay_7 : decode cX8_stay 7 = .ok (.aload_n 0, 1) := by decide +kernel
theorem dX8_stay_8 : decode cX8_stay 8 = .ok (.invokevirtual 136, 3) := by decide +kernel
theorem dX8_stay_11 : decode cX8_stay 11 = .ok (.ifCond .ne 6, 3) := by decide +kernel
theorem dX8_stay_14 : decode cX8_stay 14 = .ok (.ldc 139, 2) := by decide +kernel
theorem dX8_stay_16 : decode cX8_stay 16 = .ok (.ireturn, 1) := by decide +kernel
theorem dX8_stay_17 : decode cX8_stay 17 = .ok (.aload_n 0, 1) := by decide +kernel
theorem dX8_stay_18 : decode cX8_stay 18 = .ok (.getfield 19, 3) := by decide +kernel
theorem dX8_stay_21 : decode cX8_stay 21 = .ok (.iconst 1, 1) := by decide +kernel
theorem dX8_stay_22 : decode cX8_stay 22 = .ok (.iaload, 1) := by decide +kernel
theorem dX8_stay_23 : decode cX8_stay 23 = .ok (.sipush 9000, 3) := by decide +kernel
theorem dX8_stay_26 : decode cX8_stay 26 = .ok (.if_icmp .le 6, 3) := by decide +kernel
theorem dX8_stay_29 : decode cX8_stay 29 = .ok (.ldc 63, 2) := by decide +kernel
theorem dX8_stay_31 : decode cX8_stay 31 = .ok (.ireturn, 1) := by decide +kernel
theorem dX8_stay_32 : decode cX8_stay 32 = .ok (.aload_n 0, 1) := by decide +kernel
theorem dX8_stay_33 : decode cX8_stay 33 = .ok (.invokevirtual 140, 3) := by decide +kernel
theorem dX8_stay_36 : decode cX8_stay 36 = .ok (.aload_n 0, 1) := by decide +kernel
theorem dX8_stay_37 : decode cX8_stay 37 = .ok (.invokevirtual 143, 3) := by decide +kernel
theorem dX8_stay_40 : decode cX8_stay 40 = .ok (.ireturn, 1) := by decide +kernel
set_option maxRecDepth 20000 in
theorem ggX8_walk_X8_isTown : GoodIn wsX8_walk wsX8_isTown := goodIn_m (fun w hw => by
  revert w hw; unfold wsX8_isTown
  exact am_cons (am_at in_wsX8_walk_0 8 rfl) (am_app (am_cons (am_at in_wsX8_walk_0 9 rfl) (am_cons (am_at in_wsX8_walk_0 10 rfl) (am_cons (am_at in_wsX8_walk_0 11 rfl) (am_cons (am_at in_wsX8_walk_0 7 rfl) (am_cons (am_at in_wsX8_walk_0 12 rfl) am_nil))))) in_wsX8_walk_2)) gw_wsX8_isTown
set_option maxRecDepth 20000 in
theorem gX8_walk_X8_isTown : GoodIn wsX8_walk (wsV RX8 123 RX8 yX8_isTown wsX8_isTown) := goodIn_app (goodIn_m (am_cons (am_at in_wsX8_walk_0 4 rfl) (am_cons (am_at in_wsX8_walk_0 5 rfl) (am_cons (am_at in_wsX8_walk_0 6 rfl) (am_cons (am_at in_wsX8_walk_0 7 rfl) am_nil)))) (by decide +kernel)) ggX8_walk_X8_isTown
set_option maxRecDepth 20000 in
theorem ggX8_walk_X8_goesOn : GoodIn wsX8_walk wsX8_goesOn := goodIn_m (fun w hw => by
  revert w hw; unfold wsX8_goesOn
  exact am_cons (am_at in_wsX8_walk_0 16 rfl) (am_app (am_cons (am_at in_wsX8_walk_0 9 rfl) (am_cons (am_at in_wsX8_walk_0 1 rfl) am_nil)) in_wsX8_walk_2)) gw_wsX8_goesOn
set_option maxRecDepth 20000 in
theorem gX8_walk_X8_goesOn : GoodIn wsX8_walk (wsV RX8 133 RX8 yX8_goesOn wsX8_goesOn) := goodIn_app (goodIn_m (am_cons (am_at in_wsX8_walk_0 13 rfl) (am_cons (am_at in_wsX8_walk_0 14 rfl) (am_cons (am_at in_wsX8_walk_0 15 rfl) (am_cons (am_at in_wsX8_walk_0 7 rfl) am_nil)))) (by decide +kernel)) ggX8_walk_X8_goesOn
set_option maxRecDepth 20000 in
theorem ggX8_walk_X8_walks : GoodIn wsX8_walk wsX8_walks := goodIn_m (fun w hw => by
  revert w hw; unfold wsX8_walks
  exact am_cons (am_at in_wsX8_walk_0 20 rfl) (am_app (am_cons (am_at in_wsX8_walk_0 9 rfl) (am_cons (am_at in_wsX8_walk_0 21 rfl) (am_cons (am_at in_wsX8_walk_0 22 rfl) (am_cons (am_at in_wsX8_walk_0 23 rfl) (am_cons (am_at in_wsX8_walk_0 7 rfl) (am_cons (am_at in_wsX8_walk_1 0 rfl) (am_cons (am_at in_wsX8_walk_1 1 rfl) (am_cons (am_at in_wsX8_walk_1 2 rfl) (am_cons (am_at in_wsX8_walk_1 3 rfl) (am_cons (am_at in_wsX8_walk_1 4 rfl) am_nil)))))))))) in_wsX8_walk_2)) gw_wsX8_walks
set_option maxRecDepth 20000 in
theorem gX8_walk_X8_walks : GoodIn wsX8_walk (wsV RX8 146 RX8 yX8_walks wsX8_walks) := goodIn_app (goodIn_m (am_cons (am_at in_wsX8_walk_0 17 rfl) (am_cons (am_at in_wsX8_walk_0 18 rfl) (am_cons (am_at in_wsX8_walk_0 19 rfl) (am_cons (am_at in_wsX8_walk_0 7 rfl) am_nil)))) (by decide +kernel)) ggX8_walk_X8_walks
set_option maxRecDepth 20000 in
theorem ggX8_walk_X8_keeps : GoodIn wsX8_walk wsX8_keeps := goodIn_m (fun w hw => by
  revert w hw; unfold wsX8_keeps
  exact am_cons (am_at in_wsX8_walk_1 8 rfl) (am_app (am_cons (am_at in_wsX8_walk_1 9 rfl) (am_cons (am_at in_wsX8_walk_1 10 rfl) (am_cons (am_at in_wsX8_walk_0 1 rfl) am_nil))) in_wsX8_walk_2)) gw_wsX8_keeps
set_option maxRecDepth 20000 in
theorem gX8_walk_X8_keeps : GoodIn wsX8_walk (wsV RX8 140 RX8 yX8_keeps wsX8_keeps) := goodIn_app (goodIn_m (am_cons (am_at in_wsX8_walk_1 5 rfl) (am_cons (am_at in_wsX8_walk_1 6 rfl) (am_cons (am_at in_wsX8_walk_1 7 rfl) (am_cons (am_at in_wsX8_walk_0 7 rfl) am_nil)))) (by decide +kernel)) ggX8_walk_X8_keeps
set_option maxRecDepth 20000 in
theorem ggX8_walk_X8_goesTo : GoodIn wsX8_walk wsX8_goesTo := goodIn_m (fun w hw => by
  revert w hw; unfold wsX8_goesTo
  exact am_cons (am_at in_wsX8_walk_1 14 rfl) (am_app (am_cons (am_at in_wsX8_walk_0 1 rfl) am_nil) in_wsX8_walk_2)) gw_wsX8_goesTo
set_option maxRecDepth 20000 in
theorem gX8_walk_X8_goesTo : GoodIn wsX8_walk (wsV RX8 149 RX8 yX8_goesTo wsX8_goesTo) := goodIn_app (goodIn_m (am_cons (am_at in_wsX8_walk_1 11 rfl) (am_cons (am_at in_wsX8_walk_1 12 rfl) (am_cons (am_at in_wsX8_walk_1 13 rfl) (am_cons (am_at in_wsX8_walk_0 7 rfl) am_nil)))) (by decide +kernel)) ggX8_walk_X8_goesTo
theorem dX8_walk_0 : decode cX8_walk 0 = .ok (.aload_n 0, 1) := by decide +kernel
theorem dX8_walk_1 : decode cX8_walk 1 = .ok (.iload_n 1, 1) := by decide +kernel
theorem dX8_walk_2 : decode cX8_walk 2 = .ok (.invokevirtual 123, 3) := by decide +kernel
theorem dX8_walk_5 : decode cX8_walk 5 = .ok (.ifCond .ne 6, 3) := by decide +kernel
theorem dX8_walk_8 : decode cX8_walk 8 = .ok (.ldc 126, 2) := by decide +kernel
theorem dX8_walk_10 : decode cX8_walk 10 = .ok (.ireturn, 1) := by decide +kernel
theorem dX8_walk_11 : decode cX8_walk 11 = .ok (.aload_n 0, 1) := by decide +kernel
theorem dX8_walk_12 : decode cX8_walk 12 = .ok (.invokevirtual 133, 3) := by decide +kernel
theorem dX8_walk_15 : decode cX8_walk 15 = .ok (.ifCond .eq 26, 3) := by decide +kernel
theorem dX8_walk_18 : decode cX8_walk 18 = .ok (.aload_n 0, 1) := by decide +kernel
theorem dX8_walk_19 : decode cX8_walk 19 = .ok (.aload_n 0, 1) := by decide +kernel
theorem dX8_walk_20 : decode cX8_walk 20 = .ok (.getfield 19, 3) := by decide +kernel
theorem dX8_walk_23 : decode cX8_walk 23 = .ok (.iconst 0, 1) := by decide +kernel
theorem dX8_walk_24 : decode cX8_walk 24 = .ok (.iaload, 1) := by decide +kernel
theorem dX8_walk_25 : decode cX8_walk 25 = .ok (.aload_n 0, 1) := by decide +kernel
theorem dX8_walk_26 : decode cX8_walk 26 = .ok (.getfield 19, 3) := by decide +kernel
theorem dX8_walk_29 : decode cX8_walk 29 = .ok (.iconst 5, 1) := by decide +kernel
theorem dX8_walk_30 : decode cX8_walk 30 = .ok (.iaload, 1) := by decide +kernel
theorem dX8_walk_31 : decode cX8_walk 31 = .ok (.invokevirtual 146, 3) := by decide +kernel
theorem dX8_walk_34 : decode cX8_walk 34 = .ok (.iload_n 1, 1) := by decide +kernel
theorem dX8_walk_35 : decode cX8_walk 35 = .ok (.ishr, 1) := by decide +kernel
theorem dX8_walk_36 : decode cX8_walk 36 = .ok (.iconst 1, 1) := by decide +kernel
theorem dX8_walk_37 : decode cX8_walk 37 = .ok (.iand, 1) := by decide +kernel
theorem dX8_walk_38 : decode cX8_walk 38 = .ok (.ifCond .ne 6, 3) := by decide +kernel
theorem dX8_walk_41 : decode cX8_walk 41 = .ok (.ldc 139, 2) := by decide +kernel
theorem dX8_walk_43 : decode cX8_walk 43 = .ok (.ireturn, 1) := by decide +kernel
theorem dX8_walk_44 : decode cX8_walk 44 = .ok (.aload_n 0, 1) := by decide +kernel
theorem dX8_walk_45 : decode cX8_walk 45 = .ok (.getfield 19, 3) := by decide +kernel
theorem dX8_walk_48 : decode cX8_walk 48 = .ok (.iconst 1, 1) := by decide +kernel
theorem dX8_walk_49 : decode cX8_walk 49 = .ok (.iaload, 1) := by decide +kernel
theorem dX8_walk_50 : decode cX8_walk 50 = .ok (.sipush 9000, 3) := by decide +kernel
theorem dX8_walk_53 : decode cX8_walk 53 = .ok (.if_icmp .le 6, 3) := by decide +kernel
theorem dX8_walk_56 : decode cX8_walk 56 = .ok (.ldc 63, 2) := by decide +kernel
theorem dX8_walk_58 : decode cX8_walk 58 = .ok (.ireturn, 1) := by decide +kernel
theorem dX8_walk_59 : decode cX8_walk 59 = .ok (.aload_n 0, 1) := by decide +kernel
theorem dX8_walk_60 : decode cX8_walk 60 = .ok (.invokevirtual 140, 3) := by decide +kernel
theorem dX8_walk_63 : decode cX8_walk 63 = .ok (.aload_n 0, 1) := by decide +kernel
theorem dX8_walk_64 : decode cX8_walk 64 = .ok (.iload_n 1, 1) := by decide +kernel
theorem dX8_walk_65 : decode cX8_walk 65 = .ok (.invokevirtual 149, 3) := by decide +kernel
theorem dX8_walk_68 : decode cX8_walk 68 = .ok (.aload_n 0, 1) := by decide +kernel
theorem dX8_walk_69 : decode cX8_walk 69 = .ok (.getfield 19, 3) := by decide +kernel
theorem dX8_walk_72 : decode cX8_walk 72 = .ok (.iconst 1, 1) := by decide +kernel
theorem dX8_walk_73 : decode cX8_walk 73 = .ok (.iaload, 1) := by decide +kernel
theorem dX8_walk_74 : decode cX8_walk 74 = .ok (.ireturn, 1) := by decide +kernel
set_option maxRecDepth 20000 in
theorem ggX8_war_X8_isRoad : GoodIn wsX8_war wsX8_isRoad := goodIn_m (fun w hw => by
  revert w hw; unfold wsX8_isRoad
  exact am_cons (am_at in_wsX8_war_0 6 rfl) (am_app (am_cons (am_at in_wsX8_war_0 7 rfl) (am_cons (am_at in_wsX8_war_0 8 rfl) (am_cons (am_at in_wsX8_war_0 9 rfl) (am_cons (am_at in_wsX8_war_0 5 rfl) (am_cons (am_at in_wsX8_war_0 10 rfl) am_nil))))) in_wsX8_war_1)) gw_wsX8_isRoad
set_option maxRecDepth 20000 in
theorem gX8_war_X8_isRoad : GoodIn wsX8_war (wsV RX8 127 RX8 yX8_isRoad wsX8_isRoad) := goodIn_app (goodIn_m (am_cons (am_at in_wsX8_war_0 2 rfl) (am_cons (am_at in_wsX8_war_0 3 rfl) (am_cons (am_at in_wsX8_war_0 4 rfl) (am_cons (am_at in_wsX8_war_0 5 rfl) am_nil)))) (by decide +kernel)) ggX8_war_X8_isRoad
set_option maxRecDepth 20000 in
theorem ggX8_war_X8_keeps : GoodIn wsX8_war wsX8_keeps := goodIn_m (fun w hw => by
  revert w hw; unfold wsX8_keeps
  exact am_cons (am_at in_wsX8_war_0 14 rfl) (am_app (am_cons (am_at in_wsX8_war_0 15 rfl) (am_cons (am_at in_wsX8_war_0 16 rfl) (am_cons (am_at in_wsX8_war_0 1 rfl) am_nil))) in_wsX8_war_1)) gw_wsX8_keeps
set_option maxRecDepth 20000 in
theorem gX8_war_X8_keeps : GoodIn wsX8_war (wsV RX8 140 RX8 yX8_keeps wsX8_keeps) := goodIn_app (goodIn_m (am_cons (am_at in_wsX8_war_0 11 rfl) (am_cons (am_at in_wsX8_war_0 12 rfl) (am_cons (am_at in_wsX8_war_0 13 rfl) (am_cons (am_at in_wsX8_war_0 5 rfl) am_nil)))) (by decide +kernel)) ggX8_war_X8_keeps
theorem dX8_war_0 : decode cX8_war 0 = .ok (.aload_n 0, 1) := by decide +kernel
theorem dX8_war_1 : decode cX8_war 1 = .ok (.iload_n 1, 1) := by decide +kernel
theorem dX8_war_2 : decode cX8_war 2 = .ok (.invokevirtual 127, 3) := by decide +kernel
theorem dX8_war_5 : decode cX8_war 5 = .ok (.ifCond .ne 6, 3) := by decide +kernel
theorem dX8_war_8 : decode cX8_war 8 = .ok (.ldc 126, 2) := by decide +kernel
theorem dX8_war_10 : decode cX8_war 10 = .ok (.ireturn, 1) := by decide +kernel
theorem dX8_war_11 : decode cX8_war 11 = .ok (.aload_n 0, 1) := by decide +kernel
theorem dX8_war_12 : decode cX8_war 12 = .ok (.invokevirtual 140, 3) := by decide +kernel
theorem dX8_war_15 : decode cX8_war 15 = .ok (.aload_n 0, 1) := by decide +kernel
theorem dX8_war_16 : decode cX8_war 16 = .ok (.getfield 19, 3) := by decide +kernel
theorem dX8_war_19 : decode cX8_war 19 = .ok (.iconst 5, 1) := by decide +kernel
theorem dX8_war_20 : decode cX8_war 20 = .ok (.iaload, 1) := by decide +kernel
theorem dX8_war_21 : decode cX8_war 21 = .ok (.iload_n 1, 1) := by decide +kernel
theorem dX8_war_22 : decode cX8_war 22 = .ok (.ishr, 1) := by decide +kernel
theorem dX8_war_23 : decode cX8_war 23 = .ok (.iconst 1, 1) := by decide +kernel
theorem dX8_war_24 : decode cX8_war 24 = .ok (.iand, 1) := by decide +kernel
theorem dX8_war_25 : decode cX8_war 25 = .ok (.istore_n 3, 1) := by decide +kernel
theorem dX8_war_26 : decode cX8_war 26 = .ok (.aload_n 0, 1) := by decide +kernel
theorem dX8_war_27 : decode cX8_war 27 = .ok (.getfield 19, 3) := by decide +kernel
theorem dX8_war_30 : decode cX8_war 30 = .ok (.iconst 5, 1) := by decide +kernel
theorem dX8_war_31 : decode cX8_war 31 = .ok (.iload_n 2, 1) := by decide +kernel
theorem dX8_war_32 : decode cX8_war 32 = .ok (.ifCond .eq 16, 3) := by decide +kernel
theorem dX8_war_35 : decode cX8_war 35 = .ok (.aload_n 0, 1) := by decide +kernel
theorem dX8_war_36 : decode cX8_war 36 = .ok (.getfield 19, 3) := by decide +kernel
theorem dX8_war_39 : decode cX8_war 39 = .ok (.iconst 5, 1) := by decide +kernel
theorem dX8_war_40 : decode cX8_war 40 = .ok (.iaload, 1) := by decide +kernel
theorem dX8_war_41 : decode cX8_war 41 = .ok (.iconst 1, 1) := by decide +kernel
theorem dX8_war_42 : decode cX8_war 42 = .ok (.iload_n 1, 1) := by decide +kernel
theorem dX8_war_43 : decode cX8_war 43 = .ok (.ishl, 1) := by decide +kernel
theorem dX8_war_44 : decode cX8_war 44 = .ok (.ior, 1) := by decide +kernel
theorem dX8_war_45 : decode cX8_war 45 = .ok (.goto 15, 3) := by decide +kernel
theorem dX8_war_48 : decode cX8_war 48 = .ok (.aload_n 0, 1) := by decide +kernel
theorem dX8_war_49 : decode cX8_war 49 = .ok (.getfield 19, 3) := by decide +kernel
theorem dX8_war_52 : decode cX8_war 52 = .ok (.iconst 5, 1) := by decide +kernel
theorem dX8_war_53 : decode cX8_war 53 = .ok (.iaload, 1) := by decide +kernel
theorem dX8_war_54 : decode cX8_war 54 = .ok (.iconst 1, 1) := by decide +kernel
theorem dX8_war_55 : decode cX8_war 55 = .ok (.iload_n 1, 1) := by decide +kernel
theorem dX8_war_56 : decode cX8_war 56 = .ok (.ishl, 1) := by decide +kernel
theorem dX8_war_57 : decode cX8_war 57 = .ok (.iconst (-1), 1) := by decide +kernel
theorem dX8_war_58 : decode cX8_war 58 = .ok (.ixor, 1) := by decide +kernel
theorem dX8_war_59 : decode cX8_war 59 = .ok (.iand, 1) := by decide +kernel
theorem dX8_war_60 : decode cX8_war 60 = .ok (.iastore, 1) := by decide +kernel
theorem dX8_war_61 : decode cX8_war 61 = .ok (.iload_n 3, 1) := by decide +kernel
theorem dX8_war_62 : decode cX8_war 62 = .ok (.ireturn, 1) := by decide +kernel
set_option maxRecDepth 20000 in
theorem ggX8_home_X8_goesOn : GoodIn wsX8_home wsX8_goesOn := goodIn_m (fun w hw => by
  revert w hw; unfold wsX8_goesOn
  exact am_cons (am_at in_wsX8_home_0 6 rfl) (am_app (am_cons (am_at in_wsX8_home_0 7 rfl) (am_cons (am_at in_wsX8_home_0 0 rfl) am_nil)) in_wsX8_home_1)) gw_wsX8_goesOn
set_option maxRecDepth 20000 in
theorem gX8_home_X8_goesOn : GoodIn wsX8_home (wsV RX8 133 RX8 yX8_goesOn wsX8_goesOn) := goodIn_app (goodIn_m (am_cons (am_at in_wsX8_home_0 2 rfl) (am_cons (am_at in_wsX8_home_0 3 rfl) (am_cons (am_at in_wsX8_home_0 4 rfl) (am_cons (am_at in_wsX8_home_0 5 rfl) am_nil)))) (by decide +kernel)) ggX8_home_X8_goesOn
set_option maxRecDepth 20000 in
theorem ggX8_home_X8_keeps : GoodIn wsX8_home wsX8_keeps := goodIn_m (fun w hw => by
  revert w hw; unfold wsX8_keeps
  exact am_cons (am_at in_wsX8_home_0 11 rfl) (am_app (am_cons (am_at in_wsX8_home_0 12 rfl) (am_cons (am_at in_wsX8_home_0 13 rfl) (am_cons (am_at in_wsX8_home_0 0 rfl) am_nil))) in_wsX8_home_1)) gw_wsX8_keeps
set_option maxRecDepth 20000 in
theorem gX8_home_X8_keeps : GoodIn wsX8_home (wsV RX8 140 RX8 yX8_keeps wsX8_keeps) := goodIn_app (goodIn_m (am_cons (am_at in_wsX8_home_0 8 rfl) (am_cons (am_at in_wsX8_home_0 9 rfl) (am_cons (am_at in_wsX8_home_0 10 rfl) (am_cons (am_at in_wsX8_home_0 5 rfl) am_nil)))) (by decide +kernel)) ggX8_home_X8_keeps
theorem dX8_home_0 : decode cX8_home 0 = .ok (.aload_n 0, 1) := by decide +kernel
theorem dX8_home_1 : decode cX8_home 1 = .ok (.invokevirtual 133, 3) := by decide +kernel
theorem dX8_home_4 : decode cX8_home 4 = .ok (.ifCond .eq 14, 3) := by decide +kernel
theorem dX8_home_7 : decode cX8_home 7 = .ok (.aload_n 0, 1) := by decide +kernel
theorem dX8_home_8 : decode cX8_home 8 = .ok (.getfield 19, 3) := by decide +kernel
theorem dX8_home_11 : decode cX8_home 11 = .ok (.iconst 1, 1) := by decide +kernel
theorem dX8_home_12 : decode cX8_home 12 = .ok (.iaload, 1) := by decide +kernel
theorem dX8_home_13 : decode cX8_home 13 = .ok (.bipush 36, 2) := by decide +kernel
theorem dX8_home_15 : decode cX8_home 15 = .ok (.if_icmp .ge 6, 3) := by decide +kernel
theorem dX8_home_18 : decode cX8_home 18 = .ok (.ldc 139, 2) := by decide +kernel
theorem dX8_home_20 : decode cX8_home 20 = .ok (.ireturn, 1) := by decide +kernel
theorem dX8_home_21 : decode cX8_home 21 = .ok (.aload_n 0, 1) := by decide +kernel
theorem dX8_home_22 : decode cX8_home 22 = .ok (.invokevirtual 140, 3) := by decide +kernel
theorem dX8_home_25 : decode cX8_home 25 = .ok (.aload_n 0, 1) := by decide +kernel
theorem dX8_home_26 : decode cX8_home 26 = .ok (.getfield 19, 3) := by decide +kernel
theorem dX8_home_29 : decode cX8_home 29 = .ok (.bipush 6, 2) := by decide +kernel
theorem dX8_home_31 : decode cX8_home 31 = .ok (.iconst 1, 1) := by decide +kernel
theorem dX8_home_32 : decode cX8_home 32 = .ok (.iastore, 1) := by decide +kernel
theorem dX8_home_33 : decode cX8_home 33 = .ok (.aload_n 0, 1) := by decide +kernel
theorem dX8_home_34 : decode cX8_home 34 = .ok (.getfield 19, 3) := by decide +kernel
theorem dX8_home_37 : decode cX8_home 37 = .ok (.iconst 3, 1) := by decide +kernel
theorem dX8_home_38 : decode cX8_home 38 = .ok (.iaload, 1) := by decide +kernel
theorem dX8_home_39 : decode cX8_home 39 = .ok (.ireturn, 1) := by decide +kernel
theorem dX8_draw_0 : decode cX8_draw 0 = .ok (.aload_n 0, 1) := by decide +kernel
theorem dX8_draw_1 : decode cX8_draw 1 = .ok (.getfield 153, 3) := by decide +kernel
theorem dX8_draw_4 : decode cX8_draw 4 = .ok (.i2l, 1) := by decide +kernel
theorem dX8_draw_5 : decode cX8_draw 5 = .ok (.ldc2_w 156, 3) := by decide +kernel
theorem dX8_draw_8 : decode cX8_draw 8 = .ok (.lmul, 1) := by decide +kernel
theorem dX8_draw_9 : decode cX8_draw 9 = .ok (.ldc2_w 158, 3) := by decide +kernel
theorem dX8_draw_12 : decode cX8_draw 12 = .ok (.ladd, 1) := by decide +kernel
theorem dX8_draw_13 : decode cX8_draw 13 = .ok (.ldc2_w 160, 3) := by decide +kernel
theorem dX8_draw_16 : decode cX8_draw 16 = .ok (.lrem, 1) := by decide +kernel
theorem dX8_draw_17 : decode cX8_draw 17 = .ok (.lstore_n 2, 1) := by decide +kernel
theorem dX8_draw_18 : decode cX8_draw 18 = .ok (.aload_n 0, 1) := by decide +kernel
theorem dX8_draw_19 : decode cX8_draw 19 = .ok (.lload_n 2, 1) := by decide +kernel
theorem dX8_draw_20 : decode cX8_draw 20 = .ok (.l2i, 1) := by decide +kernel
theorem dX8_draw_21 : decode cX8_draw 21 = .ok (.putfield 153, 3) := by decide +kernel
theorem dX8_draw_24 : decode cX8_draw 24 = .ok (.lload_n 2, 1) := by decide +kernel
theorem dX8_draw_25 : decode cX8_draw 25 = .ok (.ldc2_w 162, 3) := by decide +kernel
theorem dX8_draw_28 : decode cX8_draw 28 = .ok (.ldiv, 1) := by decide +kernel
theorem dX8_draw_29 : decode cX8_draw 29 = .ok (.l2i, 1) := by decide +kernel
theorem dX8_draw_30 : decode cX8_draw 30 = .ok (.iload_n 1, 1) := by decide +kernel
theorem dX8_draw_31 : decode cX8_draw 31 = .ok (.irem, 1) := by decide +kernel
theorem dX8_draw_32 : decode cX8_draw 32 = .ok (.ireturn, 1) := by decide +kernel
theorem dX8_least_0 : decode cX8_least 0 = .ok (.iconst (-1), 1) := by decide +kernel
theorem dX8_least_1 : decode cX8_least 1 = .ok (.istore_n 1, 1) := by decide +kernel
theorem dX8_least_2 : decode cX8_least 2 = .ok (.bipush 7, 2) := by decide +kernel
theorem dX8_least_4 : decode cX8_least 4 = .ok (.istore_n 2, 1) := by decide +kernel
theorem dX8_least_5 : decode cX8_least 5 = .ok (.iload_n 2, 1) := by decide +kernel
theorem dX8_least_6 : decode cX8_least 6 = .ok (.ifCond .lt 24, 3) := by decide +kernel
theorem dX8_least_9 : decode cX8_least 9 = .ok (.iload_n 0, 1) := by decide +kernel
theorem dX8_least_10 : decode cX8_least 10 = .ok (.iload_n 2, 1) := by decide +kernel
theorem dX8_least_11 : decode cX8_least 11 = .ok (.ishr, 1) := by decide +kernel
theorem dX8_least_12 : decode cX8_least 12 = .ok (.iconst 1, 1) := by decide +kernel
theorem dX8_least_13 : decode cX8_least 13 = .ok (.iand, 1) := by decide +kernel
theorem dX8_least_14 : decode cX8_least 14 = .ok (.iconst 1, 1) := by decide +kernel
theorem dX8_least_15 : decode cX8_least 15 = .ok (.if_icmp .ne 7, 3) := by decide +kernel
theorem dX8_least_18 : decode cX8_least 18 = .ok (.iload_n 2, 1) := by decide +kernel
theorem dX8_least_19 : decode cX8_least 19 = .ok (.goto 4, 3) := by decide +kernel
theorem dX8_least_22 : decode cX8_least 22 = .ok (.iload_n 1, 1) := by decide +kernel
theorem dX8_least_23 : decode cX8_least 23 = .ok (.istore_n 1, 1) := by decide +kernel
theorem dX8_least_24 : decode cX8_least 24 = .ok (.iinc 2 (-1), 3) := by decide +kernel
theorem dX8_least_27 : decode cX8_least 27 = .ok (.goto (-22), 3) := by decide +kernel
theorem dX8_least_30 : decode cX8_least 30 = .ok (.iload_n 1, 1) := by decide +kernel
theorem dX8_least_31 : decode cX8_least 31 = .ok (.ireturn, 1) := by decide +kernel
set_option maxRecDepth 20000 in
theorem ggX8_drifts_X8_draw : GoodIn wsX8_drifts wsX8_draw := goodIn_m (fun w hw => by
  revert w hw; unfold wsX8_draw
  exact am_cons (am_at in_wsX8_drifts_0 6 rfl) (am_app (am_cons (am_at in_wsX8_drifts_0 7 rfl) (am_cons (am_at in_wsX8_drifts_0 8 rfl) (am_cons (am_at in_wsX8_drifts_0 9 rfl) (am_cons (am_at in_wsX8_drifts_0 10 rfl) (am_cons (am_at in_wsX8_drifts_0 11 rfl) am_nil))))) in_wsX8_drifts_2)) gw_wsX8_draw
set_option maxRecDepth 20000 in
theorem gX8_drifts_X8_draw : GoodIn wsX8_drifts (wsV RX8 164 RX8 yX8_draw wsX8_draw) := goodIn_app (goodIn_m (am_cons (am_at in_wsX8_drifts_0 2 rfl) (am_cons (am_at in_wsX8_drifts_0 3 rfl) (am_cons (am_at in_wsX8_drifts_0 4 rfl) (am_cons (am_at in_wsX8_drifts_0 5 rfl) am_nil)))) (by decide +kernel)) ggX8_drifts_X8_draw
set_option maxRecDepth 20000 in
theorem ggX8_drifts_X8_mayStay : GoodIn wsX8_drifts wsX8_mayStay := goodIn_m (fun w hw => by
  revert w hw; unfold wsX8_mayStay
  exact am_cons (am_at in_wsX8_drifts_0 15 rfl) (am_app (am_cons (am_at in_wsX8_drifts_0 1 rfl) (am_cons (am_at in_wsX8_drifts_0 0 rfl) am_nil)) in_wsX8_drifts_2)) gw_wsX8_mayStay
set_option maxRecDepth 20000 in
theorem gX8_drifts_X8_mayStay : GoodIn wsX8_drifts (wsV RX8 136 RX8 yX8_mayStay wsX8_mayStay) := goodIn_app (goodIn_m (am_cons (am_at in_wsX8_drifts_0 12 rfl) (am_cons (am_at in_wsX8_drifts_0 13 rfl) (am_cons (am_at in_wsX8_drifts_0 14 rfl) (am_cons (am_at in_wsX8_drifts_0 5 rfl) am_nil)))) (by decide +kernel)) ggX8_drifts_X8_mayStay
set_option maxRecDepth 20000 in
theorem ggX8_drifts_X8_walks : GoodIn wsX8_drifts wsX8_walks := goodIn_m (fun w hw => by
  revert w hw; unfold wsX8_walks
  exact am_cons (am_at in_wsX8_drifts_0 19 rfl) (am_app (am_cons (am_at in_wsX8_drifts_0 0 rfl) (am_cons (am_at in_wsX8_drifts_0 20 rfl) (am_cons (am_at in_wsX8_drifts_0 21 rfl) (am_cons (am_at in_wsX8_drifts_0 22 rfl) (am_cons (am_at in_wsX8_drifts_0 5 rfl) (am_cons (am_at in_wsX8_drifts_0 23 rfl) (am_cons (am_at in_wsX8_drifts_1 0 rfl) (am_cons (am_at in_wsX8_drifts_1 1 rfl) (am_cons (am_at in_wsX8_drifts_1 2 rfl) (am_cons (am_at in_wsX8_drifts_1 3 rfl) am_nil)))))))))) in_wsX8_drifts_2)) gw_wsX8_walks
set_option maxRecDepth 20000 in
theorem gX8_drifts_X8_walks : GoodIn wsX8_drifts (wsV RX8 146 RX8 yX8_walks wsX8_walks) := goodIn_app (goodIn_m (am_cons (am_at in_wsX8_drifts_0 16 rfl) (am_cons (am_at in_wsX8_drifts_0 17 rfl) (am_cons (am_at in_wsX8_drifts_0 18 rfl) (am_cons (am_at in_wsX8_drifts_0 5 rfl) am_nil)))) (by decide +kernel)) ggX8_drifts_X8_walks
set_option maxRecDepth 20000 in
theorem ggX8_drifts_X8_least : GoodIn wsX8_drifts wsX8_least := goodIn_m (fun w hw => by
  revert w hw; unfold wsX8_least
  exact am_cons (am_at in_wsX8_drifts_1 6 rfl) am_nil) gw_wsX8_least
set_option maxRecDepth 20000 in
theorem gX8_drifts_X8_least : GoodIn wsX8_drifts (va_wsS RX8 168 yX8_least wsX8_least) := goodIn_app (goodIn_m (am_cons (am_at in_wsX8_drifts_1 4 rfl) (am_cons (am_at in_wsX8_drifts_1 5 rfl) (am_cons (am_at in_wsX8_drifts_0 5 rfl) am_nil))) (by decide +kernel)) ggX8_drifts_X8_least
set_option maxRecDepth 20000 in
theorem ggX8_drifts_X8_stays : GoodIn wsX8_drifts wsX8_stays := goodIn_m (fun w hw => by
  revert w hw; unfold wsX8_stays
  exact am_cons (am_at in_wsX8_drifts_1 10 rfl) (am_app (am_cons (am_at in_wsX8_drifts_0 1 rfl) (am_cons (am_at in_wsX8_drifts_0 0 rfl) (am_cons (am_at in_wsX8_drifts_1 11 rfl) (am_cons (am_at in_wsX8_drifts_1 12 rfl) (am_cons (am_at in_wsX8_drifts_1 13 rfl) (am_cons (am_at in_wsX8_drifts_0 5 rfl) (am_cons (am_at in_wsX8_drifts_1 14 rfl) am_nil))))))) in_wsX8_drifts_2)) gw_wsX8_stays
set_option maxRecDepth 20000 in
theorem gX8_drifts_X8_stays : GoodIn wsX8_drifts (wsV RX8 143 RX8 yX8_stays wsX8_stays) := goodIn_app (goodIn_m (am_cons (am_at in_wsX8_drifts_1 7 rfl) (am_cons (am_at in_wsX8_drifts_1 8 rfl) (am_cons (am_at in_wsX8_drifts_1 9 rfl) (am_cons (am_at in_wsX8_drifts_0 5 rfl) am_nil)))) (by decide +kernel)) ggX8_drifts_X8_stays
set_option maxRecDepth 20000 in
theorem ggX8_drifts_X8_goesTo : GoodIn wsX8_drifts wsX8_goesTo := goodIn_m (fun w hw => by
  revert w hw; unfold wsX8_goesTo
  exact am_cons (am_at in_wsX8_drifts_1 18 rfl) (am_app (am_cons (am_at in_wsX8_drifts_0 1 rfl) am_nil) in_wsX8_drifts_2)) gw_wsX8_goesTo
set_option maxRecDepth 20000 in
theorem gX8_drifts_X8_goesTo : GoodIn wsX8_drifts (wsV RX8 149 RX8 yX8_goesTo wsX8_goesTo) := goodIn_app (goodIn_m (am_cons (am_at in_wsX8_drifts_1 15 rfl) (am_cons (am_at in_wsX8_drifts_1 16 rfl) (am_cons (am_at in_wsX8_drifts_1 17 rfl) (am_cons (am_at in_wsX8_drifts_0 5 rfl) am_nil)))) (by decide +kernel)) ggX8_drifts_X8_goesTo
theorem dX8_drifts_0 : decode cX8_drifts 0 = .ok (.aload_n 0, 1) := by decide +kernel
theorem dX8_drifts_1 : decode cX8_drifts 1 = .ok (.iconst 4, 1) := by decide +kernel
theorem dX8_drifts_2 : decode cX8_drifts 2 = .ok (.invokevirtual 164, 3) := by decide +kernel
theorem dX8_drifts_5 : decode cX8_drifts 5 = .ok (.ifCond .ne 33, 3) := by decide +kernel
theorem dX8_drifts_8 : decode cX8_drifts 8 = .ok (.aload_n 0, 1) := by decide +kernel
theorem dX8_drifts_9 : decode cX8_drifts 9 = .ok (.getfield 13, 3) := by decide +kernel
theorem dX8_drifts_12 : decode cX8_drifts 12 = .ok (.iconst 3, 1) := by decide +kernel
theorem dX8_drifts_13 : decode cX8_drifts 13 = .ok (.iaload, 1) := by decide +kernel
theorem dX8_drifts_14 : decode cX8_drifts 14 = .ok (.ifCond .le 24, 3) := by decide +kernel
theorem dX8_drifts_17 : decode cX8_drifts 17 = .ok (.aload_n 0, 1) := by decide +kernel
theorem dX8_drifts_18 : decode cX8_drifts 18 = .ok (.getfield 19, 3) := by decide +kernel
theorem dX8_drifts_21 : decode cX8_drifts 21 = .ok (.iconst 5, 1) := by decide +kernel
theorem dX8_drifts_22 : decode cX8_drifts 22 = .ok (.dup2, 1) := by decide +kernel
theorem dX8_drifts_23 : decode cX8_drifts 23 = .ok (.iaload, 1) := by decide +kernel
theorem dX8_drifts_24 : decode cX8_drifts 24 = .ok (.iconst 1, 1) := by decide +kernel
theorem dX8_drifts_25 : decode cX8_drifts 25 = .ok (.aload_n 0, 1) := by decide +kernel
theorem dX8_drifts_26 : decode cX8_drifts 26 = .ok (.aload_n 0, 1) := by decide +kernel
theorem dX8_drifts_27 : decode cX8_drifts 27 = .ok (.getfield 13, 3) := by decide +kernel
theorem dX8_drifts_30 : decode cX8_drifts 30 = .ok (.iconst 3, 1) := by decide +kernel
theorem dX8_drifts_31 : decode cX8_drifts 31 = .ok (.iaload, 1) := by decide +kernel
theorem dX8_drifts_32 : decode cX8_drifts 32 = .ok (.invokevirtual 164, 3) := by decide +kernel
theorem dX8_drifts_35 : decode cX8_drifts 35 = .ok (.ishl, 1) := by decide +kernel
theorem dX8_drifts_36 : decode cX8_drifts 36 = .ok (.ixor, 1) := by decide +kernel
theorem dX8_drifts_37 : decode cX8_drifts 37 = .ok (.iastore, 1) := by decide +kernel
theorem dX8_drifts_38 : decode cX8_drifts 38 = .ok (.aload_n 0, 1) := by decide +kernel
theorem dX8_drifts_39 : decode cX8_drifts 39 = .ok (.iconst 2, 1) := by decide +kernel
theorem dX8_drifts_40 : decode cX8_drifts 40 = .ok (.invokevirtual 164, 3) := by decide +kernel
theorem dX8_drifts_43 : decode cX8_drifts 43 = .ok (.ifCond .ne 14, 3) := by decide +kernel
theorem dX8_drifts_46 : decode cX8_drifts 46 = .ok (.aload_n 0, 1) := by decide +kernel
theorem dX8_drifts_47 : decode cX8_drifts 47 = .ok (.invokevirtual 136, 3) := by decide +kernel
theorem dX8_drifts_50 : decode cX8_drifts 50 = .ok (.ifCond .eq 7, 3) := by decide +kernel
theorem dX8_drifts_53 : decode cX8_drifts 53 = .ok (.iconst 1, 1) := by decide +kernel
theorem dX8_drifts_54 : decode cX8_drifts 54 = .ok (.goto 4, 3) := by decide +kernel
theorem dX8_drifts_57 : decode cX8_drifts 57 = .ok (.iconst 0, 1) := by decide +kernel
theorem dX8_drifts_58 : decode cX8_drifts 58 = .ok (.istore_n 1, 1) := by decide +kernel
theorem dX8_drifts_59 : decode cX8_drifts 59 = .ok (.aload_n 0, 1) := by decide +kernel
theorem dX8_drifts_60 : decode cX8_drifts 60 = .ok (.aload_n 0, 1) := by decide +kernel
theorem dX8_drifts_61 : decode cX8_drifts 61 = .ok (.getfield 19, 3) := by decide +kernel
theorem dX8_drifts_64 : decode cX8_drifts 64 = .ok (.iconst 0, 1) := by decide +kernel
theorem dX8_drifts_65 : decode cX8_drifts 65 = .ok (.iaload, 1) := by decide +kernel
theorem dX8_drifts_66 : decode cX8_drifts 66 = .ok (.aload_n 0, 1) := by decide +kernel
theorem dX8_drifts_67 : decode cX8_drifts 67 = .ok (.getfield 19, 3) := by decide +kernel
theorem dX8_drifts_70 : decode cX8_drifts 70 = .ok (.iconst 5, 1) := by decide +kernel
theorem dX8_drifts_71 : decode cX8_drifts 71 = .ok (.iaload, 1) := by decide +kernel
theorem dX8_drifts_72 : decode cX8_drifts 72 = .ok (.invokevirtual 146, 3) := by decide +kernel
theorem dX8_drifts_75 : decode cX8_drifts 75 = .ok (.invokestatic 168, 3) := by decide +kernel
theorem dX8_drifts_78 : decode cX8_drifts 78 = .ok (.istore_n 2, 1) := by decide +kernel
theorem dX8_drifts_79 : decode cX8_drifts 79 = .ok (.iload_n 1, 1) := by decide +kernel
theorem dX8_drifts_80 : decode cX8_drifts 80 = .ok (.ifCond .eq 11, 3) := by decide +kernel
theorem dX8_drifts_83 : decode cX8_drifts 83 = .ok (.aload_n 0, 1) := by decide +kernel
theorem dX8_drifts_84 : decode cX8_drifts 84 = .ok (.invokevirtual 143, 3) := by decide +kernel
theorem dX8_drifts_87 : decode cX8_drifts 87 = .ok (.pop, 1) := by decide +kernel
theorem dX8_drifts_88 : decode cX8_drifts 88 = .ok (.goto 13, 3) := by decide +kernel
theorem dX8_drifts_91 : decode cX8_drifts 91 = .ok (.iload_n 2, 1) := by decide +kernel
theorem dX8_drifts_92 : decode cX8_drifts 92 = .ok (.iconst (-1), 1) := by decide +kernel
theorem dX8_drifts_93 : decode cX8_drifts 93 = .ok (.if_icmp .eq 8, 3) := by decide +kernel
theorem dX8_drifts_96 : decode cX8_drifts 96 = .ok (.aload_n 0, 1) := by decide +kernel
theorem dX8_drifts_97 : decode cX8_drifts 97 = .ok (.iload_n 2, 1) := by decide +kernel
theorem dX8_drifts_98 : decode cX8_drifts 98 = .ok (.invokevirtual 149, 3) := by decide +kernel
theorem dX8_drifts_101 : decode cX8_drifts 101 = .ok (.return_, 1) := by decide +kernel
set_option maxRecDepth 20000 in
theorem ggX8_drift_X8_in : GoodIn wsX8_drift wsX8_in := goodIn_m (fun w hw => by
  revert w hw; unfold wsX8_in
  exact am_cons (am_at in_wsX8_drift_0 7 rfl) am_nil) gw_wsX8_in
set_option maxRecDepth 20000 in
theorem gX8_drift_X8_in : GoodIn wsX8_drift (va_wsS RX8 55 yX8_in wsX8_in) := goodIn_app (goodIn_m (am_cons (am_at in_wsX8_drift_0 4 rfl) (am_cons (am_at in_wsX8_drift_0 5 rfl) (am_cons (am_at in_wsX8_drift_0 6 rfl) am_nil))) (by decide +kernel)) ggX8_drift_X8_in
set_option maxRecDepth 20000 in
theorem ggX8_drift_X8_goesOn : GoodIn wsX8_drift wsX8_goesOn := goodIn_m (fun w hw => by
  revert w hw; unfold wsX8_goesOn
  exact am_cons (am_at in_wsX8_drift_0 11 rfl) (am_app (am_cons (am_at in_wsX8_drift_0 12 rfl) (am_cons (am_at in_wsX8_drift_0 2 rfl) am_nil)) in_wsX8_drift_3)) gw_wsX8_goesOn
set_option maxRecDepth 20000 in
theorem gX8_drift_X8_goesOn : GoodIn wsX8_drift (wsV RX8 133 RX8 yX8_goesOn wsX8_goesOn) := goodIn_app (goodIn_m (am_cons (am_at in_wsX8_drift_0 8 rfl) (am_cons (am_at in_wsX8_drift_0 9 rfl) (am_cons (am_at in_wsX8_drift_0 10 rfl) (am_cons (am_at in_wsX8_drift_0 6 rfl) am_nil)))) (by decide +kernel)) ggX8_drift_X8_goesOn
set_option maxRecDepth 20000 in
theorem ggX8_drift_X8_keeps : GoodIn wsX8_drift wsX8_keeps := goodIn_m (fun w hw => by
  revert w hw; unfold wsX8_keeps
  exact am_cons (am_at in_wsX8_drift_0 16 rfl) (am_app (am_cons (am_at in_wsX8_drift_0 17 rfl) (am_cons (am_at in_wsX8_drift_0 18 rfl) (am_cons (am_at in_wsX8_drift_0 2 rfl) am_nil))) in_wsX8_drift_3)) gw_wsX8_keeps
set_option maxRecDepth 20000 in
theorem gX8_drift_X8_keeps : GoodIn wsX8_drift (wsV RX8 140 RX8 yX8_keeps wsX8_keeps) := goodIn_app (goodIn_m (am_cons (am_at in_wsX8_drift_0 13 rfl) (am_cons (am_at in_wsX8_drift_0 14 rfl) (am_cons (am_at in_wsX8_drift_0 15 rfl) (am_cons (am_at in_wsX8_drift_0 6 rfl) am_nil)))) (by decide +kernel)) ggX8_drift_X8_keeps
set_option maxRecDepth 20000 in
theorem ggX8_drift_X8_drifts : GoodIn wsX8_drift wsX8_drifts := goodIn_m (fun w hw => by
  revert w hw; unfold wsX8_drifts wsX8_drifts_r1 wsX8_drifts_r2
  exact am_cons (am_at in_wsX8_drift_0 22 rfl) (am_app (am_app (am_cons (am_at in_wsX8_drift_0 12 rfl) (am_cons (am_at in_wsX8_drift_0 2 rfl) (am_cons (am_at in_wsX8_drift_0 23 rfl) (am_cons (am_at in_wsX8_drift_1 0 rfl) (am_cons (am_at in_wsX8_drift_1 1 rfl) (am_cons (am_at in_wsX8_drift_0 6 rfl) (am_cons (am_at in_wsX8_drift_1 2 rfl) (am_cons (am_at in_wsX8_drift_1 3 rfl) (am_cons (am_at in_wsX8_drift_1 4 rfl) (am_cons (am_at in_wsX8_drift_1 5 rfl) (am_cons (am_at in_wsX8_drift_1 6 rfl) (am_cons (am_at in_wsX8_drift_1 7 rfl) (am_cons (am_at in_wsX8_drift_1 8 rfl) (am_cons (am_at in_wsX8_drift_1 9 rfl) (am_cons (am_at in_wsX8_drift_1 10 rfl) (am_cons (am_at in_wsX8_drift_1 11 rfl) (am_cons (am_at in_wsX8_drift_1 12 rfl) (am_cons (am_at in_wsX8_drift_1 13 rfl) (am_cons (am_at in_wsX8_drift_1 14 rfl) (am_cons (am_at in_wsX8_drift_1 15 rfl) (am_cons (am_at in_wsX8_drift_1 16 rfl) (am_cons (am_at in_wsX8_drift_1 17 rfl) (am_cons (am_at in_wsX8_drift_1 18 rfl) (am_cons (am_at in_wsX8_drift_1 19 rfl) am_nil)))))))))))))))))))))))) (am_cons (am_at in_wsX8_drift_1 20 rfl) (am_cons (am_at in_wsX8_drift_1 21 rfl) (am_cons (am_at in_wsX8_drift_1 22 rfl) (am_cons (am_at in_wsX8_drift_1 23 rfl) (am_cons (am_at in_wsX8_drift_2 0 rfl) (am_cons (am_at in_wsX8_drift_2 1 rfl) (am_cons (am_at in_wsX8_drift_2 2 rfl) (am_cons (am_at in_wsX8_drift_2 3 rfl) (am_cons (am_at in_wsX8_drift_2 4 rfl) (am_cons (am_at in_wsX8_drift_2 5 rfl) (am_cons (am_at in_wsX8_drift_2 6 rfl) (am_cons (am_at in_wsX8_drift_2 7 rfl) (am_cons (am_at in_wsX8_drift_2 8 rfl) (am_cons (am_at in_wsX8_drift_2 9 rfl) (am_cons (am_at in_wsX8_drift_2 10 rfl) (am_cons (am_at in_wsX8_drift_2 11 rfl) (am_cons (am_at in_wsX8_drift_2 12 rfl) (am_cons (am_at in_wsX8_drift_2 13 rfl) (am_cons (am_at in_wsX8_drift_2 14 rfl) am_nil)))))))))))))))))))) in_wsX8_drift_3)) gw_wsX8_drifts
set_option maxRecDepth 20000 in
theorem gX8_drift_X8_drifts : GoodIn wsX8_drift (wsV RX8 171 RX8 yX8_drifts wsX8_drifts) := goodIn_app (goodIn_m (am_cons (am_at in_wsX8_drift_0 19 rfl) (am_cons (am_at in_wsX8_drift_0 20 rfl) (am_cons (am_at in_wsX8_drift_0 21 rfl) (am_cons (am_at in_wsX8_drift_0 6 rfl) am_nil)))) (by decide +kernel)) ggX8_drift_X8_drifts
theorem dX8_drift_0 : decode cX8_drift 0 = .ok (.iload_n 1, 1) := by decide +kernel
theorem dX8_drift_1 : decode cX8_drift 1 = .ok (.iconst 1, 1) := by decide +kernel
theorem dX8_drift_2 : decode cX8_drift 2 = .ok (.bipush 40, 2) := by decide +kernel
theorem dX8_drift_4 : decode cX8_drift 4 = .ok (.invokestatic 55, 3) := by decide +kernel
theorem dX8_drift_7 : decode cX8_drift 7 = .ok (.ifCond .ne 6, 3) := by decide +kernel
theorem dX8_drift_10 : decode cX8_drift 10 = .ok (.ldc 59, 2) := by decide +kernel
theorem dX8_drift_12 : decode cX8_drift 12 = .ok (.ireturn, 1) := by decide +kernel
theorem dX8_drift_13 : decode cX8_drift 13 = .ok (.aload_n 0, 1) := by decide +kernel
theorem dX8_drift_14 : decode cX8_drift 14 = .ok (.invokevirtual 133, 3) := by decide +kernel
theorem dX8_drift_17 : decode cX8_drift 17 = .ok (.ifCond .ne 6, 3) := by decide +kernel
theorem dX8_drift_20 : decode cX8_drift 20 = .ok (.ldc 139, 2) := by decide +kernel
theorem dX8_drift_22 : decode cX8_drift 22 = .ok (.ireturn, 1) := by decide +kernel
theorem dX8_drift_23 : decode cX8_drift 23 = .ok (.aload_n 0, 1) := by decide +kernel
theorem dX8_drift_24 : decode cX8_drift 24 = .ok (.getfield 19, 3) := by decide +kernel
theorem dX8_drift_27 : decode cX8_drift 27 = .ok (.iconst 1, 1) := by decide +kernel
theorem dX8_drift_28 : decode cX8_drift 28 = .ok (.iaload, 1) := by decide +kernel
theorem dX8_drift_29 : decode cX8_drift 29 = .ok (.sipush 9000, 3) := by decide +kernel
theorem dX8_drift_32 : decode cX8_drift 32 = .ok (.if_icmp .le 6, 3) := by decide +kernel
theorem dX8_drift_35 : decode cX8_drift 35 = .ok (.ldc 63, 2) := by decide +kernel
theorem dX8_drift_37 : decode cX8_drift 37 = .ok (.ireturn, 1) := by decide +kernel
theorem dX8_drift_38 : decode cX8_drift 38 = .ok (.aload_n 0, 1) := by decide +kernel
theorem dX8_drift_39 : decode cX8_drift 39 = .ok (.invokevirtual 140, 3) := by decide +kernel
theorem dX8_drift_42 : decode cX8_drift 42 = .ok (.iconst 0, 1) := by decide +kernel
theorem dX8_drift_43 : decode cX8_drift 43 = .ok (.istore_n 2, 1) := by decide +kernel
theorem dX8_drift_44 : decode cX8_drift 44 = .ok (.iload_n 2, 1) := by decide +kernel
theorem dX8_drift_45 : decode cX8_drift 45 = .ok (.iload_n 1, 1) := by decide +kernel
theorem dX8_drift_46 : decode cX8_drift 46 = .ok (.if_icmp .ge 13, 3) := by decide +kernel
theorem dX8_drift_49 : decode cX8_drift 49 = .ok (.aload_n 0, 1) := by decide +kernel
theorem dX8_drift_50 : decode cX8_drift 50 = .ok (.invokevirtual 171, 3) := by decide +kernel
theorem dX8_drift_53 : decode cX8_drift 53 = .ok (.iinc 2 1, 3) := by decide +kernel
theorem dX8_drift_56 : decode cX8_drift 56 = .ok (.goto (-12), 3) := by decide +kernel
theorem dX8_drift_59 : decode cX8_drift 59 = .ok (.aload_n 0, 1) := by decide +kernel
theorem dX8_drift_60 : decode cX8_drift 60 = .ok (.getfield 19, 3) := by decide +kernel
theorem dX8_drift_63 : decode cX8_drift 63 = .ok (.iconst 3, 1) := by decide +kernel
theorem dX8_drift_64 : decode cX8_drift 64 = .ok (.iaload, 1) := by decide +kernel
theorem dX8_drift_65 : decode cX8_drift 65 = .ok (.ireturn, 1) := by decide +kernel
theorem dX8_undo_0 : decode cX8_undo 0 = .ok (.aload_n 0, 1) := by decide +kernel
theorem dX8_undo_1 : decode cX8_undo 1 = .ok (.getfield 107, 3) := by decide +kernel
theorem dX8_undo_4 : decode cX8_undo 4 = .ok (.ifCond .ne 6, 3) := by decide +kernel
theorem dX8_undo_7 : decode cX8_undo 7 = .ok (.ldc 139, 2) := by decide +kernel
theorem dX8_undo_9 : decode cX8_undo 9 = .ok (.ireturn, 1) := by decide +kernel
theorem dX8_undo_10 : decode cX8_undo 10 = .ok (.aload_n 0, 1) := by decide +kernel
theorem dX8_undo_11 : decode cX8_undo 11 = .ok (.dup, 1) := by decide +kernel
theorem dX8_undo_12 : decode cX8_undo 12 = .ok (.getfield 107, 3) := by decide +kernel
theorem dX8_undo_15 : decode cX8_undo 15 = .ok (.iconst 1, 1) := by decide +kernel
theorem dX8_undo_16 : decode cX8_undo 16 = .ok (.isub, 1) := by decide +kernel
theorem dX8_undo_17 : decode cX8_undo 17 = .ok (.putfield 107, 3) := by decide +kernel
theorem dX8_undo_20 : decode cX8_undo 20 = .ok (.iconst 0, 1) := by decide +kernel
theorem dX8_undo_21 : decode cX8_undo 21 = .ok (.istore_n 1, 1) := by decide +kernel
theorem dX8_undo_22 : decode cX8_undo 22 = .ok (.iload_n 1, 1) := by decide +kernel
theorem dX8_undo_23 : decode cX8_undo 23 = .ok (.bipush 7, 2) := by decide +kernel
theorem dX8_undo_25 : decode cX8_undo 25 = .ok (.if_icmp .ge 29, 3) := by decide +kernel
theorem dX8_undo_28 : decode cX8_undo 28 = .ok (.aload_n 0, 1) := by decide +kernel
theorem dX8_undo_29 : decode cX8_undo 29 = .ok (.getfield 19, 3) := by decide +kernel
theorem dX8_undo_32 : decode cX8_undo 32 = .ok (.iload_n 1, 1) := by decide +kernel
theorem dX8_undo_33 : decode cX8_undo 33 = .ok (.aload_n 0, 1) := by decide +kernel
theorem dX8_undo_34 : decode cX8_undo 34 = .ok (.getfield 22, 3) := by decide +kernel
theorem dX8_undo_37 : decode cX8_undo 37 = .ok (.bipush 7, 2) := by decide +kernel
theorem dX8_undo_39 : decode cX8_undo 39 = .ok (.aload_n 0, 1) := by decide +kernel
theorem dX8_undo_40 : decode cX8_undo 40 = .ok (.getfield 107, 3) := by decide +kernel
theorem dX8_undo_43 : decode cX8_undo 43 = .ok (.imul, 1) := by decide +kernel
theorem dX8_undo_44 : decode cX8_undo 44 = .ok (.iload_n 1, 1) := by decide +kernel
theorem dX8_undo_45 : decode cX8_undo 45 = .ok (.iadd, 1) := by decide +kernel
theorem dX8_undo_46 : decode cX8_undo 46 = .ok (.iaload, 1) := by decide +kernel
theorem dX8_undo_47 : decode cX8_undo 47 = .ok (.iastore, 1) := by decide +kernel
theorem dX8_undo_48 : decode cX8_undo 48 = .ok (.iinc 1 1, 3) := by decide +kernel
theorem dX8_undo_51 : decode cX8_undo 51 = .ok (.goto (-29), 3) := by decide +kernel
theorem dX8_undo_54 : decode cX8_undo 54 = .ok (.aload_n 0, 1) := by decide +kernel
theorem dX8_undo_55 : decode cX8_undo 55 = .ok (.getfield 107, 3) := by decide +kernel
theorem dX8_undo_58 : decode cX8_undo 58 = .ok (.ireturn, 1) := by decide +kernel
theorem dX8_bit_0 : decode cX8_bit 0 = .ok (.lconst 1, 1) := by decide +kernel
theorem dX8_bit_1 : decode cX8_bit 1 = .ok (.iconst 5, 1) := by decide +kernel
theorem dX8_bit_2 : decode cX8_bit 2 = .ok (.iload_n 0, 1) := by decide +kernel
theorem dX8_bit_3 : decode cX8_bit 3 = .ok (.imul, 1) := by decide +kernel
theorem dX8_bit_4 : decode cX8_bit 4 = .ok (.iload_n 1, 1) := by decide +kernel
theorem dX8_bit_5 : decode cX8_bit 5 = .ok (.iadd, 1) := by decide +kernel
theorem dX8_bit_6 : decode cX8_bit 6 = .ok (.lshl, 1) := by decide +kernel
theorem dX8_bit_7 : decode cX8_bit 7 = .ok (.lreturn, 1) := by decide +kernel
set_option maxRecDepth 20000 in
theorem ggX8_has_X8_bit : GoodIn wsX8_has wsX8_bit := goodIn_m (fun w hw => by
  revert w hw; unfold wsX8_bit
  exact am_cons (am_at in_wsX8_has_0 3 rfl) am_nil) gw_wsX8_bit
set_option maxRecDepth 20000 in
theorem gX8_has_X8_bit : GoodIn wsX8_has (va_wsS RX8 174 yX8_bit wsX8_bit) := goodIn_app (goodIn_m (am_cons (am_at in_wsX8_has_0 0 rfl) (am_cons (am_at in_wsX8_has_0 1 rfl) (am_cons (am_at in_wsX8_has_0 2 rfl) am_nil))) (by decide +kernel)) ggX8_has_X8_bit
theorem dX8_has_0 : decode cX8_has 0 = .ok (.lload_n 0, 1) := by decide +kernel
theorem dX8_has_1 : decode cX8_has 1 = .ok (.iload_n 2, 1) := by decide +kernel
theorem dX8_has_2 : decode cX8_has 2 = .ok (.iload_n 3, 1) := by decide +kernel
theorem dX8_has_3 : decode cX8_has 3 = .ok (.invokestatic 174, 3) := by decide +kernel
theorem dX8_has_6 : decode cX8_has 6 = .ok (.land, 1) := by decide +kernel
theorem dX8_has_7 : decode cX8_has 7 = .ok (.lconst 0, 1) := by decide +kernel
theorem dX8_has_8 : decode cX8_has 8 = .ok (.lcmp, 1) := by decide +kernel
theorem dX8_has_9 : decode cX8_has 9 = .ok (.ifCond .eq 7, 3) := by decide +kernel
theorem dX8_has_12 : decode cX8_has 12 = .ok (.iconst 1, 1) := by decide +kernel
theorem dX8_has_13 : decode cX8_has 13 = .ok (.goto 4, 3) := by decide +kernel
theorem dX8_has_16 : decode cX8_has 16 = .ok (.iconst 0, 1) := by decide +kernel
theorem dX8_has_17 : decode cX8_has 17 = .ok (.ireturn, 1) := by decide +kernel
set_option maxRecDepth 20000 in
theorem ggX8_goes_X8_walks : GoodIn wsX8_goes wsX8_walks := goodIn_m (fun w hw => by
  revert w hw; unfold wsX8_walks
  exact am_cons (am_at in_wsX8_goes_0 5 rfl) (am_app (am_cons (am_at in_wsX8_goes_0 0 rfl) (am_cons (am_at in_wsX8_goes_0 6 rfl) (am_cons (am_at in_wsX8_goes_0 7 rfl) (am_cons (am_at in_wsX8_goes_0 8 rfl) (am_cons (am_at in_wsX8_goes_0 4 rfl) (am_cons (am_at in_wsX8_goes_0 9 rfl) (am_cons (am_at in_wsX8_goes_0 10 rfl) (am_cons (am_at in_wsX8_goes_0 11 rfl) (am_cons (am_at in_wsX8_goes_0 12 rfl) (am_cons (am_at in_wsX8_goes_0 13 rfl) am_nil)))))))))) in_wsX8_goes_1)) gw_wsX8_walks
set_option maxRecDepth 20000 in
theorem gX8_goes_X8_walks : GoodIn wsX8_goes (wsV RX8 146 RX8 yX8_walks wsX8_walks) := goodIn_app (goodIn_m (am_cons (am_at in_wsX8_goes_0 1 rfl) (am_cons (am_at in_wsX8_goes_0 2 rfl) (am_cons (am_at in_wsX8_goes_0 3 rfl) (am_cons (am_at in_wsX8_goes_0 4 rfl) am_nil)))) (by decide +kernel)) ggX8_goes_X8_walks
set_option maxRecDepth 20000 in
theorem ggX8_goes_X8_has : GoodIn wsX8_goes wsX8_has := goodIn_m (fun w hw => by
  revert w hw; unfold wsX8_has
  exact am_cons (am_at in_wsX8_goes_0 16 rfl) (am_cons (am_at in_wsX8_goes_0 17 rfl) (am_cons (am_at in_wsX8_goes_0 18 rfl) (am_cons (am_at in_wsX8_goes_0 4 rfl) (am_cons (am_at in_wsX8_goes_0 19 rfl) am_nil))))) gw_wsX8_has
set_option maxRecDepth 20000 in
theorem gX8_goes_X8_has : GoodIn wsX8_goes (va_wsS RX8 178 yX8_has wsX8_has) := goodIn_app (goodIn_m (am_cons (am_at in_wsX8_goes_0 14 rfl) (am_cons (am_at in_wsX8_goes_0 15 rfl) (am_cons (am_at in_wsX8_goes_0 4 rfl) am_nil))) (by decide +kernel)) ggX8_goes_X8_has
set_option maxRecDepth 20000 in
theorem ggX8_goes_X8_bit : GoodIn wsX8_goes wsX8_bit := goodIn_m (fun w hw => by
  revert w hw; unfold wsX8_bit
  exact am_cons (am_at in_wsX8_goes_0 19 rfl) am_nil) gw_wsX8_bit
set_option maxRecDepth 20000 in
theorem gX8_goes_X8_bit : GoodIn wsX8_goes (va_wsS RX8 174 yX8_bit wsX8_bit) := goodIn_app (goodIn_m (am_cons (am_at in_wsX8_goes_0 17 rfl) (am_cons (am_at in_wsX8_goes_0 18 rfl) (am_cons (am_at in_wsX8_goes_0 4 rfl) am_nil))) (by decide +kernel)) ggX8_goes_X8_bit
theorem dX8_goes_0 : decode cX8_goes 0 = .ok (.lconst 0, 1) := by decide +kernel
theorem dX8_goes_1 : decode cX8_goes 1 = .ok (.lstore 5, 2) := by decide +kernel
theorem dX8_goes_3 : decode cX8_goes 3 = .ok (.iconst 0, 1) := by decide +kernel
theorem dX8_goes_4 : decode cX8_goes 4 = .ok (.istore 7, 2) := by decide +kernel
theorem dX8_goes_6 : decode cX8_goes 6 = .ok (.iload 7, 2) := by decide +kernel
theorem dX8_goes_8 : decode cX8_goes 8 = .ok (.aload_n 0, 1) := by decide +kernel
theorem dX8_goes_9 : decode cX8_goes 9 = .ok (.getfield 13, 3) := by decide +kernel
theorem dX8_goes_12 : decode cX8_goes 12 = .ok (.iconst 2, 1) := by decide +kernel
theorem dX8_goes_13 : decode cX8_goes 13 = .ok (.iaload, 1) := by decide +kernel
theorem dX8_goes_14 : decode cX8_goes 14 = .ok (.if_icmp .ge 138, 3) := by decide +kernel
theorem dX8_goes_17 : decode cX8_goes 17 = .ok (.aload_n 0, 1) := by decide +kernel
theorem dX8_goes_18 : decode cX8_goes 18 = .ok (.iload 7, 2) := by decide +kernel
theorem dX8_goes_20 : decode cX8_goes 20 = .ok (.iload_n 3, 1) := by decide +kernel
theorem dX8_goes_21 : decode cX8_goes 21 = .ok (.invokevirtual 146, 3) := by decide +kernel
theorem dX8_goes_24 : decode cX8_goes 24 = .ok (.istore 8, 2) := by decide +kernel
theorem dX8_goes_26 : decode cX8_goes 26 = .ok (.iconst 0, 1) := by decide +kernel
theorem dX8_goes_27 : decode cX8_goes 27 = .ok (.istore 9, 2) := by decide +kernel
theorem dX8_goes_29 : decode cX8_goes 29 = .ok (.iload 9, 2) := by decide +kernel
theorem dX8_goes_31 : decode cX8_goes 31 = .ok (.iconst 5, 1) := by decide +kernel
theorem dX8_goes_32 : decode cX8_goes 32 = .ok (.if_icmp .ge 114, 3) := by decide +kernel
theorem dX8_goes_35 : decode cX8_goes 35 = .ok (.lload_n 1, 1) := by decide +kernel
theorem dX8_goes_36 : decode cX8_goes 36 = .ok (.iload 7, 2) := by decide +kernel
theorem dX8_goes_38 : decode cX8_goes 38 = .ok (.iload 9, 2) := by decide +kernel
theorem dX8_goes_40 : decode cX8_goes 40 = .ok (.invokestatic 178, 3) := by decide +kernel
theorem dX8_goes_43 : decode cX8_goes 43 = .ok (.ifCond .eq 97, 3) := by decide +kernel
theorem dX8_goes_46 : decode cX8_goes 46 = .ok (.lload 5, 2) := by decide +kernel
theorem dX8_goes_48 : decode cX8_goes 48 = .ok (.iload 9, 2) := by decide +kernel
theorem dX8_goes_50 : decode cX8_goes 50 = .ok (.aload_n 0, 1) := by decide +kernel
theorem dX8_goes_51 : decode cX8_goes 51 = .ok (.getfield 13, 3) := by decide +kernel
theorem dX8_goes_54 : decode cX8_goes 54 = .ok (.iconst 0, 1) := by decide +kernel
theorem dX8_goes_55 : decode cX8_goes 55 = .ok (.iaload, 1) := by decide +kernel
theorem dX8_goes_56 : decode cX8_goes 56 = .ok (.if_icmp .ge 28, 3) := by decide +kernel
theorem dX8_goes_59 : decode cX8_goes 59 = .ok (.iload 4, 2) := by decide +kernel
theorem dX8_goes_61 : decode cX8_goes 61 = .ok (.iconst (-1), 1) := by decide +kernel
theorem dX8_goes_62 : decode cX8_goes 62 = .ok (.if_icmp .eq 10, 3) := by decide +kernel
theorem dX8_goes_65 : decode cX8_goes 65 = .ok (.iload 4, 2) := by decide +kernel
theorem dX8_goes_67 : decode cX8_goes 67 = .ok (.iload 7, 2) := by decide +kernel
theorem dX8_goes_69 : decode cX8_goes 69 = .ok (.if_icmp .ne 15, 3) := by decide +kernel
theorem dX8_goes_72 : decode cX8_goes 72 = .ok (.iload 7, 2) := by decide +kernel
theorem dX8_goes_74 : decode cX8_goes 74 = .ok (.iload 9, 2) := by decide +kernel
theorem dX8_goes_76 : decode cX8_goes 76 = .ok (.iconst 1, 1) := by decide +kernel
theorem dX8_goes_77 : decode cX8_goes 77 = .ok (.iadd, 1) := by decide +kernel
theorem dX8_goes_78 : decode cX8_goes 78 = .ok (.invokestatic 174, 3) := by decide +kernel
theorem dX8_goes_81 : decode cX8_goes 81 = .ok (.goto 4, 3) := by decide +kernel
theorem dX8_goes_84 : decode cX8_goes 84 = .ok (.lconst 0, 1) := by decide +kernel
theorem dX8_goes_85 : decode cX8_goes 85 = .ok (.lor, 1) := by decide +kernel
theorem dX8_goes_86 : decode cX8_goes 86 = .ok (.lstore 5, 2) := by decide +kernel
theorem dX8_goes_88 : decode cX8_goes 88 = .ok (.iconst 0, 1) := by decide +kernel
theorem dX8_goes_89 : decode cX8_goes 89 = .ok (.istore 10, 2) := by decide +kernel
theorem dX8_goes_91 : decode cX8_goes 91 = .ok (.iload 10, 2) := by decide +kernel
theorem dX8_goes_93 : decode cX8_goes 93 = .ok (.aload_n 0, 1) := by decide +kernel
theorem dX8_goes_94 : decode cX8_goes 94 = .ok (.getfield 13, 3) := by decide +kernel
theorem dX8_goes_97 : decode cX8_goes 97 = .ok (.iconst 2, 1) := by decide +kernel
theorem dX8_goes_98 : decode cX8_goes 98 = .ok (.iaload, 1) := by decide +kernel
theorem dX8_goes_99 : decode cX8_goes 99 = .ok (.if_icmp .ge 41, 3) := by decide +kernel
theorem dX8_goes_102 : decode cX8_goes 102 = .ok (.lload 5, 2) := by decide +kernel
theorem dX8_goes_104 : decode cX8_goes 104 = .ok (.iload 4, 2) := by decide +kernel
theorem dX8_goes_106 : decode cX8_goes 106 = .ok (.iconst (-1), 1) := by decide +kernel
theorem dX8_goes_107 : decode cX8_goes 107 = .ok (.if_icmp .ne 23, 3) := by decide +kernel
theorem dX8_goes_110 : decode cX8_goes 110 = .ok (.iload 8, 2) := by decide +kernel
theorem dX8_goes_112 : decode cX8_goes 112 = .ok (.iload 10, 2) := by decide +kernel
theorem dX8_goes_114 : decode cX8_goes 114 = .ok (.ishr, 1) := by decide +kernel
theorem dX8_goes_115 : decode cX8_goes 115 = .ok (.iconst 1, 1) := by decide +kernel
theorem dX8_goes_116 : decode cX8_goes 116 = .ok (.iand, 1) := by decide +kernel
theorem dX8_goes_117 : decode cX8_goes 117 = .ok (.iconst 1, 1) := by decide +kernel
theorem dX8_goes_118 : decode cX8_goes 118 = .ok (.if_icmp .ne 12, 3) := by decide +kernel
theorem dX8_goes_121 : decode cX8_goes 121 = .ok (.iload 10, 2) := by decide +kernel
theorem dX8_goes_123 : decode cX8_goes 123 = .ok (.iconst 0, 1) := by decide +kernel
theorem dX8_goes_124 : decode cX8_goes 124 = .ok (.invokestatic 174, 3) := by decide +kernel
theorem dX8_goes_127 : decode cX8_goes 127 = .ok (.goto 4, 3) := by decide +kernel
theorem dX8_goes_130 : decode cX8_goes 130 = .ok (.lconst 0, 1) := by decide +kernel
theorem dX8_goes_131 : decode cX8_goes 131 = .ok (.lor, 1) := by decide +kernel
theorem dX8_goes_132 : decode cX8_goes 132 = .ok (.lstore 5, 2) := by decide +kernel
theorem dX8_goes_134 : decode cX8_goes 134 = .ok (.iinc 10 1, 3) := by decide +kernel
theorem dX8_goes_137 : decode cX8_goes 137 = .ok (.goto (-46), 3) := by decide +kernel
theorem dX8_goes_140 : decode cX8_goes 140 = .ok (.iinc 9 1, 3) := by decide +kernel
theorem dX8_goes_143 : decode cX8_goes 143 = .ok (.goto (-114), 3) := by decide +kernel
theorem dX8_goes_146 : decode cX8_goes 146 = .ok (.iinc 7 1, 3) := by decide +kernel
theorem dX8_goes_149 : decode cX8_goes 149 = .ok (.goto (-143), 3) := by decide +kernel
theorem dX8_goes_152 : decode cX8_goes 152 = .ok (.lload 5, 2) := by decide +kernel
theorem dX8_goes_154 : decode cX8_goes 154 = .ok (.lreturn, 1) := by decide +kernel
theorem dX8_towns_0 : decode cX8_towns 0 = .ok (.iconst 0, 1) := by decide +kernel
theorem dX8_towns_1 : decode cX8_towns 1 = .ok (.istore_n 2, 1) := by decide +kernel
theorem dX8_towns_2 : decode cX8_towns 2 = .ok (.iconst 0, 1) := by decide +kernel
theorem dX8_towns_3 : decode cX8_towns 3 = .ok (.istore_n 3, 1) := by decide +kernel
theorem dX8_towns_4 : decode cX8_towns 4 = .ok (.iload_n 3, 1) := by decide +kernel
theorem dX8_towns_5 : decode cX8_towns 5 = .ok (.bipush 8, 2) := by decide +kernel
theorem dX8_towns_7 : decode cX8_towns 7 = .ok (.if_icmp .ge 33, 3) := by decide +kernel
theorem dX8_towns_10 : decode cX8_towns 10 = .ok (.iload_n 2, 1) := by decide +kernel
theorem dX8_towns_11 : decode cX8_towns 11 = .ok (.lload_n 0, 1) := by decide +kernel
theorem dX8_towns_12 : decode cX8_towns 12 = .ok (.iconst 5, 1) := by decide +kernel
theorem dX8_towns_13 : decode cX8_towns 13 = .ok (.iload_n 3, 1) := by decide +kernel
theorem dX8_towns_14 : decode cX8_towns 14 = .ok (.imul, 1) := by decide +kernel
theorem dX8_towns_15 : decode cX8_towns 15 = .ok (.lshr, 1) := by decide +kernel
theorem dX8_towns_16 : decode cX8_towns 16 = .ok (.ldc2_w 182, 3) := by decide +kernel
theorem dX8_towns_19 : decode cX8_towns 19 = .ok (.land, 1) := by decide +kernel
theorem dX8_towns_20 : decode cX8_towns 20 = .ok (.lconst 0, 1) := by decide +kernel
theorem dX8_towns_21 : decode cX8_towns 21 = .ok (.lcmp, 1) := by decide +kernel
theorem dX8_towns_22 : decode cX8_towns 22 = .ok (.ifCond .eq 9, 3) := by decide +kernel
theorem dX8_towns_25 : decode cX8_towns 25 = .ok (.iconst 1, 1) := by decide +kernel
theorem dX8_towns_26 : decode cX8_towns 26 = .ok (.iload_n 3, 1) := by decide +kernel
theorem dX8_towns_27 : decode cX8_towns 27 = .ok (.ishl, 1) := by decide +kernel
theorem dX8_towns_28 : decode cX8_towns 28 = .ok (.goto 4, 3) := by decide +kernel
theorem dX8_towns_31 : decode cX8_towns 31 = .ok (.iconst 0, 1) := by decide +kernel
theorem dX8_towns_32 : decode cX8_towns 32 = .ok (.ior, 1) := by decide +kernel
theorem dX8_towns_33 : decode cX8_towns 33 = .ok (.istore_n 2, 1) := by decide +kernel
theorem dX8_towns_34 : decode cX8_towns 34 = .ok (.iinc 3 1, 3) := by decide +kernel
theorem dX8_towns_37 : decode cX8_towns 37 = .ok (.goto (-33), 3) := by decide +kernel
theorem dX8_towns_40 : decode cX8_towns 40 = .ok (.iload_n 2, 1) := by decide +kernel
theorem dX8_towns_41 : decode cX8_towns 41 = .ok (.ireturn, 1) := by decide +kernel
set_option maxRecDepth 20000 in
theorem ggX8_may_X8_in : GoodIn wsX8_may wsX8_in := goodIn_m (fun w hw => by
  revert w hw; unfold wsX8_in
  exact am_cons (am_at in_wsX8_may_0 6 rfl) am_nil) gw_wsX8_in
set_option maxRecDepth 20000 in
theorem gX8_may_X8_in : GoodIn wsX8_may (va_wsS RX8 55 yX8_in wsX8_in) := goodIn_app (goodIn_m (am_cons (am_at in_wsX8_may_0 3 rfl) (am_cons (am_at in_wsX8_may_0 4 rfl) (am_cons (am_at in_wsX8_may_0 5 rfl) am_nil))) (by decide +kernel)) ggX8_may_X8_in
set_option maxRecDepth 20000 in
theorem ggX8_may_X8_goesOn : GoodIn wsX8_may wsX8_goesOn := goodIn_m (fun w hw => by
  revert w hw; unfold wsX8_goesOn
  exact am_cons (am_at in_wsX8_may_0 10 rfl) (am_app (am_cons (am_at in_wsX8_may_0 11 rfl) (am_cons (am_at in_wsX8_may_0 2 rfl) am_nil)) in_wsX8_may_2)) gw_wsX8_goesOn
set_option maxRecDepth 20000 in
theorem gX8_may_X8_goesOn : GoodIn wsX8_may (wsV RX8 133 RX8 yX8_goesOn wsX8_goesOn) := goodIn_app (goodIn_m (am_cons (am_at in_wsX8_may_0 7 rfl) (am_cons (am_at in_wsX8_may_0 8 rfl) (am_cons (am_at in_wsX8_may_0 9 rfl) (am_cons (am_at in_wsX8_may_0 5 rfl) am_nil)))) (by decide +kernel)) ggX8_may_X8_goesOn
set_option maxRecDepth 20000 in
theorem ggX8_may_X8_walks : GoodIn wsX8_may wsX8_walks := goodIn_m (fun w hw => by
  revert w hw; unfold wsX8_walks
  exact am_cons (am_at in_wsX8_may_0 15 rfl) (am_app (am_cons (am_at in_wsX8_may_0 11 rfl) (am_cons (am_at in_wsX8_may_0 16 rfl) (am_cons (am_at in_wsX8_may_0 17 rfl) (am_cons (am_at in_wsX8_may_0 18 rfl) (am_cons (am_at in_wsX8_may_0 5 rfl) (am_cons (am_at in_wsX8_may_0 19 rfl) (am_cons (am_at in_wsX8_may_0 20 rfl) (am_cons (am_at in_wsX8_may_0 21 rfl) (am_cons (am_at in_wsX8_may_0 22 rfl) (am_cons (am_at in_wsX8_may_0 23 rfl) am_nil)))))))))) in_wsX8_may_2)) gw_wsX8_walks
set_option maxRecDepth 20000 in
theorem gX8_may_X8_walks : GoodIn wsX8_may (wsV RX8 146 RX8 yX8_walks wsX8_walks) := goodIn_app (goodIn_m (am_cons (am_at in_wsX8_may_0 12 rfl) (am_cons (am_at in_wsX8_may_0 13 rfl) (am_cons (am_at in_wsX8_may_0 14 rfl) (am_cons (am_at in_wsX8_may_0 5 rfl) am_nil)))) (by decide +kernel)) ggX8_may_X8_walks
set_option maxRecDepth 20000 in
theorem ggX8_may_X8_mayStay : GoodIn wsX8_may wsX8_mayStay := goodIn_m (fun w hw => by
  revert w hw; unfold wsX8_mayStay
  exact am_cons (am_at in_wsX8_may_1 3 rfl) (am_app (am_cons (am_at in_wsX8_may_0 2 rfl) (am_cons (am_at in_wsX8_may_0 11 rfl) am_nil)) in_wsX8_may_2)) gw_wsX8_mayStay
set_option maxRecDepth 20000 in
theorem gX8_may_X8_mayStay : GoodIn wsX8_may (wsV RX8 136 RX8 yX8_mayStay wsX8_mayStay) := goodIn_app (goodIn_m (am_cons (am_at in_wsX8_may_1 0 rfl) (am_cons (am_at in_wsX8_may_1 1 rfl) (am_cons (am_at in_wsX8_may_1 2 rfl) (am_cons (am_at in_wsX8_may_0 5 rfl) am_nil)))) (by decide +kernel)) ggX8_may_X8_mayStay
theorem dX8_may_0 : decode cX8_may 0 = .ok (.iload_n 1, 1) := by decide +kernel
theorem dX8_may_1 : decode cX8_may 1 = .ok (.iconst 0, 1) := by decide +kernel
theorem dX8_may_2 : decode cX8_may 2 = .ok (.iconst 1, 1) := by decide +kernel
theorem dX8_may_3 : decode cX8_may 3 = .ok (.invokestatic 55, 3) := by decide +kernel
theorem dX8_may_6 : decode cX8_may 6 = .ok (.ifCond .ne 6, 3) := by decide +kernel
theorem dX8_may_9 : decode cX8_may 9 = .ok (.ldc 59, 2) := by decide +kernel
theorem dX8_may_11 : decode cX8_may 11 = .ok (.ireturn, 1) := by decide +kernel
theorem dX8_may_12 : decode cX8_may 12 = .ok (.aload_n 0, 1) := by decide +kernel
theorem dX8_may_13 : decode cX8_may 13 = .ok (.invokevirtual 133, 3) := by decide +kernel
theorem dX8_may_16 : decode cX8_may 16 = .ok (.ifCond .ne 6, 3) := by decide +kernel
theorem dX8_may_19 : decode cX8_may 19 = .ok (.ldc 139, 2) := by decide +kernel
theorem dX8_may_21 : decode cX8_may 21 = .ok (.ireturn, 1) := by decide +kernel
theorem dX8_may_22 : decode cX8_may 22 = .ok (.iload_n 1, 1) := by decide +kernel
theorem dX8_may_23 : decode cX8_may 23 = .ok (.ifCond .ne 22, 3) := by decide +kernel
theorem dX8_may_26 : decode cX8_may 26 = .ok (.aload_n 0, 1) := by decide +kernel
theorem dX8_may_27 : decode cX8_may 27 = .ok (.aload_n 0, 1) := by decide +kernel
theorem dX8_may_28 : decode cX8_may 28 = .ok (.getfield 19, 3) := by decide +kernel
theorem dX8_may_31 : decode cX8_may 31 = .ok (.iconst 0, 1) := by decide +kernel
theorem dX8_may_32 : decode cX8_may 32 = .ok (.iaload, 1) := by decide +kernel
theorem dX8_may_33 : decode cX8_may 33 = .ok (.aload_n 0, 1) := by decide +kernel
theorem dX8_may_34 : decode cX8_may 34 = .ok (.getfield 19, 3) := by decide +kernel
theorem dX8_may_37 : decode cX8_may 37 = .ok (.iconst 5, 1) := by decide +kernel
theorem dX8_may_38 : decode cX8_may 38 = .ok (.iaload, 1) := by decide +kernel
theorem dX8_may_39 : decode cX8_may 39 = .ok (.invokevirtual 146, 3) := by decide +kernel
theorem dX8_may_42 : decode cX8_may 42 = .ok (.goto 15, 3) := by decide +kernel
theorem dX8_may_45 : decode cX8_may 45 = .ok (.aload_n 0, 1) := by decide +kernel
theorem dX8_may_46 : decode cX8_may 46 = .ok (.invokevirtual 136, 3) := by decide +kernel
theorem dX8_may_49 : decode cX8_may 49 = .ok (.ifCond .eq 7, 3) := by decide +kernel
theorem dX8_may_52 : decode cX8_may 52 = .ok (.iconst 1, 1) := by decide +kernel
theorem dX8_may_53 : decode cX8_may 53 = .ok (.goto 4, 3) := by decide +kernel
theorem dX8_may_56 : decode cX8_may 56 = .ok (.iconst 0, 1) := by decide +kernel
theorem dX8_may_57 : decode cX8_may 57 = .ok (.ireturn, 1) := by decide +kernel
set_option maxRecDepth 20000 in
theorem ggX8_reach_X8_isTown : GoodIn wsX8_reach wsX8_isTown := goodIn_m (fun w hw => by
  revert w hw; unfold wsX8_isTown
  exact am_cons (am_at in_wsX8_reach_0 8 rfl) (am_app (am_cons (am_at in_wsX8_reach_0 3 rfl) (am_cons (am_at in_wsX8_reach_0 9 rfl) (am_cons (am_at in_wsX8_reach_0 10 rfl) (am_cons (am_at in_wsX8_reach_0 7 rfl) (am_cons (am_at in_wsX8_reach_0 11 rfl) am_nil))))) in_wsX8_reach_2)) gw_wsX8_isTown
set_option maxRecDepth 20000 in
theorem gX8_reach_X8_isTown : GoodIn wsX8_reach (wsV RX8 123 RX8 yX8_isTown wsX8_isTown) := goodIn_app (goodIn_m (am_cons (am_at in_wsX8_reach_0 4 rfl) (am_cons (am_at in_wsX8_reach_0 5 rfl) (am_cons (am_at in_wsX8_reach_0 6 rfl) (am_cons (am_at in_wsX8_reach_0 7 rfl) am_nil)))) (by decide +kernel)) ggX8_reach_X8_isTown
set_option maxRecDepth 20000 in
theorem ggX8_reach_X8_goesOn : GoodIn wsX8_reach wsX8_goesOn := goodIn_m (fun w hw => by
  revert w hw; unfold wsX8_goesOn
  exact am_cons (am_at in_wsX8_reach_0 15 rfl) (am_app (am_cons (am_at in_wsX8_reach_0 3 rfl) (am_cons (am_at in_wsX8_reach_0 2 rfl) am_nil)) in_wsX8_reach_2)) gw_wsX8_goesOn
set_option maxRecDepth 20000 in
theorem gX8_reach_X8_goesOn : GoodIn wsX8_reach (wsV RX8 133 RX8 yX8_goesOn wsX8_goesOn) := goodIn_app (goodIn_m (am_cons (am_at in_wsX8_reach_0 12 rfl) (am_cons (am_at in_wsX8_reach_0 13 rfl) (am_cons (am_at in_wsX8_reach_0 14 rfl) (am_cons (am_at in_wsX8_reach_0 7 rfl) am_nil)))) (by decide +kernel)) ggX8_reach_X8_goesOn
set_option maxRecDepth 20000 in
theorem ggX8_reach_X8_walks : GoodIn wsX8_reach wsX8_walks := goodIn_m (fun w hw => by
  revert w hw; unfold wsX8_walks
  exact am_cons (am_at in_wsX8_reach_0 19 rfl) (am_app (am_cons (am_at in_wsX8_reach_0 3 rfl) (am_cons (am_at in_wsX8_reach_0 20 rfl) (am_cons (am_at in_wsX8_reach_0 21 rfl) (am_cons (am_at in_wsX8_reach_0 22 rfl) (am_cons (am_at in_wsX8_reach_0 7 rfl) (am_cons (am_at in_wsX8_reach_0 23 rfl) (am_cons (am_at in_wsX8_reach_1 0 rfl) (am_cons (am_at in_wsX8_reach_1 1 rfl) (am_cons (am_at in_wsX8_reach_1 2 rfl) (am_cons (am_at in_wsX8_reach_1 3 rfl) am_nil)))))))))) in_wsX8_reach_2)) gw_wsX8_walks
set_option maxRecDepth 20000 in
theorem gX8_reach_X8_walks : GoodIn wsX8_reach (wsV RX8 146 RX8 yX8_walks wsX8_walks) := goodIn_app (goodIn_m (am_cons (am_at in_wsX8_reach_0 16 rfl) (am_cons (am_at in_wsX8_reach_0 17 rfl) (am_cons (am_at in_wsX8_reach_0 18 rfl) (am_cons (am_at in_wsX8_reach_0 7 rfl) am_nil)))) (by decide +kernel)) ggX8_reach_X8_walks
theorem dX8_reach_0 : decode cX8_reach 0 = .ok (.aload_n 0, 1) := by decide +kernel
theorem dX8_reach_1 : decode cX8_reach 1 = .ok (.iload_n 1, 1) := by decide +kernel
theorem dX8_reach_2 : decode cX8_reach 2 = .ok (.invokevirtual 123, 3) := by decide +kernel
theorem dX8_reach_5 : decode cX8_reach 5 = .ok (.ifCond .ne 6, 3) := by decide +kernel
theorem dX8_reach_8 : decode cX8_reach 8 = .ok (.ldc 126, 2) := by decide +kernel
theorem dX8_reach_10 : decode cX8_reach 10 = .ok (.ireturn, 1) := by decide +kernel
theorem dX8_reach_11 : decode cX8_reach 11 = .ok (.aload_n 0, 1) := by decide +kernel
theorem dX8_reach_12 : decode cX8_reach 12 = .ok (.invokevirtual 133, 3) := by decide +kernel
theorem dX8_reach_15 : decode cX8_reach 15 = .ok (.ifCond .ne 6, 3) := by decide +kernel
theorem dX8_reach_18 : decode cX8_reach 18 = .ok (.ldc 139, 2) := by decide +kernel
theorem dX8_reach_20 : decode cX8_reach 20 = .ok (.ireturn, 1) := by decide +kernel
theorem dX8_reach_21 : decode cX8_reach 21 = .ok (.iconst 1, 1) := by decide +kernel
theorem dX8_reach_22 : decode cX8_reach 22 = .ok (.aload_n 0, 1) := by decide +kernel
theorem dX8_reach_23 : decode cX8_reach 23 = .ok (.getfield 19, 3) := by decide +kernel
theorem dX8_reach_26 : decode cX8_reach 26 = .ok (.iconst 0, 1) := by decide +kernel
theorem dX8_reach_27 : decode cX8_reach 27 = .ok (.iaload, 1) := by decide +kernel
theorem dX8_reach_28 : decode cX8_reach 28 = .ok (.ishl, 1) := by decide +kernel
theorem dX8_reach_29 : decode cX8_reach 29 = .ok (.istore_n 2, 1) := by decide +kernel
theorem dX8_reach_30 : decode cX8_reach 30 = .ok (.iconst 0, 1) := by decide +kernel
theorem dX8_reach_31 : decode cX8_reach 31 = .ok (.istore_n 3, 1) := by decide +kernel
theorem dX8_reach_32 : decode cX8_reach 32 = .ok (.iload_n 3, 1) := by decide +kernel
theorem dX8_reach_33 : decode cX8_reach 33 = .ok (.bipush 8, 2) := by decide +kernel
theorem dX8_reach_35 : decode cX8_reach 35 = .ok (.if_icmp .gt 77, 3) := by decide +kernel
theorem dX8_reach_38 : decode cX8_reach 38 = .ok (.iload_n 2, 1) := by decide +kernel
theorem dX8_reach_39 : decode cX8_reach 39 = .ok (.iload_n 1, 1) := by decide +kernel
theorem dX8_reach_40 : decode cX8_reach 40 = .ok (.ishr, 1) := by decide +kernel
theorem dX8_reach_41 : decode cX8_reach 41 = .ok (.iconst 1, 1) := by decide +kernel
theorem dX8_reach_42 : decode cX8_reach 42 = .ok (.iand, 1) := by decide +kernel
theorem dX8_reach_43 : decode cX8_reach 43 = .ok (.iconst 1, 1) := by decide +kernel
theorem dX8_reach_44 : decode cX8_reach 44 = .ok (.if_icmp .ne 5, 3) := by decide +kernel
theorem dX8_reach_47 : decode cX8_reach 47 = .ok (.iload_n 3, 1) := by decide +kernel
theorem dX8_reach_48 : decode cX8_reach 48 = .ok (.ireturn, 1) := by decide +kernel
theorem dX8_reach_49 : decode cX8_reach 49 = .ok (.iload_n 2, 1) := by decide +kernel
theorem dX8_reach_50 : decode cX8_reach 50 = .ok (.istore 4, 2) := by decide +kernel
theorem dX8_reach_52 : decode cX8_reach 52 = .ok (.iconst 0, 1) := by decide +kernel
theorem dX8_reach_53 : decode cX8_reach 53 = .ok (.istore 5, 2) := by decide +kernel
theorem dX8_reach_55 : decode cX8_reach 55 = .ok (.iload 5, 2) := by decide +kernel
theorem dX8_reach_57 : decode cX8_reach 57 = .ok (.aload_n 0, 1) := by decide +kernel
theorem dX8_reach_58 : decode cX8_reach 58 = .ok (.getfield 13, 3) := by decide +kernel
theorem dX8_reach_61 : decode cX8_reach 61 = .ok (.iconst 2, 1) := by decide +kernel
theorem dX8_reach_62 : decode cX8_reach 62 = .ok (.iaload, 1) := by decide +kernel
theorem dX8_reach_63 : decode cX8_reach 63 = .ok (.if_icmp .ge 40, 3) := by decide +kernel
theorem dX8_reach_66 : decode cX8_reach 66 = .ok (.iload 4, 2) := by decide +kernel
theorem dX8_reach_68 : decode cX8_reach 68 = .ok (.iload_n 2, 1) := by decide +kernel
theorem dX8_reach_69 : decode cX8_reach 69 = .ok (.iload 5, 2) := by decide +kernel
theorem dX8_reach_71 : decode cX8_reach 71 = .ok (.ishr, 1) := by decide +kernel
theorem dX8_reach_72 : decode cX8_reach 72 = .ok (.iconst 1, 1) := by decide +kernel
theorem dX8_reach_73 : decode cX8_reach 73 = .ok (.iand, 1) := by decide +kernel
theorem dX8_reach_74 : decode cX8_reach 74 = .ok (.iconst 1, 1) := by decide +kernel
theorem dX8_reach_75 : decode cX8_reach 75 = .ok (.if_icmp .ne 18, 3) := by decide +kernel
theorem dX8_reach_78 : decode cX8_reach 78 = .ok (.aload_n 0, 1) := by decide +kernel
theorem dX8_reach_79 : decode cX8_reach 79 = .ok (.iload 5, 2) := by decide +kernel
theorem dX8_reach_81 : decode cX8_reach 81 = .ok (.aload_n 0, 1) := by decide +kernel
theorem dX8_reach_82 : decode cX8_reach 82 = .ok (.getfield 19, 3) := by decide +kernel
theorem dX8_reach_85 : decode cX8_reach 85 = .ok (.iconst 5, 1) := by decide +kernel
theorem dX8_reach_86 : decode cX8_reach 86 = .ok (.iaload, 1) := by decide +kernel
theorem dX8_reach_87 : decode cX8_reach 87 = .ok (.invokevirtual 146, 3) := by decide +kernel
theorem dX8_reach_90 : decode cX8_reach 90 = .ok (.goto 4, 3) := by decide +kernel
theorem dX8_reach_93 : decode cX8_reach 93 = .ok (.iconst 0, 1) := by decide +kernel
theorem dX8_reach_94 : decode cX8_reach 94 = .ok (.ior, 1) := by decide +kernel
theorem dX8_reach_95 : decode cX8_reach 95 = .ok (.istore 4, 2) := by decide +kernel
theorem dX8_reach_97 : decode cX8_reach 97 = .ok (.iinc 5 1, 3) := by decide +kernel
theorem dX8_reach_100 : decode cX8_reach 100 = .ok (.goto (-45), 3) := by decide +kernel
theorem dX8_reach_103 : decode cX8_reach 103 = .ok (.iload 4, 2) := by decide +kernel
theorem dX8_reach_105 : decode cX8_reach 105 = .ok (.istore_n 2, 1) := by decide +kernel
theorem dX8_reach_106 : decode cX8_reach 106 = .ok (.iinc 3 1, 3) := by decide +kernel
theorem dX8_reach_109 : decode cX8_reach 109 = .ok (.goto (-77), 3) := by decide +kernel
theorem dX8_reach_112 : decode cX8_reach 112 = .ok (.iconst (-1), 1) := by decide +kernel
theorem dX8_reach_113 : decode cX8_reach 113 = .ok (.ireturn, 1) := by decide +kernel
theorem dX8_mostAt_0 : decode cX8_mostAt 0 = .ok (.aload_n 0, 1) := by decide +kernel
theorem dX8_mostAt_1 : decode cX8_mostAt 1 = .ok (.getfield 42, 3) := by decide +kernel
theorem dX8_mostAt_4 : decode cX8_mostAt 4 = .ok (.bipush 40, 2) := by decide +kernel
theorem dX8_mostAt_6 : decode cX8_mostAt 6 = .ok (.iload_n 1, 1) := by decide +kernel
theorem dX8_mostAt_7 : decode cX8_mostAt 7 = .ok (.imul, 1) := by decide +kernel
theorem dX8_mostAt_8 : decode cX8_mostAt 8 = .ok (.iconst 5, 1) := by decide +kernel
theorem dX8_mostAt_9 : decode cX8_mostAt 9 = .ok (.iload_n 2, 1) := by decide +kernel
theorem dX8_mostAt_10 : decode cX8_mostAt 10 = .ok (.imul, 1) := by decide +kernel
theorem dX8_mostAt_11 : decode cX8_mostAt 11 = .ok (.iadd, 1) := by decide +kernel
theorem dX8_mostAt_12 : decode cX8_mostAt 12 = .ok (.iload_n 3, 1) := by decide +kernel
theorem dX8_mostAt_13 : decode cX8_mostAt 13 = .ok (.iadd, 1) := by decide +kernel
theorem dX8_mostAt_14 : decode cX8_mostAt 14 = .ok (.iaload, 1) := by decide +kernel
theorem dX8_mostAt_15 : decode cX8_mostAt 15 = .ok (.ireturn, 1) := by decide +kernel
set_option maxRecDepth 20000 in
theorem ggX8_learns_X8_hasWork : GoodIn wsX8_learns wsX8_hasWork := goodIn_m (fun w hw => by
  revert w hw; unfold wsX8_hasWork
  exact am_cons (am_at in_wsX8_learns_0 6 rfl) (am_app (am_cons (am_at in_wsX8_learns_0 1 rfl) am_nil) in_wsX8_learns_1)) gw_wsX8_hasWork
set_option maxRecDepth 20000 in
theorem gX8_learns_X8_hasWork : GoodIn wsX8_learns (wsV RX8 130 RX8 yX8_hasWork wsX8_hasWork) := goodIn_app (goodIn_m (am_cons (am_at in_wsX8_learns_0 2 rfl) (am_cons (am_at in_wsX8_learns_0 3 rfl) (am_cons (am_at in_wsX8_learns_0 4 rfl) (am_cons (am_at in_wsX8_learns_0 5 rfl) am_nil)))) (by decide +kernel)) ggX8_learns_X8_hasWork
theorem dX8_learns_0 : decode cX8_learns 0 = .ok (.aload_n 0, 1) := by decide +kernel
theorem dX8_learns_1 : decode cX8_learns 1 = .ok (.iload_n 1, 1) := by decide +kernel
theorem dX8_learns_2 : decode cX8_learns 2 = .ok (.aload_n 0, 1) := by decide +kernel
theorem dX8_learns_3 : decode cX8_learns 3 = .ok (.getfield 19, 3) := by decide +kernel
theorem dX8_learns_6 : decode cX8_learns 6 = .ok (.iconst 1, 1) := by decide +kernel
theorem dX8_learns_7 : decode cX8_learns 7 = .ok (.iaload, 1) := by decide +kernel
theorem dX8_learns_8 : decode cX8_learns 8 = .ok (.iload_n 2, 1) := by decide +kernel
theorem dX8_learns_9 : decode cX8_learns 9 = .ok (.iadd, 1) := by decide +kernel
theorem dX8_learns_10 : decode cX8_learns 10 = .ok (.invokevirtual 130, 3) := by decide +kernel
theorem dX8_learns_13 : decode cX8_learns 13 = .ok (.ifCond .eq 15, 3) := by decide +kernel
theorem dX8_learns_16 : decode cX8_learns 16 = .ok (.aload_n 0, 1) := by decide +kernel
theorem dX8_learns_17 : decode cX8_learns 17 = .ok (.getfield 13, 3) := by decide +kernel
theorem dX8_learns_20 : decode cX8_learns 20 = .ok (.bipush 20, 2) := by decide +kernel
theorem dX8_learns_22 : decode cX8_learns 22 = .ok (.iload_n 1, 1) := by decide +kernel
theorem dX8_learns_23 : decode cX8_learns 23 = .ok (.iadd, 1) := by decide +kernel
theorem dX8_learns_24 : decode cX8_learns 24 = .ok (.iaload, 1) := by decide +kernel
theorem dX8_learns_25 : decode cX8_learns 25 = .ok (.goto 4, 3) := by decide +kernel
theorem dX8_learns_28 : decode cX8_learns 28 = .ok (.iconst 0, 1) := by decide +kernel
theorem dX8_learns_29 : decode cX8_learns 29 = .ok (.ireturn, 1) := by decide +kernel
set_option maxRecDepth 20000 in
theorem ggX8_learnsMost_X8_walks : GoodIn wsX8_learnsMost wsX8_walks := goodIn_m (fun w hw => by
  revert w hw; unfold wsX8_walks
  exact am_cons (am_at in_wsX8_learnsMost_0 7 rfl) (am_app (am_cons (am_at in_wsX8_learnsMost_0 0 rfl) (am_cons (am_at in_wsX8_learnsMost_0 8 rfl) (am_cons (am_at in_wsX8_learnsMost_0 9 rfl) (am_cons (am_at in_wsX8_learnsMost_0 10 rfl) (am_cons (am_at in_wsX8_learnsMost_0 6 rfl) (am_cons (am_at in_wsX8_learnsMost_0 11 rfl) (am_cons (am_at in_wsX8_learnsMost_0 12 rfl) (am_cons (am_at in_wsX8_learnsMost_0 13 rfl) (am_cons (am_at in_wsX8_learnsMost_0 14 rfl) (am_cons (am_at in_wsX8_learnsMost_0 15 rfl) am_nil)))))))))) in_wsX8_learnsMost_2)) gw_wsX8_walks
set_option maxRecDepth 20000 in
theorem gX8_learnsMost_X8_walks : GoodIn wsX8_learnsMost (wsV RX8 146 RX8 yX8_walks wsX8_walks) := goodIn_app (goodIn_m (am_cons (am_at in_wsX8_learnsMost_0 3 rfl) (am_cons (am_at in_wsX8_learnsMost_0 4 rfl) (am_cons (am_at in_wsX8_learnsMost_0 5 rfl) (am_cons (am_at in_wsX8_learnsMost_0 6 rfl) am_nil)))) (by decide +kernel)) ggX8_learnsMost_X8_walks
set_option maxRecDepth 20000 in
theorem ggX8_learnsMost_X8_mostAt : GoodIn wsX8_learnsMost wsX8_mostAt := goodIn_m (fun w hw => by
  revert w hw; unfold wsX8_mostAt
  exact am_cons (am_at in_wsX8_learnsMost_0 19 rfl) (am_app (am_cons (am_at in_wsX8_learnsMost_0 2 rfl) am_nil) in_wsX8_learnsMost_2)) gw_wsX8_mostAt
set_option maxRecDepth 20000 in
theorem gX8_learnsMost_X8_mostAt : GoodIn wsX8_learnsMost (wsV RX8 184 RX8 yX8_mostAt wsX8_mostAt) := goodIn_app (goodIn_m (am_cons (am_at in_wsX8_learnsMost_0 16 rfl) (am_cons (am_at in_wsX8_learnsMost_0 17 rfl) (am_cons (am_at in_wsX8_learnsMost_0 18 rfl) (am_cons (am_at in_wsX8_learnsMost_0 6 rfl) am_nil)))) (by decide +kernel)) ggX8_learnsMost_X8_mostAt
set_option maxRecDepth 20000 in
theorem ggX8_learnsMost_X8_learns : GoodIn wsX8_learnsMost wsX8_learns := goodIn_m (fun w hw => by
  revert w hw; unfold wsX8_learns
  exact am_cons (am_at in_wsX8_learnsMost_0 23 rfl) (am_app (am_cons (am_at in_wsX8_learnsMost_0 1 rfl) (am_cons (am_at in_wsX8_learnsMost_0 0 rfl) (am_cons (am_at in_wsX8_learnsMost_1 0 rfl) (am_cons (am_at in_wsX8_learnsMost_1 1 rfl) (am_cons (am_at in_wsX8_learnsMost_1 2 rfl) (am_cons (am_at in_wsX8_learnsMost_0 6 rfl) (am_cons (am_at in_wsX8_learnsMost_1 3 rfl) am_nil))))))) in_wsX8_learnsMost_2)) gw_wsX8_learns
set_option maxRecDepth 20000 in
theorem gX8_learnsMost_X8_learns : GoodIn wsX8_learnsMost (wsV RX8 188 RX8 yX8_learns wsX8_learns) := goodIn_app (goodIn_m (am_cons (am_at in_wsX8_learnsMost_0 20 rfl) (am_cons (am_at in_wsX8_learnsMost_0 21 rfl) (am_cons (am_at in_wsX8_learnsMost_0 22 rfl) (am_cons (am_at in_wsX8_learnsMost_0 6 rfl) am_nil)))) (by decide +kernel)) ggX8_learnsMost_X8_learns
theorem dX8_learnsMost_0 : decode cX8_learnsMost 0 = .ok (.iload_n 1, 1) := by decide +kernel
theorem dX8_learnsMost_1 : decode cX8_learnsMost 1 = .ok (.istore_n 2, 1) := by decide +kernel
theorem dX8_learnsMost_2 : decode cX8_learnsMost 2 = .ok (.iload_n 2, 1) := by decide +kernel
theorem dX8_learnsMost_3 : decode cX8_learnsMost 3 = .ok (.ifCond .lt 210, 3) := by decide +kernel
theorem dX8_learnsMost_6 : decode cX8_learnsMost 6 = .ok (.iconst 0, 1) := by decide +kernel
theorem dX8_learnsMost_7 : decode cX8_learnsMost 7 = .ok (.istore_n 3, 1) := by decide +kernel
theorem dX8_learnsMost_8 : decode cX8_learnsMost 8 = .ok (.iload_n 3, 1) := by decide +kernel
theorem dX8_learnsMost_9 : decode cX8_learnsMost 9 = .ok (.aload_n 0, 1) := by decide +kernel
theorem dX8_learnsMost_10 : decode cX8_learnsMost 10 = .ok (.getfield 13, 3) := by decide +kernel
theorem dX8_learnsMost_13 : decode cX8_learnsMost 13 = .ok (.iconst 2, 1) := by decide +kernel
theorem dX8_learnsMost_14 : decode cX8_learnsMost 14 = .ok (.iaload, 1) := by decide +kernel
theorem dX8_learnsMost_15 : decode cX8_learnsMost 15 = .ok (.if_icmp .ge 192, 3) := by decide +kernel
theorem dX8_learnsMost_18 : decode cX8_learnsMost 18 = .ok (.aload_n 0, 1) := by decide +kernel
theorem dX8_learnsMost_19 : decode cX8_learnsMost 19 = .ok (.iload_n 3, 1) := by decide +kernel
theorem dX8_learnsMost_20 : decode cX8_learnsMost 20 = .ok (.aload_n 0, 1) := by decide +kernel
theorem dX8_learnsMost_21 : decode cX8_learnsMost 21 = .ok (.getfield 19, 3) := by decide +kernel
theorem dX8_learnsMost_24 : decode cX8_learnsMost 24 = .ok (.iconst 5, 1) := by decide +kernel
theorem dX8_learnsMost_25 : decode cX8_learnsMost 25 = .ok (.iaload, 1) := by decide +kernel
theorem dX8_learnsMost_26 : decode cX8_learnsMost 26 = .ok (.invokevirtual 146, 3) := by decide +kernel
theorem dX8_learnsMost_29 : decode cX8_learnsMost 29 = .ok (.istore 4, 2) := by decide +kernel
theorem dX8_learnsMost_31 : decode cX8_learnsMost 31 = .ok (.iconst 0, 1) := by decide +kernel
theorem dX8_learnsMost_32 : decode cX8_learnsMost 32 = .ok (.istore 5, 2) := by decide +kernel
theorem dX8_learnsMost_34 : decode cX8_learnsMost 34 = .ok (.iload 5, 2) := by decide +kernel
theorem dX8_learnsMost_36 : decode cX8_learnsMost 36 = .ok (.aload_n 0, 1) := by decide +kernel
theorem dX8_learnsMost_37 : decode cX8_learnsMost 37 = .ok (.getfield 13, 3) := by decide +kernel
theorem dX8_learnsMost_40 : decode cX8_learnsMost 40 = .ok (.iconst 0, 1) := by decide +kernel
theorem dX8_learnsMost_41 : decode cX8_learnsMost 41 = .ok (.iaload, 1) := by decide +kernel
theorem dX8_learnsMost_42 : decode cX8_learnsMost 42 = .ok (.if_icmp .gt 159, 3) := by decide +kernel
theorem dX8_learnsMost_45 : decode cX8_learnsMost 45 = .ok (.iload_n 2, 1) := by decide +kernel
theorem dX8_learnsMost_46 : decode cX8_learnsMost 46 = .ok (.iload_n 1, 1) := by decide +kernel
theorem dX8_learnsMost_47 : decode cX8_learnsMost 47 = .ok (.if_icmp .ne 7, 3) := by decide +kernel
theorem dX8_learnsMost_50 : decode cX8_learnsMost 50 = .ok (.iconst 0, 1) := by decide +kernel
theorem dX8_learnsMost_51 : decode cX8_learnsMost 51 = .ok (.goto 4, 3) := by decide +kernel
theorem dX8_learnsMost_54 : decode cX8_learnsMost 54 = .ok (.iconst (-1), 1) := by decide +kernel
theorem dX8_learnsMost_55 : decode cX8_learnsMost 55 = .ok (.istore 6, 2) := by decide +kernel
theorem dX8_learnsMost_57 : decode cX8_learnsMost 57 = .ok (.iload_n 2, 1) := by decide +kernel
theorem dX8_learnsMost_58 : decode cX8_learnsMost 58 = .ok (.iload_n 1, 1) := by decide +kernel
theorem dX8_learnsMost_59 : decode cX8_learnsMost 59 = .ok (.if_icmp .ge 50, 3) := by decide +kernel
theorem dX8_learnsMost_62 : decode cX8_learnsMost 62 = .ok (.iload 5, 2) := by decide +kernel
theorem dX8_learnsMost_64 : decode cX8_learnsMost 64 = .ok (.aload_n 0, 1) := by decide +kernel
theorem dX8_learnsMost_65 : decode cX8_learnsMost 65 = .ok (.getfield 13, 3) := by decide +kernel
theorem dX8_learnsMost_68 : decode cX8_learnsMost 68 = .ok (.iconst 0, 1) := by decide +kernel
theorem dX8_learnsMost_69 : decode cX8_learnsMost 69 = .ok (.iaload, 1) := by decide +kernel
theorem dX8_learnsMost_70 : decode cX8_learnsMost 70 = .ok (.if_icmp .ge 39, 3) := by decide +kernel
theorem dX8_learnsMost_73 : decode cX8_learnsMost 73 = .ok (.aload_n 0, 1) := by decide +kernel
theorem dX8_learnsMost_74 : decode cX8_learnsMost 74 = .ok (.iload_n 2, 1) := by decide +kernel
theorem dX8_learnsMost_75 : decode cX8_learnsMost 75 = .ok (.iconst 1, 1) := by decide +kernel
theorem dX8_learnsMost_76 : decode cX8_learnsMost 76 = .ok (.iadd, 1) := by decide +kernel
theorem dX8_learnsMost_77 : decode cX8_learnsMost 77 = .ok (.iload_n 3, 1) := by decide +kernel
theorem dX8_learnsMost_78 : decode cX8_learnsMost 78 = .ok (.iload 5, 2) := by decide +kernel
theorem dX8_learnsMost_80 : decode cX8_learnsMost 80 = .ok (.iconst 1, 1) := by decide +kernel
theorem dX8_learnsMost_81 : decode cX8_learnsMost 81 = .ok (.iadd, 1) := by decide +kernel
theorem dX8_learnsMost_82 : decode cX8_learnsMost 82 = .ok (.invokevirtual 184, 3) := by decide +kernel
theorem dX8_learnsMost_85 : decode cX8_learnsMost 85 = .ok (.ifCond .lt 24, 3) := by decide +kernel
theorem dX8_learnsMost_88 : decode cX8_learnsMost 88 = .ok (.aload_n 0, 1) := by decide +kernel
theorem dX8_learnsMost_89 : decode cX8_learnsMost 89 = .ok (.iload_n 3, 1) := by decide +kernel
theorem dX8_learnsMost_90 : decode cX8_learnsMost 90 = .ok (.iload_n 2, 1) := by decide +kernel
theorem dX8_learnsMost_91 : decode cX8_learnsMost 91 = .ok (.invokevirtual 188, 3) := by decide +kernel
theorem dX8_learnsMost_94 : decode cX8_learnsMost 94 = .ok (.aload_n 0, 1) := by decide +kernel
theorem dX8_learnsMost_95 : decode cX8_learnsMost 95 = .ok (.iload_n 2, 1) := by decide +kernel
theorem dX8_learnsMost_96 : decode cX8_learnsMost 96 = .ok (.iconst 1, 1) := by decide +kernel
theorem dX8_learnsMost_97 : decode cX8_learnsMost 97 = .ok (.iadd, 1) := by decide +kernel
theorem dX8_learnsMost_98 : decode cX8_learnsMost 98 = .ok (.iload_n 3, 1) := by decide +kernel
theorem dX8_learnsMost_99 : decode cX8_learnsMost 99 = .ok (.iload 5, 2) := by decide +kernel
theorem dX8_learnsMost_101 : decode cX8_learnsMost 101 = .ok (.iconst 1, 1) := by decide +kernel
theorem dX8_learnsMost_102 : decode cX8_learnsMost 102 = .ok (.iadd, 1) := by decide +kernel
theorem dX8_learnsMost_103 : decode cX8_learnsMost 103 = .ok (.invokevirtual 184, 3) := by decide +kernel
theorem dX8_learnsMost_106 : decode cX8_learnsMost 106 = .ok (.iadd, 1) := by decide +kernel
theorem dX8_learnsMost_107 : decode cX8_learnsMost 107 = .ok (.istore 6, 2) := by decide +kernel
theorem dX8_learnsMost_109 : decode cX8_learnsMost 109 = .ok (.iconst 0, 1) := by decide +kernel
theorem dX8_learnsMost_110 : decode cX8_learnsMost 110 = .ok (.istore 7, 2) := by decide +kernel
theorem dX8_learnsMost_112 : decode cX8_learnsMost 112 = .ok (.iload 7, 2) := by decide +kernel
theorem dX8_learnsMost_114 : decode cX8_learnsMost 114 = .ok (.aload_n 0, 1) := by decide +kernel
theorem dX8_learnsMost_115 : decode cX8_learnsMost 115 = .ok (.getfield 13, 3) := by decide +kernel
theorem dX8_learnsMost_118 : decode cX8_learnsMost 118 = .ok (.iconst 2, 1) := by decide +kernel
theorem dX8_learnsMost_119 : decode cX8_learnsMost 119 = .ok (.iaload, 1) := by decide +kernel
theorem dX8_learnsMost_120 : decode cX8_learnsMost 120 = .ok (.if_icmp .ge 57, 3) := by decide +kernel
theorem dX8_learnsMost_123 : decode cX8_learnsMost 123 = .ok (.iload_n 2, 1) := by decide +kernel
theorem dX8_learnsMost_124 : decode cX8_learnsMost 124 = .ok (.iload_n 1, 1) := by decide +kernel
theorem dX8_learnsMost_125 : decode cX8_learnsMost 125 = .ok (.if_icmp .ge 52, 3) := by decide +kernel
theorem dX8_learnsMost_128 : decode cX8_learnsMost 128 = .ok (.iload 4, 2) := by decide +kernel
theorem dX8_learnsMost_130 : decode cX8_learnsMost 130 = .ok (.iload 7, 2) := by decide +kernel
theorem dX8_learnsMost_132 : decode cX8_learnsMost 132 = .ok (.ishr, 1) := by decide +kernel
theorem dX8_learnsMost_133 : decode cX8_learnsMost 133 = .ok (.iconst 1, 1) := by decide +kernel
theorem dX8_learnsMost_134 : decode cX8_learnsMost 134 = .ok (.iand, 1) := by decide +kernel
theorem dX8_learnsMost_135 : decode cX8_learnsMost 135 = .ok (.iconst 1, 1) := by decide +kernel
theorem dX8_learnsMost_136 : decode cX8_learnsMost 136 = .ok (.if_icmp .ne 16, 3) := by decide +kernel
theorem dX8_learnsMost_139 : decode cX8_learnsMost 139 = .ok (.aload_n 0, 1) := by decide +kernel
theorem dX8_learnsMost_140 : decode cX8_learnsMost 140 = .ok (.iload_n 2, 1) := by decide +kernel
theorem dX8_learnsMost_141 : decode cX8_learnsMost 141 = .ok (.iconst 1, 1) := by decide +kernel
theorem dX8_learnsMost_142 : decode cX8_learnsMost 142 = .ok (.iadd, 1) := by decide +kernel
theorem dX8_learnsMost_143 : decode cX8_learnsMost 143 = .ok (.iload 7, 2) := by decide +kernel
theorem dX8_learnsMost_145 : decode cX8_learnsMost 145 = .ok (.iconst 0, 1) := by decide +kernel
theorem dX8_learnsMost_146 : decode cX8_learnsMost 146 = .ok (.invokevirtual 184, 3) := by decide +kernel
theorem dX8_learnsMost_149 : decode cX8_learnsMost 149 = .ok (.goto 4, 3) := by decide +kernel
theorem dX8_learnsMost_152 : decode cX8_learnsMost 152 = .ok (.iconst (-1), 1) := by decide +kernel
theorem dX8_learnsMost_153 : decode cX8_learnsMost 153 = .ok (.istore 8, 2) := by decide +kernel
theorem dX8_learnsMost_155 : decode cX8_learnsMost 155 = .ok (.iload 8, 2) := by decide +kernel
theorem dX8_learnsMost_157 : decode cX8_learnsMost 157 = .ok (.iload 6, 2) := by decide +kernel
theorem dX8_learnsMost_159 : decode cX8_learnsMost 159 = .ok (.if_icmp .le 8, 3) := by decide +kernel
theorem dX8_learnsMost_162 : decode cX8_learnsMost 162 = .ok (.iload 8, 2) := by decide +kernel
theorem dX8_learnsMost_164 : decode cX8_learnsMost 164 = .ok (.goto 5, 3) := by decide +kernel
theorem dX8_learnsMost_167 : decode cX8_learnsMost 167 = .ok (.iload 6, 2) := by decide +kernel
theorem dX8_learnsMost_169 : decode cX8_learnsMost 169 = .ok (.istore 6, 2) := by decide +kernel
theorem dX8_learnsMost_171 : decode cX8_learnsMost 171 = .ok (.iinc 7 1, 3) := by decide +kernel
theorem dX8_learnsMost_174 : decode cX8_learnsMost 174 = .ok (.goto (-62), 3) := by decide +kernel
theorem dX8_learnsMost_177 : decode cX8_learnsMost 177 = .ok (.aload_n 0, 1) := by decide +kernel
theorem dX8_learnsMost_178 : decode cX8_learnsMost 178 = .ok (.getfield 42, 3) := by decide +kernel
theorem dX8_learnsMost_181 : decode cX8_learnsMost 181 = .ok (.bipush 40, 2) := by decide +kernel
theorem dX8_learnsMost_183 : decode cX8_learnsMost 183 = .ok (.iload_n 2, 1) := by decide +kernel
theorem dX8_learnsMost_184 : decode cX8_learnsMost 184 = .ok (.imul, 1) := by decide +kernel
theorem dX8_learnsMost_185 : decode cX8_learnsMost 185 = .ok (.iconst 5, 1) := by decide +kernel
theorem dX8_learnsMost_186 : decode cX8_learnsMost 186 = .ok (.iload_n 3, 1) := by decide +kernel
theorem dX8_learnsMost_187 : decode cX8_learnsMost 187 = .ok (.imul, 1) := by decide +kernel
theorem dX8_learnsMost_188 : decode cX8_learnsMost 188 = .ok (.iadd, 1) := by decide +kernel
theorem dX8_learnsMost_189 : decode cX8_learnsMost 189 = .ok (.iload 5, 2) := by decide +kernel
theorem dX8_learnsMost_191 : decode cX8_learnsMost 191 = .ok (.iadd, 1) := by decide +kernel
theorem dX8_learnsMost_192 : decode cX8_learnsMost 192 = .ok (.iload 6, 2) := by decide +kernel
theorem dX8_learnsMost_194 : decode cX8_learnsMost 194 = .ok (.iastore, 1) := by decide +kernel
theorem dX8_learnsMost_195 : decode cX8_learnsMost 195 = .ok (.iinc 5 1, 3) := by decide +kernel
theorem dX8_learnsMost_198 : decode cX8_learnsMost 198 = .ok (.goto (-164), 3) := by decide +kernel
theorem dX8_learnsMost_201 : decode cX8_learnsMost 201 = .ok (.iinc 3 1, 3) := by decide +kernel
theorem dX8_learnsMost_204 : decode cX8_learnsMost 204 = .ok (.goto (-196), 3) := by decide +kernel
theorem dX8_learnsMost_207 : decode cX8_learnsMost 207 = .ok (.iinc 2 (-1), 3) := by decide +kernel
theorem dX8_learnsMost_210 : decode cX8_learnsMost 210 = .ok (.goto (-208), 3) := by decide +kernel
theorem dX8_learnsMost_213 : decode cX8_learnsMost 213 = .ok (.return_, 1) := by decide +kernel
set_option maxRecDepth 20000 in
theorem ggX8_best_X8_in : GoodIn wsX8_best wsX8_in := goodIn_m (fun w hw => by
  revert w hw; unfold wsX8_in
  exact am_cons (am_at in_wsX8_best_0 7 rfl) am_nil) gw_wsX8_in
set_option maxRecDepth 20000 in
theorem gX8_best_X8_in : GoodIn wsX8_best (va_wsS RX8 55 yX8_in wsX8_in) := goodIn_app (goodIn_m (am_cons (am_at in_wsX8_best_0 4 rfl) (am_cons (am_at in_wsX8_best_0 5 rfl) (am_cons (am_at in_wsX8_best_0 6 rfl) am_nil))) (by decide +kernel)) ggX8_best_X8_in
set_option maxRecDepth 20000 in
theorem ggX8_best_X8_goesOn : GoodIn wsX8_best wsX8_goesOn := goodIn_m (fun w hw => by
  revert w hw; unfold wsX8_goesOn
  exact am_cons (am_at in_wsX8_best_0 11 rfl) (am_app (am_cons (am_at in_wsX8_best_0 3 rfl) (am_cons (am_at in_wsX8_best_0 2 rfl) am_nil)) in_wsX8_best_2)) gw_wsX8_goesOn
set_option maxRecDepth 20000 in
theorem gX8_best_X8_goesOn : GoodIn wsX8_best (wsV RX8 133 RX8 yX8_goesOn wsX8_goesOn) := goodIn_app (goodIn_m (am_cons (am_at in_wsX8_best_0 8 rfl) (am_cons (am_at in_wsX8_best_0 9 rfl) (am_cons (am_at in_wsX8_best_0 10 rfl) (am_cons (am_at in_wsX8_best_0 6 rfl) am_nil)))) (by decide +kernel)) ggX8_best_X8_goesOn
set_option maxRecDepth 20000 in
theorem ggX8_best_X8_learnsMost : GoodIn wsX8_best wsX8_learnsMost := goodIn_m (fun w hw => by
  revert w hw; unfold wsX8_learnsMost wsX8_learnsMost_r1 wsX8_learnsMost_r2
  exact am_cons (am_at in_wsX8_best_0 15 rfl) (am_app (am_app (am_cons (am_at in_wsX8_best_0 3 rfl) (am_cons (am_at in_wsX8_best_0 2 rfl) (am_cons (am_at in_wsX8_best_0 16 rfl) (am_cons (am_at in_wsX8_best_0 17 rfl) (am_cons (am_at in_wsX8_best_0 18 rfl) (am_cons (am_at in_wsX8_best_0 19 rfl) (am_cons (am_at in_wsX8_best_0 6 rfl) (am_cons (am_at in_wsX8_best_0 20 rfl) (am_cons (am_at in_wsX8_best_0 21 rfl) (am_cons (am_at in_wsX8_best_0 22 rfl) (am_cons (am_at in_wsX8_best_0 23 rfl) (am_cons (am_at in_wsX8_best_1 0 rfl) (am_cons (am_at in_wsX8_best_1 1 rfl) (am_cons (am_at in_wsX8_best_1 2 rfl) (am_cons (am_at in_wsX8_best_1 3 rfl) (am_cons (am_at in_wsX8_best_1 4 rfl) (am_cons (am_at in_wsX8_best_1 5 rfl) (am_cons (am_at in_wsX8_best_1 6 rfl) (am_cons (am_at in_wsX8_best_1 7 rfl) (am_cons (am_at in_wsX8_best_1 8 rfl) (am_cons (am_at in_wsX8_best_1 9 rfl) (am_cons (am_at in_wsX8_best_1 10 rfl) (am_cons (am_at in_wsX8_best_1 11 rfl) (am_cons (am_at in_wsX8_best_1 12 rfl) am_nil)))))))))))))))))))))))) (am_cons (am_at in_wsX8_best_1 13 rfl) (am_cons (am_at in_wsX8_best_1 14 rfl) (am_cons (am_at in_wsX8_best_1 15 rfl) (am_cons (am_at in_wsX8_best_1 16 rfl) am_nil))))) in_wsX8_best_2)) gw_wsX8_learnsMost
set_option maxRecDepth 20000 in
theorem gX8_best_X8_learnsMost : GoodIn wsX8_best (wsV RX8 191 RX8 yX8_learnsMost wsX8_learnsMost) := goodIn_app (goodIn_m (am_cons (am_at in_wsX8_best_0 12 rfl) (am_cons (am_at in_wsX8_best_0 13 rfl) (am_cons (am_at in_wsX8_best_0 14 rfl) (am_cons (am_at in_wsX8_best_0 6 rfl) am_nil)))) (by decide +kernel)) ggX8_best_X8_learnsMost
set_option maxRecDepth 20000 in
theorem ggX8_best_X8_mostAt : GoodIn wsX8_best wsX8_mostAt := goodIn_m (fun w hw => by
  revert w hw; unfold wsX8_mostAt
  exact am_cons (am_at in_wsX8_best_1 8 rfl) (am_app (am_cons (am_at in_wsX8_best_0 16 rfl) am_nil) in_wsX8_best_2)) gw_wsX8_mostAt
set_option maxRecDepth 20000 in
theorem gX8_best_X8_mostAt : GoodIn wsX8_best (wsV RX8 184 RX8 yX8_mostAt wsX8_mostAt) := goodIn_app (goodIn_m (am_cons (am_at in_wsX8_best_1 5 rfl) (am_cons (am_at in_wsX8_best_1 6 rfl) (am_cons (am_at in_wsX8_best_1 7 rfl) (am_cons (am_at in_wsX8_best_0 6 rfl) am_nil)))) (by decide +kernel)) ggX8_best_X8_mostAt
set_option maxRecDepth 20000 in
theorem ggX8_best_X8_learns : GoodIn wsX8_best wsX8_learns := goodIn_m (fun w hw => by
  revert w hw; unfold wsX8_learns
  exact am_cons (am_at in_wsX8_best_1 12 rfl) (am_app (am_cons (am_at in_wsX8_best_0 2 rfl) (am_cons (am_at in_wsX8_best_0 3 rfl) (am_cons (am_at in_wsX8_best_1 13 rfl) (am_cons (am_at in_wsX8_best_1 14 rfl) (am_cons (am_at in_wsX8_best_1 15 rfl) (am_cons (am_at in_wsX8_best_0 6 rfl) (am_cons (am_at in_wsX8_best_1 16 rfl) am_nil))))))) in_wsX8_best_2)) gw_wsX8_learns
set_option maxRecDepth 20000 in
theorem gX8_best_X8_learns : GoodIn wsX8_best (wsV RX8 188 RX8 yX8_learns wsX8_learns) := goodIn_app (goodIn_m (am_cons (am_at in_wsX8_best_1 9 rfl) (am_cons (am_at in_wsX8_best_1 10 rfl) (am_cons (am_at in_wsX8_best_1 11 rfl) (am_cons (am_at in_wsX8_best_0 6 rfl) am_nil)))) (by decide +kernel)) ggX8_best_X8_learns
set_option maxRecDepth 20000 in
theorem ggX8_best_X8_walks : GoodIn wsX8_best wsX8_walks := goodIn_m (fun w hw => by
  revert w hw; unfold wsX8_walks
  exact am_cons (am_at in_wsX8_best_0 20 rfl) (am_app (am_cons (am_at in_wsX8_best_0 3 rfl) (am_cons (am_at in_wsX8_best_0 21 rfl) (am_cons (am_at in_wsX8_best_0 22 rfl) (am_cons (am_at in_wsX8_best_0 23 rfl) (am_cons (am_at in_wsX8_best_0 6 rfl) (am_cons (am_at in_wsX8_best_1 0 rfl) (am_cons (am_at in_wsX8_best_1 1 rfl) (am_cons (am_at in_wsX8_best_1 2 rfl) (am_cons (am_at in_wsX8_best_1 3 rfl) (am_cons (am_at in_wsX8_best_1 4 rfl) am_nil)))))))))) in_wsX8_best_2)) gw_wsX8_walks
set_option maxRecDepth 20000 in
theorem gX8_best_X8_walks : GoodIn wsX8_best (wsV RX8 146 RX8 yX8_walks wsX8_walks) := goodIn_app (goodIn_m (am_cons (am_at in_wsX8_best_0 17 rfl) (am_cons (am_at in_wsX8_best_0 18 rfl) (am_cons (am_at in_wsX8_best_0 19 rfl) (am_cons (am_at in_wsX8_best_0 6 rfl) am_nil)))) (by decide +kernel)) ggX8_best_X8_walks
theorem dX8_best_0 : decode cX8_best 0 = .ok (.iload_n 1, 1) := by decide +kernel
theorem dX8_best_1 : decode cX8_best 1 = .ok (.iconst 1, 1) := by decide +kernel
theorem dX8_best_2 : decode cX8_best 2 = .ok (.bipush 36, 2) := by decide +kernel
theorem dX8_best_4 : decode cX8_best 4 = .ok (.invokestatic 55, 3) := by decide +kernel
theorem dX8_best_7 : decode cX8_best 7 = .ok (.ifCond .ne 6, 3) := by decide +kernel
theorem dX8_best_10 : decode cX8_best 10 = .ok (.ldc 59, 2) := by decide +kernel
theorem dX8_best_12 : decode cX8_best 12 = .ok (.ireturn, 1) := by decide +kernel
theorem dX8_best_13 : decode cX8_best 13 = .ok (.aload_n 0, 1) := by decide +kernel
theorem dX8_best_14 : decode cX8_best 14 = .ok (.invokevirtual 133, 3) := by decide +kernel
theorem dX8_best_17 : decode cX8_best 17 = .ok (.ifCond .ne 6, 3) := by decide +kernel
theorem dX8_best_20 : decode cX8_best 20 = .ok (.ldc 139, 2) := by decide +kernel
theorem dX8_best_22 : decode cX8_best 22 = .ok (.ireturn, 1) := by decide +kernel
theorem dX8_best_23 : decode cX8_best 23 = .ok (.iload_n 2, 1) := by decide +kernel
theorem dX8_best_24 : decode cX8_best 24 = .ok (.iconst (-1), 1) := by decide +kernel
theorem dX8_best_25 : decode cX8_best 25 = .ok (.iload_n 1, 1) := by decide +kernel
theorem dX8_best_26 : decode cX8_best 26 = .ok (.iconst 1, 1) := by decide +kernel
theorem dX8_best_27 : decode cX8_best 27 = .ok (.isub, 1) := by decide +kernel
theorem dX8_best_28 : decode cX8_best 28 = .ok (.invokestatic 55, 3) := by decide +kernel
theorem dX8_best_31 : decode cX8_best 31 = .ok (.ifCond .ne 5, 3) := by decide +kernel
theorem dX8_best_34 : decode cX8_best 34 = .ok (.iconst (-1), 1) := by decide +kernel
theorem dX8_best_35 : decode cX8_best 35 = .ok (.ireturn, 1) := by decide +kernel
theorem dX8_best_36 : decode cX8_best 36 = .ok (.aload_n 0, 1) := by decide +kernel
theorem dX8_best_37 : decode cX8_best 37 = .ok (.iload_n 1, 1) := by decide +kernel
theorem dX8_best_38 : decode cX8_best 38 = .ok (.invokevirtual 191, 3) := by decide +kernel
theorem dX8_best_41 : decode cX8_best 41 = .ok (.aload_n 0, 1) := by decide +kernel
theorem dX8_best_42 : decode cX8_best 42 = .ok (.getfield 19, 3) := by decide +kernel
theorem dX8_best_45 : decode cX8_best 45 = .ok (.iconst 0, 1) := by decide +kernel
theorem dX8_best_46 : decode cX8_best 46 = .ok (.iaload, 1) := by decide +kernel
theorem dX8_best_47 : decode cX8_best 47 = .ok (.istore_n 3, 1) := by decide +kernel
theorem dX8_best_48 : decode cX8_best 48 = .ok (.aload_n 0, 1) := by decide +kernel
theorem dX8_best_49 : decode cX8_best 49 = .ok (.getfield 19, 3) := by decide +kernel
theorem dX8_best_52 : decode cX8_best 52 = .ok (.iconst 2, 1) := by decide +kernel
theorem dX8_best_53 : decode cX8_best 53 = .ok (.iaload, 1) := by decide +kernel
theorem dX8_best_54 : decode cX8_best 54 = .ok (.istore 4, 2) := by decide +kernel
theorem dX8_best_56 : decode cX8_best 56 = .ok (.aload_n 0, 1) := by decide +kernel
theorem dX8_best_57 : decode cX8_best 57 = .ok (.iconst 0, 1) := by decide +kernel
theorem dX8_best_58 : decode cX8_best 58 = .ok (.iload_n 3, 1) := by decide +kernel
theorem dX8_best_59 : decode cX8_best 59 = .ok (.iload 4, 2) := by decide +kernel
theorem dX8_best_61 : decode cX8_best 61 = .ok (.invokevirtual 184, 3) := by decide +kernel
theorem dX8_best_64 : decode cX8_best 64 = .ok (.istore 5, 2) := by decide +kernel
theorem dX8_best_66 : decode cX8_best 66 = .ok (.iload_n 2, 1) := by decide +kernel
theorem dX8_best_67 : decode cX8_best 67 = .ok (.iconst (-1), 1) := by decide +kernel
theorem dX8_best_68 : decode cX8_best 68 = .ok (.if_icmp .eq 9, 3) := by decide +kernel
theorem dX8_best_71 : decode cX8_best 71 = .ok (.iload 5, 2) := by decide +kernel
theorem dX8_best_73 : decode cX8_best 73 = .ok (.iconst (-1), 1) := by decide +kernel
theorem dX8_best_74 : decode cX8_best 74 = .ok (.if_icmp .ne 6, 3) := by decide +kernel
theorem dX8_best_77 : decode cX8_best 77 = .ok (.iload 5, 2) := by decide +kernel
theorem dX8_best_79 : decode cX8_best 79 = .ok (.ireturn, 1) := by decide +kernel
theorem dX8_best_80 : decode cX8_best 80 = .ok (.iconst 0, 1) := by decide +kernel
theorem dX8_best_81 : decode cX8_best 81 = .ok (.istore 6, 2) := by decide +kernel
theorem dX8_best_83 : decode cX8_best 83 = .ok (.iload 6, 2) := by decide +kernel
theorem dX8_best_85 : decode cX8_best 85 = .ok (.iload_n 2, 1) := by decide +kernel
theorem dX8_best_86 : decode cX8_best 86 = .ok (.if_icmp .gt 167, 3) := by decide +kernel
theorem dX8_best_89 : decode cX8_best 89 = .ok (.iload 4, 2) := by decide +kernel
theorem dX8_best_91 : decode cX8_best 91 = .ok (.aload_n 0, 1) := by decide +kernel
theorem dX8_best_92 : decode cX8_best 92 = .ok (.getfield 13, 3) := by decide +kernel
theorem dX8_best_95 : decode cX8_best 95 = .ok (.iconst 0, 1) := by decide +kernel
theorem dX8_best_96 : decode cX8_best 96 = .ok (.iaload, 1) := by decide +kernel
theorem dX8_best_97 : decode cX8_best 97 = .ok (.if_icmp .ge 43, 3) := by decide +kernel
theorem dX8_best_100 : decode cX8_best 100 = .ok (.aload_n 0, 1) := by decide +kernel
theorem dX8_best_101 : decode cX8_best 101 = .ok (.iload 6, 2) := by decide +kernel
theorem dX8_best_103 : decode cX8_best 103 = .ok (.iconst 1, 1) := by decide +kernel
theorem dX8_best_104 : decode cX8_best 104 = .ok (.iadd, 1) := by decide +kernel
theorem dX8_best_105 : decode cX8_best 105 = .ok (.iload_n 3, 1) := by decide +kernel
theorem dX8_best_106 : decode cX8_best 106 = .ok (.iload 4, 2) := by decide +kernel
theorem dX8_best_108 : decode cX8_best 108 = .ok (.iconst 1, 1) := by decide +kernel
theorem dX8_best_109 : decode cX8_best 109 = .ok (.iadd, 1) := by decide +kernel
theorem dX8_best_110 : decode cX8_best 110 = .ok (.invokevirtual 184, 3) := by decide +kernel
theorem dX8_best_113 : decode cX8_best 113 = .ok (.ifCond .lt 27, 3) := by decide +kernel
theorem dX8_best_116 : decode cX8_best 116 = .ok (.aload_n 0, 1) := by decide +kernel
theorem dX8_best_117 : decode cX8_best 117 = .ok (.iload_n 3, 1) := by decide +kernel
theorem dX8_best_118 : decode cX8_best 118 = .ok (.iload 6, 2) := by decide +kernel
theorem dX8_best_120 : decode cX8_best 120 = .ok (.invokevirtual 188, 3) := by decide +kernel
theorem dX8_best_123 : decode cX8_best 123 = .ok (.aload_n 0, 1) := by decide +kernel
theorem dX8_best_124 : decode cX8_best 124 = .ok (.iload 6, 2) := by decide +kernel
theorem dX8_best_126 : decode cX8_best 126 = .ok (.iconst 1, 1) := by decide +kernel
theorem dX8_best_127 : decode cX8_best 127 = .ok (.iadd, 1) := by decide +kernel
theorem dX8_best_128 : decode cX8_best 128 = .ok (.iload_n 3, 1) := by decide +kernel
theorem dX8_best_129 : decode cX8_best 129 = .ok (.iload 4, 2) := by decide +kernel
theorem dX8_best_131 : decode cX8_best 131 = .ok (.iconst 1, 1) := by decide +kernel
theorem dX8_best_132 : decode cX8_best 132 = .ok (.iadd, 1) := by decide +kernel
theorem dX8_best_133 : decode cX8_best 133 = .ok (.invokevirtual 184, 3) := by decide +kernel
theorem dX8_best_136 : decode cX8_best 136 = .ok (.iadd, 1) := by decide +kernel
theorem dX8_best_137 : decode cX8_best 137 = .ok (.goto 4, 3) := by decide +kernel
theorem dX8_best_140 : decode cX8_best 140 = .ok (.iconst (-1), 1) := by decide +kernel
theorem dX8_best_141 : decode cX8_best 141 = .ok (.istore 7, 2) := by decide +kernel
theorem dX8_best_143 : decode cX8_best 143 = .ok (.iload 7, 2) := by decide +kernel
theorem dX8_best_145 : decode cX8_best 145 = .ok (.iload 5, 2) := by decide +kernel
theorem dX8_best_147 : decode cX8_best 147 = .ok (.if_icmp .ne 21, 3) := by decide +kernel
theorem dX8_best_150 : decode cX8_best 150 = .ok (.iload 5, 2) := by decide +kernel
theorem dX8_best_152 : decode cX8_best 152 = .ok (.aload_n 0, 1) := by decide +kernel
theorem dX8_best_153 : decode cX8_best 153 = .ok (.iload_n 3, 1) := by decide +kernel
theorem dX8_best_154 : decode cX8_best 154 = .ok (.iload 6, 2) := by decide +kernel
theorem dX8_best_156 : decode cX8_best 156 = .ok (.invokevirtual 188, 3) := by decide +kernel
theorem dX8_best_159 : decode cX8_best 159 = .ok (.isub, 1) := by decide +kernel
theorem dX8_best_160 : decode cX8_best 160 = .ok (.istore 5, 2) := by decide +kernel
theorem dX8_best_162 : decode cX8_best 162 = .ok (.iinc 4 1, 3) := by decide +kernel
theorem dX8_best_165 : decode cX8_best 165 = .ok (.goto 82, 3) := by decide +kernel
theorem dX8_best_168 : decode cX8_best 168 = .ok (.aload_n 0, 1) := by decide +kernel
theorem dX8_best_169 : decode cX8_best 169 = .ok (.iload_n 3, 1) := by decide +kernel
theorem dX8_best_170 : decode cX8_best 170 = .ok (.aload_n 0, 1) := by decide +kernel
theorem dX8_best_171 : decode cX8_best 171 = .ok (.getfield 19, 3) := by decide +kernel
theorem dX8_best_174 : decode cX8_best 174 = .ok (.iconst 5, 1) := by decide +kernel
theorem dX8_best_175 : decode cX8_best 175 = .ok (.iaload, 1) := by decide +kernel
theorem dX8_best_176 : decode cX8_best 176 = .ok (.invokevirtual 146, 3) := by decide +kernel
theorem dX8_best_179 : decode cX8_best 179 = .ok (.istore 8, 2) := by decide +kernel
theorem dX8_best_181 : decode cX8_best 181 = .ok (.iconst (-1), 1) := by decide +kernel
theorem dX8_best_182 : decode cX8_best 182 = .ok (.istore 9, 2) := by decide +kernel
theorem dX8_best_184 : decode cX8_best 184 = .ok (.aload_n 0, 1) := by decide +kernel
theorem dX8_best_185 : decode cX8_best 185 = .ok (.getfield 13, 3) := by decide +kernel
theorem dX8_best_188 : decode cX8_best 188 = .ok (.iconst 2, 1) := by decide +kernel
theorem dX8_best_189 : decode cX8_best 189 = .ok (.iaload, 1) := by decide +kernel
theorem dX8_best_190 : decode cX8_best 190 = .ok (.iconst 1, 1) := by decide +kernel
theorem dX8_best_191 : decode cX8_best 191 = .ok (.isub, 1) := by decide +kernel
theorem dX8_best_192 : decode cX8_best 192 = .ok (.istore 10, 2) := by decide +kernel
theorem dX8_best_194 : decode cX8_best 194 = .ok (.iload 10, 2) := by decide +kernel
theorem dX8_best_196 : decode cX8_best 196 = .ok (.ifCond .lt 45, 3) := by decide +kernel
theorem dX8_best_199 : decode cX8_best 199 = .ok (.iload 8, 2) := by decide +kernel
theorem dX8_best_201 : decode cX8_best 201 = .ok (.iload 10, 2) := by decide +kernel
theorem dX8_best_203 : decode cX8_best 203 = .ok (.ishr, 1) := by decide +kernel
theorem dX8_best_204 : decode cX8_best 204 = .ok (.iconst 1, 1) := by decide +kernel
theorem dX8_best_205 : decode cX8_best 205 = .ok (.iand, 1) := by decide +kernel
theorem dX8_best_206 : decode cX8_best 206 = .ok (.iconst 1, 1) := by decide +kernel
theorem dX8_best_207 : decode cX8_best 207 = .ok (.if_icmp .ne 24, 3) := by decide +kernel
theorem dX8_best_210 : decode cX8_best 210 = .ok (.aload_n 0, 1) := by decide +kernel
theorem dX8_best_211 : decode cX8_best 211 = .ok (.iload 6, 2) := by decide +kernel
theorem dX8_best_213 : decode cX8_best 213 = .ok (.iconst 1, 1) := by decide +kernel
theorem dX8_best_214 : decode cX8_best 214 = .ok (.iadd, 1) := by decide +kernel
theorem dX8_best_215 : decode cX8_best 215 = .ok (.iload 10, 2) := by decide +kernel
theorem dX8_best_217 : decode cX8_best 217 = .ok (.iconst 0, 1) := by decide +kernel
theorem dX8_best_218 : decode cX8_best 218 = .ok (.invokevirtual 184, 3) := by decide +kernel
theorem dX8_best_221 : decode cX8_best 221 = .ok (.iload 5, 2) := by decide +kernel
theorem dX8_best_223 : decode cX8_best 223 = .ok (.if_icmp .ne 8, 3) := by decide +kernel
theorem dX8_best_226 : decode cX8_best 226 = .ok (.iload 10, 2) := by decide +kernel
theorem dX8_best_228 : decode cX8_best 228 = .ok (.goto 5, 3) := by decide +kernel
theorem dX8_best_231 : decode cX8_best 231 = .ok (.iload 9, 2) := by decide +kernel
theorem dX8_best_233 : decode cX8_best 233 = .ok (.istore 9, 2) := by decide +kernel
theorem dX8_best_235 : decode cX8_best 235 = .ok (.iinc 10 (-1), 3) := by decide +kernel
theorem dX8_best_238 : decode cX8_best 238 = .ok (.goto (-44), 3) := by decide +kernel
theorem dX8_best_241 : decode cX8_best 241 = .ok (.iload 9, 2) := by decide +kernel
theorem dX8_best_243 : decode cX8_best 243 = .ok (.istore_n 3, 1) := by decide +kernel
theorem dX8_best_244 : decode cX8_best 244 = .ok (.iconst 0, 1) := by decide +kernel
theorem dX8_best_245 : decode cX8_best 245 = .ok (.istore 4, 2) := by decide +kernel
theorem dX8_best_247 : decode cX8_best 247 = .ok (.iinc 6 1, 3) := by decide +kernel
theorem dX8_best_250 : decode cX8_best 250 = .ok (.goto (-167), 3) := by decide +kernel
theorem dX8_best_253 : decode cX8_best 253 = .ok (.iload_n 3, 1) := by decide +kernel
theorem dX8_best_254 : decode cX8_best 254 = .ok (.ireturn, 1) := by decide +kernel
set_option maxRecDepth 20000 in
theorem ggX8_sealsOn_X8_hasWork : GoodIn wsX8_sealsOn wsX8_hasWork := goodIn_m (fun w hw => by
  revert w hw; unfold wsX8_hasWork
  exact am_cons (am_at in_wsX8_sealsOn_0 9 rfl) (am_app (am_cons (am_at in_wsX8_sealsOn_0 2 rfl) am_nil) in_wsX8_sealsOn_2)) gw_wsX8_hasWork
set_option maxRecDepth 20000 in
theorem gX8_sealsOn_X8_hasWork : GoodIn wsX8_sealsOn (wsV RX8 130 RX8 yX8_hasWork wsX8_hasWork) := goodIn_app (goodIn_m (am_cons (am_at in_wsX8_sealsOn_0 5 rfl) (am_cons (am_at in_wsX8_sealsOn_0 6 rfl) (am_cons (am_at in_wsX8_sealsOn_0 7 rfl) (am_cons (am_at in_wsX8_sealsOn_0 8 rfl) am_nil)))) (by decide +kernel)) ggX8_sealsOn_X8_hasWork
set_option maxRecDepth 20000 in
theorem ggX8_sealsOn_X8_goes : GoodIn wsX8_sealsOn wsX8_goes := goodIn_m (fun w hw => by
  revert w hw; unfold wsX8_goes
  exact am_cons (am_at in_wsX8_sealsOn_0 13 rfl) (am_app (am_cons (am_at in_wsX8_sealsOn_0 2 rfl) (am_cons (am_at in_wsX8_sealsOn_0 14 rfl) (am_cons (am_at in_wsX8_sealsOn_0 15 rfl) (am_cons (am_at in_wsX8_sealsOn_0 16 rfl) (am_cons (am_at in_wsX8_sealsOn_0 8 rfl) (am_cons (am_at in_wsX8_sealsOn_0 17 rfl) (am_cons (am_at in_wsX8_sealsOn_0 18 rfl) (am_cons (am_at in_wsX8_sealsOn_0 19 rfl) (am_cons (am_at in_wsX8_sealsOn_0 20 rfl) (am_cons (am_at in_wsX8_sealsOn_0 21 rfl) (am_cons (am_at in_wsX8_sealsOn_0 22 rfl) (am_cons (am_at in_wsX8_sealsOn_0 23 rfl) (am_cons (am_at in_wsX8_sealsOn_1 0 rfl) (am_cons (am_at in_wsX8_sealsOn_1 1 rfl) (am_cons (am_at in_wsX8_sealsOn_1 2 rfl) (am_cons (am_at in_wsX8_sealsOn_1 3 rfl) (am_cons (am_at in_wsX8_sealsOn_1 4 rfl) (am_cons (am_at in_wsX8_sealsOn_1 5 rfl) (am_cons (am_at in_wsX8_sealsOn_1 6 rfl) (am_cons (am_at in_wsX8_sealsOn_1 7 rfl) am_nil)))))))))))))))))))) in_wsX8_sealsOn_2)) gw_wsX8_goes
set_option maxRecDepth 20000 in
theorem gX8_sealsOn_X8_goes : GoodIn wsX8_sealsOn (wsV RX8 194 RX8 yX8_goes wsX8_goes) := goodIn_app (goodIn_m (am_cons (am_at in_wsX8_sealsOn_0 10 rfl) (am_cons (am_at in_wsX8_sealsOn_0 11 rfl) (am_cons (am_at in_wsX8_sealsOn_0 12 rfl) (am_cons (am_at in_wsX8_sealsOn_0 8 rfl) am_nil)))) (by decide +kernel)) ggX8_sealsOn_X8_goes
set_option maxRecDepth 20000 in
theorem ggX8_sealsOn_X8_towns : GoodIn wsX8_sealsOn wsX8_towns := goodIn_m (fun w hw => by
  revert w hw; unfold wsX8_towns
  exact am_cons (am_at in_wsX8_sealsOn_1 10 rfl) (am_cons (am_at in_wsX8_sealsOn_0 3 rfl) am_nil)) gw_wsX8_towns
set_option maxRecDepth 20000 in
theorem gX8_sealsOn_X8_towns : GoodIn wsX8_sealsOn (va_wsS RX8 198 yX8_towns wsX8_towns) := goodIn_app (goodIn_m (am_cons (am_at in_wsX8_sealsOn_1 8 rfl) (am_cons (am_at in_wsX8_sealsOn_1 9 rfl) (am_cons (am_at in_wsX8_sealsOn_0 8 rfl) am_nil))) (by decide +kernel)) ggX8_sealsOn_X8_towns
set_option maxRecDepth 20000 in
theorem ggX8_sealsOn_X8_walks : GoodIn wsX8_sealsOn wsX8_walks := goodIn_m (fun w hw => by
  revert w hw; unfold wsX8_walks
  exact am_cons (am_at in_wsX8_sealsOn_0 17 rfl) (am_app (am_cons (am_at in_wsX8_sealsOn_0 2 rfl) (am_cons (am_at in_wsX8_sealsOn_0 18 rfl) (am_cons (am_at in_wsX8_sealsOn_0 19 rfl) (am_cons (am_at in_wsX8_sealsOn_0 20 rfl) (am_cons (am_at in_wsX8_sealsOn_0 8 rfl) (am_cons (am_at in_wsX8_sealsOn_0 21 rfl) (am_cons (am_at in_wsX8_sealsOn_0 22 rfl) (am_cons (am_at in_wsX8_sealsOn_0 23 rfl) (am_cons (am_at in_wsX8_sealsOn_1 0 rfl) (am_cons (am_at in_wsX8_sealsOn_1 1 rfl) am_nil)))))))))) in_wsX8_sealsOn_2)) gw_wsX8_walks
set_option maxRecDepth 20000 in
theorem gX8_sealsOn_X8_walks : GoodIn wsX8_sealsOn (wsV RX8 146 RX8 yX8_walks wsX8_walks) := goodIn_app (goodIn_m (am_cons (am_at in_wsX8_sealsOn_0 14 rfl) (am_cons (am_at in_wsX8_sealsOn_0 15 rfl) (am_cons (am_at in_wsX8_sealsOn_0 16 rfl) (am_cons (am_at in_wsX8_sealsOn_0 8 rfl) am_nil)))) (by decide +kernel)) ggX8_sealsOn_X8_walks
set_option maxRecDepth 20000 in
theorem ggX8_sealsOn_X8_bit : GoodIn wsX8_sealsOn wsX8_bit := goodIn_m (fun w hw => by
  revert w hw; unfold wsX8_bit
  exact am_cons (am_at in_wsX8_sealsOn_1 7 rfl) am_nil) gw_wsX8_bit
set_option maxRecDepth 20000 in
theorem gX8_sealsOn_X8_bit : GoodIn wsX8_sealsOn (va_wsS RX8 174 yX8_bit wsX8_bit) := goodIn_app (goodIn_m (am_cons (am_at in_wsX8_sealsOn_1 5 rfl) (am_cons (am_at in_wsX8_sealsOn_1 6 rfl) (am_cons (am_at in_wsX8_sealsOn_0 8 rfl) am_nil))) (by decide +kernel)) ggX8_sealsOn_X8_bit
theorem dX8_sealsOn_0 : decode cX8_sealsOn 0 = .ok (.iconst 0, 1) := by decide +kernel
theorem dX8_sealsOn_1 : decode cX8_sealsOn 1 = .ok (.istore_n 2, 1) := by decide +kernel
theorem dX8_sealsOn_2 : decode cX8_sealsOn 2 = .ok (.iload_n 2, 1) := by decide +kernel
theorem dX8_sealsOn_3 : decode cX8_sealsOn 3 = .ok (.sipush 256, 3) := by decide +kernel
theorem dX8_sealsOn_6 : decode cX8_sealsOn 6 = .ok (.if_icmp .ge 16, 3) := by decide +kernel
theorem dX8_sealsOn_9 : decode cX8_sealsOn 9 = .ok (.aload_n 0, 1) := by decide +kernel
theorem dX8_sealsOn_10 : decode cX8_sealsOn 10 = .ok (.getfield 49, 3) := by decide +kernel
theorem dX8_sealsOn_13 : decode cX8_sealsOn 13 = .ok (.iload_n 2, 1) := by decide +kernel
theorem dX8_sealsOn_14 : decode cX8_sealsOn 14 = .ok (.lconst 0, 1) := by decide +kernel
theorem dX8_sealsOn_15 : decode cX8_sealsOn 15 = .ok (.lastore, 1) := by decide +kernel
theorem dX8_sealsOn_16 : decode cX8_sealsOn 16 = .ok (.iinc 2 1, 3) := by decide +kernel
theorem dX8_sealsOn_19 : decode cX8_sealsOn 19 = .ok (.goto (-17), 3) := by decide +kernel
theorem dX8_sealsOn_22 : decode cX8_sealsOn 22 = .ok (.iconst 0, 1) := by decide +kernel
theorem dX8_sealsOn_23 : decode cX8_sealsOn 23 = .ok (.istore_n 2, 1) := by decide +kernel
theorem dX8_sealsOn_24 : decode cX8_sealsOn 24 = .ok (.iload_n 2, 1) := by decide +kernel
theorem dX8_sealsOn_25 : decode cX8_sealsOn 25 = .ok (.sipush 256, 3) := by decide +kernel
theorem dX8_sealsOn_28 : decode cX8_sealsOn 28 = .ok (.if_icmp .ge 205, 3) := by decide +kernel
theorem dX8_sealsOn_31 : decode cX8_sealsOn 31 = .ok (.aload_n 0, 1) := by decide +kernel
theorem dX8_sealsOn_32 : decode cX8_sealsOn 32 = .ok (.getfield 45, 3) := by decide +kernel
theorem dX8_sealsOn_35 : decode cX8_sealsOn 35 = .ok (.iload_n 2, 1) := by decide +kernel
theorem dX8_sealsOn_36 : decode cX8_sealsOn 36 = .ok (.laload, 1) := by decide +kernel
theorem dX8_sealsOn_37 : decode cX8_sealsOn 37 = .ok (.lconst 0, 1) := by decide +kernel
theorem dX8_sealsOn_38 : decode cX8_sealsOn 38 = .ok (.lcmp, 1) := by decide +kernel
theorem dX8_sealsOn_39 : decode cX8_sealsOn 39 = .ok (.ifCond .eq 188, 3) := by decide +kernel
theorem dX8_sealsOn_42 : decode cX8_sealsOn 42 = .ok (.iconst 0, 1) := by decide +kernel
theorem dX8_sealsOn_43 : decode cX8_sealsOn 43 = .ok (.istore_n 3, 1) := by decide +kernel
theorem dX8_sealsOn_44 : decode cX8_sealsOn 44 = .ok (.iload_n 3, 1) := by decide +kernel
theorem dX8_sealsOn_45 : decode cX8_sealsOn 45 = .ok (.aload_n 0, 1) := by decide +kernel
theorem dX8_sealsOn_46 : decode cX8_sealsOn 46 = .ok (.getfield 13, 3) := by decide +kernel
theorem dX8_sealsOn_49 : decode cX8_sealsOn 49 = .ok (.iconst 2, 1) := by decide +kernel
theorem dX8_sealsOn_50 : decode cX8_sealsOn 50 = .ok (.iaload, 1) := by decide +kernel
theorem dX8_sealsOn_51 : decode cX8_sealsOn 51 = .ok (.if_icmp .ge 68, 3) := by decide +kernel
theorem dX8_sealsOn_54 : decode cX8_sealsOn 54 = .ok (.aload_n 0, 1) := by decide +kernel
theorem dX8_sealsOn_55 : decode cX8_sealsOn 55 = .ok (.getfield 45, 3) := by decide +kernel
theorem dX8_sealsOn_58 : decode cX8_sealsOn 58 = .ok (.iload_n 2, 1) := by decide +kernel
theorem dX8_sealsOn_59 : decode cX8_sealsOn 59 = .ok (.laload, 1) := by decide +kernel
theorem dX8_sealsOn_60 : decode cX8_sealsOn 60 = .ok (.ldc2_w 182, 3) := by decide +kernel
theorem dX8_sealsOn_63 : decode cX8_sealsOn 63 = .ok (.iconst 5, 1) := by decide +kernel
theorem dX8_sealsOn_64 : decode cX8_sealsOn 64 = .ok (.iload_n 3, 1) := by decide +kernel
theorem dX8_sealsOn_65 : decode cX8_sealsOn 65 = .ok (.imul, 1) := by decide +kernel
theorem dX8_sealsOn_66 : decode cX8_sealsOn 66 = .ok (.lshl, 1) := by decide +kernel
theorem dX8_sealsOn_67 : decode cX8_sealsOn 67 = .ok (.land, 1) := by decide +kernel
theorem dX8_sealsOn_68 : decode cX8_sealsOn 68 = .ok (.lstore 4, 2) := by decide +kernel
theorem dX8_sealsOn_70 : decode cX8_sealsOn 70 = .ok (.aload_n 0, 1) := by decide +kernel
theorem dX8_sealsOn_71 : decode cX8_sealsOn 71 = .ok (.iload_n 3, 1) := by decide +kernel
theorem dX8_sealsOn_72 : decode cX8_sealsOn 72 = .ok (.iload_n 1, 1) := by decide +kernel
theorem dX8_sealsOn_73 : decode cX8_sealsOn 73 = .ok (.invokevirtual 130, 3) := by decide +kernel
theorem dX8_sealsOn_76 : decode cX8_sealsOn 76 = .ok (.ifCond .eq 9, 3) := by decide +kernel
theorem dX8_sealsOn_79 : decode cX8_sealsOn 79 = .ok (.iconst 1, 1) := by decide +kernel
theorem dX8_sealsOn_80 : decode cX8_sealsOn 80 = .ok (.iload_n 3, 1) := by decide +kernel
theorem dX8_sealsOn_81 : decode cX8_sealsOn 81 = .ok (.ishl, 1) := by decide +kernel
theorem dX8_sealsOn_82 : decode cX8_sealsOn 82 = .ok (.goto 4, 3) := by decide +kernel
theorem dX8_sealsOn_85 : decode cX8_sealsOn 85 = .ok (.iconst 0, 1) := by decide +kernel
theorem dX8_sealsOn_86 : decode cX8_sealsOn 86 = .ok (.istore 6, 2) := by decide +kernel
theorem dX8_sealsOn_88 : decode cX8_sealsOn 88 = .ok (.aload_n 0, 1) := by decide +kernel
theorem dX8_sealsOn_89 : decode cX8_sealsOn 89 = .ok (.getfield 49, 3) := by decide +kernel
theorem dX8_sealsOn_92 : decode cX8_sealsOn 92 = .ok (.iload_n 2, 1) := by decide +kernel
theorem dX8_sealsOn_93 : decode cX8_sealsOn 93 = .ok (.iload 6, 2) := by decide +kernel
theorem dX8_sealsOn_95 : decode cX8_sealsOn 95 = .ok (.ior, 1) := by decide +kernel
theorem dX8_sealsOn_96 : decode cX8_sealsOn 96 = .ok (.dup2, 1) := by decide +kernel
theorem dX8_sealsOn_97 : decode cX8_sealsOn 97 = .ok (.laload, 1) := by decide +kernel
theorem dX8_sealsOn_98 : decode cX8_sealsOn 98 = .ok (.aload_n 0, 1) := by decide +kernel
theorem dX8_sealsOn_99 : decode cX8_sealsOn 99 = .ok (.lload 4, 2) := by decide +kernel
theorem dX8_sealsOn_101 : decode cX8_sealsOn 101 = .ok (.aload_n 0, 1) := by decide +kernel
theorem dX8_sealsOn_102 : decode cX8_sealsOn 102 = .ok (.getfield 19, 3) := by decide +kernel
theorem dX8_sealsOn_105 : decode cX8_sealsOn 105 = .ok (.iconst 5, 1) := by decide +kernel
theorem dX8_sealsOn_106 : decode cX8_sealsOn 106 = .ok (.iaload, 1) := by decide +kernel
theorem dX8_sealsOn_107 : decode cX8_sealsOn 107 = .ok (.iload_n 3, 1) := by decide +kernel
theorem dX8_sealsOn_108 : decode cX8_sealsOn 108 = .ok (.invokevirtual 194, 3) := by decide +kernel
theorem dX8_sealsOn_111 : decode cX8_sealsOn 111 = .ok (.lor, 1) := by decide +kernel
theorem dX8_sealsOn_112 : decode cX8_sealsOn 112 = .ok (.lastore, 1) := by decide +kernel
theorem dX8_sealsOn_113 : decode cX8_sealsOn 113 = .ok (.iinc 3 1, 3) := by decide +kernel
theorem dX8_sealsOn_116 : decode cX8_sealsOn 116 = .ok (.goto (-72), 3) := by decide +kernel
theorem dX8_sealsOn_119 : decode cX8_sealsOn 119 = .ok (.aload_n 0, 1) := by decide +kernel
theorem dX8_sealsOn_120 : decode cX8_sealsOn 120 = .ok (.getfield 45, 3) := by decide +kernel
theorem dX8_sealsOn_123 : decode cX8_sealsOn 123 = .ok (.iload_n 2, 1) := by decide +kernel
theorem dX8_sealsOn_124 : decode cX8_sealsOn 124 = .ok (.laload, 1) := by decide +kernel
theorem dX8_sealsOn_125 : decode cX8_sealsOn 125 = .ok (.lstore_n 3, 1) := by decide +kernel
theorem dX8_sealsOn_126 : decode cX8_sealsOn 126 = .ok (.iconst 0, 1) := by decide +kernel
theorem dX8_sealsOn_127 : decode cX8_sealsOn 127 = .ok (.istore 5, 2) := by decide +kernel
theorem dX8_sealsOn_129 : decode cX8_sealsOn 129 = .ok (.iload 5, 2) := by decide +kernel
theorem dX8_sealsOn_131 : decode cX8_sealsOn 131 = .ok (.aload_n 0, 1) := by decide +kernel
theorem dX8_sealsOn_132 : decode cX8_sealsOn 132 = .ok (.getfield 13, 3) := by decide +kernel
theorem dX8_sealsOn_135 : decode cX8_sealsOn 135 = .ok (.iconst 2, 1) := by decide +kernel
theorem dX8_sealsOn_136 : decode cX8_sealsOn 136 = .ok (.iaload, 1) := by decide +kernel
theorem dX8_sealsOn_137 : decode cX8_sealsOn 137 = .ok (.if_icmp .ge 90, 3) := by decide +kernel
theorem dX8_sealsOn_140 : decode cX8_sealsOn 140 = .ok (.lload_n 3, 1) := by decide +kernel
theorem dX8_sealsOn_141 : decode cX8_sealsOn 141 = .ok (.invokestatic 198, 3) := by decide +kernel
theorem dX8_sealsOn_144 : decode cX8_sealsOn 144 = .ok (.iload 5, 2) := by decide +kernel
theorem dX8_sealsOn_146 : decode cX8_sealsOn 146 = .ok (.ishr, 1) := by decide +kernel
theorem dX8_sealsOn_147 : decode cX8_sealsOn 147 = .ok (.iconst 1, 1) := by decide +kernel
theorem dX8_sealsOn_148 : decode cX8_sealsOn 148 = .ok (.iand, 1) := by decide +kernel
theorem dX8_sealsOn_149 : decode cX8_sealsOn 149 = .ok (.iconst 1, 1) := by decide +kernel
theorem dX8_sealsOn_150 : decode cX8_sealsOn 150 = .ok (.if_icmp .ne 18, 3) := by decide +kernel
theorem dX8_sealsOn_153 : decode cX8_sealsOn 153 = .ok (.aload_n 0, 1) := by decide +kernel
theorem dX8_sealsOn_154 : decode cX8_sealsOn 154 = .ok (.iload 5, 2) := by decide +kernel
theorem dX8_sealsOn_156 : decode cX8_sealsOn 156 = .ok (.aload_n 0, 1) := by decide +kernel
theorem dX8_sealsOn_157 : decode cX8_sealsOn 157 = .ok (.getfield 19, 3) := by decide +kernel
theorem dX8_sealsOn_160 : decode cX8_sealsOn 160 = .ok (.iconst 5, 1) := by decide +kernel
theorem dX8_sealsOn_161 : decode cX8_sealsOn 161 = .ok (.iaload, 1) := by decide +kernel
theorem dX8_sealsOn_162 : decode cX8_sealsOn 162 = .ok (.invokevirtual 146, 3) := by decide +kernel
theorem dX8_sealsOn_165 : decode cX8_sealsOn 165 = .ok (.goto 4, 3) := by decide +kernel
theorem dX8_sealsOn_168 : decode cX8_sealsOn 168 = .ok (.iconst 0, 1) := by decide +kernel
theorem dX8_sealsOn_169 : decode cX8_sealsOn 169 = .ok (.istore 6, 2) := by decide +kernel
theorem dX8_sealsOn_171 : decode cX8_sealsOn 171 = .ok (.iconst 0, 1) := by decide +kernel
theorem dX8_sealsOn_172 : decode cX8_sealsOn 172 = .ok (.istore 7, 2) := by decide +kernel
theorem dX8_sealsOn_174 : decode cX8_sealsOn 174 = .ok (.iload 7, 2) := by decide +kernel
theorem dX8_sealsOn_176 : decode cX8_sealsOn 176 = .ok (.aload_n 0, 1) := by decide +kernel
theorem dX8_sealsOn_177 : decode cX8_sealsOn 177 = .ok (.getfield 13, 3) := by decide +kernel
theorem dX8_sealsOn_180 : decode cX8_sealsOn 180 = .ok (.iconst 2, 1) := by decide +kernel
theorem dX8_sealsOn_181 : decode cX8_sealsOn 181 = .ok (.iaload, 1) := by decide +kernel
theorem dX8_sealsOn_182 : decode cX8_sealsOn 182 = .ok (.if_icmp .ge 39, 3) := by decide +kernel
theorem dX8_sealsOn_185 : decode cX8_sealsOn 185 = .ok (.aload_n 0, 1) := by decide +kernel
theorem dX8_sealsOn_186 : decode cX8_sealsOn 186 = .ok (.getfield 49, 3) := by decide +kernel
theorem dX8_sealsOn_189 : decode cX8_sealsOn 189 = .ok (.iload_n 2, 1) := by decide +kernel
theorem dX8_sealsOn_190 : decode cX8_sealsOn 190 = .ok (.dup2, 1) := by decide +kernel
theorem dX8_sealsOn_191 : decode cX8_sealsOn 191 = .ok (.laload, 1) := by decide +kernel
theorem dX8_sealsOn_192 : decode cX8_sealsOn 192 = .ok (.iload 6, 2) := by decide +kernel
theorem dX8_sealsOn_194 : decode cX8_sealsOn 194 = .ok (.iload 7, 2) := by decide +kernel
theorem dX8_sealsOn_196 : decode cX8_sealsOn 196 = .ok (.ishr, 1) := by decide +kernel
theorem dX8_sealsOn_197 : decode cX8_sealsOn 197 = .ok (.iconst 1, 1) := by decide +kernel
theorem dX8_sealsOn_198 : decode cX8_sealsOn 198 = .ok (.iand, 1) := by decide +kernel
theorem dX8_sealsOn_199 : decode cX8_sealsOn 199 = .ok (.iconst 1, 1) := by decide +kernel
theorem dX8_sealsOn_200 : decode cX8_sealsOn 200 = .ok (.if_icmp .ne 12, 3) := by decide +kernel
theorem dX8_sealsOn_203 : decode cX8_sealsOn 203 = .ok (.iload 7, 2) := by decide +kernel
theorem dX8_sealsOn_205 : decode cX8_sealsOn 205 = .ok (.iconst 0, 1) := by decide +kernel
theorem dX8_sealsOn_206 : decode cX8_sealsOn 206 = .ok (.invokestatic 174, 3) := by decide +kernel
theorem dX8_sealsOn_209 : decode cX8_sealsOn 209 = .ok (.goto 4, 3) := by decide +kernel
theorem dX8_sealsOn_212 : decode cX8_sealsOn 212 = .ok (.lconst 0, 1) := by decide +kernel
theorem dX8_sealsOn_213 : decode cX8_sealsOn 213 = .ok (.lor, 1) := by decide +kernel
theorem dX8_sealsOn_214 : decode cX8_sealsOn 214 = .ok (.lastore, 1) := by decide +kernel
theorem dX8_sealsOn_215 : decode cX8_sealsOn 215 = .ok (.iinc 7 1, 3) := by decide +kernel
theorem dX8_sealsOn_218 : decode cX8_sealsOn 218 = .ok (.goto (-44), 3) := by decide +kernel
theorem dX8_sealsOn_221 : decode cX8_sealsOn 221 = .ok (.iinc 5 1, 3) := by decide +kernel
theorem dX8_sealsOn_224 : decode cX8_sealsOn 224 = .ok (.goto (-95), 3) := by decide +kernel
theorem dX8_sealsOn_227 : decode cX8_sealsOn 227 = .ok (.iinc 2 1, 3) := by decide +kernel
theorem dX8_sealsOn_230 : decode cX8_sealsOn 230 = .ok (.goto (-206), 3) := by decide +kernel
theorem dX8_sealsOn_233 : decode cX8_sealsOn 233 = .ok (.iconst 0, 1) := by decide +kernel
theorem dX8_sealsOn_234 : decode cX8_sealsOn 234 = .ok (.istore_n 2, 1) := by decide +kernel
theorem dX8_sealsOn_235 : decode cX8_sealsOn 235 = .ok (.iload_n 2, 1) := by decide +kernel
theorem dX8_sealsOn_236 : decode cX8_sealsOn 236 = .ok (.sipush 256, 3) := by decide +kernel
theorem dX8_sealsOn_239 : decode cX8_sealsOn 239 = .ok (.if_icmp .ge 21, 3) := by decide +kernel
theorem dX8_sealsOn_242 : decode cX8_sealsOn 242 = .ok (.aload_n 0, 1) := by decide +kernel
theorem dX8_sealsOn_243 : decode cX8_sealsOn 243 = .ok (.getfield 45, 3) := by decide +kernel
theorem dX8_sealsOn_246 : decode cX8_sealsOn 246 = .ok (.iload_n 2, 1) := by decide +kernel
theorem dX8_sealsOn_247 : decode cX8_sealsOn 247 = .ok (.aload_n 0, 1) := by decide +kernel
theorem dX8_sealsOn_248 : decode cX8_sealsOn 248 = .ok (.getfield 49, 3) := by decide +kernel
theorem dX8_sealsOn_251 : decode cX8_sealsOn 251 = .ok (.iload_n 2, 1) := by decide +kernel
theorem dX8_sealsOn_252 : decode cX8_sealsOn 252 = .ok (.laload, 1) := by decide +kernel
theorem dX8_sealsOn_253 : decode cX8_sealsOn 253 = .ok (.lastore, 1) := by decide +kernel
theorem dX8_sealsOn_254 : decode cX8_sealsOn 254 = .ok (.iinc 2 1, 3) := by decide +kernel
theorem dX8_sealsOn_257 : decode cX8_sealsOn 257 = .ok (.goto (-22), 3) := by decide +kernel
theorem dX8_sealsOn_260 : decode cX8_sealsOn 260 = .ok (.return_, 1) := by decide +kernel
set_option maxRecDepth 20000 in
theorem ggX8_seals_X8_in : GoodIn wsX8_seals wsX8_in := goodIn_m (fun w hw => by
  revert w hw; unfold wsX8_in
  exact am_cons (am_at in_wsX8_seals_0 8 rfl) am_nil) gw_wsX8_in
set_option maxRecDepth 20000 in
theorem gX8_seals_X8_in : GoodIn wsX8_seals (va_wsS RX8 55 yX8_in wsX8_in) := goodIn_app (goodIn_m (am_cons (am_at in_wsX8_seals_0 5 rfl) (am_cons (am_at in_wsX8_seals_0 6 rfl) (am_cons (am_at in_wsX8_seals_0 7 rfl) am_nil))) (by decide +kernel)) ggX8_seals_X8_in
set_option maxRecDepth 20000 in
theorem ggX8_seals_X8_goesOn : GoodIn wsX8_seals wsX8_goesOn := goodIn_m (fun w hw => by
  revert w hw; unfold wsX8_goesOn
  exact am_cons (am_at in_wsX8_seals_0 12 rfl) (am_app (am_cons (am_at in_wsX8_seals_0 0 rfl) (am_cons (am_at in_wsX8_seals_0 4 rfl) am_nil)) in_wsX8_seals_2)) gw_wsX8_goesOn
set_option maxRecDepth 20000 in
theorem gX8_seals_X8_goesOn : GoodIn wsX8_seals (wsV RX8 133 RX8 yX8_goesOn wsX8_goesOn) := goodIn_app (goodIn_m (am_cons (am_at in_wsX8_seals_0 9 rfl) (am_cons (am_at in_wsX8_seals_0 10 rfl) (am_cons (am_at in_wsX8_seals_0 11 rfl) (am_cons (am_at in_wsX8_seals_0 7 rfl) am_nil)))) (by decide +kernel)) ggX8_seals_X8_goesOn
set_option maxRecDepth 20000 in
theorem ggX8_seals_X8_bit : GoodIn wsX8_seals wsX8_bit := goodIn_m (fun w hw => by
  revert w hw; unfold wsX8_bit
  exact am_cons (am_at in_wsX8_seals_0 15 rfl) am_nil) gw_wsX8_bit
set_option maxRecDepth 20000 in
theorem gX8_seals_X8_bit : GoodIn wsX8_seals (va_wsS RX8 174 yX8_bit wsX8_bit) := goodIn_app (goodIn_m (am_cons (am_at in_wsX8_seals_0 13 rfl) (am_cons (am_at in_wsX8_seals_0 14 rfl) (am_cons (am_at in_wsX8_seals_0 7 rfl) am_nil))) (by decide +kernel)) ggX8_seals_X8_bit
set_option maxRecDepth 20000 in
theorem ggX8_seals_X8_sealsOn : GoodIn wsX8_seals wsX8_sealsOn := goodIn_m (fun w hw => by
  revert w hw; unfold wsX8_sealsOn wsX8_sealsOn_r1 wsX8_sealsOn_r2
  exact am_cons (am_at in_wsX8_seals_0 19 rfl) (am_app (am_app (am_cons (am_at in_wsX8_seals_0 20 rfl) (am_cons (am_at in_wsX8_seals_0 3 rfl) (am_cons (am_at in_wsX8_seals_0 0 rfl) (am_cons (am_at in_wsX8_seals_0 21 rfl) (am_cons (am_at in_wsX8_seals_0 4 rfl) (am_cons (am_at in_wsX8_seals_0 22 rfl) (am_cons (am_at in_wsX8_seals_0 23 rfl) (am_cons (am_at in_wsX8_seals_1 0 rfl) (am_cons (am_at in_wsX8_seals_0 7 rfl) (am_cons (am_at in_wsX8_seals_1 1 rfl) (am_cons (am_at in_wsX8_seals_1 2 rfl) (am_cons (am_at in_wsX8_seals_1 3 rfl) (am_cons (am_at in_wsX8_seals_1 4 rfl) (am_cons (am_at in_wsX8_seals_1 5 rfl) (am_cons (am_at in_wsX8_seals_1 6 rfl) (am_cons (am_at in_wsX8_seals_1 7 rfl) (am_cons (am_at in_wsX8_seals_1 8 rfl) (am_cons (am_at in_wsX8_seals_1 9 rfl) (am_cons (am_at in_wsX8_seals_1 10 rfl) (am_cons (am_at in_wsX8_seals_1 11 rfl) (am_cons (am_at in_wsX8_seals_1 12 rfl) (am_cons (am_at in_wsX8_seals_1 13 rfl) (am_cons (am_at in_wsX8_seals_1 14 rfl) (am_cons (am_at in_wsX8_seals_1 15 rfl) am_nil)))))))))))))))))))))))) (am_cons (am_at in_wsX8_seals_1 16 rfl) (am_cons (am_at in_wsX8_seals_1 17 rfl) (am_cons (am_at in_wsX8_seals_1 18 rfl) (am_cons (am_at in_wsX8_seals_1 19 rfl) (am_cons (am_at in_wsX8_seals_1 20 rfl) (am_cons (am_at in_wsX8_seals_0 13 rfl) (am_cons (am_at in_wsX8_seals_0 14 rfl) (am_cons (am_at in_wsX8_seals_0 15 rfl) (am_cons (am_at in_wsX8_seals_1 21 rfl) (am_cons (am_at in_wsX8_seals_1 22 rfl) (am_cons (am_at in_wsX8_seals_1 23 rfl) am_nil)))))))))))) in_wsX8_seals_2)) gw_wsX8_sealsOn
set_option maxRecDepth 20000 in
theorem gX8_seals_X8_sealsOn : GoodIn wsX8_seals (wsV RX8 202 RX8 yX8_sealsOn wsX8_sealsOn) := goodIn_app (goodIn_m (am_cons (am_at in_wsX8_seals_0 16 rfl) (am_cons (am_at in_wsX8_seals_0 17 rfl) (am_cons (am_at in_wsX8_seals_0 18 rfl) (am_cons (am_at in_wsX8_seals_0 7 rfl) am_nil)))) (by decide +kernel)) ggX8_seals_X8_sealsOn
theorem dX8_seals_0 : decode cX8_seals 0 = .ok (.iload_n 1, 1) := by decide +kernel
theorem dX8_seals_1 : decode cX8_seals 1 = .ok (.iconst 0, 1) := by decide +kernel
theorem dX8_seals_2 : decode cX8_seals 2 = .ok (.iconst 1, 1) := by decide +kernel
theorem dX8_seals_3 : decode cX8_seals 3 = .ok (.aload_n 0, 1) := by decide +kernel
theorem dX8_seals_4 : decode cX8_seals 4 = .ok (.getfield 13, 3) := by decide +kernel
theorem dX8_seals_7 : decode cX8_seals 7 = .ok (.iconst 2, 1) := by decide +kernel
theorem dX8_seals_8 : decode cX8_seals 8 = .ok (.iaload, 1) := by decide +kernel
theorem dX8_seals_9 : decode cX8_seals 9 = .ok (.ishl, 1) := by decide +kernel
theorem dX8_seals_10 : decode cX8_seals 10 = .ok (.iconst 1, 1) := by decide +kernel
theorem dX8_seals_11 : decode cX8_seals 11 = .ok (.isub, 1) := by decide +kernel
theorem dX8_seals_12 : decode cX8_seals 12 = .ok (.invokestatic 55, 3) := by decide +kernel
theorem dX8_seals_15 : decode cX8_seals 15 = .ok (.ifCond .ne 6, 3) := by decide +kernel
theorem dX8_seals_18 : decode cX8_seals 18 = .ok (.ldc 126, 2) := by decide +kernel
theorem dX8_seals_20 : decode cX8_seals 20 = .ok (.ireturn, 1) := by decide +kernel
theorem dX8_seals_21 : decode cX8_seals 21 = .ok (.aload_n 0, 1) := by decide +kernel
theorem dX8_seals_22 : decode cX8_seals 22 = .ok (.invokevirtual 133, 3) := by decide +kernel
theorem dX8_seals_25 : decode cX8_seals 25 = .ok (.ifCond .ne 6, 3) := by decide +kernel
theorem dX8_seals_28 : decode cX8_seals 28 = .ok (.ldc 139, 2) := by decide +kernel
theorem dX8_seals_30 : decode cX8_seals 30 = .ok (.ireturn, 1) := by decide +kernel
theorem dX8_seals_31 : decode cX8_seals 31 = .ok (.iconst 0, 1) := by decide +kernel
theorem dX8_seals_32 : decode cX8_seals 32 = .ok (.istore_n 2, 1) := by decide +kernel
theorem dX8_seals_33 : decode cX8_seals 33 = .ok (.iload_n 2, 1) := by decide +kernel
theorem dX8_seals_34 : decode cX8_seals 34 = .ok (.sipush 256, 3) := by decide +kernel
theorem dX8_seals_37 : decode cX8_seals 37 = .ok (.if_icmp .ge 16, 3) := by decide +kernel
theorem dX8_seals_40 : decode cX8_seals 40 = .ok (.aload_n 0, 1) := by decide +kernel
theorem dX8_seals_41 : decode cX8_seals 41 = .ok (.getfield 45, 3) := by decide +kernel
theorem dX8_seals_44 : decode cX8_seals 44 = .ok (.iload_n 2, 1) := by decide +kernel
theorem dX8_seals_45 : decode cX8_seals 45 = .ok (.lconst 0, 1) := by decide +kernel
theorem dX8_seals_46 : decode cX8_seals 46 = .ok (.lastore, 1) := by decide +kernel
theorem dX8_seals_47 : decode cX8_seals 47 = .ok (.iinc 2 1, 3) := by decide +kernel
theorem dX8_seals_50 : decode cX8_seals 50 = .ok (.goto (-17), 3) := by decide +kernel
theorem dX8_seals_53 : decode cX8_seals 53 = .ok (.aload_n 0, 1) := by decide +kernel
theorem dX8_seals_54 : decode cX8_seals 54 = .ok (.getfield 45, 3) := by decide +kernel
theorem dX8_seals_57 : decode cX8_seals 57 = .ok (.aload_n 0, 1) := by decide +kernel
theorem dX8_seals_58 : decode cX8_seals 58 = .ok (.getfield 19, 3) := by decide +kernel
theorem dX8_seals_61 : decode cX8_seals 61 = .ok (.iconst 4, 1) := by decide +kernel
theorem dX8_seals_62 : decode cX8_seals 62 = .ok (.iaload, 1) := by decide +kernel
theorem dX8_seals_63 : decode cX8_seals 63 = .ok (.aload_n 0, 1) := by decide +kernel
theorem dX8_seals_64 : decode cX8_seals 64 = .ok (.getfield 19, 3) := by decide +kernel
theorem dX8_seals_67 : decode cX8_seals 67 = .ok (.iconst 0, 1) := by decide +kernel
theorem dX8_seals_68 : decode cX8_seals 68 = .ok (.iaload, 1) := by decide +kernel
theorem dX8_seals_69 : decode cX8_seals 69 = .ok (.aload_n 0, 1) := by decide +kernel
theorem dX8_seals_70 : decode cX8_seals 70 = .ok (.getfield 19, 3) := by decide +kernel
theorem dX8_seals_73 : decode cX8_seals 73 = .ok (.iconst 2, 1) := by decide +kernel
theorem dX8_seals_74 : decode cX8_seals 74 = .ok (.iaload, 1) := by decide +kernel
theorem dX8_seals_75 : decode cX8_seals 75 = .ok (.invokestatic 174, 3) := by decide +kernel
theorem dX8_seals_78 : decode cX8_seals 78 = .ok (.lastore, 1) := by decide +kernel
theorem dX8_seals_79 : decode cX8_seals 79 = .ok (.iconst 0, 1) := by decide +kernel
theorem dX8_seals_80 : decode cX8_seals 80 = .ok (.istore_n 2, 1) := by decide +kernel
theorem dX8_seals_81 : decode cX8_seals 81 = .ok (.iload_n 2, 1) := by decide +kernel
theorem dX8_seals_82 : decode cX8_seals 82 = .ok (.bipush 61, 2) := by decide +kernel
theorem dX8_seals_84 : decode cX8_seals 84 = .ok (.if_icmp .ge 56, 3) := by decide +kernel
theorem dX8_seals_87 : decode cX8_seals 87 = .ok (.iconst 0, 1) := by decide +kernel
theorem dX8_seals_88 : decode cX8_seals 88 = .ok (.istore_n 3, 1) := by decide +kernel
theorem dX8_seals_89 : decode cX8_seals 89 = .ok (.iload_n 3, 1) := by decide +kernel
theorem dX8_seals_90 : decode cX8_seals 90 = .ok (.sipush 256, 3) := by decide +kernel
theorem dX8_seals_93 : decode cX8_seals 93 = .ok (.if_icmp .ge 29, 3) := by decide +kernel
theorem dX8_seals_96 : decode cX8_seals 96 = .ok (.aload_n 0, 1) := by decide +kernel
theorem dX8_seals_97 : decode cX8_seals 97 = .ok (.getfield 45, 3) := by decide +kernel
theorem dX8_seals_100 : decode cX8_seals 100 = .ok (.iload_n 3, 1) := by decide +kernel
theorem dX8_seals_101 : decode cX8_seals 101 = .ok (.laload, 1) := by decide +kernel
theorem dX8_seals_102 : decode cX8_seals 102 = .ok (.lconst 0, 1) := by decide +kernel
theorem dX8_seals_103 : decode cX8_seals 103 = .ok (.lcmp, 1) := by decide +kernel
theorem dX8_seals_104 : decode cX8_seals 104 = .ok (.ifCond .eq 12, 3) := by decide +kernel
theorem dX8_seals_107 : decode cX8_seals 107 = .ok (.iload_n 3, 1) := by decide +kernel
theorem dX8_seals_108 : decode cX8_seals 108 = .ok (.iload_n 1, 1) := by decide +kernel
theorem dX8_seals_109 : decode cX8_seals 109 = .ok (.iand, 1) := by decide +kernel
theorem dX8_seals_110 : decode cX8_seals 110 = .ok (.iload_n 1, 1) := by decide +kernel
theorem dX8_seals_111 : decode cX8_seals 111 = .ok (.if_icmp .ne 5, 3) := by decide +kernel
theorem dX8_seals_114 : decode cX8_seals 114 = .ok (.iload_n 2, 1) := by decide +kernel
theorem dX8_seals_115 : decode cX8_seals 115 = .ok (.ireturn, 1) := by decide +kernel
theorem dX8_seals_116 : decode cX8_seals 116 = .ok (.iinc 3 1, 3) := by decide +kernel
theorem dX8_seals_119 : decode cX8_seals 119 = .ok (.goto (-30), 3) := by decide +kernel
theorem dX8_seals_122 : decode cX8_seals 122 = .ok (.aload_n 0, 1) := by decide +kernel
theorem dX8_seals_123 : decode cX8_seals 123 = .ok (.aload_n 0, 1) := by decide +kernel
theorem dX8_seals_124 : decode cX8_seals 124 = .ok (.getfield 19, 3) := by decide +kernel
theorem dX8_seals_127 : decode cX8_seals 127 = .ok (.iconst 1, 1) := by decide +kernel
theorem dX8_seals_128 : decode cX8_seals 128 = .ok (.iaload, 1) := by decide +kernel
theorem dX8_seals_129 : decode cX8_seals 129 = .ok (.iload_n 2, 1) := by decide +kernel
theorem dX8_seals_130 : decode cX8_seals 130 = .ok (.iadd, 1) := by decide +kernel
theorem dX8_seals_131 : decode cX8_seals 131 = .ok (.invokevirtual 202, 3) := by decide +kernel
theorem dX8_seals_134 : decode cX8_seals 134 = .ok (.iinc 2 1, 3) := by decide +kernel
theorem dX8_seals_137 : decode cX8_seals 137 = .ok (.goto (-56), 3) := by decide +kernel
theorem dX8_seals_140 : decode cX8_seals 140 = .ok (.iconst (-1), 1) := by decide +kernel
theorem dX8_seals_141 : decode cX8_seals 141 = .ok (.ireturn, 1) := by decide +kernel
set_option maxRecDepth 20000 in
theorem ggX8_two_X8_isTown : GoodIn wsX8_two wsX8_isTown := goodIn_m (fun w hw => by
  revert w hw; unfold wsX8_isTown
  exact am_cons (am_at in_wsX8_two_0 7 rfl) (am_app (am_cons (am_at in_wsX8_two_0 8 rfl) (am_cons (am_at in_wsX8_two_0 9 rfl) (am_cons (am_at in_wsX8_two_0 10 rfl) (am_cons (am_at in_wsX8_two_0 6 rfl) (am_cons (am_at in_wsX8_two_0 11 rfl) am_nil))))) in_wsX8_two_2)) gw_wsX8_isTown
set_option maxRecDepth 20000 in
theorem gX8_two_X8_isTown : GoodIn wsX8_two (wsV RX8 123 RX8 yX8_isTown wsX8_isTown) := goodIn_app (goodIn_m (am_cons (am_at in_wsX8_two_0 3 rfl) (am_cons (am_at in_wsX8_two_0 4 rfl) (am_cons (am_at in_wsX8_two_0 5 rfl) (am_cons (am_at in_wsX8_two_0 6 rfl) am_nil)))) (by decide +kernel)) ggX8_two_X8_isTown
set_option maxRecDepth 20000 in
theorem ggX8_two_X8_goesOn : GoodIn wsX8_two wsX8_goesOn := goodIn_m (fun w hw => by
  revert w hw; unfold wsX8_goesOn
  exact am_cons (am_at in_wsX8_two_0 15 rfl) (am_app (am_cons (am_at in_wsX8_two_0 8 rfl) (am_cons (am_at in_wsX8_two_0 2 rfl) am_nil)) in_wsX8_two_2)) gw_wsX8_goesOn
set_option maxRecDepth 20000 in
theorem gX8_two_X8_goesOn : GoodIn wsX8_two (wsV RX8 133 RX8 yX8_goesOn wsX8_goesOn) := goodIn_app (goodIn_m (am_cons (am_at in_wsX8_two_0 12 rfl) (am_cons (am_at in_wsX8_two_0 13 rfl) (am_cons (am_at in_wsX8_two_0 14 rfl) (am_cons (am_at in_wsX8_two_0 6 rfl) am_nil)))) (by decide +kernel)) ggX8_two_X8_goesOn
set_option maxRecDepth 20000 in
theorem ggX8_two_X8_bit : GoodIn wsX8_two wsX8_bit := goodIn_m (fun w hw => by
  revert w hw; unfold wsX8_bit
  exact am_cons (am_at in_wsX8_two_0 18 rfl) am_nil) gw_wsX8_bit
set_option maxRecDepth 20000 in
theorem gX8_two_X8_bit : GoodIn wsX8_two (va_wsS RX8 174 yX8_bit wsX8_bit) := goodIn_app (goodIn_m (am_cons (am_at in_wsX8_two_0 16 rfl) (am_cons (am_at in_wsX8_two_0 17 rfl) (am_cons (am_at in_wsX8_two_0 6 rfl) am_nil))) (by decide +kernel)) ggX8_two_X8_bit
set_option maxRecDepth 20000 in
theorem ggX8_two_X8_towns : GoodIn wsX8_two wsX8_towns := goodIn_m (fun w hw => by
  revert w hw; unfold wsX8_towns
  exact am_cons (am_at in_wsX8_two_0 21 rfl) (am_cons (am_at in_wsX8_two_0 22 rfl) am_nil)) gw_wsX8_towns
set_option maxRecDepth 20000 in
theorem gX8_two_X8_towns : GoodIn wsX8_two (va_wsS RX8 198 yX8_towns wsX8_towns) := goodIn_app (goodIn_m (am_cons (am_at in_wsX8_two_0 19 rfl) (am_cons (am_at in_wsX8_two_0 20 rfl) (am_cons (am_at in_wsX8_two_0 6 rfl) am_nil))) (by decide +kernel)) ggX8_two_X8_towns
set_option maxRecDepth 20000 in
theorem ggX8_two_X8_goes : GoodIn wsX8_two wsX8_goes := goodIn_m (fun w hw => by
  revert w hw; unfold wsX8_goes
  exact am_cons (am_at in_wsX8_two_1 2 rfl) (am_app (am_cons (am_at in_wsX8_two_0 8 rfl) (am_cons (am_at in_wsX8_two_1 3 rfl) (am_cons (am_at in_wsX8_two_1 4 rfl) (am_cons (am_at in_wsX8_two_1 5 rfl) (am_cons (am_at in_wsX8_two_0 6 rfl) (am_cons (am_at in_wsX8_two_1 6 rfl) (am_cons (am_at in_wsX8_two_1 7 rfl) (am_cons (am_at in_wsX8_two_1 8 rfl) (am_cons (am_at in_wsX8_two_1 9 rfl) (am_cons (am_at in_wsX8_two_1 10 rfl) (am_cons (am_at in_wsX8_two_1 11 rfl) (am_cons (am_at in_wsX8_two_1 12 rfl) (am_cons (am_at in_wsX8_two_1 13 rfl) (am_cons (am_at in_wsX8_two_1 14 rfl) (am_cons (am_at in_wsX8_two_1 15 rfl) (am_cons (am_at in_wsX8_two_1 16 rfl) (am_cons (am_at in_wsX8_two_1 17 rfl) (am_cons (am_at in_wsX8_two_0 16 rfl) (am_cons (am_at in_wsX8_two_0 17 rfl) (am_cons (am_at in_wsX8_two_0 18 rfl) am_nil)))))))))))))))))))) in_wsX8_two_2)) gw_wsX8_goes
set_option maxRecDepth 20000 in
theorem gX8_two_X8_goes : GoodIn wsX8_two (wsV RX8 194 RX8 yX8_goes wsX8_goes) := goodIn_app (goodIn_m (am_cons (am_at in_wsX8_two_0 23 rfl) (am_cons (am_at in_wsX8_two_1 0 rfl) (am_cons (am_at in_wsX8_two_1 1 rfl) (am_cons (am_at in_wsX8_two_0 6 rfl) am_nil)))) (by decide +kernel)) ggX8_two_X8_goes
theorem dX8_two_0 : decode cX8_two 0 = .ok (.aload_n 0, 1) := by decide +kernel
theorem dX8_two_1 : decode cX8_two 1 = .ok (.iload_n 1, 1) := by decide +kernel
theorem dX8_two_2 : decode cX8_two 2 = .ok (.invokevirtual 123, 3) := by decide +kernel
theorem dX8_two_5 : decode cX8_two 5 = .ok (.ifCond .ne 6, 3) := by decide +kernel
theorem dX8_two_8 : decode cX8_two 8 = .ok (.ldc 126, 2) := by decide +kernel
theorem dX8_two_10 : decode cX8_two 10 = .ok (.ireturn, 1) := by decide +kernel
theorem dX8_two_11 : decode cX8_two 11 = .ok (.aload_n 0, 1) := by decide +kernel
theorem dX8_two_12 : decode cX8_two 12 = .ok (.invokevirtual 133, 3) := by decide +kernel
theorem dX8_two_15 : decode cX8_two 15 = .ok (.ifCond .ne 6, 3) := by decide +kernel
theorem dX8_two_18 : decode cX8_two 18 = .ok (.ldc 139, 2) := by decide +kernel
theorem dX8_two_20 : decode cX8_two 20 = .ok (.ireturn, 1) := by decide +kernel
theorem dX8_two_21 : decode cX8_two 21 = .ok (.aload_n 0, 1) := by decide +kernel
theorem dX8_two_22 : decode cX8_two 22 = .ok (.getfield 19, 3) := by decide +kernel
theorem dX8_two_25 : decode cX8_two 25 = .ok (.iconst 0, 1) := by decide +kernel
theorem dX8_two_26 : decode cX8_two 26 = .ok (.iaload, 1) := by decide +kernel
theorem dX8_two_27 : decode cX8_two 27 = .ok (.aload_n 0, 1) := by decide +kernel
theorem dX8_two_28 : decode cX8_two 28 = .ok (.getfield 19, 3) := by decide +kernel
theorem dX8_two_31 : decode cX8_two 31 = .ok (.iconst 2, 1) := by decide +kernel
theorem dX8_two_32 : decode cX8_two 32 = .ok (.iaload, 1) := by decide +kernel
theorem dX8_two_33 : decode cX8_two 33 = .ok (.invokestatic 174, 3) := by decide +kernel
theorem dX8_two_36 : decode cX8_two 36 = .ok (.lstore_n 2, 1) := by decide +kernel
theorem dX8_two_37 : decode cX8_two 37 = .ok (.iload_n 1, 1) := by decide +kernel
theorem dX8_two_38 : decode cX8_two 38 = .ok (.iconst 0, 1) := by decide +kernel
theorem dX8_two_39 : decode cX8_two 39 = .ok (.invokestatic 174, 3) := by decide +kernel
theorem dX8_two_42 : decode cX8_two 42 = .ok (.lstore 4, 2) := by decide +kernel
theorem dX8_two_44 : decode cX8_two 44 = .ok (.iconst 0, 1) := by decide +kernel
theorem dX8_two_45 : decode cX8_two 45 = .ok (.istore 6, 2) := by decide +kernel
theorem dX8_two_47 : decode cX8_two 47 = .ok (.iload 6, 2) := by decide +kernel
theorem dX8_two_49 : decode cX8_two 49 = .ok (.bipush 25, 2) := by decide +kernel
theorem dX8_two_51 : decode cX8_two 51 = .ok (.if_icmp .ge 53, 3) := by decide +kernel
theorem dX8_two_54 : decode cX8_two 54 = .ok (.lload_n 2, 1) := by decide +kernel
theorem dX8_two_55 : decode cX8_two 55 = .ok (.invokestatic 198, 3) := by decide +kernel
theorem dX8_two_58 : decode cX8_two 58 = .ok (.lload 4, 2) := by decide +kernel
theorem dX8_two_60 : decode cX8_two 60 = .ok (.invokestatic 198, 3) := by decide +kernel
theorem dX8_two_63 : decode cX8_two 63 = .ok (.iand, 1) := by decide +kernel
theorem dX8_two_64 : decode cX8_two 64 = .ok (.ifCond .eq 6, 3) := by decide +kernel
theorem dX8_two_67 : decode cX8_two 67 = .ok (.iload 6, 2) := by decide +kernel
theorem dX8_two_69 : decode cX8_two 69 = .ok (.ireturn, 1) := by decide +kernel
theorem dX8_two_70 : decode cX8_two 70 = .ok (.aload_n 0, 1) := by decide +kernel
theorem dX8_two_71 : decode cX8_two 71 = .ok (.lload_n 2, 1) := by decide +kernel
theorem dX8_two_72 : decode cX8_two 72 = .ok (.aload_n 0, 1) := by decide +kernel
theorem dX8_two_73 : decode cX8_two 73 = .ok (.getfield 19, 3) := by decide +kernel
theorem dX8_two_76 : decode cX8_two 76 = .ok (.iconst 5, 1) := by decide +kernel
theorem dX8_two_77 : decode cX8_two 77 = .ok (.iaload, 1) := by decide +kernel
theorem dX8_two_78 : decode cX8_two 78 = .ok (.iconst (-1), 1) := by decide +kernel
theorem dX8_two_79 : decode cX8_two 79 = .ok (.invokevirtual 194, 3) := by decide +kernel
theorem dX8_two_82 : decode cX8_two 82 = .ok (.lstore_n 2, 1) := by decide +kernel
theorem dX8_two_83 : decode cX8_two 83 = .ok (.aload_n 0, 1) := by decide +kernel
theorem dX8_two_84 : decode cX8_two 84 = .ok (.lload 4, 2) := by decide +kernel
theorem dX8_two_86 : decode cX8_two 86 = .ok (.aload_n 0, 1) := by decide +kernel
theorem dX8_two_87 : decode cX8_two 87 = .ok (.getfield 19, 3) := by decide +kernel
theorem dX8_two_90 : decode cX8_two 90 = .ok (.iconst 5, 1) := by decide +kernel
theorem dX8_two_91 : decode cX8_two 91 = .ok (.iaload, 1) := by decide +kernel
theorem dX8_two_92 : decode cX8_two 92 = .ok (.iconst (-1), 1) := by decide +kernel
theorem dX8_two_93 : decode cX8_two 93 = .ok (.invokevirtual 194, 3) := by decide +kernel
theorem dX8_two_96 : decode cX8_two 96 = .ok (.lstore 4, 2) := by decide +kernel
theorem dX8_two_98 : decode cX8_two 98 = .ok (.iinc 6 1, 3) := by decide +kernel
theorem dX8_two_101 : decode cX8_two 101 = .ok (.goto (-54), 3) := by decide +kernel
theorem dX8_two_104 : decode cX8_two 104 = .ok (.iconst (-1), 1) := by decide +kernel
theorem dX8_two_105 : decode cX8_two 105 = .ok (.ireturn, 1) := by decide +kernel
set_option maxRecDepth 20000 in
theorem ggX8_idle_X8_isBanned : GoodIn wsX8_idle wsX8_isBanned := goodIn_m (fun w hw => by
  revert w hw; unfold wsX8_isBanned
  exact am_cons (am_at in_wsX8_idle_0 5 rfl) (am_app (am_cons (am_at in_wsX8_idle_0 0 rfl) am_nil) in_wsX8_idle_1)) gw_wsX8_isBanned
set_option maxRecDepth 20000 in
theorem gX8_idle_X8_isBanned : GoodIn wsX8_idle (wsV RX8 120 RX8 yX8_isBanned wsX8_isBanned) := goodIn_app (goodIn_m (am_cons (am_at in_wsX8_idle_0 1 rfl) (am_cons (am_at in_wsX8_idle_0 2 rfl) (am_cons (am_at in_wsX8_idle_0 3 rfl) (am_cons (am_at in_wsX8_idle_0 4 rfl) am_nil)))) (by decide +kernel)) ggX8_idle_X8_isBanned
theorem dX8_idle_0 : decode cX8_idle 0 = .ok (.sipush 4095, 3) := by decide +kernel
theorem dX8_idle_3 : decode cX8_idle 3 = .ok (.istore_n 1, 1) := by decide +kernel
theorem dX8_idle_4 : decode cX8_idle 4 = .ok (.iconst 0, 1) := by decide +kernel
theorem dX8_idle_5 : decode cX8_idle 5 = .ok (.istore_n 2, 1) := by decide +kernel
theorem dX8_idle_6 : decode cX8_idle 6 = .ok (.iload_n 2, 1) := by decide +kernel
theorem dX8_idle_7 : decode cX8_idle 7 = .ok (.aload_n 0, 1) := by decide +kernel
theorem dX8_idle_8 : decode cX8_idle 8 = .ok (.getfield 13, 3) := by decide +kernel
theorem dX8_idle_11 : decode cX8_idle 11 = .ok (.iconst 2, 1) := by decide +kernel
theorem dX8_idle_12 : decode cX8_idle 12 = .ok (.iaload, 1) := by decide +kernel
theorem dX8_idle_13 : decode cX8_idle 13 = .ok (.if_icmp .ge 37, 3) := by decide +kernel
theorem dX8_idle_16 : decode cX8_idle 16 = .ok (.iload_n 1, 1) := by decide +kernel
theorem dX8_idle_17 : decode cX8_idle 17 = .ok (.aload_n 0, 1) := by decide +kernel
theorem dX8_idle_18 : decode cX8_idle 18 = .ok (.iload_n 2, 1) := by decide +kernel
theorem dX8_idle_19 : decode cX8_idle 19 = .ok (.invokevirtual 120, 3) := by decide +kernel
theorem dX8_idle_22 : decode cX8_idle 22 = .ok (.ifCond .eq 9, 3) := by decide +kernel
theorem dX8_idle_25 : decode cX8_idle 25 = .ok (.sipush 4095, 3) := by decide +kernel
theorem dX8_idle_28 : decode cX8_idle 28 = .ok (.goto 14, 3) := by decide +kernel
theorem dX8_idle_31 : decode cX8_idle 31 = .ok (.aload_n 0, 1) := by decide +kernel
theorem dX8_idle_32 : decode cX8_idle 32 = .ok (.getfield 13, 3) := by decide +kernel
theorem dX8_idle_35 : decode cX8_idle 35 = .ok (.bipush 12, 2) := by decide +kernel
theorem dX8_idle_37 : decode cX8_idle 37 = .ok (.iload_n 2, 1) := by decide +kernel
theorem dX8_idle_38 : decode cX8_idle 38 = .ok (.iadd, 1) := by decide +kernel
theorem dX8_idle_39 : decode cX8_idle 39 = .ok (.iaload, 1) := by decide +kernel
theorem dX8_idle_40 : decode cX8_idle 40 = .ok (.iconst (-1), 1) := by decide +kernel
theorem dX8_idle_41 : decode cX8_idle 41 = .ok (.ixor, 1) := by decide +kernel
theorem dX8_idle_42 : decode cX8_idle 42 = .ok (.iand, 1) := by decide +kernel
theorem dX8_idle_43 : decode cX8_idle 43 = .ok (.istore_n 1, 1) := by decide +kernel
theorem dX8_idle_44 : decode cX8_idle 44 = .ok (.iinc 2 1, 3) := by decide +kernel
theorem dX8_idle_47 : decode cX8_idle 47 = .ok (.goto (-41), 3) := by decide +kernel
theorem dX8_idle_50 : decode cX8_idle 50 = .ok (.iload_n 1, 1) := by decide +kernel
theorem dX8_idle_51 : decode cX8_idle 51 = .ok (.ireturn, 1) := by decide +kernel
set_option maxRecDepth 20000 in
theorem ggX8_stranded_X8_walks : GoodIn wsX8_stranded wsX8_walks := goodIn_m (fun w hw => by
  revert w hw; unfold wsX8_walks
  exact am_cons (am_at in_wsX8_stranded_0 6 rfl) (am_app (am_cons (am_at in_wsX8_stranded_0 0 rfl) (am_cons (am_at in_wsX8_stranded_0 7 rfl) (am_cons (am_at in_wsX8_stranded_0 8 rfl) (am_cons (am_at in_wsX8_stranded_0 9 rfl) (am_cons (am_at in_wsX8_stranded_0 5 rfl) (am_cons (am_at in_wsX8_stranded_0 10 rfl) (am_cons (am_at in_wsX8_stranded_0 11 rfl) (am_cons (am_at in_wsX8_stranded_0 12 rfl) (am_cons (am_at in_wsX8_stranded_0 13 rfl) (am_cons (am_at in_wsX8_stranded_0 14 rfl) am_nil)))))))))) in_wsX8_stranded_1)) gw_wsX8_walks
set_option maxRecDepth 20000 in
theorem gX8_stranded_X8_walks : GoodIn wsX8_stranded (wsV RX8 146 RX8 yX8_walks wsX8_walks) := goodIn_app (goodIn_m (am_cons (am_at in_wsX8_stranded_0 2 rfl) (am_cons (am_at in_wsX8_stranded_0 3 rfl) (am_cons (am_at in_wsX8_stranded_0 4 rfl) (am_cons (am_at in_wsX8_stranded_0 5 rfl) am_nil)))) (by decide +kernel)) ggX8_stranded_X8_walks
theorem dX8_stranded_0 : decode cX8_stranded 0 = .ok (.iconst 0, 1) := by decide +kernel
theorem dX8_stranded_1 : decode cX8_stranded 1 = .ok (.istore_n 1, 1) := by decide +kernel
theorem dX8_stranded_2 : decode cX8_stranded 2 = .ok (.iconst 0, 1) := by decide +kernel
theorem dX8_stranded_3 : decode cX8_stranded 3 = .ok (.istore_n 2, 1) := by decide +kernel
theorem dX8_stranded_4 : decode cX8_stranded 4 = .ok (.iload_n 2, 1) := by decide +kernel
theorem dX8_stranded_5 : decode cX8_stranded 5 = .ok (.aload_n 0, 1) := by decide +kernel
theorem dX8_stranded_6 : decode cX8_stranded 6 = .ok (.getfield 13, 3) := by decide +kernel
theorem dX8_stranded_9 : decode cX8_stranded 9 = .ok (.iconst 2, 1) := by decide +kernel
theorem dX8_stranded_10 : decode cX8_stranded 10 = .ok (.iaload, 1) := by decide +kernel
theorem dX8_stranded_11 : decode cX8_stranded 11 = .ok (.if_icmp .ge 33, 3) := by decide +kernel
theorem dX8_stranded_14 : decode cX8_stranded 14 = .ok (.iload_n 1, 1) := by decide +kernel
theorem dX8_stranded_15 : decode cX8_stranded 15 = .ok (.aload_n 0, 1) := by decide +kernel
theorem dX8_stranded_16 : decode cX8_stranded 16 = .ok (.iload_n 2, 1) := by decide +kernel
theorem dX8_stranded_17 : decode cX8_stranded 17 = .ok (.aload_n 0, 1) := by decide +kernel
theorem dX8_stranded_18 : decode cX8_stranded 18 = .ok (.getfield 19, 3) := by decide +kernel
theorem dX8_stranded_21 : decode cX8_stranded 21 = .ok (.iconst 5, 1) := by decide +kernel
theorem dX8_stranded_22 : decode cX8_stranded 22 = .ok (.iaload, 1) := by decide +kernel
theorem dX8_stranded_23 : decode cX8_stranded 23 = .ok (.invokevirtual 146, 3) := by decide +kernel
theorem dX8_stranded_26 : decode cX8_stranded 26 = .ok (.ifCond .ne 9, 3) := by decide +kernel
theorem dX8_stranded_29 : decode cX8_stranded 29 = .ok (.iconst 1, 1) := by decide +kernel
theorem dX8_stranded_30 : decode cX8_stranded 30 = .ok (.iload_n 2, 1) := by decide +kernel
theorem dX8_stranded_31 : decode cX8_stranded 31 = .ok (.ishl, 1) := by decide +kernel
theorem dX8_stranded_32 : decode cX8_stranded 32 = .ok (.goto 4, 3) := by decide +kernel
theorem dX8_stranded_35 : decode cX8_stranded 35 = .ok (.iconst 0, 1) := by decide +kernel
theorem dX8_stranded_36 : decode cX8_stranded 36 = .ok (.ior, 1) := by decide +kernel
theorem dX8_stranded_37 : decode cX8_stranded 37 = .ok (.istore_n 1, 1) := by decide +kernel
theorem dX8_stranded_38 : decode cX8_stranded 38 = .ok (.iinc 2 1, 3) := by decide +kernel
theorem dX8_stranded_41 : decode cX8_stranded 41 = .ok (.goto (-37), 3) := by decide +kernel
theorem dX8_stranded_44 : decode cX8_stranded 44 = .ok (.iload_n 1, 1) := by decide +kernel
theorem dX8_stranded_45 : decode cX8_stranded 45 = .ok (.ireturn, 1) := by decide +kernel
set_option maxRecDepth 20000 in
theorem ggX8_snow_X8_in : GoodIn wsX8_snow wsX8_in := goodIn_m (fun w hw => by
  revert w hw; unfold wsX8_in
  exact am_cons (am_at in_wsX8_snow_0 6 rfl) am_nil) gw_wsX8_in
set_option maxRecDepth 20000 in
theorem gX8_snow_X8_in : GoodIn wsX8_snow (va_wsS RX8 55 yX8_in wsX8_in) := goodIn_app (goodIn_m (am_cons (am_at in_wsX8_snow_0 3 rfl) (am_cons (am_at in_wsX8_snow_0 4 rfl) (am_cons (am_at in_wsX8_snow_0 5 rfl) am_nil))) (by decide +kernel)) ggX8_snow_X8_in
theorem dX8_snow_0 : decode cX8_snow 0 = .ok (.iload_n 1, 1) := by decide +kernel
theorem dX8_snow_1 : decode cX8_snow 1 = .ok (.iconst 0, 1) := by decide +kernel
theorem dX8_snow_2 : decode cX8_snow 2 = .ok (.bipush 60, 2) := by decide +kernel
