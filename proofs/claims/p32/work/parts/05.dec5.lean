theorem dX8_snow_4 : decode cX8_snow 4 = .ok (.invokestatic 55, 3) := by decide +kernel
theorem dX8_snow_7 : decode cX8_snow 7 = .ok (.ifCond .eq 13, 3) := by decide +kernel
theorem dX8_snow_10 : decode cX8_snow 10 = .ok (.iload_n 2, 1) := by decide +kernel
theorem dX8_snow_11 : decode cX8_snow 11 = .ok (.iconst 0, 1) := by decide +kernel
theorem dX8_snow_12 : decode cX8_snow 12 = .ok (.bipush 100, 2) := by decide +kernel
theorem dX8_snow_14 : decode cX8_snow 14 = .ok (.invokestatic 55, 3) := by decide +kernel
theorem dX8_snow_17 : decode cX8_snow 17 = .ok (.ifCond .ne 6, 3) := by decide +kernel
theorem dX8_snow_20 : decode cX8_snow 20 = .ok (.ldc 59, 2) := by decide +kernel
theorem dX8_snow_22 : decode cX8_snow 22 = .ok (.ireturn, 1) := by decide +kernel
theorem dX8_snow_23 : decode cX8_snow 23 = .ok (.ldc2_w 205, 3) := by decide +kernel
theorem dX8_snow_26 : decode cX8_snow 26 = .ok (.lstore_n 3, 1) := by decide +kernel
theorem dX8_snow_27 : decode cX8_snow 27 = .ok (.iconst 0, 1) := by decide +kernel
theorem dX8_snow_28 : decode cX8_snow 28 = .ok (.istore 5, 2) := by decide +kernel
theorem dX8_snow_30 : decode cX8_snow 30 = .ok (.iload 5, 2) := by decide +kernel
theorem dX8_snow_32 : decode cX8_snow 32 = .ok (.iload_n 1, 1) := by decide +kernel
theorem dX8_snow_33 : decode cX8_snow 33 = .ok (.if_icmp .ge 21, 3) := by decide +kernel
theorem dX8_snow_36 : decode cX8_snow 36 = .ok (.lload_n 3, 1) := by decide +kernel
theorem dX8_snow_37 : decode cX8_snow 37 = .ok (.bipush 100, 2) := by decide +kernel
theorem dX8_snow_39 : decode cX8_snow 39 = .ok (.iload_n 2, 1) := by decide +kernel
theorem dX8_snow_40 : decode cX8_snow 40 = .ok (.isub, 1) := by decide +kernel
theorem dX8_snow_41 : decode cX8_snow 41 = .ok (.i2l, 1) := by decide +kernel
theorem dX8_snow_42 : decode cX8_snow 42 = .ok (.lmul, 1) := by decide +kernel
theorem dX8_snow_43 : decode cX8_snow 43 = .ok (.ldc2_w 207, 3) := by decide +kernel
theorem dX8_snow_46 : decode cX8_snow 46 = .ok (.ldiv, 1) := by decide +kernel
theorem dX8_snow_47 : decode cX8_snow 47 = .ok (.lstore_n 3, 1) := by decide +kernel
theorem dX8_snow_48 : decode cX8_snow 48 = .ok (.iinc 5 1, 3) := by decide +kernel
theorem dX8_snow_51 : decode cX8_snow 51 = .ok (.goto (-21), 3) := by decide +kernel
theorem dX8_snow_54 : decode cX8_snow 54 = .ok (.lload_n 3, 1) := by decide +kernel
theorem dX8_snow_55 : decode cX8_snow 55 = .ok (.l2i, 1) := by decide +kernel
theorem dX8_snow_56 : decode cX8_snow 56 = .ok (.ireturn, 1) := by decide +kernel
set_option maxRecDepth 20000 in
theorem ggX8_seal_X8_isTown : GoodIn wsX8_seal wsX8_isTown := goodIn_m (fun w hw => by
  revert w hw; unfold wsX8_isTown
  exact am_cons (am_at in_wsX8_seal_0 9 rfl) (am_app (am_cons (am_at in_wsX8_seal_0 10 rfl) (am_cons (am_at in_wsX8_seal_0 11 rfl) (am_cons (am_at in_wsX8_seal_0 12 rfl) (am_cons (am_at in_wsX8_seal_0 8 rfl) (am_cons (am_at in_wsX8_seal_0 13 rfl) am_nil))))) in_wsX8_seal_1)) gw_wsX8_isTown
set_option maxRecDepth 20000 in
theorem gX8_seal_X8_isTown : GoodIn wsX8_seal (wsV RX8 123 RX8 yX8_isTown wsX8_isTown) := goodIn_app (goodIn_m (am_cons (am_at in_wsX8_seal_0 5 rfl) (am_cons (am_at in_wsX8_seal_0 6 rfl) (am_cons (am_at in_wsX8_seal_0 7 rfl) (am_cons (am_at in_wsX8_seal_0 8 rfl) am_nil)))) (by decide +kernel)) ggX8_seal_X8_isTown
set_option maxRecDepth 20000 in
theorem ggX8_seal_X8_in : GoodIn wsX8_seal wsX8_in := goodIn_m (fun w hw => by
  revert w hw; unfold wsX8_in
  exact am_cons (am_at in_wsX8_seal_0 13 rfl) am_nil) gw_wsX8_in
set_option maxRecDepth 20000 in
theorem gX8_seal_X8_in : GoodIn wsX8_seal (va_wsS RX8 55 yX8_in wsX8_in) := goodIn_app (goodIn_m (am_cons (am_at in_wsX8_seal_0 11 rfl) (am_cons (am_at in_wsX8_seal_0 12 rfl) (am_cons (am_at in_wsX8_seal_0 8 rfl) am_nil))) (by decide +kernel)) ggX8_seal_X8_in
theorem dX8_seal_0 : decode cX8_seal 0 = .ok (.aload_n 0, 1) := by decide +kernel
theorem dX8_seal_1 : decode cX8_seal 1 = .ok (.iload_n 1, 1) := by decide +kernel
theorem dX8_seal_2 : decode cX8_seal 2 = .ok (.invokevirtual 123, 3) := by decide +kernel
theorem dX8_seal_5 : decode cX8_seal 5 = .ok (.ifCond .ne 6, 3) := by decide +kernel
theorem dX8_seal_8 : decode cX8_seal 8 = .ok (.ldc 126, 2) := by decide +kernel
theorem dX8_seal_10 : decode cX8_seal 10 = .ok (.ireturn, 1) := by decide +kernel
theorem dX8_seal_11 : decode cX8_seal 11 = .ok (.iload_n 2, 1) := by decide +kernel
theorem dX8_seal_12 : decode cX8_seal 12 = .ok (.iconst 0, 1) := by decide +kernel
theorem dX8_seal_13 : decode cX8_seal 13 = .ok (.bipush 47, 2) := by decide +kernel
theorem dX8_seal_15 : decode cX8_seal 15 = .ok (.invokestatic 55, 3) := by decide +kernel
theorem dX8_seal_18 : decode cX8_seal 18 = .ok (.ifCond .ne 6, 3) := by decide +kernel
theorem dX8_seal_21 : decode cX8_seal 21 = .ok (.ldc 59, 2) := by decide +kernel
theorem dX8_seal_23 : decode cX8_seal 23 = .ok (.ireturn, 1) := by decide +kernel
theorem dX8_seal_24 : decode cX8_seal 24 = .ok (.aload_n 0, 1) := by decide +kernel
theorem dX8_seal_25 : decode cX8_seal 25 = .ok (.getfield 110, 3) := by decide +kernel
theorem dX8_seal_28 : decode cX8_seal 28 = .ok (.bipush 8, 2) := by decide +kernel
theorem dX8_seal_30 : decode cX8_seal 30 = .ok (.if_icmp .ne 6, 3) := by decide +kernel
theorem dX8_seal_33 : decode cX8_seal 33 = .ok (.ldc 63, 2) := by decide +kernel
theorem dX8_seal_35 : decode cX8_seal 35 = .ok (.ireturn, 1) := by decide +kernel
theorem dX8_seal_36 : decode cX8_seal 36 = .ok (.aload_n 0, 1) := by decide +kernel
theorem dX8_seal_37 : decode cX8_seal 37 = .ok (.getfield 32, 3) := by decide +kernel
theorem dX8_seal_40 : decode cX8_seal 40 = .ok (.aload_n 0, 1) := by decide +kernel
theorem dX8_seal_41 : decode cX8_seal 41 = .ok (.getfield 110, 3) := by decide +kernel
theorem dX8_seal_44 : decode cX8_seal 44 = .ok (.bipush 48, 2) := by decide +kernel
theorem dX8_seal_46 : decode cX8_seal 46 = .ok (.iload_n 1, 1) := by decide +kernel
theorem dX8_seal_47 : decode cX8_seal 47 = .ok (.imul, 1) := by decide +kernel
theorem dX8_seal_48 : decode cX8_seal 48 = .ok (.iload_n 2, 1) := by decide +kernel
theorem dX8_seal_49 : decode cX8_seal 49 = .ok (.iadd, 1) := by decide +kernel
theorem dX8_seal_50 : decode cX8_seal 50 = .ok (.iastore, 1) := by decide +kernel
theorem dX8_seal_51 : decode cX8_seal 51 = .ok (.aload_n 0, 1) := by decide +kernel
theorem dX8_seal_52 : decode cX8_seal 52 = .ok (.dup, 1) := by decide +kernel
theorem dX8_seal_53 : decode cX8_seal 53 = .ok (.getfield 110, 3) := by decide +kernel
theorem dX8_seal_56 : decode cX8_seal 56 = .ok (.iconst 1, 1) := by decide +kernel
theorem dX8_seal_57 : decode cX8_seal 57 = .ok (.iadd, 1) := by decide +kernel
theorem dX8_seal_58 : decode cX8_seal 58 = .ok (.putfield 110, 3) := by decide +kernel
theorem dX8_seal_61 : decode cX8_seal 61 = .ok (.aload_n 0, 1) := by decide +kernel
theorem dX8_seal_62 : decode cX8_seal 62 = .ok (.getfield 110, 3) := by decide +kernel
theorem dX8_seal_65 : decode cX8_seal 65 = .ok (.ireturn, 1) := by decide +kernel
set_option maxRecDepth 20000 in
theorem ggX8_onlyIn_X8_hasWork : GoodIn wsX8_onlyIn wsX8_hasWork := goodIn_m (fun w hw => by
  revert w hw; unfold wsX8_hasWork
  exact am_cons (am_at in_wsX8_onlyIn_0 6 rfl) (am_app (am_cons (am_at in_wsX8_onlyIn_0 7 rfl) am_nil) in_wsX8_onlyIn_1)) gw_wsX8_hasWork
set_option maxRecDepth 20000 in
theorem gX8_onlyIn_X8_hasWork : GoodIn wsX8_onlyIn (wsV RX8 130 RX8 yX8_hasWork wsX8_hasWork) := goodIn_app (goodIn_m (am_cons (am_at in_wsX8_onlyIn_0 2 rfl) (am_cons (am_at in_wsX8_onlyIn_0 3 rfl) (am_cons (am_at in_wsX8_onlyIn_0 4 rfl) (am_cons (am_at in_wsX8_onlyIn_0 5 rfl) am_nil)))) (by decide +kernel)) ggX8_onlyIn_X8_hasWork
theorem dX8_onlyIn_0 : decode cX8_onlyIn 0 = .ok (.iconst (-1), 1) := by decide +kernel
theorem dX8_onlyIn_1 : decode cX8_onlyIn 1 = .ok (.istore_n 3, 1) := by decide +kernel
theorem dX8_onlyIn_2 : decode cX8_onlyIn 2 = .ok (.iconst 0, 1) := by decide +kernel
theorem dX8_onlyIn_3 : decode cX8_onlyIn 3 = .ok (.istore 4, 2) := by decide +kernel
theorem dX8_onlyIn_5 : decode cX8_onlyIn 5 = .ok (.iload 4, 2) := by decide +kernel
theorem dX8_onlyIn_7 : decode cX8_onlyIn 7 = .ok (.aload_n 0, 1) := by decide +kernel
theorem dX8_onlyIn_8 : decode cX8_onlyIn 8 = .ok (.getfield 110, 3) := by decide +kernel
theorem dX8_onlyIn_11 : decode cX8_onlyIn 11 = .ok (.if_icmp .ge 70, 3) := by decide +kernel
theorem dX8_onlyIn_14 : decode cX8_onlyIn 14 = .ok (.aload_n 0, 1) := by decide +kernel
theorem dX8_onlyIn_15 : decode cX8_onlyIn 15 = .ok (.getfield 32, 3) := by decide +kernel
theorem dX8_onlyIn_18 : decode cX8_onlyIn 18 = .ok (.iload 4, 2) := by decide +kernel
theorem dX8_onlyIn_20 : decode cX8_onlyIn 20 = .ok (.iaload, 1) := by decide +kernel
theorem dX8_onlyIn_21 : decode cX8_onlyIn 21 = .ok (.bipush 48, 2) := by decide +kernel
theorem dX8_onlyIn_23 : decode cX8_onlyIn 23 = .ok (.idiv, 1) := by decide +kernel
theorem dX8_onlyIn_24 : decode cX8_onlyIn 24 = .ok (.istore 5, 2) := by decide +kernel
theorem dX8_onlyIn_26 : decode cX8_onlyIn 26 = .ok (.iload 4, 2) := by decide +kernel
theorem dX8_onlyIn_28 : decode cX8_onlyIn 28 = .ok (.iload_n 2, 1) := by decide +kernel
theorem dX8_onlyIn_29 : decode cX8_onlyIn 29 = .ok (.if_icmp .eq 46, 3) := by decide +kernel
theorem dX8_onlyIn_32 : decode cX8_onlyIn 32 = .ok (.aload_n 0, 1) := by decide +kernel
theorem dX8_onlyIn_33 : decode cX8_onlyIn 33 = .ok (.getfield 32, 3) := by decide +kernel
theorem dX8_onlyIn_36 : decode cX8_onlyIn 36 = .ok (.iload 4, 2) := by decide +kernel
theorem dX8_onlyIn_38 : decode cX8_onlyIn 38 = .ok (.iaload, 1) := by decide +kernel
theorem dX8_onlyIn_39 : decode cX8_onlyIn 39 = .ok (.bipush 48, 2) := by decide +kernel
theorem dX8_onlyIn_41 : decode cX8_onlyIn 41 = .ok (.irem, 1) := by decide +kernel
theorem dX8_onlyIn_42 : decode cX8_onlyIn 42 = .ok (.iload_n 1, 1) := by decide +kernel
theorem dX8_onlyIn_43 : decode cX8_onlyIn 43 = .ok (.if_icmp .ne 32, 3) := by decide +kernel
theorem dX8_onlyIn_46 : decode cX8_onlyIn 46 = .ok (.aload_n 0, 1) := by decide +kernel
theorem dX8_onlyIn_47 : decode cX8_onlyIn 47 = .ok (.iload 5, 2) := by decide +kernel
theorem dX8_onlyIn_49 : decode cX8_onlyIn 49 = .ok (.iload_n 1, 1) := by decide +kernel
theorem dX8_onlyIn_50 : decode cX8_onlyIn 50 = .ok (.invokevirtual 130, 3) := by decide +kernel
theorem dX8_onlyIn_53 : decode cX8_onlyIn 53 = .ok (.ifCond .eq 14, 3) := by decide +kernel
theorem dX8_onlyIn_56 : decode cX8_onlyIn 56 = .ok (.iload_n 3, 1) := by decide +kernel
theorem dX8_onlyIn_57 : decode cX8_onlyIn 57 = .ok (.iconst (-1), 1) := by decide +kernel
theorem dX8_onlyIn_58 : decode cX8_onlyIn 58 = .ok (.if_icmp .eq 14, 3) := by decide +kernel
theorem dX8_onlyIn_61 : decode cX8_onlyIn 61 = .ok (.iload_n 3, 1) := by decide +kernel
theorem dX8_onlyIn_62 : decode cX8_onlyIn 62 = .ok (.iload 5, 2) := by decide +kernel
theorem dX8_onlyIn_64 : decode cX8_onlyIn 64 = .ok (.if_icmp .eq 8, 3) := by decide +kernel
theorem dX8_onlyIn_67 : decode cX8_onlyIn 67 = .ok (.bipush (-2), 2) := by decide +kernel
theorem dX8_onlyIn_69 : decode cX8_onlyIn 69 = .ok (.goto 5, 3) := by decide +kernel
theorem dX8_onlyIn_72 : decode cX8_onlyIn 72 = .ok (.iload 5, 2) := by decide +kernel
theorem dX8_onlyIn_74 : decode cX8_onlyIn 74 = .ok (.istore_n 3, 1) := by decide +kernel
theorem dX8_onlyIn_75 : decode cX8_onlyIn 75 = .ok (.iinc 4 1, 3) := by decide +kernel
theorem dX8_onlyIn_78 : decode cX8_onlyIn 78 = .ok (.goto (-73), 3) := by decide +kernel
theorem dX8_onlyIn_81 : decode cX8_onlyIn 81 = .ok (.iload_n 3, 1) := by decide +kernel
theorem dX8_onlyIn_82 : decode cX8_onlyIn 82 = .ok (.ireturn, 1) := by decide +kernel
set_option maxRecDepth 20000 in
theorem ggX8_fitsBut_X8_bit : GoodIn wsX8_fitsBut wsX8_bit := goodIn_m (fun w hw => by
  revert w hw; unfold wsX8_bit
  exact am_cons (am_at in_wsX8_fitsBut_0 5 rfl) am_nil) gw_wsX8_bit
set_option maxRecDepth 20000 in
theorem gX8_fitsBut_X8_bit : GoodIn wsX8_fitsBut (va_wsS RX8 174 yX8_bit wsX8_bit) := goodIn_app (goodIn_m (am_cons (am_at in_wsX8_fitsBut_0 2 rfl) (am_cons (am_at in_wsX8_fitsBut_0 3 rfl) (am_cons (am_at in_wsX8_fitsBut_0 4 rfl) am_nil))) (by decide +kernel)) ggX8_fitsBut_X8_bit
set_option maxRecDepth 20000 in
theorem ggX8_fitsBut_X8_onlyIn : GoodIn wsX8_fitsBut wsX8_onlyIn := goodIn_m (fun w hw => by
  revert w hw; unfold wsX8_onlyIn
  exact am_cons (am_at in_wsX8_fitsBut_0 9 rfl) (am_app (am_cons (am_at in_wsX8_fitsBut_0 10 rfl) (am_cons (am_at in_wsX8_fitsBut_0 11 rfl) (am_cons (am_at in_wsX8_fitsBut_0 12 rfl) (am_cons (am_at in_wsX8_fitsBut_0 13 rfl) (am_cons (am_at in_wsX8_fitsBut_0 14 rfl) (am_cons (am_at in_wsX8_fitsBut_0 4 rfl) (am_cons (am_at in_wsX8_fitsBut_0 15 rfl) (am_cons (am_at in_wsX8_fitsBut_0 1 rfl) am_nil)))))))) in_wsX8_fitsBut_2)) gw_wsX8_onlyIn
set_option maxRecDepth 20000 in
theorem gX8_fitsBut_X8_onlyIn : GoodIn wsX8_fitsBut (wsV RX8 209 RX8 yX8_onlyIn wsX8_onlyIn) := goodIn_app (goodIn_m (am_cons (am_at in_wsX8_fitsBut_0 6 rfl) (am_cons (am_at in_wsX8_fitsBut_0 7 rfl) (am_cons (am_at in_wsX8_fitsBut_0 8 rfl) (am_cons (am_at in_wsX8_fitsBut_0 4 rfl) am_nil)))) (by decide +kernel)) ggX8_fitsBut_X8_onlyIn
set_option maxRecDepth 20000 in
theorem ggX8_fitsBut_X8_goes : GoodIn wsX8_fitsBut wsX8_goes := goodIn_m (fun w hw => by
  revert w hw; unfold wsX8_goes
  exact am_cons (am_at in_wsX8_fitsBut_0 19 rfl) (am_app (am_cons (am_at in_wsX8_fitsBut_0 1 rfl) (am_cons (am_at in_wsX8_fitsBut_0 20 rfl) (am_cons (am_at in_wsX8_fitsBut_0 21 rfl) (am_cons (am_at in_wsX8_fitsBut_0 22 rfl) (am_cons (am_at in_wsX8_fitsBut_0 4 rfl) (am_cons (am_at in_wsX8_fitsBut_0 23 rfl) (am_cons (am_at in_wsX8_fitsBut_1 0 rfl) (am_cons (am_at in_wsX8_fitsBut_1 1 rfl) (am_cons (am_at in_wsX8_fitsBut_1 2 rfl) (am_cons (am_at in_wsX8_fitsBut_1 3 rfl) (am_cons (am_at in_wsX8_fitsBut_1 4 rfl) (am_cons (am_at in_wsX8_fitsBut_1 5 rfl) (am_cons (am_at in_wsX8_fitsBut_1 6 rfl) (am_cons (am_at in_wsX8_fitsBut_1 7 rfl) (am_cons (am_at in_wsX8_fitsBut_1 8 rfl) (am_cons (am_at in_wsX8_fitsBut_1 9 rfl) (am_cons (am_at in_wsX8_fitsBut_1 10 rfl) (am_cons (am_at in_wsX8_fitsBut_0 2 rfl) (am_cons (am_at in_wsX8_fitsBut_0 3 rfl) (am_cons (am_at in_wsX8_fitsBut_0 5 rfl) am_nil)))))))))))))))))))) in_wsX8_fitsBut_2)) gw_wsX8_goes
set_option maxRecDepth 20000 in
theorem gX8_fitsBut_X8_goes : GoodIn wsX8_fitsBut (wsV RX8 194 RX8 yX8_goes wsX8_goes) := goodIn_app (goodIn_m (am_cons (am_at in_wsX8_fitsBut_0 16 rfl) (am_cons (am_at in_wsX8_fitsBut_0 17 rfl) (am_cons (am_at in_wsX8_fitsBut_0 18 rfl) (am_cons (am_at in_wsX8_fitsBut_0 4 rfl) am_nil)))) (by decide +kernel)) ggX8_fitsBut_X8_goes
theorem dX8_fitsBut_0 : decode cX8_fitsBut 0 = .ok (.aload_n 0, 1) := by decide +kernel
theorem dX8_fitsBut_1 : decode cX8_fitsBut 1 = .ok (.getfield 52, 3) := by decide +kernel
theorem dX8_fitsBut_4 : decode cX8_fitsBut 4 = .ok (.iconst 0, 1) := by decide +kernel
theorem dX8_fitsBut_5 : decode cX8_fitsBut 5 = .ok (.aload_n 0, 1) := by decide +kernel
theorem dX8_fitsBut_6 : decode cX8_fitsBut 6 = .ok (.getfield 13, 3) := by decide +kernel
theorem dX8_fitsBut_9 : decode cX8_fitsBut 9 = .ok (.iconst 2, 1) := by decide +kernel
theorem dX8_fitsBut_10 : decode cX8_fitsBut 10 = .ok (.iaload, 1) := by decide +kernel
theorem dX8_fitsBut_11 : decode cX8_fitsBut 11 = .ok (.ifCond .ne 7, 3) := by decide +kernel
theorem dX8_fitsBut_14 : decode cX8_fitsBut 14 = .ok (.lconst 0, 1) := by decide +kernel
theorem dX8_fitsBut_15 : decode cX8_fitsBut 15 = .ok (.goto 8, 3) := by decide +kernel
theorem dX8_fitsBut_18 : decode cX8_fitsBut 18 = .ok (.iconst 0, 1) := by decide +kernel
theorem dX8_fitsBut_19 : decode cX8_fitsBut 19 = .ok (.iconst 0, 1) := by decide +kernel
theorem dX8_fitsBut_20 : decode cX8_fitsBut 20 = .ok (.invokestatic 174, 3) := by decide +kernel
theorem dX8_fitsBut_23 : decode cX8_fitsBut 23 = .ok (.lastore, 1) := by decide +kernel
theorem dX8_fitsBut_24 : decode cX8_fitsBut 24 = .ok (.iconst 0, 1) := by decide +kernel
theorem dX8_fitsBut_25 : decode cX8_fitsBut 25 = .ok (.istore_n 2, 1) := by decide +kernel
theorem dX8_fitsBut_26 : decode cX8_fitsBut 26 = .ok (.iload_n 2, 1) := by decide +kernel
theorem dX8_fitsBut_27 : decode cX8_fitsBut 27 = .ok (.bipush 48, 2) := by decide +kernel
theorem dX8_fitsBut_29 : decode cX8_fitsBut 29 = .ok (.if_icmp .ge 34, 3) := by decide +kernel
theorem dX8_fitsBut_32 : decode cX8_fitsBut 32 = .ok (.aload_n 0, 1) := by decide +kernel
theorem dX8_fitsBut_33 : decode cX8_fitsBut 33 = .ok (.getfield 52, 3) := by decide +kernel
theorem dX8_fitsBut_36 : decode cX8_fitsBut 36 = .ok (.iload_n 2, 1) := by decide +kernel
theorem dX8_fitsBut_37 : decode cX8_fitsBut 37 = .ok (.iconst 1, 1) := by decide +kernel
theorem dX8_fitsBut_38 : decode cX8_fitsBut 38 = .ok (.iadd, 1) := by decide +kernel
theorem dX8_fitsBut_39 : decode cX8_fitsBut 39 = .ok (.aload_n 0, 1) := by decide +kernel
theorem dX8_fitsBut_40 : decode cX8_fitsBut 40 = .ok (.aload_n 0, 1) := by decide +kernel
theorem dX8_fitsBut_41 : decode cX8_fitsBut 41 = .ok (.getfield 52, 3) := by decide +kernel
theorem dX8_fitsBut_44 : decode cX8_fitsBut 44 = .ok (.iload_n 2, 1) := by decide +kernel
theorem dX8_fitsBut_45 : decode cX8_fitsBut 45 = .ok (.laload, 1) := by decide +kernel
theorem dX8_fitsBut_46 : decode cX8_fitsBut 46 = .ok (.iconst 0, 1) := by decide +kernel
theorem dX8_fitsBut_47 : decode cX8_fitsBut 47 = .ok (.aload_n 0, 1) := by decide +kernel
theorem dX8_fitsBut_48 : decode cX8_fitsBut 48 = .ok (.iload_n 2, 1) := by decide +kernel
theorem dX8_fitsBut_49 : decode cX8_fitsBut 49 = .ok (.iload_n 1, 1) := by decide +kernel
theorem dX8_fitsBut_50 : decode cX8_fitsBut 50 = .ok (.invokevirtual 209, 3) := by decide +kernel
theorem dX8_fitsBut_53 : decode cX8_fitsBut 53 = .ok (.invokevirtual 194, 3) := by decide +kernel
theorem dX8_fitsBut_56 : decode cX8_fitsBut 56 = .ok (.lastore, 1) := by decide +kernel
theorem dX8_fitsBut_57 : decode cX8_fitsBut 57 = .ok (.iinc 2 1, 3) := by decide +kernel
theorem dX8_fitsBut_60 : decode cX8_fitsBut 60 = .ok (.goto (-34), 3) := by decide +kernel
theorem dX8_fitsBut_63 : decode cX8_fitsBut 63 = .ok (.aload_n 0, 1) := by decide +kernel
theorem dX8_fitsBut_64 : decode cX8_fitsBut 64 = .ok (.getfield 52, 3) := by decide +kernel
theorem dX8_fitsBut_67 : decode cX8_fitsBut 67 = .ok (.bipush 48, 2) := by decide +kernel
theorem dX8_fitsBut_69 : decode cX8_fitsBut 69 = .ok (.laload, 1) := by decide +kernel
theorem dX8_fitsBut_70 : decode cX8_fitsBut 70 = .ok (.lconst 0, 1) := by decide +kernel
theorem dX8_fitsBut_71 : decode cX8_fitsBut 71 = .ok (.lcmp, 1) := by decide +kernel
theorem dX8_fitsBut_72 : decode cX8_fitsBut 72 = .ok (.ifCond .eq 7, 3) := by decide +kernel
theorem dX8_fitsBut_75 : decode cX8_fitsBut 75 = .ok (.iconst 1, 1) := by decide +kernel
theorem dX8_fitsBut_76 : decode cX8_fitsBut 76 = .ok (.goto 4, 3) := by decide +kernel
theorem dX8_fitsBut_79 : decode cX8_fitsBut 79 = .ok (.iconst 0, 1) := by decide +kernel
theorem dX8_fitsBut_80 : decode cX8_fitsBut 80 = .ok (.ireturn, 1) := by decide +kernel
set_option maxRecDepth 20000 in
theorem ggX8_fits_X8_fitsBut : GoodIn wsX8_fits wsX8_fitsBut := goodIn_m (fun w hw => by
  revert w hw; unfold wsX8_fitsBut wsX8_fitsBut_r1 wsX8_fitsBut_r2
  exact am_cons (am_at in_wsX8_fits_0 4 rfl) (am_app (am_app (am_cons (am_at in_wsX8_fits_0 5 rfl) (am_cons (am_at in_wsX8_fits_0 6 rfl) (am_cons (am_at in_wsX8_fits_0 7 rfl) (am_cons (am_at in_wsX8_fits_0 8 rfl) (am_cons (am_at in_wsX8_fits_0 3 rfl) (am_cons (am_at in_wsX8_fits_0 9 rfl) (am_cons (am_at in_wsX8_fits_0 10 rfl) (am_cons (am_at in_wsX8_fits_0 11 rfl) (am_cons (am_at in_wsX8_fits_0 12 rfl) (am_cons (am_at in_wsX8_fits_0 13 rfl) (am_cons (am_at in_wsX8_fits_0 14 rfl) (am_cons (am_at in_wsX8_fits_0 15 rfl) (am_cons (am_at in_wsX8_fits_0 16 rfl) (am_cons (am_at in_wsX8_fits_0 17 rfl) (am_cons (am_at in_wsX8_fits_0 18 rfl) (am_cons (am_at in_wsX8_fits_0 19 rfl) (am_cons (am_at in_wsX8_fits_0 20 rfl) (am_cons (am_at in_wsX8_fits_0 21 rfl) (am_cons (am_at in_wsX8_fits_0 22 rfl) (am_cons (am_at in_wsX8_fits_0 23 rfl) (am_cons (am_at in_wsX8_fits_1 0 rfl) (am_cons (am_at in_wsX8_fits_1 1 rfl) (am_cons (am_at in_wsX8_fits_1 2 rfl) (am_cons (am_at in_wsX8_fits_1 3 rfl) am_nil)))))))))))))))))))))))) (am_cons (am_at in_wsX8_fits_1 4 rfl) (am_cons (am_at in_wsX8_fits_1 5 rfl) (am_cons (am_at in_wsX8_fits_1 6 rfl) (am_cons (am_at in_wsX8_fits_1 7 rfl) (am_cons (am_at in_wsX8_fits_1 8 rfl) (am_cons (am_at in_wsX8_fits_1 9 rfl) (am_cons (am_at in_wsX8_fits_1 10 rfl) (am_cons (am_at in_wsX8_fits_1 11 rfl) (am_cons (am_at in_wsX8_fits_1 12 rfl) (am_cons (am_at in_wsX8_fits_1 13 rfl) (am_cons (am_at in_wsX8_fits_1 14 rfl) am_nil)))))))))))) in_wsX8_fits_2)) gw_wsX8_fitsBut
set_option maxRecDepth 20000 in
theorem gX8_fits_X8_fitsBut : GoodIn wsX8_fits (wsV RX8 212 RX8 yX8_fitsBut wsX8_fitsBut) := goodIn_app (goodIn_m (am_cons (am_at in_wsX8_fits_0 0 rfl) (am_cons (am_at in_wsX8_fits_0 1 rfl) (am_cons (am_at in_wsX8_fits_0 2 rfl) (am_cons (am_at in_wsX8_fits_0 3 rfl) am_nil)))) (by decide +kernel)) ggX8_fits_X8_fitsBut
theorem dX8_fits_0 : decode cX8_fits 0 = .ok (.aload_n 0, 1) := by decide +kernel
theorem dX8_fits_1 : decode cX8_fits 1 = .ok (.iconst (-1), 1) := by decide +kernel
theorem dX8_fits_2 : decode cX8_fits 2 = .ok (.invokevirtual 212, 3) := by decide +kernel
theorem dX8_fits_5 : decode cX8_fits 5 = .ok (.ifCond .eq 7, 3) := by decide +kernel
theorem dX8_fits_8 : decode cX8_fits 8 = .ok (.iconst 1, 1) := by decide +kernel
theorem dX8_fits_9 : decode cX8_fits 9 = .ok (.goto 4, 3) := by decide +kernel
theorem dX8_fits_12 : decode cX8_fits 12 = .ok (.iconst 0, 1) := by decide +kernel
theorem dX8_fits_13 : decode cX8_fits 13 = .ok (.ireturn, 1) := by decide +kernel
set_option maxRecDepth 20000 in
theorem ggX8_bought_X8_fitsBut : GoodIn wsX8_bought wsX8_fitsBut := goodIn_m (fun w hw => by
  revert w hw; unfold wsX8_fitsBut wsX8_fitsBut_r1 wsX8_fitsBut_r2
  exact am_cons (am_at in_wsX8_bought_0 5 rfl) (am_app (am_app (am_cons (am_at in_wsX8_bought_0 6 rfl) (am_cons (am_at in_wsX8_bought_0 7 rfl) (am_cons (am_at in_wsX8_bought_0 8 rfl) (am_cons (am_at in_wsX8_bought_0 9 rfl) (am_cons (am_at in_wsX8_bought_0 4 rfl) (am_cons (am_at in_wsX8_bought_0 10 rfl) (am_cons (am_at in_wsX8_bought_0 11 rfl) (am_cons (am_at in_wsX8_bought_0 12 rfl) (am_cons (am_at in_wsX8_bought_0 13 rfl) (am_cons (am_at in_wsX8_bought_0 14 rfl) (am_cons (am_at in_wsX8_bought_0 0 rfl) (am_cons (am_at in_wsX8_bought_0 15 rfl) (am_cons (am_at in_wsX8_bought_0 16 rfl) (am_cons (am_at in_wsX8_bought_0 17 rfl) (am_cons (am_at in_wsX8_bought_0 18 rfl) (am_cons (am_at in_wsX8_bought_0 19 rfl) (am_cons (am_at in_wsX8_bought_0 20 rfl) (am_cons (am_at in_wsX8_bought_0 21 rfl) (am_cons (am_at in_wsX8_bought_0 22 rfl) (am_cons (am_at in_wsX8_bought_0 23 rfl) (am_cons (am_at in_wsX8_bought_1 0 rfl) (am_cons (am_at in_wsX8_bought_1 1 rfl) (am_cons (am_at in_wsX8_bought_1 2 rfl) (am_cons (am_at in_wsX8_bought_1 3 rfl) am_nil)))))))))))))))))))))))) (am_cons (am_at in_wsX8_bought_1 4 rfl) (am_cons (am_at in_wsX8_bought_1 5 rfl) (am_cons (am_at in_wsX8_bought_1 6 rfl) (am_cons (am_at in_wsX8_bought_1 7 rfl) (am_cons (am_at in_wsX8_bought_1 8 rfl) (am_cons (am_at in_wsX8_bought_1 9 rfl) (am_cons (am_at in_wsX8_bought_1 10 rfl) (am_cons (am_at in_wsX8_bought_1 11 rfl) (am_cons (am_at in_wsX8_bought_1 12 rfl) (am_cons (am_at in_wsX8_bought_1 13 rfl) (am_cons (am_at in_wsX8_bought_1 14 rfl) am_nil)))))))))))) in_wsX8_bought_2)) gw_wsX8_fitsBut
set_option maxRecDepth 20000 in
theorem gX8_bought_X8_fitsBut : GoodIn wsX8_bought (wsV RX8 212 RX8 yX8_fitsBut wsX8_fitsBut) := goodIn_app (goodIn_m (am_cons (am_at in_wsX8_bought_0 1 rfl) (am_cons (am_at in_wsX8_bought_0 2 rfl) (am_cons (am_at in_wsX8_bought_0 3 rfl) (am_cons (am_at in_wsX8_bought_0 4 rfl) am_nil)))) (by decide +kernel)) ggX8_bought_X8_fitsBut
theorem dX8_bought_0 : decode cX8_bought 0 = .ok (.iconst 0, 1) := by decide +kernel
theorem dX8_bought_1 : decode cX8_bought 1 = .ok (.istore_n 1, 1) := by decide +kernel
theorem dX8_bought_2 : decode cX8_bought 2 = .ok (.iconst 0, 1) := by decide +kernel
theorem dX8_bought_3 : decode cX8_bought 3 = .ok (.istore_n 2, 1) := by decide +kernel
theorem dX8_bought_4 : decode cX8_bought 4 = .ok (.iload_n 2, 1) := by decide +kernel
theorem dX8_bought_5 : decode cX8_bought 5 = .ok (.aload_n 0, 1) := by decide +kernel
theorem dX8_bought_6 : decode cX8_bought 6 = .ok (.getfield 110, 3) := by decide +kernel
theorem dX8_bought_9 : decode cX8_bought 9 = .ok (.if_icmp .ge 35, 3) := by decide +kernel
theorem dX8_bought_12 : decode cX8_bought 12 = .ok (.aload_n 0, 1) := by decide +kernel
theorem dX8_bought_13 : decode cX8_bought 13 = .ok (.iconst (-1), 1) := by decide +kernel
theorem dX8_bought_14 : decode cX8_bought 14 = .ok (.invokevirtual 212, 3) := by decide +kernel
theorem dX8_bought_17 : decode cX8_bought 17 = .ok (.ifCond .ne 27, 3) := by decide +kernel
theorem dX8_bought_20 : decode cX8_bought 20 = .ok (.iload_n 1, 1) := by decide +kernel
theorem dX8_bought_21 : decode cX8_bought 21 = .ok (.aload_n 0, 1) := by decide +kernel
theorem dX8_bought_22 : decode cX8_bought 22 = .ok (.iload_n 2, 1) := by decide +kernel
theorem dX8_bought_23 : decode cX8_bought 23 = .ok (.invokevirtual 212, 3) := by decide +kernel
theorem dX8_bought_26 : decode cX8_bought 26 = .ok (.ifCond .eq 9, 3) := by decide +kernel
theorem dX8_bought_29 : decode cX8_bought 29 = .ok (.iconst 1, 1) := by decide +kernel
theorem dX8_bought_30 : decode cX8_bought 30 = .ok (.iload_n 2, 1) := by decide +kernel
theorem dX8_bought_31 : decode cX8_bought 31 = .ok (.ishl, 1) := by decide +kernel
theorem dX8_bought_32 : decode cX8_bought 32 = .ok (.goto 4, 3) := by decide +kernel
theorem dX8_bought_35 : decode cX8_bought 35 = .ok (.iconst 0, 1) := by decide +kernel
theorem dX8_bought_36 : decode cX8_bought 36 = .ok (.ior, 1) := by decide +kernel
theorem dX8_bought_37 : decode cX8_bought 37 = .ok (.istore_n 1, 1) := by decide +kernel
theorem dX8_bought_38 : decode cX8_bought 38 = .ok (.iinc 2 1, 3) := by decide +kernel
theorem dX8_bought_41 : decode cX8_bought 41 = .ok (.goto (-37), 3) := by decide +kernel
theorem dX8_bought_44 : decode cX8_bought 44 = .ok (.iload_n 1, 1) := by decide +kernel
theorem dX8_bought_45 : decode cX8_bought 45 = .ok (.ireturn, 1) := by decide +kernel
set_option maxRecDepth 20000 in
theorem ggX8_ledTo_X8_goes : GoodIn wsX8_ledTo wsX8_goes := goodIn_m (fun w hw => by
  revert w hw; unfold wsX8_goes
  exact am_cons (am_at in_wsX8_ledTo_0 4 rfl) (am_app (am_cons (am_at in_wsX8_ledTo_0 5 rfl) (am_cons (am_at in_wsX8_ledTo_0 6 rfl) (am_cons (am_at in_wsX8_ledTo_0 7 rfl) (am_cons (am_at in_wsX8_ledTo_0 8 rfl) (am_cons (am_at in_wsX8_ledTo_0 3 rfl) (am_cons (am_at in_wsX8_ledTo_0 9 rfl) (am_cons (am_at in_wsX8_ledTo_0 10 rfl) (am_cons (am_at in_wsX8_ledTo_0 11 rfl) (am_cons (am_at in_wsX8_ledTo_0 12 rfl) (am_cons (am_at in_wsX8_ledTo_0 13 rfl) (am_cons (am_at in_wsX8_ledTo_0 14 rfl) (am_cons (am_at in_wsX8_ledTo_0 15 rfl) (am_cons (am_at in_wsX8_ledTo_0 16 rfl) (am_cons (am_at in_wsX8_ledTo_0 17 rfl) (am_cons (am_at in_wsX8_ledTo_0 18 rfl) (am_cons (am_at in_wsX8_ledTo_0 19 rfl) (am_cons (am_at in_wsX8_ledTo_0 20 rfl) (am_cons (am_at in_wsX8_ledTo_0 21 rfl) (am_cons (am_at in_wsX8_ledTo_0 22 rfl) (am_cons (am_at in_wsX8_ledTo_0 23 rfl) am_nil)))))))))))))))))))) in_wsX8_ledTo_1)) gw_wsX8_goes
set_option maxRecDepth 20000 in
theorem gX8_ledTo_X8_goes : GoodIn wsX8_ledTo (wsV RX8 194 RX8 yX8_goes wsX8_goes) := goodIn_app (goodIn_m (am_cons (am_at in_wsX8_ledTo_0 0 rfl) (am_cons (am_at in_wsX8_ledTo_0 1 rfl) (am_cons (am_at in_wsX8_ledTo_0 2 rfl) (am_cons (am_at in_wsX8_ledTo_0 3 rfl) am_nil)))) (by decide +kernel)) ggX8_ledTo_X8_goes
theorem dX8_ledTo_0 : decode cX8_ledTo 0 = .ok (.lconst 0, 1) := by decide +kernel
theorem dX8_ledTo_1 : decode cX8_ledTo 1 = .ok (.lstore 6, 2) := by decide +kernel
theorem dX8_ledTo_3 : decode cX8_ledTo 3 = .ok (.iconst 0, 1) := by decide +kernel
theorem dX8_ledTo_4 : decode cX8_ledTo 4 = .ok (.istore 8, 2) := by decide +kernel
theorem dX8_ledTo_6 : decode cX8_ledTo 6 = .ok (.iload 8, 2) := by decide +kernel
theorem dX8_ledTo_8 : decode cX8_ledTo 8 = .ok (.bipush 40, 2) := by decide +kernel
theorem dX8_ledTo_10 : decode cX8_ledTo 10 = .ok (.if_icmp .ge 51, 3) := by decide +kernel
theorem dX8_ledTo_13 : decode cX8_ledTo 13 = .ok (.lload_n 1, 1) := by decide +kernel
theorem dX8_ledTo_14 : decode cX8_ledTo 14 = .ok (.lconst 1, 1) := by decide +kernel
theorem dX8_ledTo_15 : decode cX8_ledTo 15 = .ok (.iload 8, 2) := by decide +kernel
theorem dX8_ledTo_17 : decode cX8_ledTo 17 = .ok (.lshl, 1) := by decide +kernel
theorem dX8_ledTo_18 : decode cX8_ledTo 18 = .ok (.land, 1) := by decide +kernel
theorem dX8_ledTo_19 : decode cX8_ledTo 19 = .ok (.lstore 9, 2) := by decide +kernel
theorem dX8_ledTo_21 : decode cX8_ledTo 21 = .ok (.lload 6, 2) := by decide +kernel
theorem dX8_ledTo_23 : decode cX8_ledTo 23 = .ok (.lload 9, 2) := by decide +kernel
theorem dX8_ledTo_25 : decode cX8_ledTo 25 = .ok (.lconst 0, 1) := by decide +kernel
theorem dX8_ledTo_26 : decode cX8_ledTo 26 = .ok (.lcmp, 1) := by decide +kernel
theorem dX8_ledTo_27 : decode cX8_ledTo 27 = .ok (.ifCond .eq 24, 3) := by decide +kernel
theorem dX8_ledTo_30 : decode cX8_ledTo 30 = .ok (.aload_n 0, 1) := by decide +kernel
theorem dX8_ledTo_31 : decode cX8_ledTo 31 = .ok (.lload 9, 2) := by decide +kernel
theorem dX8_ledTo_33 : decode cX8_ledTo 33 = .ok (.iconst 0, 1) := by decide +kernel
theorem dX8_ledTo_34 : decode cX8_ledTo 34 = .ok (.iload 5, 2) := by decide +kernel
theorem dX8_ledTo_36 : decode cX8_ledTo 36 = .ok (.invokevirtual 194, 3) := by decide +kernel
theorem dX8_ledTo_39 : decode cX8_ledTo 39 = .ok (.lload_n 3, 1) := by decide +kernel
theorem dX8_ledTo_40 : decode cX8_ledTo 40 = .ok (.land, 1) := by decide +kernel
theorem dX8_ledTo_41 : decode cX8_ledTo 41 = .ok (.lconst 0, 1) := by decide +kernel
theorem dX8_ledTo_42 : decode cX8_ledTo 42 = .ok (.lcmp, 1) := by decide +kernel
theorem dX8_ledTo_43 : decode cX8_ledTo 43 = .ok (.ifCond .eq 8, 3) := by decide +kernel
theorem dX8_ledTo_46 : decode cX8_ledTo 46 = .ok (.lload 9, 2) := by decide +kernel
theorem dX8_ledTo_48 : decode cX8_ledTo 48 = .ok (.goto 4, 3) := by decide +kernel
theorem dX8_ledTo_51 : decode cX8_ledTo 51 = .ok (.lconst 0, 1) := by decide +kernel
theorem dX8_ledTo_52 : decode cX8_ledTo 52 = .ok (.lor, 1) := by decide +kernel
theorem dX8_ledTo_53 : decode cX8_ledTo 53 = .ok (.lstore 6, 2) := by decide +kernel
theorem dX8_ledTo_55 : decode cX8_ledTo 55 = .ok (.iinc 8 1, 3) := by decide +kernel
theorem dX8_ledTo_58 : decode cX8_ledTo 58 = .ok (.goto (-52), 3) := by decide +kernel
theorem dX8_ledTo_61 : decode cX8_ledTo 61 = .ok (.lload 6, 2) := by decide +kernel
theorem dX8_ledTo_63 : decode cX8_ledTo 63 = .ok (.lreturn, 1) := by decide +kernel
set_option maxRecDepth 20000 in
theorem ggX8_waysOn_X8_fitsBut : GoodIn wsX8_waysOn wsX8_fitsBut := goodIn_m (fun w hw => by
  revert w hw; unfold wsX8_fitsBut wsX8_fitsBut_r1 wsX8_fitsBut_r2
  exact am_cons (am_at in_wsX8_waysOn_0 5 rfl) (am_app (am_app (am_cons (am_at in_wsX8_waysOn_0 0 rfl) (am_cons (am_at in_wsX8_waysOn_0 6 rfl) (am_cons (am_at in_wsX8_waysOn_0 7 rfl) (am_cons (am_at in_wsX8_waysOn_0 8 rfl) (am_cons (am_at in_wsX8_waysOn_0 4 rfl) (am_cons (am_at in_wsX8_waysOn_0 9 rfl) (am_cons (am_at in_wsX8_waysOn_0 10 rfl) (am_cons (am_at in_wsX8_waysOn_0 11 rfl) (am_cons (am_at in_wsX8_waysOn_0 12 rfl) (am_cons (am_at in_wsX8_waysOn_0 13 rfl) (am_cons (am_at in_wsX8_waysOn_0 14 rfl) (am_cons (am_at in_wsX8_waysOn_0 15 rfl) (am_cons (am_at in_wsX8_waysOn_0 16 rfl) (am_cons (am_at in_wsX8_waysOn_0 17 rfl) (am_cons (am_at in_wsX8_waysOn_0 18 rfl) (am_cons (am_at in_wsX8_waysOn_0 19 rfl) (am_cons (am_at in_wsX8_waysOn_0 20 rfl) (am_cons (am_at in_wsX8_waysOn_0 21 rfl) (am_cons (am_at in_wsX8_waysOn_0 22 rfl) (am_cons (am_at in_wsX8_waysOn_0 23 rfl) (am_cons (am_at in_wsX8_waysOn_1 0 rfl) (am_cons (am_at in_wsX8_waysOn_1 1 rfl) (am_cons (am_at in_wsX8_waysOn_1 2 rfl) (am_cons (am_at in_wsX8_waysOn_1 3 rfl) am_nil)))))))))))))))))))))))) (am_cons (am_at in_wsX8_waysOn_1 4 rfl) (am_cons (am_at in_wsX8_waysOn_1 5 rfl) (am_cons (am_at in_wsX8_waysOn_1 6 rfl) (am_cons (am_at in_wsX8_waysOn_1 7 rfl) (am_cons (am_at in_wsX8_waysOn_1 8 rfl) (am_cons (am_at in_wsX8_waysOn_1 9 rfl) (am_cons (am_at in_wsX8_waysOn_1 10 rfl) (am_cons (am_at in_wsX8_waysOn_1 11 rfl) (am_cons (am_at in_wsX8_waysOn_1 12 rfl) (am_cons (am_at in_wsX8_waysOn_1 13 rfl) (am_cons (am_at in_wsX8_waysOn_1 14 rfl) am_nil)))))))))))) in_wsX8_waysOn_2)) gw_wsX8_fitsBut
set_option maxRecDepth 20000 in
theorem gX8_waysOn_X8_fitsBut : GoodIn wsX8_waysOn (wsV RX8 212 RX8 yX8_fitsBut wsX8_fitsBut) := goodIn_app (goodIn_m (am_cons (am_at in_wsX8_waysOn_0 1 rfl) (am_cons (am_at in_wsX8_waysOn_0 2 rfl) (am_cons (am_at in_wsX8_waysOn_0 3 rfl) (am_cons (am_at in_wsX8_waysOn_0 4 rfl) am_nil)))) (by decide +kernel)) ggX8_waysOn_X8_fitsBut
set_option maxRecDepth 20000 in
theorem ggX8_waysOn_X8_onlyIn : GoodIn wsX8_waysOn wsX8_onlyIn := goodIn_m (fun w hw => by
  revert w hw; unfold wsX8_onlyIn
  exact am_cons (am_at in_wsX8_waysOn_0 13 rfl) (am_app (am_cons (am_at in_wsX8_waysOn_0 14 rfl) (am_cons (am_at in_wsX8_waysOn_0 15 rfl) (am_cons (am_at in_wsX8_waysOn_0 16 rfl) (am_cons (am_at in_wsX8_waysOn_0 17 rfl) (am_cons (am_at in_wsX8_waysOn_0 18 rfl) (am_cons (am_at in_wsX8_waysOn_0 4 rfl) (am_cons (am_at in_wsX8_waysOn_0 19 rfl) (am_cons (am_at in_wsX8_waysOn_0 6 rfl) am_nil)))))))) in_wsX8_waysOn_2)) gw_wsX8_onlyIn
set_option maxRecDepth 20000 in
theorem gX8_waysOn_X8_onlyIn : GoodIn wsX8_waysOn (wsV RX8 209 RX8 yX8_onlyIn wsX8_onlyIn) := goodIn_app (goodIn_m (am_cons (am_at in_wsX8_waysOn_0 10 rfl) (am_cons (am_at in_wsX8_waysOn_0 11 rfl) (am_cons (am_at in_wsX8_waysOn_0 12 rfl) (am_cons (am_at in_wsX8_waysOn_0 4 rfl) am_nil)))) (by decide +kernel)) ggX8_waysOn_X8_onlyIn
set_option maxRecDepth 20000 in
theorem ggX8_waysOn_X8_ledTo : GoodIn wsX8_waysOn wsX8_ledTo := goodIn_m (fun w hw => by
  revert w hw; unfold wsX8_ledTo
  exact am_cons (am_at in_wsX8_waysOn_1 18 rfl) (am_app (am_cons (am_at in_wsX8_waysOn_0 20 rfl) (am_cons (am_at in_wsX8_waysOn_0 21 rfl) (am_cons (am_at in_wsX8_waysOn_0 22 rfl) (am_cons (am_at in_wsX8_waysOn_0 4 rfl) (am_cons (am_at in_wsX8_waysOn_0 23 rfl) (am_cons (am_at in_wsX8_waysOn_0 6 rfl) (am_cons (am_at in_wsX8_waysOn_1 0 rfl) (am_cons (am_at in_wsX8_waysOn_1 1 rfl) (am_cons (am_at in_wsX8_waysOn_1 2 rfl) (am_cons (am_at in_wsX8_waysOn_1 3 rfl) (am_cons (am_at in_wsX8_waysOn_1 4 rfl) (am_cons (am_at in_wsX8_waysOn_1 5 rfl) (am_cons (am_at in_wsX8_waysOn_1 6 rfl) (am_cons (am_at in_wsX8_waysOn_1 7 rfl) (am_cons (am_at in_wsX8_waysOn_1 8 rfl) (am_cons (am_at in_wsX8_waysOn_1 9 rfl) (am_cons (am_at in_wsX8_waysOn_1 10 rfl) (am_cons (am_at in_wsX8_waysOn_1 11 rfl) (am_cons (am_at in_wsX8_waysOn_1 12 rfl) (am_cons (am_at in_wsX8_waysOn_1 13 rfl) (am_cons (am_at in_wsX8_waysOn_1 14 rfl) (am_cons (am_at in_wsX8_waysOn_0 7 rfl) (am_cons (am_at in_wsX8_waysOn_0 8 rfl) (am_cons (am_at in_wsX8_waysOn_0 9 rfl) am_nil)))))))))))))))))))))))) in_wsX8_waysOn_2)) gw_wsX8_ledTo
set_option maxRecDepth 20000 in
theorem gX8_waysOn_X8_ledTo : GoodIn wsX8_waysOn (wsV RX8 215 RX8 yX8_ledTo wsX8_ledTo) := goodIn_app (goodIn_m (am_cons (am_at in_wsX8_waysOn_1 15 rfl) (am_cons (am_at in_wsX8_waysOn_1 16 rfl) (am_cons (am_at in_wsX8_waysOn_1 17 rfl) (am_cons (am_at in_wsX8_waysOn_0 4 rfl) am_nil)))) (by decide +kernel)) ggX8_waysOn_X8_ledTo
theorem dX8_waysOn_0 : decode cX8_waysOn 0 = .ok (.aload_n 0, 1) := by decide +kernel
theorem dX8_waysOn_1 : decode cX8_waysOn 1 = .ok (.iconst (-1), 1) := by decide +kernel
theorem dX8_waysOn_2 : decode cX8_waysOn 2 = .ok (.invokevirtual 212, 3) := by decide +kernel
theorem dX8_waysOn_5 : decode cX8_waysOn 5 = .ok (.pop, 1) := by decide +kernel
theorem dX8_waysOn_6 : decode cX8_waysOn 6 = .ok (.bipush 47, 2) := by decide +kernel
theorem dX8_waysOn_8 : decode cX8_waysOn 8 = .ok (.istore_n 1, 1) := by decide +kernel
theorem dX8_waysOn_9 : decode cX8_waysOn 9 = .ok (.iload_n 1, 1) := by decide +kernel
theorem dX8_waysOn_10 : decode cX8_waysOn 10 = .ok (.ifCond .lt 39, 3) := by decide +kernel
theorem dX8_waysOn_13 : decode cX8_waysOn 13 = .ok (.aload_n 0, 1) := by decide +kernel
theorem dX8_waysOn_14 : decode cX8_waysOn 14 = .ok (.getfield 52, 3) := by decide +kernel
theorem dX8_waysOn_17 : decode cX8_waysOn 17 = .ok (.iload_n 1, 1) := by decide +kernel
theorem dX8_waysOn_18 : decode cX8_waysOn 18 = .ok (.aload_n 0, 1) := by decide +kernel
theorem dX8_waysOn_19 : decode cX8_waysOn 19 = .ok (.aload_n 0, 1) := by decide +kernel
theorem dX8_waysOn_20 : decode cX8_waysOn 20 = .ok (.getfield 52, 3) := by decide +kernel
theorem dX8_waysOn_23 : decode cX8_waysOn 23 = .ok (.iload_n 1, 1) := by decide +kernel
theorem dX8_waysOn_24 : decode cX8_waysOn 24 = .ok (.laload, 1) := by decide +kernel
theorem dX8_waysOn_25 : decode cX8_waysOn 25 = .ok (.aload_n 0, 1) := by decide +kernel
theorem dX8_waysOn_26 : decode cX8_waysOn 26 = .ok (.getfield 52, 3) := by decide +kernel
theorem dX8_waysOn_29 : decode cX8_waysOn 29 = .ok (.iload_n 1, 1) := by decide +kernel
theorem dX8_waysOn_30 : decode cX8_waysOn 30 = .ok (.iconst 1, 1) := by decide +kernel
theorem dX8_waysOn_31 : decode cX8_waysOn 31 = .ok (.iadd, 1) := by decide +kernel
theorem dX8_waysOn_32 : decode cX8_waysOn 32 = .ok (.laload, 1) := by decide +kernel
theorem dX8_waysOn_33 : decode cX8_waysOn 33 = .ok (.aload_n 0, 1) := by decide +kernel
theorem dX8_waysOn_34 : decode cX8_waysOn 34 = .ok (.iload_n 1, 1) := by decide +kernel
theorem dX8_waysOn_35 : decode cX8_waysOn 35 = .ok (.iconst (-1), 1) := by decide +kernel
theorem dX8_waysOn_36 : decode cX8_waysOn 36 = .ok (.invokevirtual 209, 3) := by decide +kernel
theorem dX8_waysOn_39 : decode cX8_waysOn 39 = .ok (.invokevirtual 215, 3) := by decide +kernel
theorem dX8_waysOn_42 : decode cX8_waysOn 42 = .ok (.lastore, 1) := by decide +kernel
theorem dX8_waysOn_43 : decode cX8_waysOn 43 = .ok (.iinc 1 (-1), 3) := by decide +kernel
theorem dX8_waysOn_46 : decode cX8_waysOn 46 = .ok (.goto (-37), 3) := by decide +kernel
theorem dX8_waysOn_49 : decode cX8_waysOn 49 = .ok (.return_, 1) := by decide +kernel
set_option maxRecDepth 20000 in
theorem ggX8_was_X8_in : GoodIn wsX8_was wsX8_in := goodIn_m (fun w hw => by
  revert w hw; unfold wsX8_in
  exact am_cons (am_at in_wsX8_was_0 5 rfl) am_nil) gw_wsX8_in
set_option maxRecDepth 20000 in
theorem gX8_was_X8_in : GoodIn wsX8_was (va_wsS RX8 55 yX8_in wsX8_in) := goodIn_app (goodIn_m (am_cons (am_at in_wsX8_was_0 2 rfl) (am_cons (am_at in_wsX8_was_0 3 rfl) (am_cons (am_at in_wsX8_was_0 4 rfl) am_nil))) (by decide +kernel)) ggX8_was_X8_in
set_option maxRecDepth 20000 in
theorem ggX8_was_X8_waysOn : GoodIn wsX8_was wsX8_waysOn := goodIn_m (fun w hw => by
  revert w hw; unfold wsX8_waysOn wsX8_waysOn_r1 wsX8_waysOn_r2
  exact am_cons (am_at in_wsX8_was_0 9 rfl) (am_app (am_app (am_cons (am_at in_wsX8_was_0 1 rfl) (am_cons (am_at in_wsX8_was_0 10 rfl) (am_cons (am_at in_wsX8_was_0 11 rfl) (am_cons (am_at in_wsX8_was_0 12 rfl) (am_cons (am_at in_wsX8_was_0 4 rfl) (am_cons (am_at in_wsX8_was_0 13 rfl) (am_cons (am_at in_wsX8_was_0 14 rfl) (am_cons (am_at in_wsX8_was_0 15 rfl) (am_cons (am_at in_wsX8_was_0 16 rfl) (am_cons (am_at in_wsX8_was_0 17 rfl) (am_cons (am_at in_wsX8_was_0 18 rfl) (am_cons (am_at in_wsX8_was_0 19 rfl) (am_cons (am_at in_wsX8_was_0 20 rfl) (am_cons (am_at in_wsX8_was_0 21 rfl) (am_cons (am_at in_wsX8_was_0 22 rfl) (am_cons (am_at in_wsX8_was_0 23 rfl) (am_cons (am_at in_wsX8_was_1 0 rfl) (am_cons (am_at in_wsX8_was_1 1 rfl) (am_cons (am_at in_wsX8_was_1 2 rfl) (am_cons (am_at in_wsX8_was_1 3 rfl) (am_cons (am_at in_wsX8_was_1 4 rfl) (am_cons (am_at in_wsX8_was_1 5 rfl) (am_cons (am_at in_wsX8_was_1 6 rfl) (am_cons (am_at in_wsX8_was_1 7 rfl) am_nil)))))))))))))))))))))))) (am_cons (am_at in_wsX8_was_1 8 rfl) (am_cons (am_at in_wsX8_was_1 9 rfl) (am_cons (am_at in_wsX8_was_1 10 rfl) (am_cons (am_at in_wsX8_was_1 11 rfl) (am_cons (am_at in_wsX8_was_1 12 rfl) (am_cons (am_at in_wsX8_was_1 13 rfl) (am_cons (am_at in_wsX8_was_1 14 rfl) (am_cons (am_at in_wsX8_was_1 15 rfl) (am_cons (am_at in_wsX8_was_1 16 rfl) (am_cons (am_at in_wsX8_was_1 17 rfl) (am_cons (am_at in_wsX8_was_1 18 rfl) (am_cons (am_at in_wsX8_was_1 19 rfl) (am_cons (am_at in_wsX8_was_1 20 rfl) (am_cons (am_at in_wsX8_was_1 21 rfl) (am_cons (am_at in_wsX8_was_1 22 rfl) (am_cons (am_at in_wsX8_was_1 23 rfl) (am_cons (am_at in_wsX8_was_2 0 rfl) (am_cons (am_at in_wsX8_was_2 1 rfl) (am_cons (am_at in_wsX8_was_2 2 rfl) am_nil)))))))))))))))))))) in_wsX8_was_3)) gw_wsX8_waysOn
set_option maxRecDepth 20000 in
theorem gX8_was_X8_waysOn : GoodIn wsX8_was (wsV RX8 219 RX8 yX8_waysOn wsX8_waysOn) := goodIn_app (goodIn_m (am_cons (am_at in_wsX8_was_0 6 rfl) (am_cons (am_at in_wsX8_was_0 7 rfl) (am_cons (am_at in_wsX8_was_0 8 rfl) (am_cons (am_at in_wsX8_was_0 4 rfl) am_nil)))) (by decide +kernel)) ggX8_was_X8_waysOn
set_option maxRecDepth 20000 in
theorem ggX8_was_X8_towns : GoodIn wsX8_was wsX8_towns := goodIn_m (fun w hw => by
  revert w hw; unfold wsX8_towns
  exact am_cons (am_at in_wsX8_was_2 5 rfl) (am_cons (am_at in_wsX8_was_2 6 rfl) am_nil)) gw_wsX8_towns
set_option maxRecDepth 20000 in
theorem gX8_was_X8_towns : GoodIn wsX8_was (va_wsS RX8 198 yX8_towns wsX8_towns) := goodIn_app (goodIn_m (am_cons (am_at in_wsX8_was_2 3 rfl) (am_cons (am_at in_wsX8_was_2 4 rfl) (am_cons (am_at in_wsX8_was_0 4 rfl) am_nil))) (by decide +kernel)) ggX8_was_X8_towns
theorem dX8_was_0 : decode cX8_was 0 = .ok (.iload_n 1, 1) := by decide +kernel
theorem dX8_was_1 : decode cX8_was 1 = .ok (.iconst 0, 1) := by decide +kernel
theorem dX8_was_2 : decode cX8_was 2 = .ok (.bipush 48, 2) := by decide +kernel
theorem dX8_was_4 : decode cX8_was 4 = .ok (.invokestatic 55, 3) := by decide +kernel
theorem dX8_was_7 : decode cX8_was 7 = .ok (.ifCond .ne 6, 3) := by decide +kernel
theorem dX8_was_10 : decode cX8_was 10 = .ok (.ldc 59, 2) := by decide +kernel
theorem dX8_was_12 : decode cX8_was 12 = .ok (.ireturn, 1) := by decide +kernel
theorem dX8_was_13 : decode cX8_was 13 = .ok (.aload_n 0, 1) := by decide +kernel
theorem dX8_was_14 : decode cX8_was 14 = .ok (.invokevirtual 219, 3) := by decide +kernel
theorem dX8_was_17 : decode cX8_was 17 = .ok (.aload_n 0, 1) := by decide +kernel
theorem dX8_was_18 : decode cX8_was 18 = .ok (.getfield 52, 3) := by decide +kernel
theorem dX8_was_21 : decode cX8_was 21 = .ok (.iload_n 1, 1) := by decide +kernel
theorem dX8_was_22 : decode cX8_was 22 = .ok (.laload, 1) := by decide +kernel
theorem dX8_was_23 : decode cX8_was 23 = .ok (.invokestatic 198, 3) := by decide +kernel
theorem dX8_was_26 : decode cX8_was 26 = .ok (.ireturn, 1) := by decide +kernel
set_option maxRecDepth 20000 in
theorem ggX8_ask_X8_waysOn : GoodIn wsX8_ask wsX8_waysOn := goodIn_m (fun w hw => by
  revert w hw; unfold wsX8_waysOn wsX8_waysOn_r1 wsX8_waysOn_r2
  exact am_cons (am_at in_wsX8_ask_0 5 rfl) (am_app (am_app (am_cons (am_at in_wsX8_ask_0 0 rfl) (am_cons (am_at in_wsX8_ask_0 6 rfl) (am_cons (am_at in_wsX8_ask_0 7 rfl) (am_cons (am_at in_wsX8_ask_0 8 rfl) (am_cons (am_at in_wsX8_ask_0 4 rfl) (am_cons (am_at in_wsX8_ask_0 9 rfl) (am_cons (am_at in_wsX8_ask_0 10 rfl) (am_cons (am_at in_wsX8_ask_0 11 rfl) (am_cons (am_at in_wsX8_ask_0 12 rfl) (am_cons (am_at in_wsX8_ask_0 13 rfl) (am_cons (am_at in_wsX8_ask_0 14 rfl) (am_cons (am_at in_wsX8_ask_0 15 rfl) (am_cons (am_at in_wsX8_ask_0 16 rfl) (am_cons (am_at in_wsX8_ask_0 17 rfl) (am_cons (am_at in_wsX8_ask_0 18 rfl) (am_cons (am_at in_wsX8_ask_0 19 rfl) (am_cons (am_at in_wsX8_ask_0 20 rfl) (am_cons (am_at in_wsX8_ask_0 21 rfl) (am_cons (am_at in_wsX8_ask_0 22 rfl) (am_cons (am_at in_wsX8_ask_0 23 rfl) (am_cons (am_at in_wsX8_ask_1 0 rfl) (am_cons (am_at in_wsX8_ask_1 1 rfl) (am_cons (am_at in_wsX8_ask_1 2 rfl) (am_cons (am_at in_wsX8_ask_1 3 rfl) am_nil)))))))))))))))))))))))) (am_cons (am_at in_wsX8_ask_1 4 rfl) (am_cons (am_at in_wsX8_ask_1 5 rfl) (am_cons (am_at in_wsX8_ask_1 6 rfl) (am_cons (am_at in_wsX8_ask_1 7 rfl) (am_cons (am_at in_wsX8_ask_1 8 rfl) (am_cons (am_at in_wsX8_ask_1 9 rfl) (am_cons (am_at in_wsX8_ask_1 10 rfl) (am_cons (am_at in_wsX8_ask_1 11 rfl) (am_cons (am_at in_wsX8_ask_1 12 rfl) (am_cons (am_at in_wsX8_ask_1 13 rfl) (am_cons (am_at in_wsX8_ask_1 14 rfl) (am_cons (am_at in_wsX8_ask_1 15 rfl) (am_cons (am_at in_wsX8_ask_1 16 rfl) (am_cons (am_at in_wsX8_ask_1 17 rfl) (am_cons (am_at in_wsX8_ask_1 18 rfl) (am_cons (am_at in_wsX8_ask_1 19 rfl) (am_cons (am_at in_wsX8_ask_1 20 rfl) (am_cons (am_at in_wsX8_ask_1 21 rfl) (am_cons (am_at in_wsX8_ask_1 22 rfl) am_nil)))))))))))))))))))) in_wsX8_ask_3)) gw_wsX8_waysOn
set_option maxRecDepth 20000 in
theorem gX8_ask_X8_waysOn : GoodIn wsX8_ask (wsV RX8 219 RX8 yX8_waysOn wsX8_waysOn) := goodIn_app (goodIn_m (am_cons (am_at in_wsX8_ask_0 1 rfl) (am_cons (am_at in_wsX8_ask_0 2 rfl) (am_cons (am_at in_wsX8_ask_0 3 rfl) (am_cons (am_at in_wsX8_ask_0 4 rfl) am_nil)))) (by decide +kernel)) ggX8_ask_X8_waysOn
set_option maxRecDepth 20000 in
theorem ggX8_ask_X8_towns : GoodIn wsX8_ask wsX8_towns := goodIn_m (fun w hw => by
  revert w hw; unfold wsX8_towns
  exact am_cons (am_at in_wsX8_ask_2 1 rfl) (am_cons (am_at in_wsX8_ask_2 2 rfl) am_nil)) gw_wsX8_towns
set_option maxRecDepth 20000 in
theorem gX8_ask_X8_towns : GoodIn wsX8_ask (va_wsS RX8 198 yX8_towns wsX8_towns) := goodIn_app (goodIn_m (am_cons (am_at in_wsX8_ask_1 23 rfl) (am_cons (am_at in_wsX8_ask_2 0 rfl) (am_cons (am_at in_wsX8_ask_0 4 rfl) am_nil))) (by decide +kernel)) ggX8_ask_X8_towns
set_option maxRecDepth 20000 in
theorem ggX8_ask_X8_ones : GoodIn wsX8_ask wsX8_ones := goodIn_m (fun w hw => by
  revert w hw; unfold wsX8_ones
  exact am_cons (am_at in_wsX8_ask_2 5 rfl) am_nil) gw_wsX8_ones
set_option maxRecDepth 20000 in
theorem gX8_ask_X8_ones : GoodIn wsX8_ask (va_wsS RX8 222 yX8_ones wsX8_ones) := goodIn_app (goodIn_m (am_cons (am_at in_wsX8_ask_2 3 rfl) (am_cons (am_at in_wsX8_ask_2 4 rfl) (am_cons (am_at in_wsX8_ask_0 4 rfl) am_nil))) (by decide +kernel)) ggX8_ask_X8_ones
theorem dX8_ask_0 : decode cX8_ask 0 = .ok (.aload_n 0, 1) := by decide +kernel
theorem dX8_ask_1 : decode cX8_ask 1 = .ok (.invokevirtual 219, 3) := by decide +kernel
theorem dX8_ask_4 : decode cX8_ask 4 = .ok (.iconst (-1), 1) := by decide +kernel
theorem dX8_ask_5 : decode cX8_ask 5 = .ok (.istore_n 1, 1) := by decide +kernel
theorem dX8_ask_6 : decode cX8_ask 6 = .ok (.iconst 1, 1) := by decide +kernel
theorem dX8_ask_7 : decode cX8_ask 7 = .ok (.istore_n 2, 1) := by decide +kernel
theorem dX8_ask_8 : decode cX8_ask 8 = .ok (.iconst 1, 1) := by decide +kernel
theorem dX8_ask_9 : decode cX8_ask 9 = .ok (.istore_n 3, 1) := by decide +kernel
theorem dX8_ask_10 : decode cX8_ask 10 = .ok (.iload_n 3, 1) := by decide +kernel
theorem dX8_ask_11 : decode cX8_ask 11 = .ok (.bipush 48, 2) := by decide +kernel
theorem dX8_ask_13 : decode cX8_ask 13 = .ok (.if_icmp .gt 48, 3) := by decide +kernel
theorem dX8_ask_16 : decode cX8_ask 16 = .ok (.aload_n 0, 1) := by decide +kernel
theorem dX8_ask_17 : decode cX8_ask 17 = .ok (.getfield 52, 3) := by decide +kernel
theorem dX8_ask_20 : decode cX8_ask 20 = .ok (.iload_n 3, 1) := by decide +kernel
theorem dX8_ask_21 : decode cX8_ask 21 = .ok (.laload, 1) := by decide +kernel
theorem dX8_ask_22 : decode cX8_ask 22 = .ok (.invokestatic 198, 3) := by decide +kernel
theorem dX8_ask_25 : decode cX8_ask 25 = .ok (.invokestatic 222, 3) := by decide +kernel
theorem dX8_ask_28 : decode cX8_ask 28 = .ok (.istore 4, 2) := by decide +kernel
theorem dX8_ask_30 : decode cX8_ask 30 = .ok (.iload 4, 2) := by decide +kernel
theorem dX8_ask_32 : decode cX8_ask 32 = .ok (.iload_n 2, 1) := by decide +kernel
theorem dX8_ask_33 : decode cX8_ask 33 = .ok (.if_icmp .le 7, 3) := by decide +kernel
theorem dX8_ask_36 : decode cX8_ask 36 = .ok (.iload_n 3, 1) := by decide +kernel
theorem dX8_ask_37 : decode cX8_ask 37 = .ok (.goto 4, 3) := by decide +kernel
theorem dX8_ask_40 : decode cX8_ask 40 = .ok (.iload_n 1, 1) := by decide +kernel
theorem dX8_ask_41 : decode cX8_ask 41 = .ok (.istore_n 1, 1) := by decide +kernel
theorem dX8_ask_42 : decode cX8_ask 42 = .ok (.iload 4, 2) := by decide +kernel
theorem dX8_ask_44 : decode cX8_ask 44 = .ok (.iload_n 2, 1) := by decide +kernel
theorem dX8_ask_45 : decode cX8_ask 45 = .ok (.if_icmp .le 8, 3) := by decide +kernel
theorem dX8_ask_48 : decode cX8_ask 48 = .ok (.iload 4, 2) := by decide +kernel
theorem dX8_ask_50 : decode cX8_ask 50 = .ok (.goto 4, 3) := by decide +kernel
theorem dX8_ask_53 : decode cX8_ask 53 = .ok (.iload_n 2, 1) := by decide +kernel
theorem dX8_ask_54 : decode cX8_ask 54 = .ok (.istore_n 2, 1) := by decide +kernel
theorem dX8_ask_55 : decode cX8_ask 55 = .ok (.iinc 3 1, 3) := by decide +kernel
theorem dX8_ask_58 : decode cX8_ask 58 = .ok (.goto (-48), 3) := by decide +kernel
theorem dX8_ask_61 : decode cX8_ask 61 = .ok (.iload_n 1, 1) := by decide +kernel
theorem dX8_ask_62 : decode cX8_ask 62 = .ok (.ireturn, 1) := by decide +kernel
set_option maxRecDepth 20000 in
theorem ggX8_write_X8_in : GoodIn wsX8_write wsX8_in := goodIn_m (fun w hw => by
  revert w hw; unfold wsX8_in
  exact am_cons (am_at in_wsX8_write_0 7 rfl) am_nil) gw_wsX8_in
set_option maxRecDepth 20000 in
theorem gX8_write_X8_in : GoodIn wsX8_write (va_wsS RX8 55 yX8_in wsX8_in) := goodIn_app (goodIn_m (am_cons (am_at in_wsX8_write_0 4 rfl) (am_cons (am_at in_wsX8_write_0 5 rfl) (am_cons (am_at in_wsX8_write_0 6 rfl) am_nil))) (by decide +kernel)) ggX8_write_X8_in
theorem dX8_write_0 : decode cX8_write 0 = .ok (.iload_n 1, 1) := by decide +kernel
theorem dX8_write_1 : decode cX8_write 1 = .ok (.iconst 0, 1) := by decide +kernel
theorem dX8_write_2 : decode cX8_write 2 = .ok (.sipush 9999, 3) := by decide +kernel
theorem dX8_write_5 : decode cX8_write 5 = .ok (.invokestatic 55, 3) := by decide +kernel
theorem dX8_write_8 : decode cX8_write 8 = .ok (.ifCond .ne 6, 3) := by decide +kernel
theorem dX8_write_11 : decode cX8_write 11 = .ok (.ldc 59, 2) := by decide +kernel
theorem dX8_write_13 : decode cX8_write 13 = .ok (.ireturn, 1) := by decide +kernel
theorem dX8_write_14 : decode cX8_write 14 = .ok (.aload_n 0, 1) := by decide +kernel
theorem dX8_write_15 : decode cX8_write 15 = .ok (.getfield 113, 3) := by decide +kernel
theorem dX8_write_18 : decode cX8_write 18 = .ok (.bipush 15, 2) := by decide +kernel
theorem dX8_write_20 : decode cX8_write 20 = .ok (.if_icmp .ne 6, 3) := by decide +kernel
theorem dX8_write_23 : decode cX8_write 23 = .ok (.ldc 63, 2) := by decide +kernel
theorem dX8_write_25 : decode cX8_write 25 = .ok (.ireturn, 1) := by decide +kernel
theorem dX8_write_26 : decode cX8_write 26 = .ok (.aload_n 0, 1) := by decide +kernel
theorem dX8_write_27 : decode cX8_write 27 = .ok (.getfield 35, 3) := by decide +kernel
theorem dX8_write_30 : decode cX8_write 30 = .ok (.aload_n 0, 1) := by decide +kernel
theorem dX8_write_31 : decode cX8_write 31 = .ok (.getfield 113, 3) := by decide +kernel
theorem dX8_write_34 : decode cX8_write 34 = .ok (.iload_n 1, 1) := by decide +kernel
theorem dX8_write_35 : decode cX8_write 35 = .ok (.iastore, 1) := by decide +kernel
theorem dX8_write_36 : decode cX8_write 36 = .ok (.aload_n 0, 1) := by decide +kernel
theorem dX8_write_37 : decode cX8_write 37 = .ok (.dup, 1) := by decide +kernel
theorem dX8_write_38 : decode cX8_write 38 = .ok (.getfield 113, 3) := by decide +kernel
theorem dX8_write_41 : decode cX8_write 41 = .ok (.iconst 1, 1) := by decide +kernel
theorem dX8_write_42 : decode cX8_write 42 = .ok (.iadd, 1) := by decide +kernel
theorem dX8_write_43 : decode cX8_write 43 = .ok (.putfield 113, 3) := by decide +kernel
theorem dX8_write_46 : decode cX8_write 46 = .ok (.aload_n 0, 1) := by decide +kernel
theorem dX8_write_47 : decode cX8_write 47 = .ok (.getfield 113, 3) := by decide +kernel
theorem dX8_write_50 : decode cX8_write 50 = .ok (.ireturn, 1) := by decide +kernel
theorem dX8_tear_0 : decode cX8_tear 0 = .ok (.aload_n 0, 1) := by decide +kernel
theorem dX8_tear_1 : decode cX8_tear 1 = .ok (.getfield 110, 3) := by decide +kernel
theorem dX8_tear_4 : decode cX8_tear 4 = .ok (.aload_n 0, 1) := by decide +kernel
theorem dX8_tear_5 : decode cX8_tear 5 = .ok (.getfield 113, 3) := by decide +kernel
theorem dX8_tear_8 : decode cX8_tear 8 = .ok (.iadd, 1) := by decide +kernel
theorem dX8_tear_9 : decode cX8_tear 9 = .ok (.istore_n 1, 1) := by decide +kernel
theorem dX8_tear_10 : decode cX8_tear 10 = .ok (.aload_n 0, 1) := by decide +kernel
theorem dX8_tear_11 : decode cX8_tear 11 = .ok (.iconst 0, 1) := by decide +kernel
theorem dX8_tear_12 : decode cX8_tear 12 = .ok (.putfield 110, 3) := by decide +kernel
theorem dX8_tear_15 : decode cX8_tear 15 = .ok (.aload_n 0, 1) := by decide +kernel
theorem dX8_tear_16 : decode cX8_tear 16 = .ok (.iconst 0, 1) := by decide +kernel
theorem dX8_tear_17 : decode cX8_tear 17 = .ok (.putfield 113, 3) := by decide +kernel
theorem dX8_tear_20 : decode cX8_tear 20 = .ok (.iload_n 1, 1) := by decide +kernel
theorem dX8_tear_21 : decode cX8_tear 21 = .ok (.ireturn, 1) := by decide +kernel
theorem dX8_judge_0 : decode cX8_judge 0 = .ok (.iconst (-1), 1) := by decide +kernel
theorem dX8_judge_1 : decode cX8_judge 1 = .ok (.istore_n 1, 1) := by decide +kernel
theorem dX8_judge_2 : decode cX8_judge 2 = .ok (.aload_n 0, 1) := by decide +kernel
theorem dX8_judge_3 : decode cX8_judge 3 = .ok (.getfield 113, 3) := by decide +kernel
theorem dX8_judge_6 : decode cX8_judge 6 = .ok (.iconst 1, 1) := by decide +kernel
theorem dX8_judge_7 : decode cX8_judge 7 = .ok (.isub, 1) := by decide +kernel
theorem dX8_judge_8 : decode cX8_judge 8 = .ok (.istore_n 2, 1) := by decide +kernel
theorem dX8_judge_9 : decode cX8_judge 9 = .ok (.iload_n 2, 1) := by decide +kernel
theorem dX8_judge_10 : decode cX8_judge 10 = .ok (.ifCond .lt 30, 3) := by decide +kernel
theorem dX8_judge_13 : decode cX8_judge 13 = .ok (.aload_n 0, 1) := by decide +kernel
theorem dX8_judge_14 : decode cX8_judge 14 = .ok (.getfield 35, 3) := by decide +kernel
theorem dX8_judge_17 : decode cX8_judge 17 = .ok (.iload_n 2, 1) := by decide +kernel
theorem dX8_judge_18 : decode cX8_judge 18 = .ok (.iaload, 1) := by decide +kernel
theorem dX8_judge_19 : decode cX8_judge 19 = .ok (.aload_n 0, 1) := by decide +kernel
theorem dX8_judge_20 : decode cX8_judge 20 = .ok (.getfield 19, 3) := by decide +kernel
theorem dX8_judge_23 : decode cX8_judge 23 = .ok (.iconst 3, 1) := by decide +kernel
theorem dX8_judge_24 : decode cX8_judge 24 = .ok (.iaload, 1) := by decide +kernel
theorem dX8_judge_25 : decode cX8_judge 25 = .ok (.if_icmp .eq 7, 3) := by decide +kernel
theorem dX8_judge_28 : decode cX8_judge 28 = .ok (.iload_n 2, 1) := by decide +kernel
theorem dX8_judge_29 : decode cX8_judge 29 = .ok (.goto 4, 3) := by decide +kernel
theorem dX8_judge_32 : decode cX8_judge 32 = .ok (.iload_n 1, 1) := by decide +kernel
theorem dX8_judge_33 : decode cX8_judge 33 = .ok (.istore_n 1, 1) := by decide +kernel
theorem dX8_judge_34 : decode cX8_judge 34 = .ok (.iinc 2 (-1), 3) := by decide +kernel
theorem dX8_judge_37 : decode cX8_judge 37 = .ok (.goto (-28), 3) := by decide +kernel
theorem dX8_judge_40 : decode cX8_judge 40 = .ok (.iload_n 1, 1) := by decide +kernel
theorem dX8_judge_41 : decode cX8_judge 41 = .ok (.ireturn, 1) := by decide +kernel
theorem dX8_seed_0 : decode cX8_seed 0 = .ok (.iload_n 1, 1) := by decide +kernel
theorem dX8_seed_1 : decode cX8_seed 1 = .ok (.ifCond .ge 6, 3) := by decide +kernel
theorem dX8_seed_4 : decode cX8_seed 4 = .ok (.ldc 59, 2) := by decide +kernel
theorem dX8_seed_6 : decode cX8_seed 6 = .ok (.ireturn, 1) := by decide +kernel
theorem dX8_seed_7 : decode cX8_seed 7 = .ok (.aload_n 0, 1) := by decide +kernel
theorem dX8_seed_8 : decode cX8_seed 8 = .ok (.getfield 153, 3) := by decide +kernel
theorem dX8_seed_11 : decode cX8_seed 11 = .ok (.istore_n 2, 1) := by decide +kernel
theorem dX8_seed_12 : decode cX8_seed 12 = .ok (.aload_n 0, 1) := by decide +kernel
theorem dX8_seed_13 : decode cX8_seed 13 = .ok (.iload_n 1, 1) := by decide +kernel
theorem dX8_seed_14 : decode cX8_seed 14 = .ok (.putfield 153, 3) := by decide +kernel
theorem dX8_seed_17 : decode cX8_seed 17 = .ok (.iload_n 2, 1) := by decide +kernel
theorem dX8_seed_18 : decode cX8_seed 18 = .ok (.ireturn, 1) := by decide +kernel
set_option maxRecDepth 20000 in
theorem ggX8_keep_X8_in : GoodIn wsX8_keep wsX8_in := goodIn_m (fun w hw => by
  revert w hw; unfold wsX8_in
  exact am_cons (am_at in_wsX8_keep_0 9 rfl) am_nil) gw_wsX8_in
set_option maxRecDepth 20000 in
theorem gX8_keep_X8_in : GoodIn wsX8_keep (va_wsS RX8 55 yX8_in wsX8_in) := goodIn_app (goodIn_m (am_cons (am_at in_wsX8_keep_0 6 rfl) (am_cons (am_at in_wsX8_keep_0 7 rfl) (am_cons (am_at in_wsX8_keep_0 8 rfl) am_nil))) (by decide +kernel)) ggX8_keep_X8_in
theorem dX8_keep_0 : decode cX8_keep 0 = .ok (.iload_n 1, 1) := by decide +kernel
theorem dX8_keep_1 : decode cX8_keep 1 = .ok (.iconst 0, 1) := by decide +kernel
theorem dX8_keep_2 : decode cX8_keep 2 = .ok (.iconst 1, 1) := by decide +kernel
theorem dX8_keep_3 : decode cX8_keep 3 = .ok (.invokestatic 55, 3) := by decide +kernel
theorem dX8_keep_6 : decode cX8_keep 6 = .ok (.ifCond .ne 6, 3) := by decide +kernel
theorem dX8_keep_9 : decode cX8_keep 9 = .ok (.ldc 126, 2) := by decide +kernel
theorem dX8_keep_11 : decode cX8_keep 11 = .ok (.ireturn, 1) := by decide +kernel
theorem dX8_keep_12 : decode cX8_keep 12 = .ok (.iconst 0, 1) := by decide +kernel
theorem dX8_keep_13 : decode cX8_keep 13 = .ok (.istore_n 2, 1) := by decide +kernel
theorem dX8_keep_14 : decode cX8_keep 14 = .ok (.iload_n 2, 1) := by decide +kernel
theorem dX8_keep_15 : decode cX8_keep 15 = .ok (.bipush 7, 2) := by decide +kernel
theorem dX8_keep_17 : decode cX8_keep 17 = .ok (.if_icmp .ge 26, 3) := by decide +kernel
theorem dX8_keep_20 : decode cX8_keep 20 = .ok (.aload_n 0, 1) := by decide +kernel
theorem dX8_keep_21 : decode cX8_keep 21 = .ok (.getfield 25, 3) := by decide +kernel
theorem dX8_keep_24 : decode cX8_keep 24 = .ok (.bipush 8, 2) := by decide +kernel
theorem dX8_keep_26 : decode cX8_keep 26 = .ok (.iload_n 1, 1) := by decide +kernel
theorem dX8_keep_27 : decode cX8_keep 27 = .ok (.imul, 1) := by decide +kernel
theorem dX8_keep_28 : decode cX8_keep 28 = .ok (.iload_n 2, 1) := by decide +kernel
theorem dX8_keep_29 : decode cX8_keep 29 = .ok (.iadd, 1) := by decide +kernel
theorem dX8_keep_30 : decode cX8_keep 30 = .ok (.aload_n 0, 1) := by decide +kernel
theorem dX8_keep_31 : decode cX8_keep 31 = .ok (.getfield 19, 3) := by decide +kernel
theorem dX8_keep_34 : decode cX8_keep 34 = .ok (.iload_n 2, 1) := by decide +kernel
theorem dX8_keep_35 : decode cX8_keep 35 = .ok (.iaload, 1) := by decide +kernel
theorem dX8_keep_36 : decode cX8_keep 36 = .ok (.iastore, 1) := by decide +kernel
theorem dX8_keep_37 : decode cX8_keep 37 = .ok (.iinc 2 1, 3) := by decide +kernel
theorem dX8_keep_40 : decode cX8_keep 40 = .ok (.goto (-26), 3) := by decide +kernel
theorem dX8_keep_43 : decode cX8_keep 43 = .ok (.aload_n 0, 1) := by decide +kernel
theorem dX8_keep_44 : decode cX8_keep 44 = .ok (.getfield 25, 3) := by decide +kernel
theorem dX8_keep_47 : decode cX8_keep 47 = .ok (.bipush 8, 2) := by decide +kernel
theorem dX8_keep_49 : decode cX8_keep 49 = .ok (.iload_n 1, 1) := by decide +kernel
theorem dX8_keep_50 : decode cX8_keep 50 = .ok (.imul, 1) := by decide +kernel
theorem dX8_keep_51 : decode cX8_keep 51 = .ok (.bipush 7, 2) := by decide +kernel
theorem dX8_keep_53 : decode cX8_keep 53 = .ok (.iadd, 1) := by decide +kernel
theorem dX8_keep_54 : decode cX8_keep 54 = .ok (.aload_n 0, 1) := by decide +kernel
theorem dX8_keep_55 : decode cX8_keep 55 = .ok (.getfield 153, 3) := by decide +kernel
theorem dX8_keep_58 : decode cX8_keep 58 = .ok (.iastore, 1) := by decide +kernel
theorem dX8_keep_59 : decode cX8_keep 59 = .ok (.aload_n 0, 1) := by decide +kernel
theorem dX8_keep_60 : decode cX8_keep 60 = .ok (.getfield 28, 3) := by decide +kernel
theorem dX8_keep_63 : decode cX8_keep 63 = .ok (.iload_n 1, 1) := by decide +kernel
theorem dX8_keep_64 : decode cX8_keep 64 = .ok (.iconst 1, 1) := by decide +kernel
theorem dX8_keep_65 : decode cX8_keep 65 = .ok (.bastore, 1) := by decide +kernel
theorem dX8_keep_66 : decode cX8_keep 66 = .ok (.aload_n 0, 1) := by decide +kernel
theorem dX8_keep_67 : decode cX8_keep 67 = .ok (.iconst 0, 1) := by decide +kernel
theorem dX8_keep_68 : decode cX8_keep 68 = .ok (.putfield 107, 3) := by decide +kernel
theorem dX8_keep_71 : decode cX8_keep 71 = .ok (.iconst 1, 1) := by decide +kernel
theorem dX8_keep_72 : decode cX8_keep 72 = .ok (.ireturn, 1) := by decide +kernel
set_option maxRecDepth 20000 in
theorem ggX8_goBack_X8_in : GoodIn wsX8_goBack wsX8_in := goodIn_m (fun w hw => by
  revert w hw; unfold wsX8_in
  exact am_cons (am_at in_wsX8_goBack_0 10 rfl) am_nil) gw_wsX8_in
set_option maxRecDepth 20000 in
theorem gX8_goBack_X8_in : GoodIn wsX8_goBack (va_wsS RX8 55 yX8_in wsX8_in) := goodIn_app (goodIn_m (am_cons (am_at in_wsX8_goBack_0 7 rfl) (am_cons (am_at in_wsX8_goBack_0 8 rfl) (am_cons (am_at in_wsX8_goBack_0 9 rfl) am_nil))) (by decide +kernel)) ggX8_goBack_X8_in
theorem dX8_goBack_0 : decode cX8_goBack 0 = .ok (.iload_n 1, 1) := by decide +kernel
theorem dX8_goBack_1 : decode cX8_goBack 1 = .ok (.iconst 0, 1) := by decide +kernel
theorem dX8_goBack_2 : decode cX8_goBack 2 = .ok (.iconst 1, 1) := by decide +kernel
theorem dX8_goBack_3 : decode cX8_goBack 3 = .ok (.invokestatic 55, 3) := by decide +kernel
theorem dX8_goBack_6 : decode cX8_goBack 6 = .ok (.ifCond .ne 6, 3) := by decide +kernel
theorem dX8_goBack_9 : decode cX8_goBack 9 = .ok (.ldc 126, 2) := by decide +kernel
theorem dX8_goBack_11 : decode cX8_goBack 11 = .ok (.ireturn, 1) := by decide +kernel
theorem dX8_goBack_12 : decode cX8_goBack 12 = .ok (.aload_n 0, 1) := by decide +kernel
theorem dX8_goBack_13 : decode cX8_goBack 13 = .ok (.getfield 28, 3) := by decide +kernel
theorem dX8_goBack_16 : decode cX8_goBack 16 = .ok (.iload_n 1, 1) := by decide +kernel
theorem dX8_goBack_17 : decode cX8_goBack 17 = .ok (.baload, 1) := by decide +kernel
theorem dX8_goBack_18 : decode cX8_goBack 18 = .ok (.ifCond .ne 6, 3) := by decide +kernel
theorem dX8_goBack_21 : decode cX8_goBack 21 = .ok (.ldc 139, 2) := by decide +kernel
theorem dX8_goBack_23 : decode cX8_goBack 23 = .ok (.ireturn, 1) := by decide +kernel
theorem dX8_goBack_24 : decode cX8_goBack 24 = .ok (.iconst 0, 1) := by decide +kernel
theorem dX8_goBack_25 : decode cX8_goBack 25 = .ok (.istore_n 2, 1) := by decide +kernel
theorem dX8_goBack_26 : decode cX8_goBack 26 = .ok (.iload_n 2, 1) := by decide +kernel
theorem dX8_goBack_27 : decode cX8_goBack 27 = .ok (.bipush 7, 2) := by decide +kernel
theorem dX8_goBack_29 : decode cX8_goBack 29 = .ok (.if_icmp .ge 26, 3) := by decide +kernel
theorem dX8_goBack_32 : decode cX8_goBack 32 = .ok (.aload_n 0, 1) := by decide +kernel
theorem dX8_goBack_33 : decode cX8_goBack 33 = .ok (.getfield 19, 3) := by decide +kernel
theorem dX8_goBack_36 : decode cX8_goBack 36 = .ok (.iload_n 2, 1) := by decide +kernel
theorem dX8_goBack_37 : decode cX8_goBack 37 = .ok (.aload_n 0, 1) := by decide +kernel
theorem dX8_goBack_38 : decode cX8_goBack 38 = .ok (.getfield 25, 3) := by decide +kernel
theorem dX8_goBack_41 : decode cX8_goBack 41 = .ok (.bipush 8, 2) := by decide +kernel
theorem dX8_goBack_43 : decode cX8_goBack 43 = .ok (.iload_n 1, 1) := by decide +kernel
theorem dX8_goBack_44 : decode cX8_goBack 44 = .ok (.imul, 1) := by decide +kernel
theorem dX8_goBack_45 : decode cX8_goBack 45 = .ok (.iload_n 2, 1) := by decide +kernel
theorem dX8_goBack_46 : decode cX8_goBack 46 = .ok (.iadd, 1) := by decide +kernel
theorem dX8_goBack_47 : decode cX8_goBack 47 = .ok (.iaload, 1) := by decide +kernel
theorem dX8_goBack_48 : decode cX8_goBack 48 = .ok (.iastore, 1) := by decide +kernel
theorem dX8_goBack_49 : decode cX8_goBack 49 = .ok (.iinc 2 1, 3) := by decide +kernel
theorem dX8_goBack_52 : decode cX8_goBack 52 = .ok (.goto (-26), 3) := by decide +kernel
theorem dX8_goBack_55 : decode cX8_goBack 55 = .ok (.aload_n 0, 1) := by decide +kernel
theorem dX8_goBack_56 : decode cX8_goBack 56 = .ok (.aload_n 0, 1) := by decide +kernel
theorem dX8_goBack_57 : decode cX8_goBack 57 = .ok (.getfield 25, 3) := by decide +kernel
theorem dX8_goBack_60 : decode cX8_goBack 60 = .ok (.bipush 8, 2) := by decide +kernel
theorem dX8_goBack_62 : decode cX8_goBack 62 = .ok (.iload_n 1, 1) := by decide +kernel
theorem dX8_goBack_63 : decode cX8_goBack 63 = .ok (.imul, 1) := by decide +kernel
theorem dX8_goBack_64 : decode cX8_goBack 64 = .ok (.bipush 7, 2) := by decide +kernel
theorem dX8_goBack_66 : decode cX8_goBack 66 = .ok (.iadd, 1) := by decide +kernel
theorem dX8_goBack_67 : decode cX8_goBack 67 = .ok (.iaload, 1) := by decide +kernel
theorem dX8_goBack_68 : decode cX8_goBack 68 = .ok (.putfield 153, 3) := by decide +kernel
theorem dX8_goBack_71 : decode cX8_goBack 71 = .ok (.aload_n 0, 1) := by decide +kernel
theorem dX8_goBack_72 : decode cX8_goBack 72 = .ok (.iconst 0, 1) := by decide +kernel
theorem dX8_goBack_73 : decode cX8_goBack 73 = .ok (.putfield 107, 3) := by decide +kernel
theorem dX8_goBack_76 : decode cX8_goBack 76 = .ok (.iconst 1, 1) := by decide +kernel
theorem dX8_goBack_77 : decode cX8_goBack 77 = .ok (.ireturn, 1) := by decide +kernel
theorem dJ6_bitCount_0f7a4_0 : decode cJ6_bitCount_0f7a4 0 = .ok (.iload_n 0, 1) := by decide +kernel
theorem dJ6_bitCount_0f7a4_1 : decode cJ6_bitCount_0f7a4 1 = .ok (.iload_n 0, 1) := by decide +kernel
theorem dJ6_bitCount_0f7a4_2 : decode cJ6_bitCount_0f7a4 2 = .ok (.iconst 1, 1) := by decide +kernel
theorem dJ6_bitCount_0f7a4_3 : decode cJ6_bitCount_0f7a4 3 = .ok (.iushr, 1) := by decide +kernel
theorem dJ6_bitCount_0f7a4_4 : decode cJ6_bitCount_0f7a4 4 = .ok (.ldc_w 265, 3) := by decide +kernel
theorem dJ6_bitCount_0f7a4_7 : decode cJ6_bitCount_0f7a4 7 = .ok (.iand, 1) := by decide +kernel
theorem dJ6_bitCount_0f7a4_8 : decode cJ6_bitCount_0f7a4 8 = .ok (.isub, 1) := by decide +kernel
theorem dJ6_bitCount_0f7a4_9 : decode cJ6_bitCount_0f7a4 9 = .ok (.istore_n 0, 1) := by decide +kernel
theorem dJ6_bitCount_0f7a4_10 : decode cJ6_bitCount_0f7a4 10 = .ok (.iload_n 0, 1) := by decide +kernel
theorem dJ6_bitCount_0f7a4_11 : decode cJ6_bitCount_0f7a4 11 = .ok (.ldc_w 266, 3) := by decide +kernel
theorem dJ6_bitCount_0f7a4_14 : decode cJ6_bitCount_0f7a4 14 = .ok (.iand, 1) := by decide +kernel
theorem dJ6_bitCount_0f7a4_15 : decode cJ6_bitCount_0f7a4 15 = .ok (.iload_n 0, 1) := by decide +kernel
theorem dJ6_bitCount_0f7a4_16 : decode cJ6_bitCount_0f7a4 16 = .ok (.iconst 2, 1) := by decide +kernel
theorem dJ6_bitCount_0f7a4_17 : decode cJ6_bitCount_0f7a4 17 = .ok (.iushr, 1) := by decide +kernel
theorem dJ6_bitCount_0f7a4_18 : decode cJ6_bitCount_0f7a4 18 = .ok (.ldc_w 266, 3) := by decide +kernel
theorem dJ6_bitCount_0f7a4_21 : decode cJ6_bitCount_0f7a4 21 = .ok (.iand, 1) := by decide +kernel
theorem dJ6_bitCount_0f7a4_22 : decode cJ6_bitCount_0f7a4 22 = .ok (.iadd, 1) := by decide +kernel
theorem dJ6_bitCount_0f7a4_23 : decode cJ6_bitCount_0f7a4 23 = .ok (.istore_n 0, 1) := by decide +kernel
theorem dJ6_bitCount_0f7a4_24 : decode cJ6_bitCount_0f7a4 24 = .ok (.iload_n 0, 1) := by decide +kernel
theorem dJ6_bitCount_0f7a4_25 : decode cJ6_bitCount_0f7a4 25 = .ok (.iload_n 0, 1) := by decide +kernel
theorem dJ6_bitCount_0f7a4_26 : decode cJ6_bitCount_0f7a4 26 = .ok (.iconst 4, 1) := by decide +kernel
theorem dJ6_bitCount_0f7a4_27 : decode cJ6_bitCount_0f7a4 27 = .ok (.iushr, 1) := by decide +kernel
theorem dJ6_bitCount_0f7a4_28 : decode cJ6_bitCount_0f7a4 28 = .ok (.iadd, 1) := by decide +kernel
theorem dJ6_bitCount_0f7a4_29 : decode cJ6_bitCount_0f7a4 29 = .ok (.ldc_w 267, 3) := by decide +kernel
theorem dJ6_bitCount_0f7a4_32 : decode cJ6_bitCount_0f7a4 32 = .ok (.iand, 1) := by decide +kernel
theorem dJ6_bitCount_0f7a4_33 : decode cJ6_bitCount_0f7a4 33 = .ok (.istore_n 0, 1) := by decide +kernel
theorem dJ6_bitCount_0f7a4_34 : decode cJ6_bitCount_0f7a4 34 = .ok (.iload_n 0, 1) := by decide +kernel
theorem dJ6_bitCount_0f7a4_35 : decode cJ6_bitCount_0f7a4 35 = .ok (.iload_n 0, 1) := by decide +kernel
theorem dJ6_bitCount_0f7a4_36 : decode cJ6_bitCount_0f7a4 36 = .ok (.bipush 8, 2) := by decide +kernel
theorem dJ6_bitCount_0f7a4_38 : decode cJ6_bitCount_0f7a4 38 = .ok (.iushr, 1) := by decide +kernel
theorem dJ6_bitCount_0f7a4_39 : decode cJ6_bitCount_0f7a4 39 = .ok (.iadd, 1) := by decide +kernel
theorem dJ6_bitCount_0f7a4_40 : decode cJ6_bitCount_0f7a4 40 = .ok (.istore_n 0, 1) := by decide +kernel
theorem dJ6_bitCount_0f7a4_41 : decode cJ6_bitCount_0f7a4 41 = .ok (.iload_n 0, 1) := by decide +kernel
theorem dJ6_bitCount_0f7a4_42 : decode cJ6_bitCount_0f7a4 42 = .ok (.iload_n 0, 1) := by decide +kernel
theorem dJ6_bitCount_0f7a4_43 : decode cJ6_bitCount_0f7a4 43 = .ok (.bipush 16, 2) := by decide +kernel
theorem dJ6_bitCount_0f7a4_45 : decode cJ6_bitCount_0f7a4 45 = .ok (.iushr, 1) := by decide +kernel
theorem dJ6_bitCount_0f7a4_46 : decode cJ6_bitCount_0f7a4 46 = .ok (.iadd, 1) := by decide +kernel
theorem dJ6_bitCount_0f7a4_47 : decode cJ6_bitCount_0f7a4 47 = .ok (.istore_n 0, 1) := by decide +kernel
theorem dJ6_bitCount_0f7a4_48 : decode cJ6_bitCount_0f7a4 48 = .ok (.iload_n 0, 1) := by decide +kernel
theorem dJ6_bitCount_0f7a4_49 : decode cJ6_bitCount_0f7a4 49 = .ok (.bipush 63, 2) := by decide +kernel
theorem dJ6_bitCount_0f7a4_51 : decode cJ6_bitCount_0f7a4 51 = .ok (.iand, 1) := by decide +kernel
theorem dJ6_bitCount_0f7a4_52 : decode cJ6_bitCount_0f7a4 52 = .ok (.ireturn, 1) := by decide +kernel
theorem dJ9_max_7cf53_0 : decode cJ9_max_7cf53 0 = .ok (.iload_n 0, 1) := by decide +kernel
theorem dJ9_max_7cf53_1 : decode cJ9_max_7cf53 1 = .ok (.iload_n 1, 1) := by decide +kernel
theorem dJ9_max_7cf53_2 : decode cJ9_max_7cf53 2 = .ok (.if_icmp .lt 7, 3) := by decide +kernel
theorem dJ9_max_7cf53_5 : decode cJ9_max_7cf53 5 = .ok (.iload_n 0, 1) := by decide +kernel
theorem dJ9_max_7cf53_6 : decode cJ9_max_7cf53 6 = .ok (.goto 4, 3) := by decide +kernel
theorem dJ9_max_7cf53_9 : decode cJ9_max_7cf53 9 = .ok (.iload_n 1, 1) := by decide +kernel
theorem dJ9_max_7cf53_10 : decode cJ9_max_7cf53 10 = .ok (.ireturn, 1) := by decide +kernel
