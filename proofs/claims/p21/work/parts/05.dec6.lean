theorem dX8_snow_4 : decode cX8_snow 4 = .ok (.invokestatic 55, 3) := by decide +kernel
theorem dX8_snow_7 : decode cX8_snow 7 = .ok (.ifCond .eq 13, 3) := by decide +kernel
theorem dX8_snow_10 : decode cX8_snow 10 = .ok (.iload_n 2, 1) := by decide +kernel
theorem dX8_snow_11 : decode cX8_snow 11 = .ok (.iconst 0, 1) := by decide +kernel
theorem dX8_snow_12 : decode cX8_snow 12 = .ok (.bipush 100, 2) := by decide +kernel
theorem dX8_snow_14 : decode cX8_snow 14 = .ok (.invokestatic 55, 3) := by decide +kernel
theorem dX8_snow_17 : decode cX8_snow 17 = .ok (.ifCond .ne 6, 3) := by decide +kernel
theorem dX8_snow_20 : decode cX8_snow 20 = .ok (.ldc 59, 2) := by decide +kernel
theorem dX8_snow_22 : decode cX8_snow 22 = .ok (.ireturn, 1) := by decide +kernel
theorem dX8_snow_23 : decode cX8_snow 23 = .ok (.ldc2_w 205, 3) := by decide +kernel
theorem dX8_snow_26 : decode cX8_snow 26 = .ok (.lstore_n 3, 1) := by decide +kernel
theorem dX8_snow_27 : decode cX8_snow 27 = .ok (.iconst 0, 1) := by decide +kernel
theorem dX8_snow_28 : decode cX8_snow 28 = .ok (.istore 5, 2) := by decide +kernel
theorem dX8_snow_30 : decode cX8_snow 30 = .ok (.iload 5, 2) := by decide +kernel
theorem dX8_snow_32 : decode cX8_snow 32 = .ok (.iload_n 1, 1) := by decide +kernel
theorem dX8_snow_33 : decode cX8_snow 33 = .ok (.if_icmp .ge 21, 3) := by decide +kernel
theorem dX8_snow_36 : decode cX8_snow 36 = .ok (.lload_n 3, 1) := by decide +kernel
theorem dX8_snow_37 : decode cX8_snow 37 = .ok (.bipush 100, 2) := by decide +kernel
theorem dX8_snow_39 : decode cX8_snow 39 = .ok (.iload_n 2, 1) := by decide +kernel
theorem dX8_snow_40 : decode cX8_snow 40 = .ok (.isub, 1) := by decide +kernel
theorem dX8_snow_41 : decode cX8_snow 41 = .ok (.i2l, 1) := by decide +kernel
theorem dX8_snow_42 : decode cX8_snow 42 = .ok (.lmul, 1) := by decide +kernel
theorem dX8_snow_43 : decode cX8_snow 43 = .ok (.ldc2_w 207, 3) := by decide +kernel
theorem dX8_snow_46 : decode cX8_snow 46 = .ok (.ldiv, 1) := by decide +kernel
theorem dX8_snow_47 : decode cX8_snow 47 = .ok (.lstore_n 3, 1) := by decide +kernel
theorem dX8_snow_48 : decode cX8_snow 48 = .ok (.iinc 5 1, 3) := by decide +kernel
theorem dX8_snow_51 : decode cX8_snow 51 = .ok (.goto (-21), 3) := by decide +kernel
theorem dX8_snow_54 : decode cX8_snow 54 = .ok (.lload_n 3, 1) := by decide +kernel
theorem dX8_snow_55 : decode cX8_snow 55 = .ok (.l2i, 1) := by decide +kernel
theorem dX8_snow_56 : decode cX8_snow 56 = .ok (.ireturn, 1) := by decide +kernel
set_option maxRecDepth 20000 in
theorem ggX8_seal_X8_isTown : GoodIn wsX8_seal wsX8_isTown := goodIn_r _ [10, 11, 12, 13, 9, 14, 15, 16, 17, 18, 19, 20, 21, 22, 23, 24, 25, 26, 27, 28, 29, 30, 31, 32, 33, 34, 35, 36, 37] (by decide +kernel) (by decide +kernel)
set_option maxRecDepth 20000 in
theorem gX8_seal_X8_isTown : GoodIn wsX8_seal (wsV RX8 123 RX8 yX8_isTown wsX8_isTown) := goodIn_app (goodIn_of _ (by decide +kernel)) ggX8_seal_X8_isTown
set_option maxRecDepth 20000 in
theorem ggX8_seal_X8_in : GoodIn wsX8_seal wsX8_in := goodIn_r _ [14] (by decide +kernel) (by decide +kernel)
set_option maxRecDepth 20000 in
theorem gX8_seal_X8_in : GoodIn wsX8_seal (va_wsS RX8 55 yX8_in wsX8_in) := goodIn_app (goodIn_of _ (by decide +kernel)) ggX8_seal_X8_in
theorem dX8_seal_0 : decode cX8_seal 0 = .ok (.aload_n 0, 1) := by decide +kernel
theorem dX8_seal_1 : decode cX8_seal 1 = .ok (.iload_n 1, 1) := by decide +kernel
theorem dX8_seal_2 : decode cX8_seal 2 = .ok (.invokevirtual 123, 3) := by decide +kernel
theorem dX8_seal_5 : decode cX8_seal 5 = .ok (.ifCond .ne 6, 3) := by decide +kernel
theorem dX8_seal_8 : decode cX8_seal 8 = .ok (.ldc 126, 2) := by decide +kernel
theorem dX8_seal_10 : decode cX8_seal 10 = .ok (.ireturn, 1) := by decide +kernel
theorem dX8_seal_11 : decode cX8_seal 11 = .ok (.iload_n 2, 1) := by decide +kernel
theorem dX8_seal_12 : decode cX8_seal 12 = .ok (.iconst 0, 1) := by decide +kernel
theorem dX8_seal_13 : decode cX8_seal 13 = .ok (.bipush 47, 2) := by decide +kernel
theorem dX8_seal_15 : decode cX8_seal 15 = .ok (.invokestatic 55, 3) := by decide +kernel
theorem dX8_seal_18 : decode cX8_seal 18 = .ok (.ifCond .ne 6, 3) := by decide +kernel
theorem dX8_seal_21 : decode cX8_seal 21 = .ok (.ldc 59, 2) := by decide +kernel
theorem dX8_seal_23 : decode cX8_seal 23 = .ok (.ireturn, 1) := by decide +kernel
theorem dX8_seal_24 : decode cX8_seal 24 = .ok (.aload_n 0, 1) := by decide +kernel
theorem dX8_seal_25 : decode cX8_seal 25 = .ok (.getfield 110, 3) := by decide +kernel
theorem dX8_seal_28 : decode cX8_seal 28 = .ok (.bipush 8, 2) := by decide +kernel
theorem dX8_seal_30 : decode cX8_seal 30 = .ok (.if_icmp .ne 6, 3) := by decide +kernel
theorem dX8_seal_33 : decode cX8_seal 33 = .ok (.ldc 63, 2) := by decide +kernel
theorem dX8_seal_35 : decode cX8_seal 35 = .ok (.ireturn, 1) := by decide +kernel
theorem dX8_seal_36 : decode cX8_seal 36 = .ok (.aload_n 0, 1) := by decide +kernel
theorem dX8_seal_37 : decode cX8_seal 37 = .ok (.getfield 32, 3) := by decide +kernel
theorem dX8_seal_40 : decode cX8_seal 40 = .ok (.aload_n 0, 1) := by decide +kernel
theorem dX8_seal_41 : decode cX8_seal 41 = .ok (.getfield 110, 3) := by decide +kernel
theorem dX8_seal_44 : decode cX8_seal 44 = .ok (.bipush 48, 2) := by decide +kernel
theorem dX8_seal_46 : decode cX8_seal 46 = .ok (.iload_n 1, 1) := by decide +kernel
theorem dX8_seal_47 : decode cX8_seal 47 = .ok (.imul, 1) := by decide +kernel
theorem dX8_seal_48 : decode cX8_seal 48 = .ok (.iload_n 2, 1) := by decide +kernel
theorem dX8_seal_49 : decode cX8_seal 49 = .ok (.iadd, 1) := by decide +kernel
theorem dX8_seal_50 : decode cX8_seal 50 = .ok (.iastore, 1) := by decide +kernel
theorem dX8_seal_51 : decode cX8_seal 51 = .ok (.aload_n 0, 1) := by decide +kernel
theorem dX8_seal_52 : decode cX8_seal 52 = .ok (.dup, 1) := by decide +kernel
theorem dX8_seal_53 : decode cX8_seal 53 = .ok (.getfield 110, 3) := by decide +kernel
theorem dX8_seal_56 : decode cX8_seal 56 = .ok (.iconst 1, 1) := by decide +kernel
theorem dX8_seal_57 : decode cX8_seal 57 = .ok (.iadd, 1) := by decide +kernel
theorem dX8_seal_58 : decode cX8_seal 58 = .ok (.putfield 110, 3) := by decide +kernel
theorem dX8_seal_61 : decode cX8_seal 61 = .ok (.aload_n 0, 1) := by decide +kernel
theorem dX8_seal_62 : decode cX8_seal 62 = .ok (.getfield 110, 3) := by decide +kernel
theorem dX8_seal_65 : decode cX8_seal 65 = .ok (.ireturn, 1) := by decide +kernel
set_option maxRecDepth 20000 in
theorem ggX8_onlyIn_X8_hasWork : GoodIn wsX8_onlyIn wsX8_hasWork := goodIn_r _ [7, 8, 9, 10, 11, 12, 13, 14, 15, 16, 17, 18, 19, 20, 21, 22, 23, 24, 25, 26, 27, 28, 29, 30, 31] (by decide +kernel) (by decide +kernel)
set_option maxRecDepth 20000 in
theorem gX8_onlyIn_X8_hasWork : GoodIn wsX8_onlyIn (wsV RX8 130 RX8 yX8_hasWork wsX8_hasWork) := goodIn_app (goodIn_of _ (by decide +kernel)) ggX8_onlyIn_X8_hasWork
theorem dX8_onlyIn_0 : decode cX8_onlyIn 0 = .ok (.iconst (-1), 1) := by decide +kernel
theorem dX8_onlyIn_1 : decode cX8_onlyIn 1 = .ok (.istore_n 3, 1) := by decide +kernel
theorem dX8_onlyIn_2 : decode cX8_onlyIn 2 = .ok (.iconst 0, 1) := by decide +kernel
theorem dX8_onlyIn_3 : decode cX8_onlyIn 3 = .ok (.istore 4, 2) := by decide +kernel
theorem dX8_onlyIn_5 : decode cX8_onlyIn 5 = .ok (.iload 4, 2) := by decide +kernel
theorem dX8_onlyIn_7 : decode cX8_onlyIn 7 = .ok (.aload_n 0, 1) := by decide +kernel
theorem dX8_onlyIn_8 : decode cX8_onlyIn 8 = .ok (.getfield 110, 3) := by decide +kernel
theorem dX8_onlyIn_11 : decode cX8_onlyIn 11 = .ok (.if_icmp .ge 70, 3) := by decide +kernel
theorem dX8_onlyIn_14 : decode cX8_onlyIn 14 = .ok (.aload_n 0, 1) := by decide +kernel
theorem dX8_onlyIn_15 : decode cX8_onlyIn 15 = .ok (.getfield 32, 3) := by decide +kernel
theorem dX8_onlyIn_18 : decode cX8_onlyIn 18 = .ok (.iload 4, 2) := by decide +kernel
theorem dX8_onlyIn_20 : decode cX8_onlyIn 20 = .ok (.iaload, 1) := by decide +kernel
theorem dX8_onlyIn_21 : decode cX8_onlyIn 21 = .ok (.bipush 48, 2) := by decide +kernel
theorem dX8_onlyIn_23 : decode cX8_onlyIn 23 = .ok (.idiv, 1) := by decide +kernel
theorem dX8_onlyIn_24 : decode cX8_onlyIn 24 = .ok (.istore 5, 2) := by decide +kernel
theorem dX8_onlyIn_26 : decode cX8_onlyIn 26 = .ok (.iload 4, 2) := by decide +kernel
theorem dX8_onlyIn_28 : decode cX8_onlyIn 28 = .ok (.iload_n 2, 1) := by decide +kernel
theorem dX8_onlyIn_29 : decode cX8_onlyIn 29 = .ok (.if_icmp .eq 46, 3) := by decide +kernel
theorem dX8_onlyIn_32 : decode cX8_onlyIn 32 = .ok (.aload_n 0, 1) := by decide +kernel
theorem dX8_onlyIn_33 : decode cX8_onlyIn 33 = .ok (.getfield 32, 3) := by decide +kernel
theorem dX8_onlyIn_36 : decode cX8_onlyIn 36 = .ok (.iload 4, 2) := by decide +kernel
theorem dX8_onlyIn_38 : decode cX8_onlyIn 38 = .ok (.iaload, 1) := by decide +kernel
theorem dX8_onlyIn_39 : decode cX8_onlyIn 39 = .ok (.bipush 48, 2) := by decide +kernel
theorem dX8_onlyIn_41 : decode cX8_onlyIn 41 = .ok (.irem, 1) := by decide +kernel
theorem dX8_onlyIn_42 : decode cX8_onlyIn 42 = .ok (.iload_n 1, 1) := by decide +kernel
theorem dX8_onlyIn_43 : decode cX8_onlyIn 43 = .ok (.if_icmp .ne 32, 3) := by decide +kernel
theorem dX8_onlyIn_46 : decode cX8_onlyIn 46 = .ok (.aload_n 0, 1) := by decide +kernel
theorem dX8_onlyIn_47 : decode cX8_onlyIn 47 = .ok (.iload 5, 2) := by decide +kernel
theorem dX8_onlyIn_49 : decode cX8_onlyIn 49 = .ok (.iload_n 1, 1) := by decide +kernel
theorem dX8_onlyIn_50 : decode cX8_onlyIn 50 = .ok (.invokevirtual 130, 3) := by decide +kernel
theorem dX8_onlyIn_53 : decode cX8_onlyIn 53 = .ok (.ifCond .eq 14, 3) := by decide +kernel
theorem dX8_onlyIn_56 : decode cX8_onlyIn 56 = .ok (.iload_n 3, 1) := by decide +kernel
theorem dX8_onlyIn_57 : decode cX8_onlyIn 57 = .ok (.iconst (-1), 1) := by decide +kernel
theorem dX8_onlyIn_58 : decode cX8_onlyIn 58 = .ok (.if_icmp .eq 14, 3) := by decide +kernel
theorem dX8_onlyIn_61 : decode cX8_onlyIn 61 = .ok (.iload_n 3, 1) := by decide +kernel
theorem dX8_onlyIn_62 : decode cX8_onlyIn 62 = .ok (.iload 5, 2) := by decide +kernel
theorem dX8_onlyIn_64 : decode cX8_onlyIn 64 = .ok (.if_icmp .eq 8, 3) := by decide +kernel
theorem dX8_onlyIn_67 : decode cX8_onlyIn 67 = .ok (.bipush (-2), 2) := by decide +kernel
theorem dX8_onlyIn_69 : decode cX8_onlyIn 69 = .ok (.goto 5, 3) := by decide +kernel
theorem dX8_onlyIn_72 : decode cX8_onlyIn 72 = .ok (.iload 5, 2) := by decide +kernel
theorem dX8_onlyIn_74 : decode cX8_onlyIn 74 = .ok (.istore_n 3, 1) := by decide +kernel
theorem dX8_onlyIn_75 : decode cX8_onlyIn 75 = .ok (.iinc 4 1, 3) := by decide +kernel
theorem dX8_onlyIn_78 : decode cX8_onlyIn 78 = .ok (.goto (-73), 3) := by decide +kernel
theorem dX8_onlyIn_81 : decode cX8_onlyIn 81 = .ok (.iload_n 3, 1) := by decide +kernel
theorem dX8_onlyIn_82 : decode cX8_onlyIn 82 = .ok (.ireturn, 1) := by decide +kernel
set_option maxRecDepth 20000 in
theorem ggX8_fitsBut_X8_bit : GoodIn wsX8_fitsBut wsX8_bit := goodIn_r _ [6] (by decide +kernel) (by decide +kernel)
set_option maxRecDepth 20000 in
theorem gX8_fitsBut_X8_bit : GoodIn wsX8_fitsBut (va_wsS RX8 174 yX8_bit wsX8_bit) := goodIn_app (goodIn_of _ (by decide +kernel)) ggX8_fitsBut_X8_bit
set_option maxRecDepth 20000 in
theorem ggX8_fitsBut_X8_onlyIn : GoodIn wsX8_fitsBut wsX8_onlyIn := goodIn_r _ [10, 11, 12, 13, 14, 15, 5, 16, 2, 36, 37, 38, 39, 40, 41, 42, 43, 44, 45, 46, 47, 48, 49, 50, 51, 52, 53, 54, 55, 56, 57, 58] (by decide +kernel) (by decide +kernel)
set_option maxRecDepth 20000 in
theorem gX8_fitsBut_X8_onlyIn : GoodIn wsX8_fitsBut (wsV RX8 209 RX8 yX8_onlyIn wsX8_onlyIn) := goodIn_app (goodIn_of _ (by decide +kernel)) ggX8_fitsBut_X8_onlyIn
set_option maxRecDepth 20000 in
theorem ggX8_fitsBut_X8_goes : GoodIn wsX8_fitsBut wsX8_goes := goodIn_r _ [20, 2, 21, 22, 23, 5, 24, 25, 26, 27, 28, 29, 30, 31, 32, 33, 34, 35, 3, 4, 6, 36, 37, 38, 39, 40, 41, 42, 43, 44, 45, 46, 47, 48, 49, 50, 51, 52, 53, 54, 55, 56, 57, 58] (by decide +kernel) (by decide +kernel)
set_option maxRecDepth 20000 in
theorem gX8_fitsBut_X8_goes : GoodIn wsX8_fitsBut (wsV RX8 194 RX8 yX8_goes wsX8_goes) := goodIn_app (goodIn_of _ (by decide +kernel)) ggX8_fitsBut_X8_goes
theorem dX8_fitsBut_0 : decode cX8_fitsBut 0 = .ok (.aload_n 0, 1) := by decide +kernel
theorem dX8_fitsBut_1 : decode cX8_fitsBut 1 = .ok (.getfield 52, 3) := by decide +kernel
theorem dX8_fitsBut_4 : decode cX8_fitsBut 4 = .ok (.iconst 0, 1) := by decide +kernel
theorem dX8_fitsBut_5 : decode cX8_fitsBut 5 = .ok (.aload_n 0, 1) := by decide +kernel
theorem dX8_fitsBut_6 : decode cX8_fitsBut 6 = .ok (.getfield 13, 3) := by decide +kernel
theorem dX8_fitsBut_9 : decode cX8_fitsBut 9 = .ok (.iconst 2, 1) := by decide +kernel
theorem dX8_fitsBut_10 : decode cX8_fitsBut 10 = .ok (.iaload, 1) := by decide +kernel
theorem dX8_fitsBut_11 : decode cX8_fitsBut 11 = .ok (.ifCond .ne 7, 3) := by decide +kernel
theorem dX8_fitsBut_14 : decode cX8_fitsBut 14 = .ok (.lconst 0, 1) := by decide +kernel
theorem dX8_fitsBut_15 : decode cX8_fitsBut 15 = .ok (.goto 8, 3) := by decide +kernel
theorem dX8_fitsBut_18 : decode cX8_fitsBut 18 = .ok (.iconst 0, 1) := by decide +kernel
theorem dX8_fitsBut_19 : decode cX8_fitsBut 19 = .ok (.iconst 0, 1) := by decide +kernel
theorem dX8_fitsBut_20 : decode cX8_fitsBut 20 = .ok (.invokestatic 174, 3) := by decide +kernel
theorem dX8_fitsBut_23 : decode cX8_fitsBut 23 = .ok (.lastore, 1) := by decide +kernel
theorem dX8_fitsBut_24 : decode cX8_fitsBut 24 = .ok (.iconst 0, 1) := by decide +kernel
theorem dX8_fitsBut_25 : decode cX8_fitsBut 25 = .ok (.istore_n 2, 1) := by decide +kernel
theorem dX8_fitsBut_26 : decode cX8_fitsBut 26 = .ok (.iload_n 2, 1) := by decide +kernel
theorem dX8_fitsBut_27 : decode cX8_fitsBut 27 = .ok (.bipush 48, 2) := by decide +kernel
theorem dX8_fitsBut_29 : decode cX8_fitsBut 29 = .ok (.if_icmp .ge 34, 3) := by decide +kernel
theorem dX8_fitsBut_32 : decode cX8_fitsBut 32 = .ok (.aload_n 0, 1) := by decide +kernel
theorem dX8_fitsBut_33 : decode cX8_fitsBut 33 = .ok (.getfield 52, 3) := by decide +kernel
theorem dX8_fitsBut_36 : decode cX8_fitsBut 36 = .ok (.iload_n 2, 1) := by decide +kernel
theorem dX8_fitsBut_37 : decode cX8_fitsBut 37 = .ok (.iconst 1, 1) := by decide +kernel
theorem dX8_fitsBut_38 : decode cX8_fitsBut 38 = .ok (.iadd, 1) := by decide +kernel
theorem dX8_fitsBut_39 : decode cX8_fitsBut 39 = .ok (.aload_n 0, 1) := by decide +kernel
theorem dX8_fitsBut_40 : decode cX8_fitsBut 40 = .ok (.aload_n 0, 1) := by decide +kernel
theorem dX8_fitsBut_41 : decode cX8_fitsBut 41 = .ok (.getfield 52, 3) := by decide +kernel
theorem dX8_fitsBut_44 : decode cX8_fitsBut 44 = .ok (.iload_n 2, 1) := by decide +kernel
theorem dX8_fitsBut_45 : decode cX8_fitsBut 45 = .ok (.laload, 1) := by decide +kernel
theorem dX8_fitsBut_46 : decode cX8_fitsBut 46 = .ok (.iconst 0, 1) := by decide +kernel
theorem dX8_fitsBut_47 : decode cX8_fitsBut 47 = .ok (.aload_n 0, 1) := by decide +kernel
theorem dX8_fitsBut_48 : decode cX8_fitsBut 48 = .ok (.iload_n 2, 1) := by decide +kernel
theorem dX8_fitsBut_49 : decode cX8_fitsBut 49 = .ok (.iload_n 1, 1) := by decide +kernel
theorem dX8_fitsBut_50 : decode cX8_fitsBut 50 = .ok (.invokevirtual 209, 3) := by decide +kernel
theorem dX8_fitsBut_53 : decode cX8_fitsBut 53 = .ok (.invokevirtual 194, 3) := by decide +kernel
theorem dX8_fitsBut_56 : decode cX8_fitsBut 56 = .ok (.lastore, 1) := by decide +kernel
theorem dX8_fitsBut_57 : decode cX8_fitsBut 57 = .ok (.iinc 2 1, 3) := by decide +kernel
theorem dX8_fitsBut_60 : decode cX8_fitsBut 60 = .ok (.goto (-34), 3) := by decide +kernel
theorem dX8_fitsBut_63 : decode cX8_fitsBut 63 = .ok (.aload_n 0, 1) := by decide +kernel
theorem dX8_fitsBut_64 : decode cX8_fitsBut 64 = .ok (.getfield 52, 3) := by decide +kernel
theorem dX8_fitsBut_67 : decode cX8_fitsBut 67 = .ok (.bipush 48, 2) := by decide +kernel
theorem dX8_fitsBut_69 : decode cX8_fitsBut 69 = .ok (.laload, 1) := by decide +kernel
theorem dX8_fitsBut_70 : decode cX8_fitsBut 70 = .ok (.lconst 0, 1) := by decide +kernel
theorem dX8_fitsBut_71 : decode cX8_fitsBut 71 = .ok (.lcmp, 1) := by decide +kernel
theorem dX8_fitsBut_72 : decode cX8_fitsBut 72 = .ok (.ifCond .eq 7, 3) := by decide +kernel
theorem dX8_fitsBut_75 : decode cX8_fitsBut 75 = .ok (.iconst 1, 1) := by decide +kernel
theorem dX8_fitsBut_76 : decode cX8_fitsBut 76 = .ok (.goto 4, 3) := by decide +kernel
theorem dX8_fitsBut_79 : decode cX8_fitsBut 79 = .ok (.iconst 0, 1) := by decide +kernel
theorem dX8_fitsBut_80 : decode cX8_fitsBut 80 = .ok (.ireturn, 1) := by decide +kernel
set_option maxRecDepth 20000 in
theorem ggX8_fits_X8_fitsBut : GoodIn wsX8_fits wsX8_fitsBut := goodIn_r _ [5, 6, 7, 8, 9, 4, 10, 11, 12, 13, 14, 15, 16, 17, 18, 19, 20, 21, 22, 23, 24, 25, 26, 27, 28, 29, 30, 31, 32, 33, 34, 35, 36, 37, 38, 39, 40, 41, 42, 43, 44, 45, 46, 47, 48, 49, 50, 51, 52, 53, 54, 55, 56, 57, 58, 59, 60, 61, 62] (by decide +kernel) (by decide +kernel)
set_option maxRecDepth 20000 in
theorem gX8_fits_X8_fitsBut : GoodIn wsX8_fits (wsV RX8 212 RX8 yX8_fitsBut wsX8_fitsBut) := goodIn_app (goodIn_of _ (by decide +kernel)) ggX8_fits_X8_fitsBut
theorem dX8_fits_0 : decode cX8_fits 0 = .ok (.aload_n 0, 1) := by decide +kernel
theorem dX8_fits_1 : decode cX8_fits 1 = .ok (.iconst (-1), 1) := by decide +kernel
theorem dX8_fits_2 : decode cX8_fits 2 = .ok (.invokevirtual 212, 3) := by decide +kernel
theorem dX8_fits_5 : decode cX8_fits 5 = .ok (.ifCond .eq 7, 3) := by decide +kernel
theorem dX8_fits_8 : decode cX8_fits 8 = .ok (.iconst 1, 1) := by decide +kernel
theorem dX8_fits_9 : decode cX8_fits 9 = .ok (.goto 4, 3) := by decide +kernel
theorem dX8_fits_12 : decode cX8_fits 12 = .ok (.iconst 0, 1) := by decide +kernel
theorem dX8_fits_13 : decode cX8_fits 13 = .ok (.ireturn, 1) := by decide +kernel
set_option maxRecDepth 20000 in
theorem ggX8_bought_X8_fitsBut : GoodIn wsX8_bought wsX8_fitsBut := goodIn_r _ [6, 7, 8, 9, 10, 5, 11, 12, 13, 14, 15, 1, 16, 17, 18, 19, 20, 21, 22, 23, 24, 25, 26, 27, 28, 29, 30, 31, 32, 33, 34, 35, 36, 37, 38, 39, 40, 41, 42, 43, 44, 45, 46, 47, 48, 49, 50, 51, 52, 53, 54, 55, 56, 57, 58, 59, 60, 61, 62] (by decide +kernel) (by decide +kernel)
set_option maxRecDepth 20000 in
theorem gX8_bought_X8_fitsBut : GoodIn wsX8_bought (wsV RX8 212 RX8 yX8_fitsBut wsX8_fitsBut) := goodIn_app (goodIn_of _ (by decide +kernel)) ggX8_bought_X8_fitsBut
theorem dX8_bought_0 : decode cX8_bought 0 = .ok (.iconst 0, 1) := by decide +kernel
theorem dX8_bought_1 : decode cX8_bought 1 = .ok (.istore_n 1, 1) := by decide +kernel
theorem dX8_bought_2 : decode cX8_bought 2 = .ok (.iconst 0, 1) := by decide +kernel
theorem dX8_bought_3 : decode cX8_bought 3 = .ok (.istore_n 2, 1) := by decide +kernel
theorem dX8_bought_4 : decode cX8_bought 4 = .ok (.iload_n 2, 1) := by decide +kernel
theorem dX8_bought_5 : decode cX8_bought 5 = .ok (.aload_n 0, 1) := by decide +kernel
theorem dX8_bought_6 : decode cX8_bought 6 = .ok (.getfield 110, 3) := by decide +kernel
theorem dX8_bought_9 : decode cX8_bought 9 = .ok (.if_icmp .ge 35, 3) := by decide +kernel
theorem dX8_bought_12 : decode cX8_bought 12 = .ok (.aload_n 0, 1) := by decide +kernel
theorem dX8_bought_13 : decode cX8_bought 13 = .ok (.iconst (-1), 1) := by decide +kernel
theorem dX8_bought_14 : decode cX8_bought 14 = .ok (.invokevirtual 212, 3) := by decide +kernel
theorem dX8_bought_17 : decode cX8_bought 17 = .ok (.ifCond .ne 27, 3) := by decide +kernel
theorem dX8_bought_20 : decode cX8_bought 20 = .ok (.iload_n 1, 1) := by decide +kernel
theorem dX8_bought_21 : decode cX8_bought 21 = .ok (.aload_n 0, 1) := by decide +kernel
theorem dX8_bought_22 : decode cX8_bought 22 = .ok (.iload_n 2, 1) := by decide +kernel
theorem dX8_bought_23 : decode cX8_bought 23 = .ok (.invokevirtual 212, 3) := by decide +kernel
theorem dX8_bought_26 : decode cX8_bought 26 = .ok (.ifCond .eq 9, 3) := by decide +kernel
theorem dX8_bought_29 : decode cX8_bought 29 = .ok (.iconst 1, 1) := by decide +kernel
theorem dX8_bought_30 : decode cX8_bought 30 = .ok (.iload_n 2, 1) := by decide +kernel
theorem dX8_bought_31 : decode cX8_bought 31 = .ok (.ishl, 1) := by decide +kernel
theorem dX8_bought_32 : decode cX8_bought 32 = .ok (.goto 4, 3) := by decide +kernel
theorem dX8_bought_35 : decode cX8_bought 35 = .ok (.iconst 0, 1) := by decide +kernel
theorem dX8_bought_36 : decode cX8_bought 36 = .ok (.ior, 1) := by decide +kernel
theorem dX8_bought_37 : decode cX8_bought 37 = .ok (.istore_n 1, 1) := by decide +kernel
theorem dX8_bought_38 : decode cX8_bought 38 = .ok (.iinc 2 1, 3) := by decide +kernel
theorem dX8_bought_41 : decode cX8_bought 41 = .ok (.goto (-37), 3) := by decide +kernel
theorem dX8_bought_44 : decode cX8_bought 44 = .ok (.iload_n 1, 1) := by decide +kernel
theorem dX8_bought_45 : decode cX8_bought 45 = .ok (.ireturn, 1) := by decide +kernel
set_option maxRecDepth 20000 in
theorem ggX8_ledTo_X8_goes : GoodIn wsX8_ledTo wsX8_goes := goodIn_r _ [5, 6, 7, 8, 9, 4, 10, 11, 12, 13, 14, 15, 16, 17, 18, 19, 20, 21, 22, 23, 24, 25, 26, 27, 28, 29, 30, 31, 32, 33, 34, 35, 36, 37, 38, 39, 40, 41, 42, 43, 44, 45, 46, 47] (by decide +kernel) (by decide +kernel)
set_option maxRecDepth 20000 in
theorem gX8_ledTo_X8_goes : GoodIn wsX8_ledTo (wsV RX8 194 RX8 yX8_goes wsX8_goes) := goodIn_app (goodIn_of _ (by decide +kernel)) ggX8_ledTo_X8_goes
theorem dX8_ledTo_0 : decode cX8_ledTo 0 = .ok (.lconst 0, 1) := by decide +kernel
theorem dX8_ledTo_1 : decode cX8_ledTo 1 = .ok (.lstore 6, 2) := by decide +kernel
theorem dX8_ledTo_3 : decode cX8_ledTo 3 = .ok (.iconst 0, 1) := by decide +kernel
theorem dX8_ledTo_4 : decode cX8_ledTo 4 = .ok (.istore 8, 2) := by decide +kernel
theorem dX8_ledTo_6 : decode cX8_ledTo 6 = .ok (.iload 8, 2) := by decide +kernel
theorem dX8_ledTo_8 : decode cX8_ledTo 8 = .ok (.bipush 40, 2) := by decide +kernel
theorem dX8_ledTo_10 : decode cX8_ledTo 10 = .ok (.if_icmp .ge 51, 3) := by decide +kernel
theorem dX8_ledTo_13 : decode cX8_ledTo 13 = .ok (.lload_n 1, 1) := by decide +kernel
theorem dX8_ledTo_14 : decode cX8_ledTo 14 = .ok (.lconst 1, 1) := by decide +kernel
theorem dX8_ledTo_15 : decode cX8_ledTo 15 = .ok (.iload 8, 2) := by decide +kernel
theorem dX8_ledTo_17 : decode cX8_ledTo 17 = .ok (.lshl, 1) := by decide +kernel
theorem dX8_ledTo_18 : decode cX8_ledTo 18 = .ok (.land, 1) := by decide +kernel
theorem dX8_ledTo_19 : decode cX8_ledTo 19 = .ok (.lstore 9, 2) := by decide +kernel
theorem dX8_ledTo_21 : decode cX8_ledTo 21 = .ok (.lload 6, 2) := by decide +kernel
theorem dX8_ledTo_23 : decode cX8_ledTo 23 = .ok (.lload 9, 2) := by decide +kernel
theorem dX8_ledTo_25 : decode cX8_ledTo 25 = .ok (.lconst 0, 1) := by decide +kernel
theorem dX8_ledTo_26 : decode cX8_ledTo 26 = .ok (.lcmp, 1) := by decide +kernel
theorem dX8_ledTo_27 : decode cX8_ledTo 27 = .ok (.ifCond .eq 24, 3) := by decide +kernel
theorem dX8_ledTo_30 : decode cX8_ledTo 30 = .ok (.aload_n 0, 1) := by decide +kernel
theorem dX8_ledTo_31 : decode cX8_ledTo 31 = .ok (.lload 9, 2) := by decide +kernel
theorem dX8_ledTo_33 : decode cX8_ledTo 33 = .ok (.iconst 0, 1) := by decide +kernel
theorem dX8_ledTo_34 : decode cX8_ledTo 34 = .ok (.iload 5, 2) := by decide +kernel
theorem dX8_ledTo_36 : decode cX8_ledTo 36 = .ok (.invokevirtual 194, 3) := by decide +kernel
theorem dX8_ledTo_39 : decode cX8_ledTo 39 = .ok (.lload_n 3, 1) := by decide +kernel
theorem dX8_ledTo_40 : decode cX8_ledTo 40 = .ok (.land, 1) := by decide +kernel
theorem dX8_ledTo_41 : decode cX8_ledTo 41 = .ok (.lconst 0, 1) := by decide +kernel
theorem dX8_ledTo_42 : decode cX8_ledTo 42 = .ok (.lcmp, 1) := by decide +kernel
theorem dX8_ledTo_43 : decode cX8_ledTo 43 = .ok (.ifCond .eq 8, 3) := by decide +kernel
theorem dX8_ledTo_46 : decode cX8_ledTo 46 = .ok (.lload 9, 2) := by decide +kernel
theorem dX8_ledTo_48 : decode cX8_ledTo 48 = .ok (.goto 4, 3) := by decide +kernel
theorem dX8_ledTo_51 : decode cX8_ledTo 51 = .ok (.lconst 0, 1) := by decide +kernel
theorem dX8_ledTo_52 : decode cX8_ledTo 52 = .ok (.lor, 1) := by decide +kernel
theorem dX8_ledTo_53 : decode cX8_ledTo 53 = .ok (.lstore 6, 2) := by decide +kernel
theorem dX8_ledTo_55 : decode cX8_ledTo 55 = .ok (.iinc 8 1, 3) := by decide +kernel
theorem dX8_ledTo_58 : decode cX8_ledTo 58 = .ok (.goto (-52), 3) := by decide +kernel
theorem dX8_ledTo_61 : decode cX8_ledTo 61 = .ok (.lload 6, 2) := by decide +kernel
theorem dX8_ledTo_63 : decode cX8_ledTo 63 = .ok (.lreturn, 1) := by decide +kernel
set_option maxRecDepth 20000 in
theorem ggX8_waysOn_X8_fitsBut : GoodIn wsX8_waysOn wsX8_fitsBut := goodIn_r _ [6, 1, 7, 8, 9, 5, 10, 11, 12, 13, 14, 15, 16, 17, 18, 19, 20, 21, 22, 23, 24, 25, 26, 27, 28, 29, 30, 31, 32, 33, 34, 35, 36, 37, 38, 39, 44, 45, 46, 47, 48, 49, 50, 51, 52, 53, 54, 55, 56, 57, 58, 59, 60, 61, 62, 63, 64, 65, 66] (by decide +kernel) (by decide +kernel)
set_option maxRecDepth 20000 in
theorem gX8_waysOn_X8_fitsBut : GoodIn wsX8_waysOn (wsV RX8 212 RX8 yX8_fitsBut wsX8_fitsBut) := goodIn_app (goodIn_of _ (by decide +kernel)) ggX8_waysOn_X8_fitsBut
set_option maxRecDepth 20000 in
theorem ggX8_waysOn_X8_onlyIn : GoodIn wsX8_waysOn wsX8_onlyIn := goodIn_r _ [14, 15, 16, 17, 18, 19, 5, 20, 7, 44, 45, 46, 47, 48, 49, 50, 51, 52, 53, 54, 55, 56, 57, 58, 59, 60, 61, 62, 63, 64, 65, 66] (by decide +kernel) (by decide +kernel)
set_option maxRecDepth 20000 in
theorem gX8_waysOn_X8_onlyIn : GoodIn wsX8_waysOn (wsV RX8 209 RX8 yX8_onlyIn wsX8_onlyIn) := goodIn_app (goodIn_of _ (by decide +kernel)) ggX8_waysOn_X8_onlyIn
set_option maxRecDepth 20000 in
theorem ggX8_waysOn_X8_ledTo : GoodIn wsX8_waysOn wsX8_ledTo := goodIn_r _ [43, 21, 22, 23, 5, 24, 7, 25, 26, 27, 28, 29, 30, 31, 32, 33, 34, 35, 36, 37, 38, 39, 8, 9, 10, 44, 45, 46, 47, 48, 49, 50, 51, 52, 53, 54, 55, 56, 57, 58, 59, 60, 61, 62, 63, 64, 65, 66] (by decide +kernel) (by decide +kernel)
set_option maxRecDepth 20000 in
theorem gX8_waysOn_X8_ledTo : GoodIn wsX8_waysOn (wsV RX8 215 RX8 yX8_ledTo wsX8_ledTo) := goodIn_app (goodIn_of _ (by decide +kernel)) ggX8_waysOn_X8_ledTo
theorem dX8_waysOn_0 : decode cX8_waysOn 0 = .ok (.aload_n 0, 1) := by decide +kernel
theorem dX8_waysOn_1 : decode cX8_waysOn 1 = .ok (.iconst (-1), 1) := by decide +kernel
theorem dX8_waysOn_2 : decode cX8_waysOn 2 = .ok (.invokevirtual 212, 3) := by decide +kernel
theorem dX8_waysOn_5 : decode cX8_waysOn 5 = .ok (.pop, 1) := by decide +kernel
theorem dX8_waysOn_6 : decode cX8_waysOn 6 = .ok (.bipush 47, 2) := by decide +kernel
theorem dX8_waysOn_8 : decode cX8_waysOn 8 = .ok (.istore_n 1, 1) := by decide +kernel
theorem dX8_waysOn_9 : decode cX8_waysOn 9 = .ok (.iload_n 1, 1) := by decide +kernel
theorem dX8_waysOn_10 : decode cX8_waysOn 10 = .ok (.ifCond .lt 39, 3) := by decide +kernel
theorem dX8_waysOn_13 : decode cX8_waysOn 13 = .ok (.aload_n 0, 1) := by decide +kernel
theorem dX8_waysOn_14 : decode cX8_waysOn 14 = .ok (.getfield 52, 3) := by decide +kernel
theorem dX8_waysOn_17 : decode cX8_waysOn 17 = .ok (.iload_n 1, 1) := by decide +kernel
theorem dX8_waysOn_18 : decode cX8_waysOn 18 = .ok (.aload_n 0, 1) := by decide +kernel
theorem dX8_waysOn_19 : decode cX8_waysOn 19 = .ok (.aload_n 0, 1) := by decide +kernel
theorem dX8_waysOn_20 : decode cX8_waysOn 20 = .ok (.getfield 52, 3) := by decide +kernel
theorem dX8_waysOn_23 : decode cX8_waysOn 23 = .ok (.iload_n 1, 1) := by decide +kernel
theorem dX8_waysOn_24 : decode cX8_waysOn 24 = .ok (.laload, 1) := by decide +kernel
theorem dX8_waysOn_25 : decode cX8_waysOn 25 = .ok (.aload_n 0, 1) := by decide +kernel
theorem dX8_waysOn_26 : decode cX8_waysOn 26 = .ok (.getfield 52, 3) := by decide +kernel
theorem dX8_waysOn_29 : decode cX8_waysOn 29 = .ok (.iload_n 1, 1) := by decide +kernel
theorem dX8_waysOn_30 : decode cX8_waysOn 30 = .ok (.iconst 1, 1) := by decide +kernel
theorem dX8_waysOn_31 : decode cX8_waysOn 31 = .ok (.iadd, 1) := by decide +kernel
theorem dX8_waysOn_32 : decode cX8_waysOn 32 = .ok (.laload, 1) := by decide +kernel
theorem dX8_waysOn_33 : decode cX8_waysOn 33 = .ok (.aload_n 0, 1) := by decide +kernel
theorem dX8_waysOn_34 : decode cX8_waysOn 34 = .ok (.iload_n 1, 1) := by decide +kernel
theorem dX8_waysOn_35 : decode cX8_waysOn 35 = .ok (.iconst (-1), 1) := by decide +kernel
theorem dX8_waysOn_36 : decode cX8_waysOn 36 = .ok (.invokevirtual 209, 3) := by decide +kernel
theorem dX8_waysOn_39 : decode cX8_waysOn 39 = .ok (.invokevirtual 215, 3) := by decide +kernel
theorem dX8_waysOn_42 : decode cX8_waysOn 42 = .ok (.lastore, 1) := by decide +kernel
theorem dX8_waysOn_43 : decode cX8_waysOn 43 = .ok (.iinc 1 (-1), 3) := by decide +kernel
theorem dX8_waysOn_46 : decode cX8_waysOn 46 = .ok (.goto (-37), 3) := by decide +kernel
theorem dX8_waysOn_49 : decode cX8_waysOn 49 = .ok (.return_, 1) := by decide +kernel
set_option maxRecDepth 20000 in
theorem ggX8_was_X8_in : GoodIn wsX8_was wsX8_in := goodIn_r _ [6] (by decide +kernel) (by decide +kernel)
set_option maxRecDepth 20000 in
theorem gX8_was_X8_in : GoodIn wsX8_was (va_wsS RX8 55 yX8_in wsX8_in) := goodIn_app (goodIn_of _ (by decide +kernel)) ggX8_was_X8_in
set_option maxRecDepth 20000 in
theorem ggX8_was_X8_waysOn : GoodIn wsX8_was wsX8_waysOn := goodIn_r _ [10, 2, 11, 12, 13, 5, 14, 15, 16, 17, 18, 19, 20, 21, 22, 23, 24, 25, 26, 27, 28, 29, 30, 31, 32, 33, 34, 35, 36, 37, 38, 39, 40, 41, 42, 43, 44, 45, 46, 47, 48, 49, 50, 51, 56, 57, 58, 59, 60, 61, 62, 63, 64, 65, 66, 67, 68, 69, 70, 71, 72, 73, 74, 75, 76, 77, 78] (by decide +kernel) (by decide +kernel)
set_option maxRecDepth 20000 in
theorem gX8_was_X8_waysOn : GoodIn wsX8_was (wsV RX8 219 RX8 yX8_waysOn wsX8_waysOn) := goodIn_app (goodIn_of _ (by decide +kernel)) ggX8_was_X8_waysOn
set_option maxRecDepth 20000 in
theorem ggX8_was_X8_towns : GoodIn wsX8_was wsX8_towns := goodIn_r _ [54, 55] (by decide +kernel) (by decide +kernel)
set_option maxRecDepth 20000 in
theorem gX8_was_X8_towns : GoodIn wsX8_was (va_wsS RX8 198 yX8_towns wsX8_towns) := goodIn_app (goodIn_of _ (by decide +kernel)) ggX8_was_X8_towns
theorem dX8_was_0 : decode cX8_was 0 = .ok (.iload_n 1, 1) := by decide +kernel
theorem dX8_was_1 : decode cX8_was 1 = .ok (.iconst 0, 1) := by decide +kernel
theorem dX8_was_2 : decode cX8_was 2 = .ok (.bipush 48, 2) := by decide +kernel
theorem dX8_was_4 : decode cX8_was 4 = .ok (.invokestatic 55, 3) := by decide +kernel
theorem dX8_was_7 : decode cX8_was 7 = .ok (.ifCond .ne 6, 3) := by decide +kernel
theorem dX8_was_10 : decode cX8_was 10 = .ok (.ldc 59, 2) := by decide +kernel
theorem dX8_was_12 : decode cX8_was 12 = .ok (.ireturn, 1) := by decide +kernel
theorem dX8_was_13 : decode cX8_was 13 = .ok (.aload_n 0, 1) := by decide +kernel
theorem dX8_was_14 : decode cX8_was 14 = .ok (.invokevirtual 219, 3) := by decide +kernel
theorem dX8_was_17 : decode cX8_was 17 = .ok (.aload_n 0, 1) := by decide +kernel
theorem dX8_was_18 : decode cX8_was 18 = .ok (.getfield 52, 3) := by decide +kernel
theorem dX8_was_21 : decode cX8_was 21 = .ok (.iload_n 1, 1) := by decide +kernel
theorem dX8_was_22 : decode cX8_was 22 = .ok (.laload, 1) := by decide +kernel
theorem dX8_was_23 : decode cX8_was 23 = .ok (.invokestatic 198, 3) := by decide +kernel
theorem dX8_was_26 : decode cX8_was 26 = .ok (.ireturn, 1) := by decide +kernel
set_option maxRecDepth 20000 in
theorem ggX8_ask_X8_waysOn : GoodIn wsX8_ask wsX8_waysOn := goodIn_r _ [6, 1, 7, 8, 9, 5, 10, 11, 12, 13, 14, 15, 16, 17, 18, 19, 20, 21, 22, 23, 24, 25, 26, 27, 28, 29, 30, 31, 32, 33, 34, 35, 36, 37, 38, 39, 40, 41, 42, 43, 44, 45, 46, 47, 55, 56, 57, 58, 59, 60, 61, 62, 63, 64, 65, 66, 67, 68, 69, 70, 71, 72, 73, 74, 75, 76, 77] (by decide +kernel) (by decide +kernel)
set_option maxRecDepth 20000 in
theorem gX8_ask_X8_waysOn : GoodIn wsX8_ask (wsV RX8 219 RX8 yX8_waysOn wsX8_waysOn) := goodIn_app (goodIn_of _ (by decide +kernel)) ggX8_ask_X8_waysOn
set_option maxRecDepth 20000 in
theorem ggX8_ask_X8_towns : GoodIn wsX8_ask wsX8_towns := goodIn_r _ [50, 51] (by decide +kernel) (by decide +kernel)
set_option maxRecDepth 20000 in
theorem gX8_ask_X8_towns : GoodIn wsX8_ask (va_wsS RX8 198 yX8_towns wsX8_towns) := goodIn_app (goodIn_of _ (by decide +kernel)) ggX8_ask_X8_towns
set_option maxRecDepth 20000 in
theorem ggX8_ask_X8_ones : GoodIn wsX8_ask wsX8_ones := goodIn_r _ [54] (by decide +kernel) (by decide +kernel)
set_option maxRecDepth 20000 in
theorem gX8_ask_X8_ones : GoodIn wsX8_ask (va_wsS RX8 222 yX8_ones wsX8_ones) := goodIn_app (goodIn_of _ (by decide +kernel)) ggX8_ask_X8_ones
theorem dX8_ask_0 : decode cX8_ask 0 = .ok (.aload_n 0, 1) := by decide +kernel
theorem dX8_ask_1 : decode cX8_ask 1 = .ok (.invokevirtual 219, 3) := by decide +kernel
theorem dX8_ask_4 : decode cX8_ask 4 = .ok (.iconst (-1), 1) := by decide +kernel
theorem dX8_ask_5 : decode cX8_ask 5 = .ok (.istore_n 1, 1) := by decide +kernel
theorem dX8_ask_6 : decode cX8_ask 6 = .ok (.iconst 1, 1) := by decide +kernel
theorem dX8_ask_7 : decode cX8_ask 7 = .ok (.istore_n 2, 1) := by decide +kernel
theorem dX8_ask_8 : decode cX8_ask 8 = .ok (.iconst 1, 1) := by decide +kernel
theorem dX8_ask_9 : decode cX8_ask 9 = .ok (.istore_n 3, 1) := by decide +kernel
theorem dX8_ask_10 : decode cX8_ask 10 = .ok (.iload_n 3, 1) := by decide +kernel
theorem dX8_ask_11 : decode cX8_ask 11 = .ok (.bipush 48, 2) := by decide +kernel
theorem dX8_ask_13 : decode cX8_ask 13 = .ok (.if_icmp .gt 48, 3) := by decide +kernel
theorem dX8_ask_16 : decode cX8_ask 16 = .ok (.aload_n 0, 1) := by decide +kernel
theorem dX8_ask_17 : decode cX8_ask 17 = .ok (.getfield 52, 3) := by decide +kernel
theorem dX8_ask_20 : decode cX8_ask 20 = .ok (.iload_n 3, 1) := by decide +kernel
theorem dX8_ask_21 : decode cX8_ask 21 = .ok (.laload, 1) := by decide +kernel
theorem dX8_ask_22 : decode cX8_ask 22 = .ok (.invokestatic 198, 3) := by decide +kernel
theorem dX8_ask_25 : decode cX8_ask 25 = .ok (.invokestatic 222, 3) := by decide +kernel
theorem dX8_ask_28 : decode cX8_ask 28 = .ok (.istore 4, 2) := by decide +kernel
theorem dX8_ask_30 : decode cX8_ask 30 = .ok (.iload 4, 2) := by decide +kernel
theorem dX8_ask_32 : decode cX8_ask 32 = .ok (.iload_n 2, 1) := by decide +kernel
theorem dX8_ask_33 : decode cX8_ask 33 = .ok (.if_icmp .le 7, 3) := by decide +kernel
theorem dX8_ask_36 : decode cX8_ask 36 = .ok (.iload_n 3, 1) := by decide +kernel
theorem dX8_ask_37 : decode cX8_ask 37 = .ok (.goto 4, 3) := by decide +kernel
theorem dX8_ask_40 : decode cX8_ask 40 = .ok (.iload_n 1, 1) := by decide +kernel
theorem dX8_ask_41 : decode cX8_ask 41 = .ok (.istore_n 1, 1) := by decide +kernel
theorem dX8_ask_42 : decode cX8_ask 42 = .ok (.iload 4, 2) := by decide +kernel
theorem dX8_ask_44 : decode cX8_ask 44 = .ok (.iload_n 2, 1) := by decide +kernel
theorem dX8_ask_45 : decode cX8_ask 45 = .ok (.if_icmp .le 8, 3) := by decide +kernel
theorem dX8_ask_48 : decode cX8_ask 48 = .ok (.iload 4, 2) := by decide +kernel
theorem dX8_ask_50 : decode cX8_ask 50 = .ok (.goto 4, 3) := by decide +kernel
theorem dX8_ask_53 : decode cX8_ask 53 = .ok (.iload_n 2, 1) := by decide +kernel
theorem dX8_ask_54 : decode cX8_ask 54 = .ok (.istore_n 2, 1) := by decide +kernel
theorem dX8_ask_55 : decode cX8_ask 55 = .ok (.iinc 3 1, 3) := by decide +kernel
theorem dX8_ask_58 : decode cX8_ask 58 = .ok (.goto (-48), 3) := by decide +kernel
theorem dX8_ask_61 : decode cX8_ask 61 = .ok (.iload_n 1, 1) := by decide +kernel
theorem dX8_ask_62 : decode cX8_ask 62 = .ok (.ireturn, 1) := by decide +kernel
set_option maxRecDepth 20000 in
theorem ggX8_write_X8_in : GoodIn wsX8_write wsX8_in := goodIn_r _ [8] (by decide +kernel) (by decide +kernel)
set_option maxRecDepth 20000 in
theorem gX8_write_X8_in : GoodIn wsX8_write (va_wsS RX8 55 yX8_in wsX8_in) := goodIn_app (goodIn_of _ (by decide +kernel)) ggX8_write_X8_in
theorem dX8_write_0 : decode cX8_write 0 = .ok (.iload_n 1, 1) := by decide +kernel
theorem dX8_write_1 : decode cX8_write 1 = .ok (.iconst 0, 1) := by decide +kernel
theorem dX8_write_2 : decode cX8_write 2 = .ok (.sipush 9999, 3) := by decide +kernel
theorem dX8_write_5 : decode cX8_write 5 = .ok (.invokestatic 55, 3) := by decide +kernel
theorem dX8_write_8 : decode cX8_write 8 = .ok (.ifCond .ne 6, 3) := by decide +kernel
theorem dX8_write_11 : decode cX8_write 11 = .ok (.ldc 59, 2) := by decide +kernel
theorem dX8_write_13 : decode cX8_write 13 = .ok (.ireturn, 1) := by decide +kernel
theorem dX8_write_14 : decode cX8_write 14 = .ok (.aload_n 0, 1) := by decide +kernel
theorem dX8_write_15 : decode cX8_write 15 = .ok (.getfield 113, 3) := by decide +kernel
theorem dX8_write_18 : decode cX8_write 18 = .ok (.bipush 15, 2) := by decide +kernel
theorem dX8_write_20 : decode cX8_write 20 = .ok (.if_icmp .ne 6, 3) := by decide +kernel
theorem dX8_write_23 : decode cX8_write 23 = .ok (.ldc 63, 2) := by decide +kernel
theorem dX8_write_25 : decode cX8_write 25 = .ok (.ireturn, 1) := by decide +kernel
theorem dX8_write_26 : decode cX8_write 26 = .ok (.aload_n 0, 1) := by decide +kernel
theorem dX8_write_27 : decode cX8_write 27 = .ok (.getfield 35, 3) := by decide +kernel
theorem dX8_write_30 : decode cX8_write 30 = .ok (.aload_n 0, 1) := by decide +kernel
theorem dX8_write_31 : decode cX8_write 31 = .ok (.getfield 113, 3) := by decide +kernel
theorem dX8_write_34 : decode cX8_write 34 = .ok (.iload_n 1, 1) := by decide +kernel
theorem dX8_write_35 : decode cX8_write 35 = .ok (.iastore, 1) := by decide +kernel
theorem dX8_write_36 : decode cX8_write 36 = .ok (.aload_n 0, 1) := by decide +kernel
theorem dX8_write_37 : decode cX8_write 37 = .ok (.dup, 1) := by decide +kernel
theorem dX8_write_38 : decode cX8_write 38 = .ok (.getfield 113, 3) := by decide +kernel
theorem dX8_write_41 : decode cX8_write 41 = .ok (.iconst 1, 1) := by decide +kernel
theorem dX8_write_42 : decode cX8_write 42 = .ok (.iadd, 1) := by decide +kernel
theorem dX8_write_43 : decode cX8_write 43 = .ok (.putfield 113, 3) := by decide +kernel
theorem dX8_write_46 : decode cX8_write 46 = .ok (.aload_n 0, 1) := by decide +kernel
theorem dX8_write_47 : decode cX8_write 47 = .ok (.getfield 113, 3) := by decide +kernel
theorem dX8_write_50 : decode cX8_write 50 = .ok (.ireturn, 1) := by decide +kernel
theorem dX8_tear_0 : decode cX8_tear 0 = .ok (.aload_n 0, 1) := by decide +kernel
theorem dX8_tear_1 : decode cX8_tear 1 = .ok (.getfield 110, 3) := by decide +kernel
theorem dX8_tear_4 : decode cX8_tear 4 = .ok (.aload_n 0, 1) := by decide +kernel
theorem dX8_tear_5 : decode cX8_tear 5 = .ok (.getfield 113, 3) := by decide +kernel
theorem dX8_tear_8 : decode cX8_tear 8 = .ok (.iadd, 1) := by decide +kernel
theorem dX8_tear_9 : decode cX8_tear 9 = .ok (.istore_n 1, 1) := by decide +kernel
theorem dX8_tear_10 : decode cX8_tear 10 = .ok (.aload_n 0, 1) := by decide +kernel
theorem dX8_tear_11 : decode cX8_tear 11 = .ok (.iconst 0, 1) := by decide +kernel
theorem dX8_tear_12 : decode cX8_tear 12 = .ok (.putfield 110, 3) := by decide +kernel
theorem dX8_tear_15 : decode cX8_tear 15 = .ok (.aload_n 0, 1) := by decide +kernel
theorem dX8_tear_16 : decode cX8_tear 16 = .ok (.iconst 0, 1) := by decide +kernel
theorem dX8_tear_17 : decode cX8_tear 17 = .ok (.putfield 113, 3) := by decide +kernel
theorem dX8_tear_20 : decode cX8_tear 20 = .ok (.iload_n 1, 1) := by decide +kernel
theorem dX8_tear_21 : decode cX8_tear 21 = .ok (.ireturn, 1) := by decide +kernel
theorem dX8_judge_0 : decode cX8_judge 0 = .ok (.iconst (-1), 1) := by decide +kernel
theorem dX8_judge_1 : decode cX8_judge 1 = .ok (.istore_n 1, 1) := by decide +kernel
theorem dX8_judge_2 : decode cX8_judge 2 = .ok (.aload_n 0, 1) := by decide +kernel
theorem dX8_judge_3 : decode cX8_judge 3 = .ok (.getfield 113, 3) := by decide +kernel
theorem dX8_judge_6 : decode cX8_judge 6 = .ok (.iconst 1, 1) := by decide +kernel
theorem dX8_judge_7 : decode cX8_judge 7 = .ok (.isub, 1) := by decide +kernel
theorem dX8_judge_8 : decode cX8_judge 8 = .ok (.istore_n 2, 1) := by decide +kernel
theorem dX8_judge_9 : decode cX8_judge 9 = .ok (.iload_n 2, 1) := by decide +kernel
theorem dX8_judge_10 : decode cX8_judge 10 = .ok (.ifCond .lt 30, 3) := by decide +kernel
theorem dX8_judge_13 : decode cX8_judge 13 = .ok (.aload_n 0, 1) := by decide +kernel
theorem dX8_judge_14 : decode cX8_judge 14 = .ok (.getfield 35, 3) := by decide +kernel
theorem dX8_judge_17 : decode cX8_judge 17 = .ok (.iload_n 2, 1) := by decide +kernel
theorem dX8_judge_18 : decode cX8_judge 18 = .ok (.iaload, 1) := by decide +kernel
theorem dX8_judge_19 : decode cX8_judge 19 = .ok (.aload_n 0, 1) := by decide +kernel
theorem dX8_judge_20 : decode cX8_judge 20 = .ok (.getfield 19, 3) := by decide +kernel
theorem dX8_judge_23 : decode cX8_judge 23 = .ok (.iconst 3, 1) := by decide +kernel
theorem dX8_judge_24 : decode cX8_judge 24 = .ok (.iaload, 1) := by decide +kernel
theorem dX8_judge_25 : decode cX8_judge 25 = .ok (.if_icmp .eq 7, 3) := by decide +kernel
theorem dX8_judge_28 : decode cX8_judge 28 = .ok (.iload_n 2, 1) := by decide +kernel
theorem dX8_judge_29 : decode cX8_judge 29 = .ok (.goto 4, 3) := by decide +kernel
theorem dX8_judge_32 : decode cX8_judge 32 = .ok (.iload_n 1, 1) := by decide +kernel
theorem dX8_judge_33 : decode cX8_judge 33 = .ok (.istore_n 1, 1) := by decide +kernel
theorem dX8_judge_34 : decode cX8_judge 34 = .ok (.iinc 2 (-1), 3) := by decide +kernel
theorem dX8_judge_37 : decode cX8_judge 37 = .ok (.goto (-28), 3) := by decide +kernel
theorem dX8_judge_40 : decode cX8_judge 40 = .ok (.iload_n 1, 1) := by decide +kernel
theorem dX8_judge_41 : decode cX8_judge 41 = .ok (.ireturn, 1) := by decide +kernel
theorem dX8_seed_0 : decode cX8_seed 0 = .ok (.iload_n 1, 1) := by decide +kernel
theorem dX8_seed_1 : decode cX8_seed 1 = .ok (.ifCond .ge 6, 3) := by decide +kernel
theorem dX8_seed_4 : decode cX8_seed 4 = .ok (.ldc 59, 2) := by decide +kernel
theorem dX8_seed_6 : decode cX8_seed 6 = .ok (.ireturn, 1) := by decide +kernel
theorem dX8_seed_7 : decode cX8_seed 7 = .ok (.aload_n 0, 1) := by decide +kernel
theorem dX8_seed_8 : decode cX8_seed 8 = .ok (.getfield 153, 3) := by decide +kernel
theorem dX8_seed_11 : decode cX8_seed 11 = .ok (.istore_n 2, 1) := by decide +kernel
theorem dX8_seed_12 : decode cX8_seed 12 = .ok (.aload_n 0, 1) := by decide +kernel
theorem dX8_seed_13 : decode cX8_seed 13 = .ok (.iload_n 1, 1) := by decide +kernel
theorem dX8_seed_14 : decode cX8_seed 14 = .ok (.putfield 153, 3) := by decide +kernel
theorem dX8_seed_17 : decode cX8_seed 17 = .ok (.iload_n 2, 1) := by decide +kernel
theorem dX8_seed_18 : decode cX8_seed 18 = .ok (.ireturn, 1) := by decide +kernel
set_option maxRecDepth 20000 in
theorem ggX8_keep_X8_in : GoodIn wsX8_keep wsX8_in := goodIn_r _ [10] (by decide +kernel) (by decide +kernel)
set_option maxRecDepth 20000 in
theorem gX8_keep_X8_in : GoodIn wsX8_keep (va_wsS RX8 55 yX8_in wsX8_in) := goodIn_app (goodIn_of _ (by decide +kernel)) ggX8_keep_X8_in
theorem dX8_keep_0 : decode cX8_keep 0 = .ok (.iload_n 1, 1) := by decide +kernel
theorem dX8_keep_1 : decode cX8_keep 1 = .ok (.iconst 0, 1) := by decide +kernel
theorem dX8_keep_2 : decode cX8_keep 2 = .ok (.iconst 1, 1) := by decide +kernel
theorem dX8_keep_3 : decode cX8_keep 3 = .ok (.invokestatic 55, 3) := by decide +kernel
theorem dX8_keep_6 : decode cX8_keep 6 = .ok (.ifCond .ne 6, 3) := by decide +kernel
theorem dX8_keep_9 : decode cX8_keep 9 = .ok (.ldc 126, 2) := by decide +kernel
theorem dX8_keep_11 : decode cX8_keep 11 = .ok (.ireturn, 1) := by decide +kernel
theorem dX8_keep_12 : decode cX8_keep 12 = .ok (.iconst 0, 1) := by decide +kernel
theorem dX8_keep_13 : decode cX8_keep 13 = .ok (.istore_n 2, 1) := by decide +kernel
theorem dX8_keep_14 : decode cX8_keep 14 = .ok (.iload_n 2, 1) := by decide +kernel
theorem dX8_keep_15 : decode cX8_keep 15 = .ok (.bipush 7, 2) := by decide +kernel
theorem dX8_keep_17 : decode cX8_keep 17 = .ok (.if_icmp .ge 26, 3) := by decide +kernel
theorem dX8_keep_20 : decode cX8_keep 20 = .ok (.aload_n 0, 1) := by decide +kernel
theorem dX8_keep_21 : decode cX8_keep 21 = .ok (.getfield 25, 3) := by decide +kernel
theorem dX8_keep_24 : decode cX8_keep 24 = .ok (.bipush 8, 2) := by decide +kernel
theorem dX8_keep_26 : decode cX8_keep 26 = .ok (.iload_n 1, 1) := by decide +kernel
theorem dX8_keep_27 : decode cX8_keep 27 = .ok (.imul, 1) := by decide +kernel
theorem dX8_keep_28 : decode cX8_keep 28 = .ok (.iload_n 2, 1) := by decide +kernel
theorem dX8_keep_29 : decode cX8_keep 29 = .ok (.iadd, 1) := by decide +kernel
theorem dX8_keep_30 : decode cX8_keep 30 = .ok (.aload_n 0, 1) := by decide +kernel
theorem dX8_keep_31 : decode cX8_keep 31 = .ok (.getfield 19, 3) := by decide +kernel
theorem dX8_keep_34 : decode cX8_keep 34 = .ok (.iload_n 2, 1) := by decide +kernel
theorem dX8_keep_35 : decode cX8_keep 35 = .ok (.iaload, 1) := by decide +kernel
theorem dX8_keep_36 : decode cX8_keep 36 = .ok (.iastore, 1) := by decide +kernel
theorem dX8_keep_37 : decode cX8_keep 37 = .ok (.iinc 2 1, 3) := by decide +kernel
theorem dX8_keep_40 : decode cX8_keep 40 = .ok (.goto (-26), 3) := by decide +kernel
theorem dX8_keep_43 : decode cX8_keep 43 = .ok (.aload_n 0, 1) := by decide +kernel
theorem dX8_keep_44 : decode cX8_keep 44 = .ok (.getfield 25, 3) := by decide +kernel
theorem dX8_keep_47 : decode cX8_keep 47 = .ok (.bipush 8, 2) := by decide +kernel
theorem dX8_keep_49 : decode cX8_keep 49 = .ok (.iload_n 1, 1) := by decide +kernel
theorem dX8_keep_50 : decode cX8_keep 50 = .ok (.imul, 1) := by decide +kernel
theorem dX8_keep_51 : decode cX8_keep 51 = .ok (.bipush 7, 2) := by decide +kernel
theorem dX8_keep_53 : decode cX8_keep 53 = .ok (.iadd, 1) := by decide +kernel
theorem dX8_keep_54 : decode cX8_keep 54 = .ok (.aload_n 0, 1) := by decide +kernel
theorem dX8_keep_55 : decode cX8_keep 55 = .ok (.getfield 153, 3) := by decide +kernel
theorem dX8_keep_58 : decode cX8_keep 58 = .ok (.iastore, 1) := by decide +kernel
theorem dX8_keep_59 : decode cX8_keep 59 = .ok (.aload_n 0, 1) := by decide +kernel
theorem dX8_keep_60 : decode cX8_keep 60 = .ok (.getfield 28, 3) := by decide +kernel
theorem dX8_keep_63 : decode cX8_keep 63 = .ok (.iload_n 1, 1) := by decide +kernel
theorem dX8_keep_64 : decode cX8_keep 64 = .ok (.iconst 1, 1) := by decide +kernel
theorem dX8_keep_65 : decode cX8_keep 65 = .ok (.bastore, 1) := by decide +kernel
theorem dX8_keep_66 : decode cX8_keep 66 = .ok (.aload_n 0, 1) := by decide +kernel
theorem dX8_keep_67 : decode cX8_keep 67 = .ok (.iconst 0, 1) := by decide +kernel
theorem dX8_keep_68 : decode cX8_keep 68 = .ok (.putfield 107, 3) := by decide +kernel
theorem dX8_keep_71 : decode cX8_keep 71 = .ok (.iconst 1, 1) := by decide +kernel
theorem dX8_keep_72 : decode cX8_keep 72 = .ok (.ireturn, 1) := by decide +kernel
set_option maxRecDepth 20000 in
theorem ggX8_goBack_X8_in : GoodIn wsX8_goBack wsX8_in := goodIn_r _ [11] (by decide +kernel) (by decide +kernel)
set_option maxRecDepth 20000 in
theorem gX8_goBack_X8_in : GoodIn wsX8_goBack (va_wsS RX8 55 yX8_in wsX8_in) := goodIn_app (goodIn_of _ (by decide +kernel)) ggX8_goBack_X8_in
theorem dX8_goBack_0 : decode cX8_goBack 0 = .ok (.iload_n 1, 1) := by decide +kernel
theorem dX8_goBack_1 : decode cX8_goBack 1 = .ok (.iconst 0, 1) := by decide +kernel
theorem dX8_goBack_2 : decode cX8_goBack 2 = .ok (.iconst 1, 1) := by decide +kernel
theorem dX8_goBack_3 : decode cX8_goBack 3 = .ok (.invokestatic 55, 3) := by decide +kernel
theorem dX8_goBack_6 : decode cX8_goBack 6 = .ok (.ifCond .ne 6, 3) := by decide +kernel
theorem dX8_goBack_9 : decode cX8_goBack 9 = .ok (.ldc 126, 2) := by decide +kernel
theorem dX8_goBack_11 : decode cX8_goBack 11 = .ok (.ireturn, 1) := by decide +kernel
theorem dX8_goBack_12 : decode cX8_goBack 12 = .ok (.aload_n 0, 1) := by decide +kernel
theorem dX8_goBack_13 : decode cX8_goBack 13 = .ok (.getfield 28, 3) := by decide +kernel
theorem dX8_goBack_16 : decode cX8_goBack 16 = .ok (.iload_n 1, 1) := by decide +kernel
theorem dX8_goBack_17 : decode cX8_goBack 17 = .ok (.baload, 1) := by decide +kernel
theorem dX8_goBack_18 : decode cX8_goBack 18 = .ok (.ifCond .ne 6, 3) := by decide +kernel
theorem dX8_goBack_21 : decode cX8_goBack 21 = .ok (.ldc 139, 2) := by decide +kernel
theorem dX8_goBack_23 : decode cX8_goBack 23 = .ok (.ireturn, 1) := by decide +kernel
theorem dX8_goBack_24 : decode cX8_goBack 24 = .ok (.iconst 0, 1) := by decide +kernel
theorem dX8_goBack_25 : decode cX8_goBack 25 = .ok (.istore_n 2, 1) := by decide +kernel
theorem dX8_goBack_26 : decode cX8_goBack 26 = .ok (.iload_n 2, 1) := by decide +kernel
theorem dX8_goBack_27 : decode cX8_goBack 27 = .ok (.bipush 7, 2) := by decide +kernel
theorem dX8_goBack_29 : decode cX8_goBack 29 = .ok (.if_icmp .ge 26, 3) := by decide +kernel
theorem dX8_goBack_32 : decode cX8_goBack 32 = .ok (.aload_n 0, 1) := by decide +kernel
theorem dX8_goBack_33 : decode cX8_goBack 33 = .ok (.getfield 19, 3) := by decide +kernel
theorem dX8_goBack_36 : decode cX8_goBack 36 = .ok (.iload_n 2, 1) := by decide +kernel
theorem dX8_goBack_37 : decode cX8_goBack 37 = .ok (.aload_n 0, 1) := by decide +kernel
theorem dX8_goBack_38 : decode cX8_goBack 38 = .ok (.getfield 25, 3) := by decide +kernel
theorem dX8_goBack_41 : decode cX8_goBack 41 = .ok (.bipush 8, 2) := by decide +kernel
theorem dX8_goBack_43 : decode cX8_goBack 43 = .ok (.iload_n 1, 1) := by decide +kernel
theorem dX8_goBack_44 : decode cX8_goBack 44 = .ok (.imul, 1) := by decide +kernel
theorem dX8_goBack_45 : decode cX8_goBack 45 = .ok (.iload_n 2, 1) := by decide +kernel
theorem dX8_goBack_46 : decode cX8_goBack 46 = .ok (.iadd, 1) := by decide +kernel
theorem dX8_goBack_47 : decode cX8_goBack 47 = .ok (.iaload, 1) := by decide +kernel
theorem dX8_goBack_48 : decode cX8_goBack 48 = .ok (.iastore, 1) := by decide +kernel
theorem dX8_goBack_49 : decode cX8_goBack 49 = .ok (.iinc 2 1, 3) := by decide +kernel
theorem dX8_goBack_52 : decode cX8_goBack 52 = .ok (.goto (-26), 3) := by decide +kernel
theorem dX8_goBack_55 : decode cX8_goBack 55 = .ok (.aload_n 0, 1) := by decide +kernel
theorem dX8_goBack_56 : decode cX8_goBack 56 = .ok (.aload_n 0, 1) := by decide +kernel
theorem dX8_goBack_57 : decode cX8_goBack 57 = .ok (.getfield 25, 3) := by decide +kernel
theorem dX8_goBack_60 : decode cX8_goBack 60 = .ok (.bipush 8, 2) := by decide +kernel
theorem dX8_goBack_62 : decode cX8_goBack 62 = .ok (.iload_n 1, 1) := by decide +kernel
theorem dX8_goBack_63 : decode cX8_goBack 63 = .ok (.imul, 1) := by decide +kernel
theorem dX8_goBack_64 : decode cX8_goBack 64 = .ok (.bipush 7, 2) := by decide +kernel
theorem dX8_goBack_66 : decode cX8_goBack 66 = .ok (.iadd, 1) := by decide +kernel
theorem dX8_goBack_67 : decode cX8_goBack 67 = .ok (.iaload, 1) := by decide +kernel
theorem dX8_goBack_68 : decode cX8_goBack 68 = .ok (.putfield 153, 3) := by decide +kernel
theorem dX8_goBack_71 : decode cX8_goBack 71 = .ok (.aload_n 0, 1) := by decide +kernel
theorem dX8_goBack_72 : decode cX8_goBack 72 = .ok (.iconst 0, 1) := by decide +kernel
theorem dX8_goBack_73 : decode cX8_goBack 73 = .ok (.putfield 107, 3) := by decide +kernel
theorem dX8_goBack_76 : decode cX8_goBack 76 = .ok (.iconst 1, 1) := by decide +kernel
theorem dX8_goBack_77 : decode cX8_goBack 77 = .ok (.ireturn, 1) := by decide +kernel
theorem dJ6_bitCount_0f7a4_0 : decode cJ6_bitCount_0f7a4 0 = .ok (.iload_n 0, 1) := by decide +kernel
theorem dJ6_bitCount_0f7a4_1 : decode cJ6_bitCount_0f7a4 1 = .ok (.iload_n 0, 1) := by decide +kernel
theorem dJ6_bitCount_0f7a4_2 : decode cJ6_bitCount_0f7a4 2 = .ok (.iconst 1, 1) := by decide +kernel
theorem dJ6_bitCount_0f7a4_3 : decode cJ6_bitCount_0f7a4 3 = .ok (.iushr, 1) := by decide +kernel
theorem dJ6_bitCount_0f7a4_4 : decode cJ6_bitCount_0f7a4 4 = .ok (.ldc_w 265, 3) := by decide +kernel
theorem dJ6_bitCount_0f7a4_7 : decode cJ6_bitCount_0f7a4 7 = .ok (.iand, 1) := by decide +kernel
theorem dJ6_bitCount_0f7a4_8 : decode cJ6_bitCount_0f7a4 8 = .ok (.isub, 1) := by decide +kernel
theorem dJ6_bitCount_0f7a4_9 : decode cJ6_bitCount_0f7a4 9 = .ok (.istore_n 0, 1) := by decide +kernel
theorem dJ6_bitCount_0f7a4_10 : decode cJ6_bitCount_0f7a4 10 = .ok (.iload_n 0, 1) := by decide +kernel
theorem dJ6_bitCount_0f7a4_11 : decode cJ6_bitCount_0f7a4 11 = .ok (.ldc_w 266, 3) := by decide +kernel
theorem dJ6_bitCount_0f7a4_14 : decode cJ6_bitCount_0f7a4 14 = .ok (.iand, 1) := by decide +kernel
theorem dJ6_bitCount_0f7a4_15 : decode cJ6_bitCount_0f7a4 15 = .ok (.iload_n 0, 1) := by decide +kernel
theorem dJ6_bitCount_0f7a4_16 : decode cJ6_bitCount_0f7a4 16 = .ok (.iconst 2, 1) := by decide +kernel
theorem dJ6_bitCount_0f7a4_17 : decode cJ6_bitCount_0f7a4 17 = .ok (.iushr, 1) := by decide +kernel
theorem dJ6_bitCount_0f7a4_18 : decode cJ6_bitCount_0f7a4 18 = .ok (.ldc_w 266, 3) := by decide +kernel
theorem dJ6_bitCount_0f7a4_21 : decode cJ6_bitCount_0f7a4 21 = .ok (.iand, 1) := by decide +kernel
theorem dJ6_bitCount_0f7a4_22 : decode cJ6_bitCount_0f7a4 22 = .ok (.iadd, 1) := by decide +kernel
theorem dJ6_bitCount_0f7a4_23 : decode cJ6_bitCount_0f7a4 23 = .ok (.istore_n 0, 1) := by decide +kernel
theorem dJ6_bitCount_0f7a4_24 : decode cJ6_bitCount_0f7a4 24 = .ok (.iload_n 0, 1) := by decide +kernel
theorem dJ6_bitCount_0f7a4_25 : decode cJ6_bitCount_0f7a4 25 = .ok (.iload_n 0, 1) := by decide +kernel
theorem dJ6_bitCount_0f7a4_26 : decode cJ6_bitCount_0f7a4 26 = .ok (.iconst 4, 1) := by decide +kernel
theorem dJ6_bitCount_0f7a4_27 : decode cJ6_bitCount_0f7a4 27 = .ok (.iushr, 1) := by decide +kernel
theorem dJ6_bitCount_0f7a4_28 : decode cJ6_bitCount_0f7a4 28 = .ok (.iadd, 1) := by decide +kernel
theorem dJ6_bitCount_0f7a4_29 : decode cJ6_bitCount_0f7a4 29 = .ok (.ldc_w 267, 3) := by decide +kernel
theorem dJ6_bitCount_0f7a4_32 : decode cJ6_bitCount_0f7a4 32 = .ok (.iand, 1) := by decide +kernel
theorem dJ6_bitCount_0f7a4_33 : decode cJ6_bitCount_0f7a4 33 = .ok (.istore_n 0, 1) := by decide +kernel
theorem dJ6_bitCount_0f7a4_34 : decode cJ6_bitCount_0f7a4 34 = .ok (.iload_n 0, 1) := by decide +kernel
theorem dJ6_bitCount_0f7a4_35 : decode cJ6_bitCount_0f7a4 35 = .ok (.iload_n 0, 1) := by decide +kernel
theorem dJ6_bitCount_0f7a4_36 : decode cJ6_bitCount_0f7a4 36 = .ok (.bipush 8, 2) := by decide +kernel
theorem dJ6_bitCount_0f7a4_38 : decode cJ6_bitCount_0f7a4 38 = .ok (.iushr, 1) := by decide +kernel
theorem dJ6_bitCount_0f7a4_39 : decode cJ6_bitCount_0f7a4 39 = .ok (.iadd, 1) := by decide +kernel
theorem dJ6_bitCount_0f7a4_40 : decode cJ6_bitCount_0f7a4 40 = .ok (.istore_n 0, 1) := by decide +kernel
theorem dJ6_bitCount_0f7a4_41 : decode cJ6_bitCount_0f7a4 41 = .ok (.iload_n 0, 1) := by decide +kernel
theorem dJ6_bitCount_0f7a4_42 : decode cJ6_bitCount_0f7a4 42 = .ok (.iload_n 0, 1) := by decide +kernel
theorem dJ6_bitCount_0f7a4_43 : decode cJ6_bitCount_0f7a4 43 = .ok (.bipush 16, 2) := by decide +kernel
theorem dJ6_bitCount_0f7a4_45 : decode cJ6_bitCount_0f7a4 45 = .ok (.iushr, 1) := by decide +kernel
theorem dJ6_bitCount_0f7a4_46 : decode cJ6_bitCount_0f7a4 46 = .ok (.iadd, 1) := by decide +kernel
theorem dJ6_bitCount_0f7a4_47 : decode cJ6_bitCount_0f7a4 47 = .ok (.istore_n 0, 1) := by decide +kernel
theorem dJ6_bitCount_0f7a4_48 : decode cJ6_bitCount_0f7a4 48 = .ok (.iload_n 0, 1) := by decide +kernel
theorem dJ6_bitCount_0f7a4_49 : decode cJ6_bitCount_0f7a4 49 = .ok (.bipush 63, 2) := by decide +kernel
theorem dJ6_bitCount_0f7a4_51 : decode cJ6_bitCount_0f7a4 51 = .ok (.iand, 1) := by decide +kernel
theorem dJ6_bitCount_0f7a4_52 : decode cJ6_bitCount_0f7a4 52 = .ok (.ireturn, 1) := by decide +kernel
theorem dJ9_max_7cf53_0 : decode cJ9_max_7cf53 0 = .ok (.iload_n 0, 1) := by decide +kernel
theorem dJ9_max_7cf53_1 : decode cJ9_max_7cf53 1 = .ok (.iload_n 1, 1) := by decide +kernel
theorem dJ9_max_7cf53_2 : decode cJ9_max_7cf53 2 = .ok (.if_icmp .lt 7, 3) := by decide +kernel
theorem dJ9_max_7cf53_5 : decode cJ9_max_7cf53 5 = .ok (.iload_n 0, 1) := by decide +kernel
theorem dJ9_max_7cf53_6 : decode cJ9_max_7cf53 6 = .ok (.goto 4, 3) := by decide +kernel
theorem dJ9_max_7cf53_9 : decode cJ9_max_7cf53 9 = .ok (.iload_n 1, 1) := by decide +kernel
theorem dJ9_max_7cf53_10 : decode cJ9_max_7cf53 10 = .ok (.ireturn, 1) := by decide +kernel
set_option maxRecDepth 20000 in
theorem ggL_law_X7_init : GoodIn wsL_law wsX7_init := goodIn_r _ [8, 9, 10, 11, 12, 13, 14, 15, 16, 17, 18, 19, 20, 21, 22, 23, 24, 25, 26, 27, 28, 29, 30, 31, 32, 33, 34, 35, 36, 37, 38, 39, 40, 41, 42, 43, 44, 45, 46, 47, 48, 49, 50, 51, 52, 53, 54, 55, 56, 57, 58, 59, 60, 61, 62, 63, 64, 65, 66, 67, 68, 69, 70, 71, 72, 73, 74, 75, 76, 77, 78, 79, 80, 81, 82, 83, 84, 85, 86, 87, 88, 89, 90, 906, 907, 908, 909, 910, 911, 868, 869, 870, 871, 872, 873, 874, 875, 876, 877, 878, 879, 880, 881, 882, 912, 913, 914, 915, 916, 917, 918, 919, 920, 921, 922, 923, 924, 925, 926, 927, 928, 929, 930, 931, 932, 933, 934, 935, 936, 937, 938, 939, 940, 941] (by decide +kernel) (by decide +kernel)
set_option maxRecDepth 20000 in
theorem gL_law_X7_init : GoodIn wsL_law (wsX7_init) := ggL_law_X7_init
set_option maxRecDepth 20000 in
theorem ggL_law_X8_init : GoodIn wsL_law wsX8_init := goodIn_r _ [93, 94, 10, 11, 37, 95, 96, 97, 98, 99, 100, 39, 101, 102, 103, 104, 105, 72, 106, 107, 108, 883, 884, 885, 886, 887, 888, 889, 890, 891, 892, 893, 894, 895, 896, 897, 898, 899, 900, 901, 902, 903, 904, 905] (by decide +kernel) (by decide +kernel)
set_option maxRecDepth 20000 in
theorem gL_law_X8_init : GoodIn wsL_law (wsX8_init) := ggL_law_X8_init
set_option maxRecDepth 20000 in
theorem ggL_law_X7_feed : GoodIn wsL_law wsX7_feed := goodIn_r _ [112, 113, 15, 114, 115, 116, 868, 869, 870, 871, 872, 873, 874, 875, 876, 877, 878, 879, 880, 881, 882, 906, 907, 908, 909, 910, 911] (by decide +kernel) (by decide +kernel)
set_option maxRecDepth 20000 in
theorem gL_law_X7_feed : GoodIn wsL_law (wsV RL 13 RX7 yX7_feed wsX7_feed) := goodIn_app (goodIn_of _ (by decide +kernel)) ggL_law_X7_feed
set_option maxRecDepth 20000 in
theorem ggL_law_X8_feed : GoodIn wsL_law wsX8_feed := goodIn_r _ [120, 121, 122, 123, 95, 124, 125, 5, 126, 883, 884, 885, 886, 887, 888, 889, 890, 891, 892, 893, 894, 895, 896, 897, 898, 899, 900, 901, 902, 903, 904, 905] (by decide +kernel) (by decide +kernel)
set_option maxRecDepth 20000 in
theorem gL_law_X8_feed : GoodIn wsL_law (wsV RL 17 RX8 yX8_feed wsX8_feed) := goodIn_app (goodIn_of _ (by decide +kernel)) ggL_law_X8_feed
set_option maxRecDepth 20000 in
theorem ggL_law_X7_land : GoodIn wsL_law wsX7_land := goodIn_r _ [130, 15, 47, 131, 46, 19, 23, 132, 35, 133, 134, 40, 135, 136, 137, 138, 14, 139, 140, 141, 53, 142, 143, 144, 145, 45, 146, 147, 148, 149, 150, 151, 152, 153, 154, 155, 52, 156, 157, 158, 159, 160, 161, 162, 163, 164, 165, 166, 167, 168, 169, 170, 171, 172, 173, 174, 175, 176, 177, 178, 179, 180, 181, 182, 183, 184, 185, 186, 187, 188, 189, 190, 191, 192, 193, 194, 195, 86, 87, 88, 196, 197, 198, 199, 200, 201, 202, 203, 89, 90, 204, 205, 206, 207, 208, 209, 210, 18, 211, 212, 213, 214, 215, 216, 217, 218, 868, 869, 870, 871, 872, 873, 874, 875, 876, 877, 878, 879, 880, 881, 882, 906, 907, 908, 909, 910, 911, 919, 920, 926, 927, 928, 929, 930, 931, 932, 933, 934, 935, 936, 937, 938, 939, 940, 941, 912, 913, 914, 915, 916, 917, 918] (by decide +kernel) (by decide +kernel)
set_option maxRecDepth 20000 in
theorem gL_law_X7_land : GoodIn wsL_law (wsV RL 18 RX7 yX7_land wsX7_land) := goodIn_app (goodIn_of _ (by decide +kernel)) ggL_law_X7_land
set_option maxRecDepth 20000 in
theorem ggL_law_X8_land : GoodIn wsL_law wsX8_land := goodIn_r _ [222, 122, 223, 104, 224, 96, 97, 98, 225, 226, 227, 101, 228, 229, 230, 5, 231, 232, 233, 234, 235, 95, 236, 237, 238, 239, 240, 241, 242, 243, 244, 245, 246, 247, 248, 249, 250, 251, 252, 253, 124, 125, 126, 254, 255, 256, 257, 258, 259, 260, 261, 262, 263, 264, 265, 883, 884, 885, 886, 887, 888, 889, 890, 891, 892, 893, 894, 895, 896, 897, 898, 899, 900, 901, 902, 903, 904, 905] (by decide +kernel) (by decide +kernel)
set_option maxRecDepth 20000 in
theorem gL_law_X8_land : GoodIn wsL_law (wsV RL 22 RX8 yX8_land wsX8_land) := goodIn_app (goodIn_of _ (by decide +kernel)) ggL_law_X8_land
set_option maxRecDepth 20000 in
theorem ggL_law_X7_fault : GoodIn wsL_law wsX7_fault := goodIn_r _ [269, 15, 270, 868, 869, 870, 871, 872, 873, 874, 875, 876, 877, 878, 879, 880, 881, 882, 906, 907, 908, 909, 910, 911] (by decide +kernel) (by decide +kernel)
set_option maxRecDepth 20000 in
theorem gL_law_X7_fault : GoodIn wsL_law (wsV RL 23 RX7 yX7_fault wsX7_fault) := goodIn_app (goodIn_of _ (by decide +kernel)) ggL_law_X7_fault
set_option maxRecDepth 20000 in
theorem ggL_law_X8_fault : GoodIn wsL_law wsX8_fault := goodIn_r _ [274, 104, 883, 884, 885, 886, 887, 888, 889, 890, 891, 892, 893, 894, 895, 896, 897, 898, 899, 900, 901, 902, 903, 904, 905] (by decide +kernel) (by decide +kernel)
set_option maxRecDepth 20000 in
theorem gL_law_X8_fault : GoodIn wsL_law (wsV RL 26 RX8 yX8_fault wsX8_fault) := goodIn_app (goodIn_of _ (by decide +kernel)) ggL_law_X8_fault
set_option maxRecDepth 20000 in
theorem ggL_law_X7_told : GoodIn wsL_law wsX7_told := goodIn_r _ [278, 46, 279, 280, 135, 281, 15, 114, 19, 282, 283, 284, 285, 286, 287, 288, 35, 133, 134, 23, 132, 113, 868, 869, 870, 871, 872, 873, 874, 875, 876, 877, 878, 879, 880, 881, 882, 932, 933, 934, 935, 936, 937, 938, 939, 940, 941, 906, 907, 908, 909, 910, 911, 912, 913, 914, 915, 916, 917, 918, 926, 927, 928, 929, 930, 931, 919, 920] (by decide +kernel) (by decide +kernel)
set_option maxRecDepth 20000 in
theorem gL_law_X7_told : GoodIn wsL_law (wsV RL 27 RX7 yX7_told wsX7_told) := goodIn_app (goodIn_of _ (by decide +kernel)) ggL_law_X7_told
set_option maxRecDepth 20000 in
theorem ggL_law_X8_told : GoodIn wsL_law wsX8_told := goodIn_r _ [292, 96, 122, 98, 226, 227, 225, 121, 883, 884, 885, 886, 887, 888, 889, 890, 891, 892, 893, 894, 895, 896, 897, 898, 899, 900, 901, 902, 903, 904, 905] (by decide +kernel) (by decide +kernel)
set_option maxRecDepth 20000 in
theorem gL_law_X8_told : GoodIn wsL_law (wsV RL 30 RX8 yX8_told wsX8_told) := goodIn_app (goodIn_of _ (by decide +kernel)) ggL_law_X8_told
set_option maxRecDepth 20000 in
theorem ggL_law_X7_town : GoodIn wsL_law wsX7_town := goodIn_r _ [296, 46, 297, 298, 299, 300, 113, 301, 302, 303, 45, 304, 149, 305, 201, 202, 203, 150, 89, 90, 306, 307, 308, 309, 151, 868, 869, 870, 871, 872, 873, 874, 875, 876, 877, 878, 879, 880, 881, 882, 932, 933, 934, 935, 936, 937, 938, 939, 940, 941] (by decide +kernel) (by decide +kernel)
set_option maxRecDepth 20000 in
theorem gL_law_X7_town : GoodIn wsL_law (wsV RL 31 RX7 yX7_town wsX7_town) := goodIn_app (goodIn_of _ (by decide +kernel)) ggL_law_X7_town
set_option maxRecDepth 20000 in
theorem ggL_law_X8_town : GoodIn wsL_law wsX8_town := goodIn_r _ [313, 314, 96, 121, 315, 316, 317, 5, 318, 124, 125, 126, 319, 320, 321, 322, 323, 324, 325, 326, 883, 884, 885, 886, 887, 888, 889, 890, 891, 892, 893, 894, 895, 896, 897, 898, 899, 900, 901, 902, 903, 904, 905] (by decide +kernel) (by decide +kernel)
set_option maxRecDepth 20000 in
theorem gL_law_X8_town : GoodIn wsL_law (wsV RL 35 RX8 yX8_town wsX8_town) := goodIn_app (goodIn_of _ (by decide +kernel)) ggL_law_X8_town
set_option maxRecDepth 20000 in
theorem ggL_law_X7_road : GoodIn wsL_law wsX7_road := goodIn_r _ [330, 46, 297, 331, 332, 19, 287, 113, 333, 334, 335, 45, 336, 150, 868, 869, 870, 871, 872, 873, 874, 875, 876, 877, 878, 879, 880, 881, 882, 932, 933, 934, 935, 936, 937, 938, 939, 940, 941, 912, 913, 914, 915, 916, 917, 918] (by decide +kernel) (by decide +kernel)
set_option maxRecDepth 20000 in
theorem gL_law_X7_road : GoodIn wsL_law (wsV RL 36 RX7 yX7_road wsX7_road) := goodIn_app (goodIn_of _ (by decide +kernel)) ggL_law_X7_road
set_option maxRecDepth 20000 in
theorem ggL_law_X8_road : GoodIn wsL_law wsX8_road := goodIn_r _ [340, 314, 96, 98, 121, 341, 342, 343, 5, 344, 124, 125, 126, 883, 884, 885, 886, 887, 888, 889, 890, 891, 892, 893, 894, 895, 896, 897, 898, 899, 900, 901, 902, 903, 904, 905] (by decide +kernel) (by decide +kernel)
set_option maxRecDepth 20000 in
theorem gL_law_X8_road : GoodIn wsL_law (wsV RL 39 RX8 yX8_road wsX8_road) := goodIn_app (goodIn_of _ (by decide +kernel)) ggL_law_X8_road
set_option maxRecDepth 20000 in
theorem ggL_law_X7_stay : GoodIn wsL_law wsX7_stay := goodIn_r _ [348, 19, 46, 349, 282, 115, 23, 350, 351, 352, 2, 353, 135, 288, 354, 355, 356, 18, 357, 214, 358, 359, 360, 361, 22, 362, 363, 62, 364, 365, 366, 367, 368, 369, 370, 371, 212, 213, 215, 216, 217, 218, 372, 373, 374, 375, 376, 377, 378, 45, 379, 88, 380, 381, 382, 383, 87, 148, 384, 302, 303, 304, 149, 385, 868, 869, 870, 871, 872, 873, 874, 875, 876, 877, 878, 879, 880, 881, 882, 912, 913, 914, 915, 916, 917, 918, 932, 933, 934, 935, 936, 937, 938, 939, 940, 941, 919, 920] (by decide +kernel) (by decide +kernel)
set_option maxRecDepth 20000 in
theorem gL_law_X7_stay : GoodIn wsL_law (wsV RL 40 RX7 yX7_stay wsX7_stay) := goodIn_app (goodIn_of _ (by decide +kernel)) ggL_law_X7_stay
set_option maxRecDepth 20000 in
theorem ggL_law_X8_stay : GoodIn wsL_law wsX8_stay := goodIn_r _ [389, 390, 98, 123, 391, 392, 393, 5, 394, 96, 395, 396, 397, 398, 399, 400, 401, 402, 225, 99, 403, 404, 405, 406, 407, 408, 409, 410, 883, 884, 885, 886, 887, 888, 889, 890, 891, 892, 893, 894, 895, 896, 897, 898, 899, 900, 901, 902, 903, 904, 905] (by decide +kernel) (by decide +kernel)
set_option maxRecDepth 20000 in
theorem gL_law_X8_stay : GoodIn wsL_law (wsV RL 43 RX8 yX8_stay wsX8_stay) := goodIn_app (goodIn_of _ (by decide +kernel)) ggL_law_X8_stay
set_option maxRecDepth 20000 in
theorem ggL_law_X7_walk : GoodIn wsL_law wsX7_walk := goodIn_r _ [414, 46, 297, 19, 288, 349, 282, 115, 23, 301, 302, 303, 45, 304, 149, 415, 416, 417, 18, 418, 212, 217, 419, 420, 421, 422, 151, 423, 201, 202, 203, 150, 89, 90, 359, 360, 361, 22, 362, 363, 62, 364, 365, 366, 367, 368, 369, 370, 371, 213, 214, 215, 216, 218, 424, 425, 426, 427, 868, 869, 870, 871, 872, 873, 874, 875, 876, 877, 878, 879, 880, 881, 882, 912, 913, 914, 915, 916, 917, 918, 932, 933, 934, 935, 936, 937, 938, 939, 940, 941, 919, 920] (by decide +kernel) (by decide +kernel)
set_option maxRecDepth 20000 in
theorem gL_law_X7_walk : GoodIn wsL_law (wsV RL 44 RX7 yX7_walk wsX7_walk) := goodIn_app (goodIn_of _ (by decide +kernel)) ggL_law_X7_walk
set_option maxRecDepth 20000 in
theorem ggL_law_X8_walk : GoodIn wsL_law wsX8_walk := goodIn_r _ [431, 314, 98, 390, 123, 315, 316, 317, 5, 318, 96, 124, 125, 126, 391, 392, 393, 394, 432, 433, 434, 435, 319, 320, 321, 322, 323, 324, 325, 326, 399, 400, 401, 402, 225, 99, 436, 437, 438, 439, 883, 884, 885, 886, 887, 888, 889, 890, 891, 892, 893, 894, 895, 896, 897, 898, 899, 900, 901, 902, 903, 904, 905] (by decide +kernel) (by decide +kernel)
set_option maxRecDepth 20000 in
theorem gL_law_X8_walk : GoodIn wsL_law (wsV RL 47 RX8 yX8_walk wsX8_walk) := goodIn_app (goodIn_of _ (by decide +kernel)) ggL_law_X8_walk
set_option maxRecDepth 20000 in
theorem ggL_law_X7_war : GoodIn wsL_law wsX7_war := goodIn_r _ [443, 46, 297, 19, 287, 23, 333, 334, 335, 45, 336, 150, 359, 360, 361, 22, 362, 363, 62, 364, 365, 366, 367, 368, 369, 370, 18, 371, 212, 213, 214, 215, 216, 217, 218, 868, 869, 870, 871, 872, 873, 874, 875, 876, 877, 878, 879, 880, 881, 882, 912, 913, 914, 915, 916, 917, 918, 932, 933, 934, 935, 936, 937, 938, 939, 940, 941, 919, 920] (by decide +kernel) (by decide +kernel)
set_option maxRecDepth 20000 in
theorem gL_law_X7_war : GoodIn wsL_law (wsV RL 48 RX7 yX7_war wsX7_war) := goodIn_app (goodIn_of _ (by decide +kernel)) ggL_law_X7_war
set_option maxRecDepth 20000 in
theorem ggL_law_X8_war : GoodIn wsL_law wsX8_war := goodIn_r _ [447, 314, 98, 341, 342, 343, 5, 344, 96, 124, 125, 126, 399, 400, 401, 402, 225, 99, 883, 884, 885, 886, 887, 888, 889, 890, 891, 892, 893, 894, 895, 896, 897, 898, 899, 900, 901, 902, 903, 904, 905] (by decide +kernel) (by decide +kernel)
set_option maxRecDepth 20000 in
theorem gL_law_X8_war : GoodIn wsL_law (wsV RL 52 RX8 yX8_war wsX8_war) := goodIn_app (goodIn_of _ (by decide +kernel)) ggL_law_X8_war
set_option maxRecDepth 20000 in
theorem ggL_law_X7_home : GoodIn wsL_law wsX7_home := goodIn_r _ [451, 19, 282, 349, 23, 288, 285, 350, 351, 352, 2, 353, 46, 135, 359, 360, 361, 22, 362, 363, 62, 364, 365, 366, 367, 368, 369, 370, 18, 371, 212, 213, 214, 215, 216, 217, 218, 868, 869, 870, 871, 872, 873, 874, 875, 876, 877, 878, 879, 880, 881, 882, 912, 913, 914, 915, 916, 917, 918, 932, 933, 934, 935, 936, 937, 938, 939, 940, 941, 919, 920] (by decide +kernel) (by decide +kernel)
set_option maxRecDepth 20000 in
theorem gL_law_X7_home : GoodIn wsL_law (wsV RL 53 RX7 yX7_home wsX7_home) := goodIn_app (goodIn_of _ (by decide +kernel)) ggL_law_X7_home
set_option maxRecDepth 20000 in
theorem ggL_law_X8_home : GoodIn wsL_law wsX8_home := goodIn_r _ [455, 98, 390, 391, 392, 393, 5, 394, 96, 399, 400, 401, 402, 225, 99, 883, 884, 885, 886, 887, 888, 889, 890, 891, 892, 893, 894, 895, 896, 897, 898, 899, 900, 901, 902, 903, 904, 905] (by decide +kernel) (by decide +kernel)
set_option maxRecDepth 20000 in
theorem gL_law_X8_home : GoodIn wsL_law (wsV RL 56 RX8 yX8_home wsX8_home) := goodIn_app (goodIn_of _ (by decide +kernel)) ggL_law_X8_home
set_option maxRecDepth 20000 in
theorem ggL_law_X7_drift : GoodIn wsL_law wsX7_drift := goodIn_r _ [459, 113, 349, 19, 282, 115, 23, 285, 350, 351, 352, 2, 353, 46, 135, 288, 359, 360, 361, 22, 362, 363, 62, 364, 365, 366, 367, 368, 369, 370, 18, 371, 212, 213, 214, 215, 216, 217, 218, 460, 461, 462, 463, 281, 287, 464, 465, 466, 467, 468, 469, 470, 471, 472, 354, 355, 356, 357, 358, 372, 373, 374, 375, 376, 377, 378, 45, 379, 88, 380, 381, 382, 383, 87, 148, 384, 302, 303, 304, 149, 385, 415, 416, 417, 418, 419, 420, 421, 422, 151, 423, 201, 202, 203, 150, 89, 90, 424, 425, 426, 427, 868, 869, 870, 871, 872, 873, 874, 875, 876, 877, 878, 879, 880, 881, 882, 912, 913, 914, 915, 916, 917, 918, 932, 933, 934, 935, 936, 937, 938, 939, 940, 941, 919, 920] (by decide +kernel) (by decide +kernel)
set_option maxRecDepth 20000 in
theorem gL_law_X7_drift : GoodIn wsL_law (wsV RL 57 RX7 yX7_drift wsX7_drift) := goodIn_app (goodIn_of _ (by decide +kernel)) ggL_law_X7_drift
set_option maxRecDepth 20000 in
theorem ggL_law_X8_drift : GoodIn wsL_law wsX8_drift := goodIn_r _ [476, 121, 390, 98, 123, 124, 125, 5, 126, 391, 392, 393, 394, 96, 399, 400, 401, 402, 225, 99, 477, 478, 479, 480, 481, 482, 483, 484, 485, 486, 487, 488, 489, 395, 396, 397, 398, 432, 433, 434, 435, 319, 320, 321, 322, 323, 324, 325, 326, 490, 491, 492, 403, 404, 405, 406, 407, 408, 409, 410, 436, 437, 438, 439, 883, 884, 885, 886, 887, 888, 889, 890, 891, 892, 893, 894, 895, 896, 897, 898, 899, 900, 901, 902, 903, 904, 905] (by decide +kernel) (by decide +kernel)
set_option maxRecDepth 20000 in
theorem gL_law_X8_drift : GoodIn wsL_law (wsV RL 60 RX8 yX8_drift wsX8_drift) := goodIn_app (goodIn_of _ (by decide +kernel)) ggL_law_X8_drift
set_option maxRecDepth 20000 in
theorem ggL_law_X7_undo : GoodIn wsL_law wsX7_undo := goodIn_r _ [496, 23, 132, 349, 19, 497, 498, 499, 22, 500, 363, 62, 368, 369, 370, 18, 371, 212, 213, 214, 215, 216, 217, 218, 868, 869, 870, 871, 872, 873, 874, 875, 876, 877, 878, 879, 880, 881, 882, 919, 920, 912, 913, 914, 915, 916, 917, 918] (by decide +kernel) (by decide +kernel)
set_option maxRecDepth 20000 in
theorem gL_law_X7_undo : GoodIn wsL_law (wsV RL 61 RX7 yX7_undo wsX7_undo) := goodIn_app (goodIn_of _ (by decide +kernel)) ggL_law_X7_undo
set_option maxRecDepth 20000 in
theorem ggL_law_X8_undo : GoodIn wsL_law wsX8_undo := goodIn_r _ [504, 225, 390, 98, 99, 883, 884, 885, 886, 887, 888, 889, 890, 891, 892, 893, 894, 895, 896, 897, 898, 899, 900, 901, 902, 903, 904, 905] (by decide +kernel) (by decide +kernel)
set_option maxRecDepth 20000 in
theorem gL_law_X8_undo : GoodIn wsL_law (wsV RL 64 RX8 yX8_undo wsX8_undo) := goodIn_app (goodIn_of _ (by decide +kernel)) ggL_law_X8_undo
set_option maxRecDepth 20000 in
theorem ggL_law_X7_may : GoodIn wsL_law wsX7_may := goodIn_r _ [508, 113, 349, 19, 46, 350, 351, 352, 2, 353, 135, 288, 415, 416, 417, 18, 418, 212, 217, 419, 420, 421, 45, 422, 151, 423, 201, 202, 203, 150, 89, 90, 354, 355, 356, 357, 214, 358, 868, 869, 870, 871, 872, 873, 874, 875, 876, 877, 878, 879, 880, 881, 882, 932, 933, 934, 935, 936, 937, 938, 939, 940, 941, 912, 913, 914, 915, 916, 917, 918] (by decide +kernel) (by decide +kernel)
set_option maxRecDepth 20000 in
theorem gL_law_X7_may : GoodIn wsL_law (wsV RL 65 RX7 yX7_may wsX7_may) := goodIn_app (goodIn_of _ (by decide +kernel)) ggL_law_X7_may
set_option maxRecDepth 20000 in
theorem ggL_law_X8_may : GoodIn wsL_law wsX8_may := goodIn_r _ [512, 121, 390, 98, 124, 125, 5, 126, 391, 392, 393, 394, 96, 432, 433, 434, 435, 319, 320, 321, 322, 323, 324, 325, 326, 395, 396, 397, 398, 883, 884, 885, 886, 887, 888, 889, 890, 891, 892, 893, 894, 895, 896, 897, 898, 899, 900, 901, 902, 903, 904, 905] (by decide +kernel) (by decide +kernel)
set_option maxRecDepth 20000 in
theorem gL_law_X8_may : GoodIn wsL_law (wsV RL 68 RX8 yX8_may wsX8_may) := goodIn_app (goodIn_of _ (by decide +kernel)) ggL_law_X8_may
set_option maxRecDepth 20000 in
theorem ggL_law_X7_reach : GoodIn wsL_law wsX7_reach := goodIn_r _ [516, 46, 297, 19, 288, 349, 42, 287, 283, 135, 301, 302, 303, 45, 304, 149, 517, 518, 519, 520, 521, 420, 421, 422, 151, 423, 201, 202, 203, 150, 89, 90, 522, 523, 2, 524, 868, 869, 870, 871, 872, 873, 874, 875, 876, 877, 878, 879, 880, 881, 882, 912, 913, 914, 915, 916, 917, 918, 932, 933, 934, 935, 936, 937, 938, 939, 940, 941] (by decide +kernel) (by decide +kernel)
set_option maxRecDepth 20000 in
theorem gL_law_X7_reach : GoodIn wsL_law (wsV RL 69 RX7 yX7_reach wsX7_reach) := goodIn_app (goodIn_of _ (by decide +kernel)) ggL_law_X7_reach
set_option maxRecDepth 20000 in
theorem ggL_law_X8_reach : GoodIn wsL_law wsX8_reach := goodIn_r _ [528, 314, 390, 98, 96, 315, 316, 317, 5, 318, 124, 125, 126, 391, 392, 393, 394, 432, 433, 434, 435, 319, 320, 321, 322, 323, 324, 325, 326, 883, 884, 885, 886, 887, 888, 889, 890, 891, 892, 893, 894, 895, 896, 897, 898, 899, 900, 901, 902, 903, 904, 905] (by decide +kernel) (by decide +kernel)
set_option maxRecDepth 20000 in
theorem gL_law_X8_reach : GoodIn wsL_law (wsV RL 72 RX8 yX8_reach wsX8_reach) := goodIn_app (goodIn_of _ (by decide +kernel)) ggL_law_X8_reach
set_option maxRecDepth 20000 in
theorem ggL_law_X7_best : GoodIn wsL_law wsX7_best := goodIn_r _ [532, 113, 349, 46, 42, 19, 287, 27, 282, 283, 284, 350, 351, 352, 2, 353, 135, 288, 517, 518, 519, 45, 520, 149, 521, 420, 421, 422, 151, 423, 201, 202, 203, 150, 89, 90, 533, 534, 535, 26, 536, 66, 537, 538, 539, 540, 541, 542, 543, 544, 545, 546, 547, 548, 549, 550, 551, 377, 378, 379, 88, 380, 381, 382, 383, 87, 148, 384, 302, 303, 304, 552, 553, 554, 555, 556, 557, 558, 559, 560, 561, 562, 563, 523, 524, 564, 565, 566, 567, 868, 869, 870, 871, 872, 873, 874, 875, 876, 877, 878, 879, 880, 881, 882, 912, 913, 914, 915, 916, 917, 918, 932, 933, 934, 935, 936, 937, 938, 939, 940, 941, 921, 922, 923] (by decide +kernel) (by decide +kernel)
set_option maxRecDepth 20000 in
theorem gL_law_X7_best : GoodIn wsL_law (wsV RL 73 RX7 yX7_best wsX7_best) := goodIn_app (goodIn_of _ (by decide +kernel)) ggL_law_X7_best
set_option maxRecDepth 20000 in
theorem ggL_law_X8_best : GoodIn wsL_law wsX8_best := goodIn_r _ [571, 121, 390, 98, 96, 124, 125, 5, 126, 391, 392, 393, 394, 572, 573, 574, 575, 105, 432, 433, 434, 435, 319, 320, 321, 322, 323, 324, 325, 326, 576, 577, 578, 579, 580, 581, 582, 583, 407, 408, 409, 410, 883, 884, 885, 886, 887, 888, 889, 890, 891, 892, 893, 894, 895, 896, 897, 898, 899, 900, 901, 902, 903, 904, 905] (by decide +kernel) (by decide +kernel)
set_option maxRecDepth 20000 in
theorem gL_law_X8_best : GoodIn wsL_law (wsV RL 76 RX8 yX8_best wsX8_best) := goodIn_app (goodIn_of _ (by decide +kernel)) ggL_law_X8_best
set_option maxRecDepth 20000 in
theorem ggL_law_X7_seals : GoodIn wsL_law wsX7_seals := goodIn_r _ [587, 46, 297, 349, 42, 19, 287, 31, 588, 589, 590, 45, 591, 149, 350, 351, 352, 2, 353, 135, 288, 517, 518, 519, 520, 521, 420, 421, 422, 151, 423, 201, 202, 203, 150, 89, 90, 592, 593, 594, 30, 595, 73, 596, 597, 598, 599, 600, 601, 602, 603, 604, 605, 606, 607, 608, 609, 610, 611, 612, 613, 614, 615, 74, 616, 381, 382, 383, 87, 148, 384, 302, 303, 304, 617, 618, 619, 620, 621, 622, 623, 624, 625, 626, 627, 628, 629, 868, 869, 870, 871, 872, 873, 874, 875, 876, 877, 878, 879, 880, 881, 882, 912, 913, 914, 915, 916, 917, 918, 932, 933, 934, 935, 936, 937, 938, 939, 940, 941, 924, 925] (by decide +kernel) (by decide +kernel)
set_option maxRecDepth 20000 in
theorem gL_law_X7_seals : GoodIn wsL_law (wsV RL 77 RX7 yX7_seals wsX7_seals) := goodIn_app (goodIn_of _ (by decide +kernel)) ggL_law_X7_seals
set_option maxRecDepth 20000 in
theorem ggL_law_X8_seals : GoodIn wsL_law wsX8_seals := goodIn_r _ [633, 96, 314, 390, 106, 98, 124, 125, 5, 126, 391, 392, 393, 394, 634, 635, 636, 637, 638, 639, 640, 107, 641, 407, 408, 409, 410, 642, 643, 644, 645, 432, 433, 434, 435, 319, 320, 321, 322, 323, 324, 325, 326, 646, 647, 648, 649, 650, 651, 883, 884, 885, 886, 887, 888, 889, 890, 891, 892, 893, 894, 895, 896, 897, 898, 899, 900, 901, 902, 903, 904, 905] (by decide +kernel) (by decide +kernel)
set_option maxRecDepth 20000 in
theorem gL_law_X8_seals : GoodIn wsL_law (wsV RL 80 RX8 yX8_seals wsX8_seals) := goodIn_app (goodIn_of _ (by decide +kernel)) ggL_law_X8_seals
set_option maxRecDepth 20000 in
theorem ggL_law_X7_two : GoodIn wsL_law wsX7_two := goodIn_r _ [655, 46, 297, 19, 288, 349, 42, 287, 27, 301, 302, 303, 45, 304, 149, 517, 518, 519, 520, 521, 420, 421, 422, 151, 423, 201, 202, 203, 150, 89, 90, 656, 657, 658, 26, 659, 67, 558, 557, 68, 546, 660, 661, 662, 663, 664, 665, 523, 2, 524, 868, 869, 870, 871, 872, 873, 874, 875, 876, 877, 878, 879, 880, 881, 882, 912, 913, 914, 915, 916, 917, 918, 932, 933, 934, 935, 936, 937, 938, 939, 940, 941, 921, 922, 923] (by decide +kernel) (by decide +kernel)
set_option maxRecDepth 20000 in
theorem gL_law_X7_two : GoodIn wsL_law (wsV RL 81 RX7 yX7_two wsX7_two) := goodIn_app (goodIn_of _ (by decide +kernel)) ggL_law_X7_two
set_option maxRecDepth 20000 in
theorem ggL_law_X8_two : GoodIn wsL_law wsX8_two := goodIn_r _ [669, 314, 390, 98, 315, 316, 317, 5, 318, 96, 124, 125, 126, 391, 392, 393, 394, 634, 635, 636, 649, 650, 651, 641, 642, 643, 644, 645, 432, 433, 434, 435, 319, 320, 321, 322, 323, 324, 325, 326, 646, 647, 648, 883, 884, 885, 886, 887, 888, 889, 890, 891, 892, 893, 894, 895, 896, 897, 898, 899, 900, 901, 902, 903, 904, 905] (by decide +kernel) (by decide +kernel)
set_option maxRecDepth 20000 in
theorem gL_law_X8_two : GoodIn wsL_law (wsV RL 84 RX8 yX8_two wsX8_two) := goodIn_app (goodIn_of _ (by decide +kernel)) ggL_law_X8_two
set_option maxRecDepth 20000 in
theorem ggL_law_X7_idle : GoodIn wsL_law wsX7_idle := goodIn_r _ [673, 46, 135, 299, 306, 307, 308, 45, 309, 151, 868, 869, 870, 871, 872, 873, 874, 875, 876, 877, 878, 879, 880, 881, 882, 932, 933, 934, 935, 936, 937, 938, 939, 940, 941] (by decide +kernel) (by decide +kernel)
set_option maxRecDepth 20000 in
theorem gL_law_X7_idle : GoodIn wsL_law (wsV RL 85 RX7 yX7_idle wsX7_idle) := goodIn_app (goodIn_of _ (by decide +kernel)) ggL_law_X7_idle
set_option maxRecDepth 20000 in
theorem ggL_law_X8_idle : GoodIn wsL_law wsX8_idle := goodIn_r _ [677, 96, 323, 324, 325, 5, 326, 883, 884, 885, 886, 887, 888, 889, 890, 891, 892, 893, 894, 895, 896, 897, 898, 899, 900, 901, 902, 903, 904, 905] (by decide +kernel) (by decide +kernel)
set_option maxRecDepth 20000 in
theorem gL_law_X8_idle : GoodIn wsL_law (wsV RL 88 RX8 yX8_idle wsX8_idle) := goodIn_app (goodIn_of _ (by decide +kernel)) ggL_law_X8_idle
set_option maxRecDepth 20000 in
theorem ggL_law_X7_stranded : GoodIn wsL_law wsX7_stranded := goodIn_r _ [681, 46, 42, 19, 287, 135, 517, 518, 519, 45, 520, 149, 521, 420, 421, 422, 151, 423, 201, 202, 203, 150, 89, 90, 868, 869, 870, 871, 872, 873, 874, 875, 876, 877, 878, 879, 880, 881, 882, 912, 913, 914, 915, 916, 917, 918, 932, 933, 934, 935, 936, 937, 938, 939, 940, 941] (by decide +kernel) (by decide +kernel)
set_option maxRecDepth 20000 in
theorem gL_law_X7_stranded : GoodIn wsL_law (wsV RL 89 RX7 yX7_stranded wsX7_stranded) := goodIn_app (goodIn_of _ (by decide +kernel)) ggL_law_X7_stranded
set_option maxRecDepth 20000 in
theorem ggL_law_X8_stranded : GoodIn wsL_law wsX8_stranded := goodIn_r _ [685, 96, 98, 432, 433, 434, 5, 435, 319, 320, 321, 322, 323, 324, 325, 326, 883, 884, 885, 886, 887, 888, 889, 890, 891, 892, 893, 894, 895, 896, 897, 898, 899, 900, 901, 902, 903, 904, 905] (by decide +kernel) (by decide +kernel)
set_option maxRecDepth 20000 in
theorem gL_law_X8_stranded : GoodIn wsL_law (wsV RL 92 RX8 yX8_stranded wsX8_stranded) := goodIn_app (goodIn_of _ (by decide +kernel)) ggL_law_X8_stranded
set_option maxRecDepth 20000 in
theorem ggL_law_X7_snow : GoodIn wsL_law wsX7_snow := goodIn_r _ [689, 113, 690, 691] (by decide +kernel) (by decide +kernel)
set_option maxRecDepth 20000 in
theorem gL_law_X7_snow : GoodIn wsL_law (wsV RL 93 RX7 yX7_snow wsX7_snow) := goodIn_app (goodIn_of _ (by decide +kernel)) ggL_law_X7_snow
set_option maxRecDepth 20000 in
theorem ggL_law_X8_snow : GoodIn wsL_law wsX8_snow := goodIn_r _ [695, 121, 696, 697, 124, 125, 5, 126] (by decide +kernel) (by decide +kernel)
set_option maxRecDepth 20000 in
theorem gL_law_X8_snow : GoodIn wsL_law (wsV RL 96 RX8 yX8_snow wsX8_snow) := goodIn_app (goodIn_of _ (by decide +kernel)) ggL_law_X8_snow
set_option maxRecDepth 20000 in
theorem ggL_law_X7_seal : GoodIn wsL_law wsX7_seal := goodIn_r _ [701, 46, 297, 113, 35, 133, 115, 301, 302, 303, 45, 304, 149, 702, 703, 704, 34, 705, 706, 78, 79, 868, 869, 870, 871, 872, 873, 874, 875, 876, 877, 878, 879, 880, 881, 882, 926, 927, 928, 929, 930, 931, 932, 933, 934, 935, 936, 937, 938, 939, 940, 941] (by decide +kernel) (by decide +kernel)
set_option maxRecDepth 20000 in
theorem gL_law_X7_seal : GoodIn wsL_law (wsV RL 97 RX7 yX7_seal wsX7_seal) := goodIn_app (goodIn_of _ (by decide +kernel)) ggL_law_X7_seal
set_option maxRecDepth 20000 in
theorem ggL_law_X8_seal : GoodIn wsL_law wsX8_seal := goodIn_r _ [710, 314, 121, 226, 123, 102, 315, 316, 317, 5, 318, 96, 124, 125, 126, 883, 884, 885, 886, 887, 888, 889, 890, 891, 892, 893, 894, 895, 896, 897, 898, 899, 900, 901, 902, 903, 904, 905] (by decide +kernel) (by decide +kernel)
set_option maxRecDepth 20000 in
theorem gL_law_X8_seal : GoodIn wsL_law (wsV RL 100 RX8 yX8_seal wsX8_seal) := goodIn_app (goodIn_of _ (by decide +kernel)) ggL_law_X8_seal
set_option maxRecDepth 20000 in
theorem ggL_law_X7_fits : GoodIn wsL_law wsX7_fits := goodIn_r _ [714, 35, 46, 715, 716, 717, 34, 718, 81, 719, 720, 721, 722, 80, 723, 724, 725, 518, 519, 45, 520, 149, 521, 420, 421, 422, 151, 423, 201, 202, 203, 150, 89, 90, 726, 727, 728, 729, 706, 79, 78, 730, 381, 382, 383, 87, 148, 384, 302, 303, 304, 731, 732, 733, 734, 735, 736, 737, 523, 2, 524, 868, 869, 870, 871, 872, 873, 874, 875, 876, 877, 878, 879, 880, 881, 882, 926, 927, 928, 929, 930, 931, 932, 933, 934, 935, 936, 937, 938, 939, 940, 941] (by decide +kernel) (by decide +kernel)
set_option maxRecDepth 20000 in
theorem gL_law_X7_fits : GoodIn wsL_law (wsV RL 101 RX7 yX7_fits wsX7_fits) := goodIn_app (goodIn_of _ (by decide +kernel)) ggL_law_X7_fits
set_option maxRecDepth 20000 in
theorem ggL_law_X8_fits : GoodIn wsL_law wsX8_fits := goodIn_r _ [741, 742, 743, 744, 5, 745, 108, 96, 634, 635, 636, 746, 747, 748, 749, 226, 102, 407, 408, 409, 410, 642, 643, 644, 645, 432, 433, 434, 435, 319, 320, 321, 322, 323, 324, 325, 326, 646, 647, 648, 883, 884, 885, 886, 887, 888, 889, 890, 891, 892, 893, 894, 895, 896, 897, 898, 899, 900, 901, 902, 903, 904, 905] (by decide +kernel) (by decide +kernel)
set_option maxRecDepth 20000 in
theorem gL_law_X8_fits : GoodIn wsL_law (wsV RL 104 RX8 yX8_fits wsX8_fits) := goodIn_app (goodIn_of _ (by decide +kernel)) ggL_law_X8_fits
set_option maxRecDepth 20000 in
theorem ggL_law_X7_bought : GoodIn wsL_law wsX7_bought := goodIn_r _ [753, 35, 46, 754, 755, 756, 34, 757, 706, 758, 716, 717, 718, 81, 719, 720, 721, 722, 80, 723, 724, 725, 518, 519, 45, 520, 149, 521, 420, 421, 422, 151, 423, 201, 202, 203, 150, 89, 90, 726, 727, 728, 729, 79, 78, 730, 381, 382, 383, 87, 148, 384, 302, 303, 304, 731, 732, 733, 734, 735, 736, 737, 523, 2, 524, 868, 869, 870, 871, 872, 873, 874, 875, 876, 877, 878, 879, 880, 881, 882, 926, 927, 928, 929, 930, 931, 932, 933, 934, 935, 936, 937, 938, 939, 940, 941] (by decide +kernel) (by decide +kernel)
set_option maxRecDepth 20000 in
theorem gL_law_X7_bought : GoodIn wsL_law (wsV RL 105 RX7 yX7_bought wsX7_bought) := goodIn_app (goodIn_of _ (by decide +kernel)) ggL_law_X7_bought
set_option maxRecDepth 20000 in
theorem ggL_law_X8_bought : GoodIn wsL_law wsX8_bought := goodIn_r _ [762, 226, 742, 743, 744, 5, 745, 108, 96, 634, 635, 636, 746, 747, 748, 749, 102, 407, 408, 409, 410, 642, 643, 644, 645, 432, 433, 434, 435, 319, 320, 321, 322, 323, 324, 325, 326, 646, 647, 648, 883, 884, 885, 886, 887, 888, 889, 890, 891, 892, 893, 894, 895, 896, 897, 898, 899, 900, 901, 902, 903, 904, 905] (by decide +kernel) (by decide +kernel)
set_option maxRecDepth 20000 in
theorem gL_law_X8_bought : GoodIn wsL_law (wsV RL 108 RX8 yX8_bought wsX8_bought) := goodIn_app (goodIn_of _ (by decide +kernel)) ggL_law_X8_bought
set_option maxRecDepth 20000 in
theorem ggL_law_X7_was : GoodIn wsL_law wsX7_was := goodIn_r _ [766, 113, 35, 46, 767, 768, 769, 34, 770, 719, 720, 721, 722, 80, 81, 723, 724, 725, 518, 519, 45, 520, 149, 521, 420, 421, 422, 151, 423, 201, 202, 203, 150, 89, 90, 726, 727, 728, 729, 706, 79, 78, 730, 381, 382, 383, 87, 148, 384, 302, 303, 304, 731, 732, 733, 734, 735, 736, 737, 523, 2, 524, 771, 772, 773, 774, 82, 775, 589, 590, 591, 776, 777, 778, 779, 780, 781, 782, 783, 868, 869, 870, 871, 872, 873, 874, 875, 876, 877, 878, 879, 880, 881, 882, 926, 927, 928, 929, 930, 931, 932, 933, 934, 935, 936, 937, 938, 939, 940, 941] (by decide +kernel) (by decide +kernel)
set_option maxRecDepth 20000 in
theorem gL_law_X7_was : GoodIn wsL_law (wsV RL 109 RX7 yX7_was wsX7_was) := goodIn_app (goodIn_of _ (by decide +kernel)) ggL_law_X7_was
set_option maxRecDepth 20000 in
theorem ggL_law_X8_was : GoodIn wsL_law wsX8_was := goodIn_r _ [787, 121, 108, 124, 125, 5, 126, 788, 789, 790, 791, 742, 743, 744, 745, 96, 634, 635, 636, 746, 747, 748, 749, 226, 102, 407, 408, 409, 410, 642, 643, 644, 645, 432, 433, 434, 435, 319, 320, 321, 322, 323, 324, 325, 326, 646, 647, 648, 792, 793, 794, 795, 649, 650, 651, 641, 883, 884, 885, 886, 887, 888, 889, 890, 891, 892, 893, 894, 895, 896, 897, 898, 899, 900, 901, 902, 903, 904, 905] (by decide +kernel) (by decide +kernel)
set_option maxRecDepth 20000 in
theorem gL_law_X8_was : GoodIn wsL_law (wsV RL 112 RX8 yX8_was wsX8_was) := goodIn_app (goodIn_of _ (by decide +kernel)) ggL_law_X8_was
set_option maxRecDepth 20000 in
theorem ggL_law_X7_ask : GoodIn wsL_law wsX7_ask := goodIn_r _ [799, 35, 46, 767, 768, 769, 34, 770, 719, 720, 721, 722, 80, 81, 723, 724, 725, 518, 519, 45, 520, 149, 521, 420, 421, 422, 151, 423, 201, 202, 203, 150, 89, 90, 726, 727, 728, 729, 706, 79, 78, 730, 381, 382, 383, 87, 148, 384, 302, 303, 304, 731, 732, 733, 734, 735, 736, 737, 523, 2, 524, 771, 772, 773, 774, 82, 775, 589, 590, 591, 776, 777, 778, 779, 800, 801, 802, 803, 804, 781, 782, 783, 805, 806, 807, 808, 809, 810, 811, 868, 869, 870, 871, 872, 873, 874, 875, 876, 877, 878, 879, 880, 881, 882, 926, 927, 928, 929, 930, 931, 932, 933, 934, 935, 936, 937, 938, 939, 940, 941] (by decide +kernel) (by decide +kernel)
set_option maxRecDepth 20000 in
theorem gL_law_X7_ask : GoodIn wsL_law (wsV RL 113 RX7 yX7_ask wsX7_ask) := goodIn_app (goodIn_of _ (by decide +kernel)) ggL_law_X7_ask
set_option maxRecDepth 20000 in
theorem ggL_law_X8_ask : GoodIn wsL_law wsX8_ask := goodIn_r _ [815, 108, 788, 789, 790, 5, 791, 742, 743, 744, 745, 96, 634, 635, 636, 746, 747, 748, 749, 226, 102, 407, 408, 409, 410, 642, 643, 644, 645, 432, 433, 434, 435, 319, 320, 321, 322, 323, 324, 325, 326, 646, 647, 648, 792, 793, 794, 795, 649, 650, 651, 641, 816, 817, 818, 883, 884, 885, 886, 887, 888, 889, 890, 891, 892, 893, 894, 895, 896, 897, 898, 899, 900, 901, 902, 903, 904, 905] (by decide +kernel) (by decide +kernel)
set_option maxRecDepth 20000 in
theorem gL_law_X8_ask : GoodIn wsL_law (wsV RL 116 RX8 yX8_ask wsX8_ask) := goodIn_app (goodIn_of _ (by decide +kernel)) ggL_law_X8_ask
set_option maxRecDepth 20000 in
theorem ggL_law_X7_write : GoodIn wsL_law wsX7_write := goodIn_r _ [822, 113, 134, 115, 41, 868, 869, 870, 871, 872, 873, 874, 875, 876, 877, 878, 879, 880, 881, 882] (by decide +kernel) (by decide +kernel)
set_option maxRecDepth 20000 in
theorem gL_law_X7_write : GoodIn wsL_law (wsV RL 117 RX7 yX7_write wsX7_write) := goodIn_app (goodIn_of _ (by decide +kernel)) ggL_law_X7_write
set_option maxRecDepth 20000 in
theorem ggL_law_X8_write : GoodIn wsL_law wsX8_write := goodIn_r _ [826, 121, 227, 123, 103, 124, 125, 5, 126, 883, 884, 885, 886, 887, 888, 889, 890, 891, 892, 893, 894, 895, 896, 897, 898, 899, 900, 901, 902, 903, 904, 905] (by decide +kernel) (by decide +kernel)
set_option maxRecDepth 20000 in
theorem gL_law_X8_write : GoodIn wsL_law (wsV RL 120 RX8 yX8_write wsX8_write) := goodIn_app (goodIn_of _ (by decide +kernel)) ggL_law_X8_write
set_option maxRecDepth 20000 in
theorem ggL_law_X7_tear : GoodIn wsL_law wsX7_tear := goodIn_r _ [830, 35, 133, 134, 868, 869, 870, 871, 872, 873, 874, 875, 876, 877, 878, 879, 880, 881, 882, 926, 927, 928, 929, 930, 931] (by decide +kernel) (by decide +kernel)
set_option maxRecDepth 20000 in
theorem gL_law_X7_tear : GoodIn wsL_law (wsV RL 121 RX7 yX7_tear wsX7_tear) := goodIn_app (goodIn_of _ (by decide +kernel)) ggL_law_X7_tear
set_option maxRecDepth 20000 in
theorem ggL_law_X8_tear : GoodIn wsL_law wsX8_tear := goodIn_r _ [834, 226, 227, 883, 884, 885, 886, 887, 888, 889, 890, 891, 892, 893, 894, 895, 896, 897, 898, 899, 900, 901, 902, 903, 904, 905] (by decide +kernel) (by decide +kernel)
set_option maxRecDepth 20000 in
theorem gL_law_X8_tear : GoodIn wsL_law (wsV RL 124 RX8 yX8_tear wsX8_tear) := goodIn_app (goodIn_of _ (by decide +kernel)) ggL_law_X8_tear
set_option maxRecDepth 20000 in
theorem ggL_law_X7_judge : GoodIn wsL_law wsX7_judge := goodIn_r _ [838, 134, 41, 19, 285, 868, 869, 870, 871, 872, 873, 874, 875, 876, 877, 878, 879, 880, 881, 882, 912, 913, 914, 915, 916, 917, 918] (by decide +kernel) (by decide +kernel)
set_option maxRecDepth 20000 in
theorem gL_law_X7_judge : GoodIn wsL_law (wsV RL 125 RX7 yX7_judge wsX7_judge) := goodIn_app (goodIn_of _ (by decide +kernel)) ggL_law_X7_judge
set_option maxRecDepth 20000 in
theorem ggL_law_X8_judge : GoodIn wsL_law wsX8_judge := goodIn_r _ [842, 227, 103, 98, 883, 884, 885, 886, 887, 888, 889, 890, 891, 892, 893, 894, 895, 896, 897, 898, 899, 900, 901, 902, 903, 904, 905] (by decide +kernel) (by decide +kernel)
set_option maxRecDepth 20000 in
theorem gL_law_X8_judge : GoodIn wsL_law (wsV RL 128 RX8 yX8_judge wsX8_judge) := goodIn_app (goodIn_of _ (by decide +kernel)) ggL_law_X8_judge
set_option maxRecDepth 20000 in
theorem ggL_law_X7_seed : GoodIn wsL_law wsX7_seed := goodIn_r _ [846, 113, 468, 868, 869, 870, 871, 872, 873, 874, 875, 876, 877, 878, 879, 880, 881, 882] (by decide +kernel) (by decide +kernel)
set_option maxRecDepth 20000 in
theorem gL_law_X7_seed : GoodIn wsL_law (wsV RL 129 RX7 yX7_seed wsX7_seed) := goodIn_app (goodIn_of _ (by decide +kernel)) ggL_law_X7_seed
set_option maxRecDepth 20000 in
theorem ggL_law_X8_seed : GoodIn wsL_law wsX8_seed := goodIn_r _ [850, 121, 485, 883, 884, 885, 886, 887, 888, 889, 890, 891, 892, 893, 894, 895, 896, 897, 898, 899, 900, 901, 902, 903, 904, 905] (by decide +kernel) (by decide +kernel)
set_option maxRecDepth 20000 in
theorem gL_law_X8_seed : GoodIn wsL_law (wsV RL 132 RX8 yX8_seed wsX8_seed) := goodIn_app (goodIn_of _ (by decide +kernel)) ggL_law_X8_seed
set_option maxRecDepth 20000 in
theorem ggL_law_X7_keep : GoodIn wsL_law wsX7_keep := goodIn_r _ [854, 297, 36, 19, 38, 468, 40, 23, 132, 855, 369, 370, 18, 371, 212, 213, 214, 215, 216, 217, 218, 868, 869, 870, 871, 872, 873, 874, 875, 876, 877, 878, 879, 880, 881, 882, 919, 920, 912, 913, 914, 915, 916, 917, 918] (by decide +kernel) (by decide +kernel)
set_option maxRecDepth 20000 in
theorem gL_law_X7_keep : GoodIn wsL_law (wsV RL 133 RX7 yX7_keep wsX7_keep) := goodIn_app (goodIn_of _ (by decide +kernel)) ggL_law_X7_keep
set_option maxRecDepth 20000 in
theorem ggL_law_X8_keep : GoodIn wsL_law wsX8_keep := goodIn_r _ [859, 314, 100, 98, 485, 101, 225, 124, 125, 5, 126, 883, 884, 885, 886, 887, 888, 889, 890, 891, 892, 893, 894, 895, 896, 897, 898, 899, 900, 901, 902, 903, 904, 905] (by decide +kernel) (by decide +kernel)
set_option maxRecDepth 20000 in
theorem gL_law_X8_keep : GoodIn wsL_law (wsV RL 136 RX8 yX8_keep wsX8_keep) := goodIn_app (goodIn_of _ (by decide +kernel)) ggL_law_X8_keep
set_option maxRecDepth 20000 in
theorem ggL_law_X7_goBack : GoodIn wsL_law wsX7_goBack := goodIn_r _ [863, 297, 40, 349, 19, 36, 38, 468, 23, 132, 855, 369, 370, 18, 371, 212, 213, 214, 215, 216, 217, 218, 868, 869, 870, 871, 872, 873, 874, 875, 876, 877, 878, 879, 880, 881, 882, 919, 920, 912, 913, 914, 915, 916, 917, 918] (by decide +kernel) (by decide +kernel)
set_option maxRecDepth 20000 in
theorem gL_law_X7_goBack : GoodIn wsL_law (wsV RL 137 RX7 yX7_goBack wsX7_goBack) := goodIn_app (goodIn_of _ (by decide +kernel)) ggL_law_X7_goBack
set_option maxRecDepth 20000 in
theorem ggL_law_X8_goBack : GoodIn wsL_law wsX8_goBack := goodIn_r _ [867, 314, 101, 390, 98, 100, 485, 225, 124, 125, 5, 126, 883, 884, 885, 886, 887, 888, 889, 890, 891, 892, 893, 894, 895, 896, 897, 898, 899, 900, 901, 902, 903, 904, 905] (by decide +kernel) (by decide +kernel)
set_option maxRecDepth 20000 in
theorem gL_law_X8_goBack : GoodIn wsL_law (wsV RL 140 RX8 yX8_goBack wsX8_goBack) := goodIn_app (goodIn_of _ (by decide +kernel)) ggL_law_X8_goBack
theorem dL_law_0 : decode cL_law 0 = .ok (.new 7, 3) := by decide +kernel
theorem dL_law_3 : decode cL_law 3 = .ok (.dup, 1) := by decide +kernel
theorem dL_law_4 : decode cL_law 4 = .ok (.invokespecial 9, 3) := by decide +kernel
theorem dL_law_7 : decode cL_law 7 = .ok (.astore_n 1, 1) := by decide +kernel
theorem dL_law_8 : decode cL_law 8 = .ok (.new 10, 3) := by decide +kernel
theorem dL_law_11 : decode cL_law 11 = .ok (.dup, 1) := by decide +kernel
theorem dL_law_12 : decode cL_law 12 = .ok (.invokespecial 12, 3) := by decide +kernel
theorem dL_law_15 : decode cL_law 15 = .ok (.astore_n 2, 1) := by decide +kernel
theorem dL_law_16 : decode cL_law 16 = .ok (.iconst 0, 1) := by decide +kernel
theorem dL_law_17 : decode cL_law 17 = .ok (.istore_n 3, 1) := by decide +kernel
theorem dL_law_18 : decode cL_law 18 = .ok (.iload_n 3, 1) := by decide +kernel
theorem dL_law_19 : decode cL_law 19 = .ok (.aload_n 0, 1) := by decide +kernel
theorem dL_law_20 : decode cL_law 20 = .ok (.arraylength, 1) := by decide +kernel
theorem dL_law_21 : decode cL_law 21 = .ok (.iconst 3, 1) := by decide +kernel
theorem dL_law_22 : decode cL_law 22 = .ok (.isub, 1) := by decide +kernel
theorem dL_law_23 : decode cL_law 23 = .ok (.if_icmp .gt 824, 3) := by decide +kernel
theorem dL_law_26 : decode cL_law 26 = .ok (.aload_n 0, 1) := by decide +kernel
theorem dL_law_27 : decode cL_law 27 = .ok (.iload_n 3, 1) := by decide +kernel
theorem dL_law_28 : decode cL_law 28 = .ok (.iaload, 1) := by decide +kernel
theorem dL_law_29 : decode cL_law 29 = .ok (.bipush 31, 2) := by decide +kernel
theorem dL_law_31 : decode cL_law 31 = .ok (.iand, 1) := by decide +kernel
theorem dL_law_32 : decode cL_law 32 = .ok (.tableswitch 809 0 30 #[140, 163, 176, 189, 212, 245, 278, 291, 314, 363, 376, 399, 412, 435, 458, 491, 514, 537, 550, 563, 596, 629, 642, 655, 678, 691, 714, 727, 740, 763, 786], 140) := by decide +kernel
theorem dL_law_172 : decode cL_law 172 = .ok (.aload_n 1, 1) := by decide +kernel
theorem dL_law_173 : decode cL_law 173 = .ok (.aload_n 0, 1) := by decide +kernel
theorem dL_law_174 : decode cL_law 174 = .ok (.iload_n 3, 1) := by decide +kernel
theorem dL_law_175 : decode cL_law 175 = .ok (.iconst 1, 1) := by decide +kernel
theorem dL_law_176 : decode cL_law 176 = .ok (.iadd, 1) := by decide +kernel
theorem dL_law_177 : decode cL_law 177 = .ok (.iaload, 1) := by decide +kernel
theorem dL_law_178 : decode cL_law 178 = .ok (.invokevirtual 13, 3) := by decide +kernel
theorem dL_law_181 : decode cL_law 181 = .ok (.pop, 1) := by decide +kernel
theorem dL_law_182 : decode cL_law 182 = .ok (.aload_n 2, 1) := by decide +kernel
theorem dL_law_183 : decode cL_law 183 = .ok (.aload_n 0, 1) := by decide +kernel
theorem dL_law_184 : decode cL_law 184 = .ok (.iload_n 3, 1) := by decide +kernel
theorem dL_law_185 : decode cL_law 185 = .ok (.iconst 1, 1) := by decide +kernel
theorem dL_law_186 : decode cL_law 186 = .ok (.iadd, 1) := by decide +kernel
theorem dL_law_187 : decode cL_law 187 = .ok (.iaload, 1) := by decide +kernel
theorem dL_law_188 : decode cL_law 188 = .ok (.invokevirtual 17, 3) := by decide +kernel
theorem dL_law_191 : decode cL_law 191 = .ok (.pop, 1) := by decide +kernel
theorem dL_law_192 : decode cL_law 192 = .ok (.goto 649, 3) := by decide +kernel
theorem dL_law_195 : decode cL_law 195 = .ok (.aload_n 1, 1) := by decide +kernel
theorem dL_law_196 : decode cL_law 196 = .ok (.invokevirtual 18, 3) := by decide +kernel
theorem dL_law_199 : decode cL_law 199 = .ok (.pop, 1) := by decide +kernel
theorem dL_law_200 : decode cL_law 200 = .ok (.aload_n 2, 1) := by decide +kernel
theorem dL_law_201 : decode cL_law 201 = .ok (.invokevirtual 22, 3) := by decide +kernel
theorem dL_law_204 : decode cL_law 204 = .ok (.pop, 1) := by decide +kernel
theorem dL_law_205 : decode cL_law 205 = .ok (.goto 636, 3) := by decide +kernel
theorem dL_law_208 : decode cL_law 208 = .ok (.aload_n 1, 1) := by decide +kernel
theorem dL_law_209 : decode cL_law 209 = .ok (.invokevirtual 23, 3) := by decide +kernel
theorem dL_law_212 : decode cL_law 212 = .ok (.pop, 1) := by decide +kernel
theorem dL_law_213 : decode cL_law 213 = .ok (.aload_n 2, 1) := by decide +kernel
theorem dL_law_214 : decode cL_law 214 = .ok (.invokevirtual 26, 3) := by decide +kernel
theorem dL_law_217 : decode cL_law 217 = .ok (.pop, 1) := by decide +kernel
theorem dL_law_218 : decode cL_law 218 = .ok (.goto 623, 3) := by decide +kernel
theorem dL_law_221 : decode cL_law 221 = .ok (.aload_n 1, 1) := by decide +kernel
theorem dL_law_222 : decode cL_law 222 = .ok (.aload_n 0, 1) := by decide +kernel
theorem dL_law_223 : decode cL_law 223 = .ok (.iload_n 3, 1) := by decide +kernel
theorem dL_law_224 : decode cL_law 224 = .ok (.iconst 1, 1) := by decide +kernel
theorem dL_law_225 : decode cL_law 225 = .ok (.iadd, 1) := by decide +kernel
theorem dL_law_226 : decode cL_law 226 = .ok (.iaload, 1) := by decide +kernel
theorem dL_law_227 : decode cL_law 227 = .ok (.invokevirtual 27, 3) := by decide +kernel
theorem dL_law_230 : decode cL_law 230 = .ok (.pop, 1) := by decide +kernel
theorem dL_law_231 : decode cL_law 231 = .ok (.aload_n 2, 1) := by decide +kernel
theorem dL_law_232 : decode cL_law 232 = .ok (.aload_n 0, 1) := by decide +kernel
theorem dL_law_233 : decode cL_law 233 = .ok (.iload_n 3, 1) := by decide +kernel
theorem dL_law_234 : decode cL_law 234 = .ok (.iconst 1, 1) := by decide +kernel
theorem dL_law_235 : decode cL_law 235 = .ok (.iadd, 1) := by decide +kernel
theorem dL_law_236 : decode cL_law 236 = .ok (.iaload, 1) := by decide +kernel
theorem dL_law_237 : decode cL_law 237 = .ok (.invokevirtual 30, 3) := by decide +kernel
theorem dL_law_240 : decode cL_law 240 = .ok (.pop, 1) := by decide +kernel
theorem dL_law_241 : decode cL_law 241 = .ok (.goto 600, 3) := by decide +kernel
theorem dL_law_244 : decode cL_law 244 = .ok (.aload_n 1, 1) := by decide +kernel
theorem dL_law_245 : decode cL_law 245 = .ok (.aload_n 0, 1) := by decide +kernel
theorem dL_law_246 : decode cL_law 246 = .ok (.iload_n 3, 1) := by decide +kernel
theorem dL_law_247 : decode cL_law 247 = .ok (.iconst 1, 1) := by decide +kernel
theorem dL_law_248 : decode cL_law 248 = .ok (.iadd, 1) := by decide +kernel
theorem dL_law_249 : decode cL_law 249 = .ok (.iaload, 1) := by decide +kernel
theorem dL_law_250 : decode cL_law 250 = .ok (.aload_n 0, 1) := by decide +kernel
theorem dL_law_251 : decode cL_law 251 = .ok (.iload_n 3, 1) := by decide +kernel
theorem dL_law_252 : decode cL_law 252 = .ok (.iconst 2, 1) := by decide +kernel
theorem dL_law_253 : decode cL_law 253 = .ok (.iadd, 1) := by decide +kernel
theorem dL_law_254 : decode cL_law 254 = .ok (.iaload, 1) := by decide +kernel
theorem dL_law_255 : decode cL_law 255 = .ok (.invokevirtual 31, 3) := by decide +kernel
theorem dL_law_258 : decode cL_law 258 = .ok (.pop, 1) := by decide +kernel
theorem dL_law_259 : decode cL_law 259 = .ok (.aload_n 2, 1) := by decide +kernel
theorem dL_law_260 : decode cL_law 260 = .ok (.aload_n 0, 1) := by decide +kernel
theorem dL_law_261 : decode cL_law 261 = .ok (.iload_n 3, 1) := by decide +kernel
theorem dL_law_262 : decode cL_law 262 = .ok (.iconst 1, 1) := by decide +kernel
theorem dL_law_263 : decode cL_law 263 = .ok (.iadd, 1) := by decide +kernel
theorem dL_law_264 : decode cL_law 264 = .ok (.iaload, 1) := by decide +kernel
theorem dL_law_265 : decode cL_law 265 = .ok (.aload_n 0, 1) := by decide +kernel
theorem dL_law_266 : decode cL_law 266 = .ok (.iload_n 3, 1) := by decide +kernel
theorem dL_law_267 : decode cL_law 267 = .ok (.iconst 2, 1) := by decide +kernel
theorem dL_law_268 : decode cL_law 268 = .ok (.iadd, 1) := by decide +kernel
theorem dL_law_269 : decode cL_law 269 = .ok (.iaload, 1) := by decide +kernel
theorem dL_law_270 : decode cL_law 270 = .ok (.invokevirtual 35, 3) := by decide +kernel
theorem dL_law_273 : decode cL_law 273 = .ok (.pop, 1) := by decide +kernel
theorem dL_law_274 : decode cL_law 274 = .ok (.goto 567, 3) := by decide +kernel
theorem dL_law_277 : decode cL_law 277 = .ok (.aload_n 1, 1) := by decide +kernel
theorem dL_law_278 : decode cL_law 278 = .ok (.aload_n 0, 1) := by decide +kernel
theorem dL_law_279 : decode cL_law 279 = .ok (.iload_n 3, 1) := by decide +kernel
theorem dL_law_280 : decode cL_law 280 = .ok (.iconst 1, 1) := by decide +kernel
theorem dL_law_281 : decode cL_law 281 = .ok (.iadd, 1) := by decide +kernel
theorem dL_law_282 : decode cL_law 282 = .ok (.iaload, 1) := by decide +kernel
theorem dL_law_283 : decode cL_law 283 = .ok (.aload_n 0, 1) := by decide +kernel
theorem dL_law_284 : decode cL_law 284 = .ok (.iload_n 3, 1) := by decide +kernel
theorem dL_law_285 : decode cL_law 285 = .ok (.iconst 2, 1) := by decide +kernel
theorem dL_law_286 : decode cL_law 286 = .ok (.iadd, 1) := by decide +kernel
theorem dL_law_287 : decode cL_law 287 = .ok (.iaload, 1) := by decide +kernel
theorem dL_law_288 : decode cL_law 288 = .ok (.invokevirtual 36, 3) := by decide +kernel
theorem dL_law_291 : decode cL_law 291 = .ok (.pop, 1) := by decide +kernel
theorem dL_law_292 : decode cL_law 292 = .ok (.aload_n 2, 1) := by decide +kernel
theorem dL_law_293 : decode cL_law 293 = .ok (.aload_n 0, 1) := by decide +kernel
theorem dL_law_294 : decode cL_law 294 = .ok (.iload_n 3, 1) := by decide +kernel
theorem dL_law_295 : decode cL_law 295 = .ok (.iconst 1, 1) := by decide +kernel
theorem dL_law_296 : decode cL_law 296 = .ok (.iadd, 1) := by decide +kernel
theorem dL_law_297 : decode cL_law 297 = .ok (.iaload, 1) := by decide +kernel
theorem dL_law_298 : decode cL_law 298 = .ok (.aload_n 0, 1) := by decide +kernel
theorem dL_law_299 : decode cL_law 299 = .ok (.iload_n 3, 1) := by decide +kernel
theorem dL_law_300 : decode cL_law 300 = .ok (.iconst 2, 1) := by decide +kernel
theorem dL_law_301 : decode cL_law 301 = .ok (.iadd, 1) := by decide +kernel
theorem dL_law_302 : decode cL_law 302 = .ok (.iaload, 1) := by decide +kernel
theorem dL_law_303 : decode cL_law 303 = .ok (.invokevirtual 39, 3) := by decide +kernel
theorem dL_law_306 : decode cL_law 306 = .ok (.pop, 1) := by decide +kernel
theorem dL_law_307 : decode cL_law 307 = .ok (.goto 534, 3) := by decide +kernel
theorem dL_law_310 : decode cL_law 310 = .ok (.aload_n 1, 1) := by decide +kernel
theorem dL_law_311 : decode cL_law 311 = .ok (.invokevirtual 40, 3) := by decide +kernel
theorem dL_law_314 : decode cL_law 314 = .ok (.pop, 1) := by decide +kernel
theorem dL_law_315 : decode cL_law 315 = .ok (.aload_n 2, 1) := by decide +kernel
theorem dL_law_316 : decode cL_law 316 = .ok (.invokevirtual 43, 3) := by decide +kernel
theorem dL_law_319 : decode cL_law 319 = .ok (.pop, 1) := by decide +kernel
theorem dL_law_320 : decode cL_law 320 = .ok (.goto 521, 3) := by decide +kernel
theorem dL_law_323 : decode cL_law 323 = .ok (.aload_n 1, 1) := by decide +kernel
theorem dL_law_324 : decode cL_law 324 = .ok (.aload_n 0, 1) := by decide +kernel
theorem dL_law_325 : decode cL_law 325 = .ok (.iload_n 3, 1) := by decide +kernel
theorem dL_law_326 : decode cL_law 326 = .ok (.iconst 1, 1) := by decide +kernel
theorem dL_law_327 : decode cL_law 327 = .ok (.iadd, 1) := by decide +kernel
theorem dL_law_328 : decode cL_law 328 = .ok (.iaload, 1) := by decide +kernel
theorem dL_law_329 : decode cL_law 329 = .ok (.invokevirtual 44, 3) := by decide +kernel
theorem dL_law_332 : decode cL_law 332 = .ok (.pop, 1) := by decide +kernel
theorem dL_law_333 : decode cL_law 333 = .ok (.aload_n 2, 1) := by decide +kernel
theorem dL_law_334 : decode cL_law 334 = .ok (.aload_n 0, 1) := by decide +kernel
theorem dL_law_335 : decode cL_law 335 = .ok (.iload_n 3, 1) := by decide +kernel
theorem dL_law_336 : decode cL_law 336 = .ok (.iconst 1, 1) := by decide +kernel
theorem dL_law_337 : decode cL_law 337 = .ok (.iadd, 1) := by decide +kernel
theorem dL_law_338 : decode cL_law 338 = .ok (.iaload, 1) := by decide +kernel
theorem dL_law_339 : decode cL_law 339 = .ok (.invokevirtual 47, 3) := by decide +kernel
theorem dL_law_342 : decode cL_law 342 = .ok (.pop, 1) := by decide +kernel
theorem dL_law_343 : decode cL_law 343 = .ok (.goto 498, 3) := by decide +kernel
theorem dL_law_346 : decode cL_law 346 = .ok (.aload_n 1, 1) := by decide +kernel
theorem dL_law_347 : decode cL_law 347 = .ok (.aload_n 0, 1) := by decide +kernel
theorem dL_law_348 : decode cL_law 348 = .ok (.iload_n 3, 1) := by decide +kernel
theorem dL_law_349 : decode cL_law 349 = .ok (.iconst 1, 1) := by decide +kernel
theorem dL_law_350 : decode cL_law 350 = .ok (.iadd, 1) := by decide +kernel
theorem dL_law_351 : decode cL_law 351 = .ok (.iaload, 1) := by decide +kernel
theorem dL_law_352 : decode cL_law 352 = .ok (.aload_n 0, 1) := by decide +kernel
theorem dL_law_353 : decode cL_law 353 = .ok (.iload_n 3, 1) := by decide +kernel
theorem dL_law_354 : decode cL_law 354 = .ok (.iconst 2, 1) := by decide +kernel
theorem dL_law_355 : decode cL_law 355 = .ok (.iadd, 1) := by decide +kernel
theorem dL_law_356 : decode cL_law 356 = .ok (.iaload, 1) := by decide +kernel
theorem dL_law_357 : decode cL_law 357 = .ok (.ifCond .eq 7, 3) := by decide +kernel
theorem dL_law_360 : decode cL_law 360 = .ok (.iconst 1, 1) := by decide +kernel
theorem dL_law_361 : decode cL_law 361 = .ok (.goto 4, 3) := by decide +kernel
theorem dL_law_364 : decode cL_law 364 = .ok (.iconst 0, 1) := by decide +kernel
theorem dL_law_365 : decode cL_law 365 = .ok (.invokevirtual 48, 3) := by decide +kernel
theorem dL_law_368 : decode cL_law 368 = .ok (.pop, 1) := by decide +kernel
theorem dL_law_369 : decode cL_law 369 = .ok (.aload_n 2, 1) := by decide +kernel
theorem dL_law_370 : decode cL_law 370 = .ok (.aload_n 0, 1) := by decide +kernel
theorem dL_law_371 : decode cL_law 371 = .ok (.iload_n 3, 1) := by decide +kernel
theorem dL_law_372 : decode cL_law 372 = .ok (.iconst 1, 1) := by decide +kernel
theorem dL_law_373 : decode cL_law 373 = .ok (.iadd, 1) := by decide +kernel
theorem dL_law_374 : decode cL_law 374 = .ok (.iaload, 1) := by decide +kernel
theorem dL_law_375 : decode cL_law 375 = .ok (.aload_n 0, 1) := by decide +kernel
theorem dL_law_376 : decode cL_law 376 = .ok (.iload_n 3, 1) := by decide +kernel
theorem dL_law_377 : decode cL_law 377 = .ok (.iconst 2, 1) := by decide +kernel
theorem dL_law_378 : decode cL_law 378 = .ok (.iadd, 1) := by decide +kernel
theorem dL_law_379 : decode cL_law 379 = .ok (.iaload, 1) := by decide +kernel
theorem dL_law_380 : decode cL_law 380 = .ok (.ifCond .eq 7, 3) := by decide +kernel
theorem dL_law_383 : decode cL_law 383 = .ok (.iconst 1, 1) := by decide +kernel
theorem dL_law_384 : decode cL_law 384 = .ok (.goto 4, 3) := by decide +kernel
theorem dL_law_387 : decode cL_law 387 = .ok (.iconst 0, 1) := by decide +kernel
theorem dL_law_388 : decode cL_law 388 = .ok (.invokevirtual 52, 3) := by decide +kernel
theorem dL_law_391 : decode cL_law 391 = .ok (.pop, 1) := by decide +kernel
theorem dL_law_392 : decode cL_law 392 = .ok (.goto 449, 3) := by decide +kernel
theorem dL_law_395 : decode cL_law 395 = .ok (.aload_n 1, 1) := by decide +kernel
theorem dL_law_396 : decode cL_law 396 = .ok (.invokevirtual 53, 3) := by decide +kernel
theorem dL_law_399 : decode cL_law 399 = .ok (.pop, 1) := by decide +kernel
theorem dL_law_400 : decode cL_law 400 = .ok (.aload_n 2, 1) := by decide +kernel
theorem dL_law_401 : decode cL_law 401 = .ok (.invokevirtual 56, 3) := by decide +kernel
theorem dL_law_404 : decode cL_law 404 = .ok (.pop, 1) := by decide +kernel
theorem dL_law_405 : decode cL_law 405 = .ok (.goto 436, 3) := by decide +kernel
theorem dL_law_408 : decode cL_law 408 = .ok (.aload_n 1, 1) := by decide +kernel
theorem dL_law_409 : decode cL_law 409 = .ok (.aload_n 0, 1) := by decide +kernel
theorem dL_law_410 : decode cL_law 410 = .ok (.iload_n 3, 1) := by decide +kernel
theorem dL_law_411 : decode cL_law 411 = .ok (.iconst 1, 1) := by decide +kernel
theorem dL_law_412 : decode cL_law 412 = .ok (.iadd, 1) := by decide +kernel
theorem dL_law_413 : decode cL_law 413 = .ok (.iaload, 1) := by decide +kernel
theorem dL_law_414 : decode cL_law 414 = .ok (.invokevirtual 57, 3) := by decide +kernel
theorem dL_law_417 : decode cL_law 417 = .ok (.pop, 1) := by decide +kernel
theorem dL_law_418 : decode cL_law 418 = .ok (.aload_n 2, 1) := by decide +kernel
theorem dL_law_419 : decode cL_law 419 = .ok (.aload_n 0, 1) := by decide +kernel
theorem dL_law_420 : decode cL_law 420 = .ok (.iload_n 3, 1) := by decide +kernel
theorem dL_law_421 : decode cL_law 421 = .ok (.iconst 1, 1) := by decide +kernel
theorem dL_law_422 : decode cL_law 422 = .ok (.iadd, 1) := by decide +kernel
theorem dL_law_423 : decode cL_law 423 = .ok (.iaload, 1) := by decide +kernel
theorem dL_law_424 : decode cL_law 424 = .ok (.invokevirtual 60, 3) := by decide +kernel
theorem dL_law_427 : decode cL_law 427 = .ok (.pop, 1) := by decide +kernel
theorem dL_law_428 : decode cL_law 428 = .ok (.goto 413, 3) := by decide +kernel
theorem dL_law_431 : decode cL_law 431 = .ok (.aload_n 1, 1) := by decide +kernel
theorem dL_law_432 : decode cL_law 432 = .ok (.invokevirtual 61, 3) := by decide +kernel
theorem dL_law_435 : decode cL_law 435 = .ok (.pop, 1) := by decide +kernel
theorem dL_law_436 : decode cL_law 436 = .ok (.aload_n 2, 1) := by decide +kernel
theorem dL_law_437 : decode cL_law 437 = .ok (.invokevirtual 64, 3) := by decide +kernel
theorem dL_law_440 : decode cL_law 440 = .ok (.pop, 1) := by decide +kernel
theorem dL_law_441 : decode cL_law 441 = .ok (.goto 400, 3) := by decide +kernel
theorem dL_law_444 : decode cL_law 444 = .ok (.aload_n 1, 1) := by decide +kernel
theorem dL_law_445 : decode cL_law 445 = .ok (.aload_n 0, 1) := by decide +kernel
theorem dL_law_446 : decode cL_law 446 = .ok (.iload_n 3, 1) := by decide +kernel
theorem dL_law_447 : decode cL_law 447 = .ok (.iconst 1, 1) := by decide +kernel
theorem dL_law_448 : decode cL_law 448 = .ok (.iadd, 1) := by decide +kernel
theorem dL_law_449 : decode cL_law 449 = .ok (.iaload, 1) := by decide +kernel
theorem dL_law_450 : decode cL_law 450 = .ok (.invokevirtual 65, 3) := by decide +kernel
theorem dL_law_453 : decode cL_law 453 = .ok (.pop, 1) := by decide +kernel
theorem dL_law_454 : decode cL_law 454 = .ok (.aload_n 2, 1) := by decide +kernel
theorem dL_law_455 : decode cL_law 455 = .ok (.aload_n 0, 1) := by decide +kernel
theorem dL_law_456 : decode cL_law 456 = .ok (.iload_n 3, 1) := by decide +kernel
theorem dL_law_457 : decode cL_law 457 = .ok (.iconst 1, 1) := by decide +kernel
theorem dL_law_458 : decode cL_law 458 = .ok (.iadd, 1) := by decide +kernel
theorem dL_law_459 : decode cL_law 459 = .ok (.iaload, 1) := by decide +kernel
theorem dL_law_460 : decode cL_law 460 = .ok (.invokevirtual 68, 3) := by decide +kernel
theorem dL_law_463 : decode cL_law 463 = .ok (.pop, 1) := by decide +kernel
theorem dL_law_464 : decode cL_law 464 = .ok (.goto 377, 3) := by decide +kernel
theorem dL_law_467 : decode cL_law 467 = .ok (.aload_n 1, 1) := by decide +kernel
theorem dL_law_468 : decode cL_law 468 = .ok (.aload_n 0, 1) := by decide +kernel
theorem dL_law_469 : decode cL_law 469 = .ok (.iload_n 3, 1) := by decide +kernel
theorem dL_law_470 : decode cL_law 470 = .ok (.iconst 1, 1) := by decide +kernel
theorem dL_law_471 : decode cL_law 471 = .ok (.iadd, 1) := by decide +kernel
theorem dL_law_472 : decode cL_law 472 = .ok (.iaload, 1) := by decide +kernel
theorem dL_law_473 : decode cL_law 473 = .ok (.invokevirtual 69, 3) := by decide +kernel
theorem dL_law_476 : decode cL_law 476 = .ok (.pop, 1) := by decide +kernel
theorem dL_law_477 : decode cL_law 477 = .ok (.aload_n 2, 1) := by decide +kernel
theorem dL_law_478 : decode cL_law 478 = .ok (.aload_n 0, 1) := by decide +kernel
theorem dL_law_479 : decode cL_law 479 = .ok (.iload_n 3, 1) := by decide +kernel
theorem dL_law_480 : decode cL_law 480 = .ok (.iconst 1, 1) := by decide +kernel
theorem dL_law_481 : decode cL_law 481 = .ok (.iadd, 1) := by decide +kernel
theorem dL_law_482 : decode cL_law 482 = .ok (.iaload, 1) := by decide +kernel
theorem dL_law_483 : decode cL_law 483 = .ok (.invokevirtual 72, 3) := by decide +kernel
theorem dL_law_486 : decode cL_law 486 = .ok (.pop, 1) := by decide +kernel
theorem dL_law_487 : decode cL_law 487 = .ok (.goto 354, 3) := by decide +kernel
theorem dL_law_490 : decode cL_law 490 = .ok (.aload_n 1, 1) := by decide +kernel
theorem dL_law_491 : decode cL_law 491 = .ok (.aload_n 0, 1) := by decide +kernel
theorem dL_law_492 : decode cL_law 492 = .ok (.iload_n 3, 1) := by decide +kernel
theorem dL_law_493 : decode cL_law 493 = .ok (.iconst 1, 1) := by decide +kernel
theorem dL_law_494 : decode cL_law 494 = .ok (.iadd, 1) := by decide +kernel
theorem dL_law_495 : decode cL_law 495 = .ok (.iaload, 1) := by decide +kernel
theorem dL_law_496 : decode cL_law 496 = .ok (.aload_n 0, 1) := by decide +kernel
theorem dL_law_497 : decode cL_law 497 = .ok (.iload_n 3, 1) := by decide +kernel
theorem dL_law_498 : decode cL_law 498 = .ok (.iconst 2, 1) := by decide +kernel
theorem dL_law_499 : decode cL_law 499 = .ok (.iadd, 1) := by decide +kernel
theorem dL_law_500 : decode cL_law 500 = .ok (.iaload, 1) := by decide +kernel
theorem dL_law_501 : decode cL_law 501 = .ok (.invokevirtual 73, 3) := by decide +kernel
theorem dL_law_504 : decode cL_law 504 = .ok (.pop, 1) := by decide +kernel
theorem dL_law_505 : decode cL_law 505 = .ok (.aload_n 2, 1) := by decide +kernel
theorem dL_law_506 : decode cL_law 506 = .ok (.aload_n 0, 1) := by decide +kernel
theorem dL_law_507 : decode cL_law 507 = .ok (.iload_n 3, 1) := by decide +kernel
theorem dL_law_508 : decode cL_law 508 = .ok (.iconst 1, 1) := by decide +kernel
theorem dL_law_509 : decode cL_law 509 = .ok (.iadd, 1) := by decide +kernel
theorem dL_law_510 : decode cL_law 510 = .ok (.iaload, 1) := by decide +kernel
theorem dL_law_511 : decode cL_law 511 = .ok (.aload_n 0, 1) := by decide +kernel
theorem dL_law_512 : decode cL_law 512 = .ok (.iload_n 3, 1) := by decide +kernel
theorem dL_law_513 : decode cL_law 513 = .ok (.iconst 2, 1) := by decide +kernel
theorem dL_law_514 : decode cL_law 514 = .ok (.iadd, 1) := by decide +kernel
theorem dL_law_515 : decode cL_law 515 = .ok (.iaload, 1) := by decide +kernel
theorem dL_law_516 : decode cL_law 516 = .ok (.invokevirtual 76, 3) := by decide +kernel
theorem dL_law_519 : decode cL_law 519 = .ok (.pop, 1) := by decide +kernel
theorem dL_law_520 : decode cL_law 520 = .ok (.goto 321, 3) := by decide +kernel
theorem dL_law_523 : decode cL_law 523 = .ok (.aload_n 1, 1) := by decide +kernel
theorem dL_law_524 : decode cL_law 524 = .ok (.aload_n 0, 1) := by decide +kernel
theorem dL_law_525 : decode cL_law 525 = .ok (.iload_n 3, 1) := by decide +kernel
theorem dL_law_526 : decode cL_law 526 = .ok (.iconst 1, 1) := by decide +kernel
theorem dL_law_527 : decode cL_law 527 = .ok (.iadd, 1) := by decide +kernel
theorem dL_law_528 : decode cL_law 528 = .ok (.iaload, 1) := by decide +kernel
theorem dL_law_529 : decode cL_law 529 = .ok (.invokevirtual 77, 3) := by decide +kernel
theorem dL_law_532 : decode cL_law 532 = .ok (.pop, 1) := by decide +kernel
theorem dL_law_533 : decode cL_law 533 = .ok (.aload_n 2, 1) := by decide +kernel
theorem dL_law_534 : decode cL_law 534 = .ok (.aload_n 0, 1) := by decide +kernel
theorem dL_law_535 : decode cL_law 535 = .ok (.iload_n 3, 1) := by decide +kernel
theorem dL_law_536 : decode cL_law 536 = .ok (.iconst 1, 1) := by decide +kernel
theorem dL_law_537 : decode cL_law 537 = .ok (.iadd, 1) := by decide +kernel
theorem dL_law_538 : decode cL_law 538 = .ok (.iaload, 1) := by decide +kernel
theorem dL_law_539 : decode cL_law 539 = .ok (.invokevirtual 80, 3) := by decide +kernel
theorem dL_law_542 : decode cL_law 542 = .ok (.pop, 1) := by decide +kernel
theorem dL_law_543 : decode cL_law 543 = .ok (.goto 298, 3) := by decide +kernel
theorem dL_law_546 : decode cL_law 546 = .ok (.aload_n 1, 1) := by decide +kernel
theorem dL_law_547 : decode cL_law 547 = .ok (.aload_n 0, 1) := by decide +kernel
theorem dL_law_548 : decode cL_law 548 = .ok (.iload_n 3, 1) := by decide +kernel
theorem dL_law_549 : decode cL_law 549 = .ok (.iconst 1, 1) := by decide +kernel
theorem dL_law_550 : decode cL_law 550 = .ok (.iadd, 1) := by decide +kernel
theorem dL_law_551 : decode cL_law 551 = .ok (.iaload, 1) := by decide +kernel
theorem dL_law_552 : decode cL_law 552 = .ok (.invokevirtual 81, 3) := by decide +kernel
theorem dL_law_555 : decode cL_law 555 = .ok (.pop, 1) := by decide +kernel
theorem dL_law_556 : decode cL_law 556 = .ok (.aload_n 2, 1) := by decide +kernel
theorem dL_law_557 : decode cL_law 557 = .ok (.aload_n 0, 1) := by decide +kernel
theorem dL_law_558 : decode cL_law 558 = .ok (.iload_n 3, 1) := by decide +kernel
theorem dL_law_559 : decode cL_law 559 = .ok (.iconst 1, 1) := by decide +kernel
theorem dL_law_560 : decode cL_law 560 = .ok (.iadd, 1) := by decide +kernel
theorem dL_law_561 : decode cL_law 561 = .ok (.iaload, 1) := by decide +kernel
theorem dL_law_562 : decode cL_law 562 = .ok (.invokevirtual 84, 3) := by decide +kernel
theorem dL_law_565 : decode cL_law 565 = .ok (.pop, 1) := by decide +kernel
theorem dL_law_566 : decode cL_law 566 = .ok (.goto 275, 3) := by decide +kernel
theorem dL_law_569 : decode cL_law 569 = .ok (.aload_n 1, 1) := by decide +kernel
theorem dL_law_570 : decode cL_law 570 = .ok (.invokevirtual 85, 3) := by decide +kernel
theorem dL_law_573 : decode cL_law 573 = .ok (.pop, 1) := by decide +kernel
theorem dL_law_574 : decode cL_law 574 = .ok (.aload_n 2, 1) := by decide +kernel
theorem dL_law_575 : decode cL_law 575 = .ok (.invokevirtual 88, 3) := by decide +kernel
theorem dL_law_578 : decode cL_law 578 = .ok (.pop, 1) := by decide +kernel
theorem dL_law_579 : decode cL_law 579 = .ok (.goto 262, 3) := by decide +kernel
theorem dL_law_582 : decode cL_law 582 = .ok (.aload_n 1, 1) := by decide +kernel
theorem dL_law_583 : decode cL_law 583 = .ok (.invokevirtual 89, 3) := by decide +kernel
theorem dL_law_586 : decode cL_law 586 = .ok (.pop, 1) := by decide +kernel
theorem dL_law_587 : decode cL_law 587 = .ok (.aload_n 2, 1) := by decide +kernel
theorem dL_law_588 : decode cL_law 588 = .ok (.invokevirtual 92, 3) := by decide +kernel
theorem dL_law_591 : decode cL_law 591 = .ok (.pop, 1) := by decide +kernel
theorem dL_law_592 : decode cL_law 592 = .ok (.goto 249, 3) := by decide +kernel
theorem dL_law_595 : decode cL_law 595 = .ok (.aload_n 1, 1) := by decide +kernel
theorem dL_law_596 : decode cL_law 596 = .ok (.aload_n 0, 1) := by decide +kernel
theorem dL_law_597 : decode cL_law 597 = .ok (.iload_n 3, 1) := by decide +kernel
theorem dL_law_598 : decode cL_law 598 = .ok (.iconst 1, 1) := by decide +kernel
theorem dL_law_599 : decode cL_law 599 = .ok (.iadd, 1) := by decide +kernel
theorem dL_law_600 : decode cL_law 600 = .ok (.iaload, 1) := by decide +kernel
theorem dL_law_601 : decode cL_law 601 = .ok (.aload_n 0, 1) := by decide +kernel
theorem dL_law_602 : decode cL_law 602 = .ok (.iload_n 3, 1) := by decide +kernel
theorem dL_law_603 : decode cL_law 603 = .ok (.iconst 2, 1) := by decide +kernel
theorem dL_law_604 : decode cL_law 604 = .ok (.iadd, 1) := by decide +kernel
theorem dL_law_605 : decode cL_law 605 = .ok (.iaload, 1) := by decide +kernel
theorem dL_law_606 : decode cL_law 606 = .ok (.invokevirtual 93, 3) := by decide +kernel
theorem dL_law_609 : decode cL_law 609 = .ok (.aload_n 2, 1) := by decide +kernel
theorem dL_law_610 : decode cL_law 610 = .ok (.aload_n 0, 1) := by decide +kernel
theorem dL_law_611 : decode cL_law 611 = .ok (.iload_n 3, 1) := by decide +kernel
theorem dL_law_612 : decode cL_law 612 = .ok (.iconst 1, 1) := by decide +kernel
theorem dL_law_613 : decode cL_law 613 = .ok (.iadd, 1) := by decide +kernel
theorem dL_law_614 : decode cL_law 614 = .ok (.iaload, 1) := by decide +kernel
theorem dL_law_615 : decode cL_law 615 = .ok (.aload_n 0, 1) := by decide +kernel
theorem dL_law_616 : decode cL_law 616 = .ok (.iload_n 3, 1) := by decide +kernel
theorem dL_law_617 : decode cL_law 617 = .ok (.iconst 2, 1) := by decide +kernel
theorem dL_law_618 : decode cL_law 618 = .ok (.iadd, 1) := by decide +kernel
theorem dL_law_619 : decode cL_law 619 = .ok (.iaload, 1) := by decide +kernel
theorem dL_law_620 : decode cL_law 620 = .ok (.invokevirtual 96, 3) := by decide +kernel
theorem dL_law_623 : decode cL_law 623 = .ok (.if_icmp .eq 218, 3) := by decide +kernel
theorem dL_law_626 : decode cL_law 626 = .ok (.iconst 0, 1) := by decide +kernel
theorem dL_law_627 : decode cL_law 627 = .ok (.ireturn, 1) := by decide +kernel
theorem dL_law_628 : decode cL_law 628 = .ok (.aload_n 1, 1) := by decide +kernel
theorem dL_law_629 : decode cL_law 629 = .ok (.aload_n 0, 1) := by decide +kernel
theorem dL_law_630 : decode cL_law 630 = .ok (.iload_n 3, 1) := by decide +kernel
theorem dL_law_631 : decode cL_law 631 = .ok (.iconst 1, 1) := by decide +kernel
theorem dL_law_632 : decode cL_law 632 = .ok (.iadd, 1) := by decide +kernel
theorem dL_law_633 : decode cL_law 633 = .ok (.iaload, 1) := by decide +kernel
theorem dL_law_634 : decode cL_law 634 = .ok (.aload_n 0, 1) := by decide +kernel
theorem dL_law_635 : decode cL_law 635 = .ok (.iload_n 3, 1) := by decide +kernel
theorem dL_law_636 : decode cL_law 636 = .ok (.iconst 2, 1) := by decide +kernel
theorem dL_law_637 : decode cL_law 637 = .ok (.iadd, 1) := by decide +kernel
theorem dL_law_638 : decode cL_law 638 = .ok (.iaload, 1) := by decide +kernel
theorem dL_law_639 : decode cL_law 639 = .ok (.invokevirtual 97, 3) := by decide +kernel
theorem dL_law_642 : decode cL_law 642 = .ok (.pop, 1) := by decide +kernel
theorem dL_law_643 : decode cL_law 643 = .ok (.aload_n 2, 1) := by decide +kernel
theorem dL_law_644 : decode cL_law 644 = .ok (.aload_n 0, 1) := by decide +kernel
theorem dL_law_645 : decode cL_law 645 = .ok (.iload_n 3, 1) := by decide +kernel
theorem dL_law_646 : decode cL_law 646 = .ok (.iconst 1, 1) := by decide +kernel
theorem dL_law_647 : decode cL_law 647 = .ok (.iadd, 1) := by decide +kernel
theorem dL_law_648 : decode cL_law 648 = .ok (.iaload, 1) := by decide +kernel
theorem dL_law_649 : decode cL_law 649 = .ok (.aload_n 0, 1) := by decide +kernel
theorem dL_law_650 : decode cL_law 650 = .ok (.iload_n 3, 1) := by decide +kernel
theorem dL_law_651 : decode cL_law 651 = .ok (.iconst 2, 1) := by decide +kernel
theorem dL_law_652 : decode cL_law 652 = .ok (.iadd, 1) := by decide +kernel
theorem dL_law_653 : decode cL_law 653 = .ok (.iaload, 1) := by decide +kernel
theorem dL_law_654 : decode cL_law 654 = .ok (.invokevirtual 100, 3) := by decide +kernel
theorem dL_law_657 : decode cL_law 657 = .ok (.pop, 1) := by decide +kernel
theorem dL_law_658 : decode cL_law 658 = .ok (.goto 183, 3) := by decide +kernel
theorem dL_law_661 : decode cL_law 661 = .ok (.aload_n 1, 1) := by decide +kernel
theorem dL_law_662 : decode cL_law 662 = .ok (.invokevirtual 101, 3) := by decide +kernel
theorem dL_law_665 : decode cL_law 665 = .ok (.pop, 1) := by decide +kernel
theorem dL_law_666 : decode cL_law 666 = .ok (.aload_n 2, 1) := by decide +kernel
theorem dL_law_667 : decode cL_law 667 = .ok (.invokevirtual 104, 3) := by decide +kernel
theorem dL_law_670 : decode cL_law 670 = .ok (.pop, 1) := by decide +kernel
theorem dL_law_671 : decode cL_law 671 = .ok (.goto 170, 3) := by decide +kernel
theorem dL_law_674 : decode cL_law 674 = .ok (.aload_n 1, 1) := by decide +kernel
theorem dL_law_675 : decode cL_law 675 = .ok (.invokevirtual 105, 3) := by decide +kernel
theorem dL_law_678 : decode cL_law 678 = .ok (.pop, 1) := by decide +kernel
theorem dL_law_679 : decode cL_law 679 = .ok (.aload_n 2, 1) := by decide +kernel
theorem dL_law_680 : decode cL_law 680 = .ok (.invokevirtual 108, 3) := by decide +kernel
theorem dL_law_683 : decode cL_law 683 = .ok (.pop, 1) := by decide +kernel
theorem dL_law_684 : decode cL_law 684 = .ok (.goto 157, 3) := by decide +kernel
theorem dL_law_687 : decode cL_law 687 = .ok (.aload_n 1, 1) := by decide +kernel
theorem dL_law_688 : decode cL_law 688 = .ok (.aload_n 0, 1) := by decide +kernel
theorem dL_law_689 : decode cL_law 689 = .ok (.iload_n 3, 1) := by decide +kernel
theorem dL_law_690 : decode cL_law 690 = .ok (.iconst 1, 1) := by decide +kernel
theorem dL_law_691 : decode cL_law 691 = .ok (.iadd, 1) := by decide +kernel
theorem dL_law_692 : decode cL_law 692 = .ok (.iaload, 1) := by decide +kernel
theorem dL_law_693 : decode cL_law 693 = .ok (.invokevirtual 109, 3) := by decide +kernel
theorem dL_law_696 : decode cL_law 696 = .ok (.pop, 1) := by decide +kernel
theorem dL_law_697 : decode cL_law 697 = .ok (.aload_n 2, 1) := by decide +kernel
theorem dL_law_698 : decode cL_law 698 = .ok (.aload_n 0, 1) := by decide +kernel
theorem dL_law_699 : decode cL_law 699 = .ok (.iload_n 3, 1) := by decide +kernel
theorem dL_law_700 : decode cL_law 700 = .ok (.iconst 1, 1) := by decide +kernel
theorem dL_law_701 : decode cL_law 701 = .ok (.iadd, 1) := by decide +kernel
theorem dL_law_702 : decode cL_law 702 = .ok (.iaload, 1) := by decide +kernel
theorem dL_law_703 : decode cL_law 703 = .ok (.invokevirtual 112, 3) := by decide +kernel
theorem dL_law_706 : decode cL_law 706 = .ok (.pop, 1) := by decide +kernel
theorem dL_law_707 : decode cL_law 707 = .ok (.goto 134, 3) := by decide +kernel
theorem dL_law_710 : decode cL_law 710 = .ok (.aload_n 1, 1) := by decide +kernel
theorem dL_law_711 : decode cL_law 711 = .ok (.invokevirtual 113, 3) := by decide +kernel
theorem dL_law_714 : decode cL_law 714 = .ok (.pop, 1) := by decide +kernel
theorem dL_law_715 : decode cL_law 715 = .ok (.aload_n 2, 1) := by decide +kernel
theorem dL_law_716 : decode cL_law 716 = .ok (.invokevirtual 116, 3) := by decide +kernel
theorem dL_law_719 : decode cL_law 719 = .ok (.pop, 1) := by decide +kernel
theorem dL_law_720 : decode cL_law 720 = .ok (.goto 121, 3) := by decide +kernel
theorem dL_law_723 : decode cL_law 723 = .ok (.aload_n 1, 1) := by decide +kernel
theorem dL_law_724 : decode cL_law 724 = .ok (.aload_n 0, 1) := by decide +kernel
theorem dL_law_725 : decode cL_law 725 = .ok (.iload_n 3, 1) := by decide +kernel
theorem dL_law_726 : decode cL_law 726 = .ok (.iconst 1, 1) := by decide +kernel
theorem dL_law_727 : decode cL_law 727 = .ok (.iadd, 1) := by decide +kernel
theorem dL_law_728 : decode cL_law 728 = .ok (.iaload, 1) := by decide +kernel
theorem dL_law_729 : decode cL_law 729 = .ok (.invokevirtual 117, 3) := by decide +kernel
theorem dL_law_732 : decode cL_law 732 = .ok (.pop, 1) := by decide +kernel
theorem dL_law_733 : decode cL_law 733 = .ok (.aload_n 2, 1) := by decide +kernel
theorem dL_law_734 : decode cL_law 734 = .ok (.aload_n 0, 1) := by decide +kernel
theorem dL_law_735 : decode cL_law 735 = .ok (.iload_n 3, 1) := by decide +kernel
theorem dL_law_736 : decode cL_law 736 = .ok (.iconst 1, 1) := by decide +kernel
theorem dL_law_737 : decode cL_law 737 = .ok (.iadd, 1) := by decide +kernel
theorem dL_law_738 : decode cL_law 738 = .ok (.iaload, 1) := by decide +kernel
theorem dL_law_739 : decode cL_law 739 = .ok (.invokevirtual 120, 3) := by decide +kernel
theorem dL_law_742 : decode cL_law 742 = .ok (.pop, 1) := by decide +kernel
theorem dL_law_743 : decode cL_law 743 = .ok (.goto 98, 3) := by decide +kernel
theorem dL_law_746 : decode cL_law 746 = .ok (.aload_n 1, 1) := by decide +kernel
theorem dL_law_747 : decode cL_law 747 = .ok (.invokevirtual 121, 3) := by decide +kernel
theorem dL_law_750 : decode cL_law 750 = .ok (.pop, 1) := by decide +kernel
theorem dL_law_751 : decode cL_law 751 = .ok (.aload_n 2, 1) := by decide +kernel
theorem dL_law_752 : decode cL_law 752 = .ok (.invokevirtual 124, 3) := by decide +kernel
theorem dL_law_755 : decode cL_law 755 = .ok (.pop, 1) := by decide +kernel
theorem dL_law_756 : decode cL_law 756 = .ok (.goto 85, 3) := by decide +kernel
theorem dL_law_759 : decode cL_law 759 = .ok (.aload_n 1, 1) := by decide +kernel
theorem dL_law_760 : decode cL_law 760 = .ok (.invokevirtual 125, 3) := by decide +kernel
theorem dL_law_763 : decode cL_law 763 = .ok (.pop, 1) := by decide +kernel
theorem dL_law_764 : decode cL_law 764 = .ok (.aload_n 2, 1) := by decide +kernel
theorem dL_law_765 : decode cL_law 765 = .ok (.invokevirtual 128, 3) := by decide +kernel
theorem dL_law_768 : decode cL_law 768 = .ok (.pop, 1) := by decide +kernel
theorem dL_law_769 : decode cL_law 769 = .ok (.goto 72, 3) := by decide +kernel
theorem dL_law_772 : decode cL_law 772 = .ok (.aload_n 1, 1) := by decide +kernel
theorem dL_law_773 : decode cL_law 773 = .ok (.aload_n 0, 1) := by decide +kernel
theorem dL_law_774 : decode cL_law 774 = .ok (.iload_n 3, 1) := by decide +kernel
theorem dL_law_775 : decode cL_law 775 = .ok (.iconst 1, 1) := by decide +kernel
theorem dL_law_776 : decode cL_law 776 = .ok (.iadd, 1) := by decide +kernel
theorem dL_law_777 : decode cL_law 777 = .ok (.iaload, 1) := by decide +kernel
theorem dL_law_778 : decode cL_law 778 = .ok (.invokevirtual 129, 3) := by decide +kernel
theorem dL_law_781 : decode cL_law 781 = .ok (.pop, 1) := by decide +kernel
theorem dL_law_782 : decode cL_law 782 = .ok (.aload_n 2, 1) := by decide +kernel
theorem dL_law_783 : decode cL_law 783 = .ok (.aload_n 0, 1) := by decide +kernel
theorem dL_law_784 : decode cL_law 784 = .ok (.iload_n 3, 1) := by decide +kernel
theorem dL_law_785 : decode cL_law 785 = .ok (.iconst 1, 1) := by decide +kernel
theorem dL_law_786 : decode cL_law 786 = .ok (.iadd, 1) := by decide +kernel
theorem dL_law_787 : decode cL_law 787 = .ok (.iaload, 1) := by decide +kernel
theorem dL_law_788 : decode cL_law 788 = .ok (.invokevirtual 132, 3) := by decide +kernel
theorem dL_law_791 : decode cL_law 791 = .ok (.pop, 1) := by decide +kernel
theorem dL_law_792 : decode cL_law 792 = .ok (.goto 49, 3) := by decide +kernel
theorem dL_law_795 : decode cL_law 795 = .ok (.aload_n 1, 1) := by decide +kernel
theorem dL_law_796 : decode cL_law 796 = .ok (.aload_n 0, 1) := by decide +kernel
theorem dL_law_797 : decode cL_law 797 = .ok (.iload_n 3, 1) := by decide +kernel
theorem dL_law_798 : decode cL_law 798 = .ok (.iconst 1, 1) := by decide +kernel
theorem dL_law_799 : decode cL_law 799 = .ok (.iadd, 1) := by decide +kernel
theorem dL_law_800 : decode cL_law 800 = .ok (.iaload, 1) := by decide +kernel
theorem dL_law_801 : decode cL_law 801 = .ok (.invokevirtual 133, 3) := by decide +kernel
theorem dL_law_804 : decode cL_law 804 = .ok (.pop, 1) := by decide +kernel
theorem dL_law_805 : decode cL_law 805 = .ok (.aload_n 2, 1) := by decide +kernel
theorem dL_law_806 : decode cL_law 806 = .ok (.aload_n 0, 1) := by decide +kernel
theorem dL_law_807 : decode cL_law 807 = .ok (.iload_n 3, 1) := by decide +kernel
theorem dL_law_808 : decode cL_law 808 = .ok (.iconst 1, 1) := by decide +kernel
theorem dL_law_809 : decode cL_law 809 = .ok (.iadd, 1) := by decide +kernel
theorem dL_law_810 : decode cL_law 810 = .ok (.iaload, 1) := by decide +kernel
theorem dL_law_811 : decode cL_law 811 = .ok (.invokevirtual 136, 3) := by decide +kernel
theorem dL_law_814 : decode cL_law 814 = .ok (.pop, 1) := by decide +kernel
theorem dL_law_815 : decode cL_law 815 = .ok (.goto 26, 3) := by decide +kernel
theorem dL_law_818 : decode cL_law 818 = .ok (.aload_n 1, 1) := by decide +kernel
theorem dL_law_819 : decode cL_law 819 = .ok (.aload_n 0, 1) := by decide +kernel
theorem dL_law_820 : decode cL_law 820 = .ok (.iload_n 3, 1) := by decide +kernel
theorem dL_law_821 : decode cL_law 821 = .ok (.iconst 1, 1) := by decide +kernel
theorem dL_law_822 : decode cL_law 822 = .ok (.iadd, 1) := by decide +kernel
theorem dL_law_823 : decode cL_law 823 = .ok (.iaload, 1) := by decide +kernel
theorem dL_law_824 : decode cL_law 824 = .ok (.invokevirtual 137, 3) := by decide +kernel
theorem dL_law_827 : decode cL_law 827 = .ok (.pop, 1) := by decide +kernel
theorem dL_law_828 : decode cL_law 828 = .ok (.aload_n 2, 1) := by decide +kernel
theorem dL_law_829 : decode cL_law 829 = .ok (.aload_n 0, 1) := by decide +kernel
theorem dL_law_830 : decode cL_law 830 = .ok (.iload_n 3, 1) := by decide +kernel
theorem dL_law_831 : decode cL_law 831 = .ok (.iconst 1, 1) := by decide +kernel
theorem dL_law_832 : decode cL_law 832 = .ok (.iadd, 1) := by decide +kernel
theorem dL_law_833 : decode cL_law 833 = .ok (.iaload, 1) := by decide +kernel
theorem dL_law_834 : decode cL_law 834 = .ok (.invokevirtual 140, 3) := by decide +kernel
theorem dL_law_837 : decode cL_law 837 = .ok (.pop, 1) := by decide +kernel
theorem dL_law_838 : decode cL_law 838 = .ok (.goto 3, 3) := by decide +kernel
theorem dL_law_841 : decode cL_law 841 = .ok (.iinc 3 3, 3) := by decide +kernel
theorem dL_law_844 : decode cL_law 844 = .ok (.goto (-826), 3) := by decide +kernel
theorem dL_law_847 : decode cL_law 847 = .ok (.iconst 1, 1) := by decide +kernel
theorem dL_law_848 : decode cL_law 848 = .ok (.ireturn, 1) := by decide +kernel
