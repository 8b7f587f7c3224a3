theorem dX7_two_39 : decode cX7_two 39 = .ok (.getfield 136, 3) := by decide +kernel
theorem dX7_two_42 : decode cX7_two 42 = .ok (.invokevirtual 203, 3) := by decide +kernel
theorem dX7_two_45 : decode cX7_two 45 = .ok (.aload_n 0, 1) := by decide +kernel
theorem dX7_two_46 : decode cX7_two 46 = .ok (.getfield 33, 3) := by decide +kernel
theorem dX7_two_49 : decode cX7_two 49 = .ok (.aload_n 0, 1) := by decide +kernel
theorem dX7_two_50 : decode cX7_two 50 = .ok (.getfield 72, 3) := by decide +kernel
theorem dX7_two_53 : decode cX7_two 53 = .ok (.aload_n 0, 1) := by decide +kernel
theorem dX7_two_54 : decode cX7_two 54 = .ok (.getfield 66, 3) := by decide +kernel
theorem dX7_two_57 : decode cX7_two 57 = .ok (.aload_n 0, 1) := by decide +kernel
theorem dX7_two_58 : decode cX7_two 58 = .ok (.getfield 19, 3) := by decide +kernel
theorem dX7_two_61 : decode cX7_two 61 = .ok (.iload_n 1, 1) := by decide +kernel
theorem dX7_two_62 : decode cX7_two 62 = .ok (.invokevirtual 230, 3) := by decide +kernel
theorem dX7_two_65 : decode cX7_two 65 = .ok (.ireturn, 1) := by decide +kernel
set_option maxRecDepth 20000 in
theorem ggX7_idle_X0_isBanned : GoodIn wsX7_idle wsX0_isBanned := goodIn_m (fun w hw => by
  revert w hw; unfold wsX0_isBanned
  exact am_cons (am_at in_wsX7_idle_0 7 rfl) (am_app (am_cons (am_at in_wsX7_idle_0 8 rfl) am_nil) in_wsX7_idle_2)) gw_wsX0_isBanned
set_option maxRecDepth 20000 in
theorem gX7_idle_X0_isBanned : GoodIn wsX7_idle (wsV RX7 161 RX0 yX0_isBanned wsX0_isBanned) := goodIn_app (goodIn_m (am_cons (am_at in_wsX7_idle_0 3 rfl) (am_cons (am_at in_wsX7_idle_0 4 rfl) (am_cons (am_at in_wsX7_idle_0 5 rfl) (am_cons (am_at in_wsX7_idle_0 6 rfl) am_nil)))) (by decide +kernel)) ggX7_idle_X0_isBanned
theorem dX7_idle_0 : decode cX7_idle 0 = .ok (.iconst 0, 1) := by decide +kernel
theorem dX7_idle_1 : decode cX7_idle 1 = .ok (.istore_n 1, 1) := by decide +kernel
theorem dX7_idle_2 : decode cX7_idle 2 = .ok (.iconst 0, 1) := by decide +kernel
theorem dX7_idle_3 : decode cX7_idle 3 = .ok (.istore_n 2, 1) := by decide +kernel
theorem dX7_idle_4 : decode cX7_idle 4 = .ok (.iload_n 2, 1) := by decide +kernel
theorem dX7_idle_5 : decode cX7_idle 5 = .ok (.aload_n 0, 1) := by decide +kernel
theorem dX7_idle_6 : decode cX7_idle 6 = .ok (.getfield 72, 3) := by decide +kernel
theorem dX7_idle_9 : decode cX7_idle 9 = .ok (.getfield 106, 3) := by decide +kernel
theorem dX7_idle_12 : decode cX7_idle 12 = .ok (.if_icmp .ge 32, 3) := by decide +kernel
theorem dX7_idle_15 : decode cX7_idle 15 = .ok (.aload_n 0, 1) := by decide +kernel
theorem dX7_idle_16 : decode cX7_idle 16 = .ok (.getfield 72, 3) := by decide +kernel
theorem dX7_idle_19 : decode cX7_idle 19 = .ok (.iload_n 2, 1) := by decide +kernel
theorem dX7_idle_20 : decode cX7_idle 20 = .ok (.invokevirtual 161, 3) := by decide +kernel
theorem dX7_idle_23 : decode cX7_idle 23 = .ok (.ifCond .ne 15, 3) := by decide +kernel
theorem dX7_idle_26 : decode cX7_idle 26 = .ok (.iload_n 1, 1) := by decide +kernel
theorem dX7_idle_27 : decode cX7_idle 27 = .ok (.aload_n 0, 1) := by decide +kernel
theorem dX7_idle_28 : decode cX7_idle 28 = .ok (.getfield 72, 3) := by decide +kernel
theorem dX7_idle_31 : decode cX7_idle 31 = .ok (.getfield 151, 3) := by decide +kernel
theorem dX7_idle_34 : decode cX7_idle 34 = .ok (.iload_n 2, 1) := by decide +kernel
theorem dX7_idle_35 : decode cX7_idle 35 = .ok (.iaload, 1) := by decide +kernel
theorem dX7_idle_36 : decode cX7_idle 36 = .ok (.ior, 1) := by decide +kernel
theorem dX7_idle_37 : decode cX7_idle 37 = .ok (.istore_n 1, 1) := by decide +kernel
theorem dX7_idle_38 : decode cX7_idle 38 = .ok (.iinc 2 1, 3) := by decide +kernel
theorem dX7_idle_41 : decode cX7_idle 41 = .ok (.goto (-37), 3) := by decide +kernel
theorem dX7_idle_44 : decode cX7_idle 44 = .ok (.sipush 4095, 3) := by decide +kernel
theorem dX7_idle_47 : decode cX7_idle 47 = .ok (.iload_n 1, 1) := by decide +kernel
theorem dX7_idle_48 : decode cX7_idle 48 = .ok (.iconst (-1), 1) := by decide +kernel
theorem dX7_idle_49 : decode cX7_idle 49 = .ok (.ixor, 1) := by decide +kernel
theorem dX7_idle_50 : decode cX7_idle 50 = .ok (.iand, 1) := by decide +kernel
theorem dX7_idle_51 : decode cX7_idle 51 = .ok (.ireturn, 1) := by decide +kernel
set_option maxRecDepth 20000 in
theorem ggX7_stranded_X0_fillExits : GoodIn wsX7_stranded wsX0_fillExits := goodIn_m (fun w hw => by
  revert w hw; unfold wsX0_fillExits
  exact am_cons (am_at in_wsX7_stranded_0 9 rfl) (am_app (am_cons (am_at in_wsX7_stranded_0 10 rfl) (am_cons (am_at in_wsX7_stranded_0 11 rfl) (am_cons (am_at in_wsX7_stranded_0 12 rfl) (am_cons (am_at in_wsX7_stranded_0 13 rfl) (am_cons (am_at in_wsX7_stranded_0 8 rfl) (am_cons (am_at in_wsX7_stranded_0 14 rfl) (am_cons (am_at in_wsX7_stranded_0 15 rfl) (am_cons (am_at in_wsX7_stranded_0 16 rfl) (am_cons (am_at in_wsX7_stranded_0 17 rfl) (am_cons (am_at in_wsX7_stranded_0 18 rfl) (am_cons (am_at in_wsX7_stranded_0 19 rfl) (am_cons (am_at in_wsX7_stranded_0 20 rfl) (am_cons (am_at in_wsX7_stranded_0 21 rfl) (am_cons (am_at in_wsX7_stranded_0 22 rfl) am_nil)))))))))))))) in_wsX7_stranded_3)) gw_wsX0_fillExits
set_option maxRecDepth 20000 in
theorem gX7_stranded_X0_fillExits : GoodIn wsX7_stranded (wsV RX7 203 RX0 yX0_fillExits wsX0_fillExits) := goodIn_app (goodIn_m (am_cons (am_at in_wsX7_stranded_0 5 rfl) (am_cons (am_at in_wsX7_stranded_0 6 rfl) (am_cons (am_at in_wsX7_stranded_0 7 rfl) (am_cons (am_at in_wsX7_stranded_0 8 rfl) am_nil)))) (by decide +kernel)) ggX7_stranded_X0_fillExits
theorem dX7_stranded_0 : decode cX7_stranded 0 = .ok (.aload_n 0, 1) := by decide +kernel
theorem dX7_stranded_1 : decode cX7_stranded 1 = .ok (.getfield 72, 3) := by decide +kernel
theorem dX7_stranded_4 : decode cX7_stranded 4 = .ok (.aload_n 0, 1) := by decide +kernel
theorem dX7_stranded_5 : decode cX7_stranded 5 = .ok (.getfield 66, 3) := by decide +kernel
theorem dX7_stranded_8 : decode cX7_stranded 8 = .ok (.aload_n 0, 1) := by decide +kernel
theorem dX7_stranded_9 : decode cX7_stranded 9 = .ok (.getfield 19, 3) := by decide +kernel
theorem dX7_stranded_12 : decode cX7_stranded 12 = .ok (.getfield 136, 3) := by decide +kernel
theorem dX7_stranded_15 : decode cX7_stranded 15 = .ok (.invokevirtual 203, 3) := by decide +kernel
theorem dX7_stranded_18 : decode cX7_stranded 18 = .ok (.iconst 0, 1) := by decide +kernel
theorem dX7_stranded_19 : decode cX7_stranded 19 = .ok (.istore_n 1, 1) := by decide +kernel
theorem dX7_stranded_20 : decode cX7_stranded 20 = .ok (.iconst 0, 1) := by decide +kernel
theorem dX7_stranded_21 : decode cX7_stranded 21 = .ok (.istore_n 2, 1) := by decide +kernel
theorem dX7_stranded_22 : decode cX7_stranded 22 = .ok (.iload_n 2, 1) := by decide +kernel
theorem dX7_stranded_23 : decode cX7_stranded 23 = .ok (.aload_n 0, 1) := by decide +kernel
theorem dX7_stranded_24 : decode cX7_stranded 24 = .ok (.getfield 72, 3) := by decide +kernel
theorem dX7_stranded_27 : decode cX7_stranded 27 = .ok (.getfield 106, 3) := by decide +kernel
theorem dX7_stranded_30 : decode cX7_stranded 30 = .ok (.if_icmp .ge 24, 3) := by decide +kernel
theorem dX7_stranded_33 : decode cX7_stranded 33 = .ok (.aload_n 0, 1) := by decide +kernel
theorem dX7_stranded_34 : decode cX7_stranded 34 = .ok (.getfield 66, 3) := by decide +kernel
theorem dX7_stranded_37 : decode cX7_stranded 37 = .ok (.iload_n 2, 1) := by decide +kernel
theorem dX7_stranded_38 : decode cX7_stranded 38 = .ok (.iaload, 1) := by decide +kernel
theorem dX7_stranded_39 : decode cX7_stranded 39 = .ok (.ifCond .ne 9, 3) := by decide +kernel
theorem dX7_stranded_42 : decode cX7_stranded 42 = .ok (.iload_n 1, 1) := by decide +kernel
theorem dX7_stranded_43 : decode cX7_stranded 43 = .ok (.iconst 1, 1) := by decide +kernel
theorem dX7_stranded_44 : decode cX7_stranded 44 = .ok (.iload_n 2, 1) := by decide +kernel
theorem dX7_stranded_45 : decode cX7_stranded 45 = .ok (.ishl, 1) := by decide +kernel
theorem dX7_stranded_46 : decode cX7_stranded 46 = .ok (.ior, 1) := by decide +kernel
theorem dX7_stranded_47 : decode cX7_stranded 47 = .ok (.istore_n 1, 1) := by decide +kernel
theorem dX7_stranded_48 : decode cX7_stranded 48 = .ok (.iinc 2 1, 3) := by decide +kernel
theorem dX7_stranded_51 : decode cX7_stranded 51 = .ok (.goto (-29), 3) := by decide +kernel
theorem dX7_stranded_54 : decode cX7_stranded 54 = .ok (.iload_n 1, 1) := by decide +kernel
theorem dX7_stranded_55 : decode cX7_stranded 55 = .ok (.ireturn, 1) := by decide +kernel
theorem dX7_snow_0 : decode cX7_snow 0 = .ok (.iload_n 1, 1) := by decide +kernel
theorem dX7_snow_1 : decode cX7_snow 1 = .ok (.ifCond .lt 19, 3) := by decide +kernel
theorem dX7_snow_4 : decode cX7_snow 4 = .ok (.iload_n 1, 1) := by decide +kernel
theorem dX7_snow_5 : decode cX7_snow 5 = .ok (.bipush 60, 2) := by decide +kernel
theorem dX7_snow_7 : decode cX7_snow 7 = .ok (.if_icmp .gt 13, 3) := by decide +kernel
theorem dX7_snow_10 : decode cX7_snow 10 = .ok (.iload_n 2, 1) := by decide +kernel
theorem dX7_snow_11 : decode cX7_snow 11 = .ok (.ifCond .lt 9, 3) := by decide +kernel
theorem dX7_snow_14 : decode cX7_snow 14 = .ok (.iload_n 2, 1) := by decide +kernel
theorem dX7_snow_15 : decode cX7_snow 15 = .ok (.bipush 100, 2) := by decide +kernel
theorem dX7_snow_17 : decode cX7_snow 17 = .ok (.if_icmp .le 6, 3) := by decide +kernel
theorem dX7_snow_20 : decode cX7_snow 20 = .ok (.ldc 79, 2) := by decide +kernel
theorem dX7_snow_22 : decode cX7_snow 22 = .ok (.ireturn, 1) := by decide +kernel
theorem dX7_snow_23 : decode cX7_snow 23 = .ok (.ldc2_w 233, 3) := by decide +kernel
theorem dX7_snow_26 : decode cX7_snow 26 = .ok (.lstore_n 3, 1) := by decide +kernel
theorem dX7_snow_27 : decode cX7_snow 27 = .ok (.iconst 0, 1) := by decide +kernel
theorem dX7_snow_28 : decode cX7_snow 28 = .ok (.istore 5, 2) := by decide +kernel
theorem dX7_snow_30 : decode cX7_snow 30 = .ok (.iload 5, 2) := by decide +kernel
theorem dX7_snow_32 : decode cX7_snow 32 = .ok (.iload_n 1, 1) := by decide +kernel
theorem dX7_snow_33 : decode cX7_snow 33 = .ok (.if_icmp .ge 21, 3) := by decide +kernel
theorem dX7_snow_36 : decode cX7_snow 36 = .ok (.lload_n 3, 1) := by decide +kernel
theorem dX7_snow_37 : decode cX7_snow 37 = .ok (.bipush 100, 2) := by decide +kernel
theorem dX7_snow_39 : decode cX7_snow 39 = .ok (.iload_n 2, 1) := by decide +kernel
theorem dX7_snow_40 : decode cX7_snow 40 = .ok (.isub, 1) := by decide +kernel
theorem dX7_snow_41 : decode cX7_snow 41 = .ok (.i2l, 1) := by decide +kernel
theorem dX7_snow_42 : decode cX7_snow 42 = .ok (.lmul, 1) := by decide +kernel
theorem dX7_snow_43 : decode cX7_snow 43 = .ok (.ldc2_w 235, 3) := by decide +kernel
theorem dX7_snow_46 : decode cX7_snow 46 = .ok (.ldiv, 1) := by decide +kernel
theorem dX7_snow_47 : decode cX7_snow 47 = .ok (.lstore_n 3, 1) := by decide +kernel
theorem dX7_snow_48 : decode cX7_snow 48 = .ok (.iinc 5 1, 3) := by decide +kernel
theorem dX7_snow_51 : decode cX7_snow 51 = .ok (.goto (-21), 3) := by decide +kernel
theorem dX7_snow_54 : decode cX7_snow 54 = .ok (.lload_n 3, 1) := by decide +kernel
theorem dX7_snow_55 : decode cX7_snow 55 = .ok (.l2i, 1) := by decide +kernel
theorem dX7_snow_56 : decode cX7_snow 56 = .ok (.ireturn, 1) := by decide +kernel
set_option maxRecDepth 20000 in
theorem ggX7_seal_X0_hasTown : GoodIn wsX7_seal wsX0_hasTown := goodIn_m (fun w hw => by
  revert w hw; unfold wsX0_hasTown
  exact am_cons (am_at in_wsX7_seal_0 10 rfl) (am_app (am_cons (am_at in_wsX7_seal_0 11 rfl) am_nil) in_wsX7_seal_3)) gw_wsX0_hasTown
set_option maxRecDepth 20000 in
theorem gX7_seal_X0_hasTown : GoodIn wsX7_seal (wsV RX7 143 RX0 yX0_hasTown wsX0_hasTown) := goodIn_app (goodIn_m (am_cons (am_at in_wsX7_seal_0 6 rfl) (am_cons (am_at in_wsX7_seal_0 7 rfl) (am_cons (am_at in_wsX7_seal_0 8 rfl) (am_cons (am_at in_wsX7_seal_0 9 rfl) am_nil)))) (by decide +kernel)) ggX7_seal_X0_hasTown
set_option maxRecDepth 20000 in
theorem ggX7_seal_X6_add : GoodIn wsX7_seal wsX6_add := goodIn_m (fun w hw => by
  revert w hw; unfold wsX6_add
  exact am_cons (am_at in_wsX7_seal_0 16 rfl) (am_app (am_cons (am_at in_wsX7_seal_0 17 rfl) (am_cons (am_at in_wsX7_seal_0 18 rfl) (am_cons (am_at in_wsX7_seal_0 19 rfl) am_nil))) in_wsX7_seal_2)) gw_wsX6_add
set_option maxRecDepth 20000 in
theorem gX7_seal_X6_add : GoodIn wsX7_seal (wsV RX7 237 RX6 yX6_add wsX6_add) := goodIn_app (goodIn_m (am_cons (am_at in_wsX7_seal_0 12 rfl) (am_cons (am_at in_wsX7_seal_0 13 rfl) (am_cons (am_at in_wsX7_seal_0 14 rfl) (am_cons (am_at in_wsX7_seal_0 15 rfl) am_nil)))) (by decide +kernel)) ggX7_seal_X6_add
theorem dX7_seal_0 : decode cX7_seal 0 = .ok (.aload_n 0, 1) := by decide +kernel
theorem dX7_seal_1 : decode cX7_seal 1 = .ok (.getfield 72, 3) := by decide +kernel
theorem dX7_seal_4 : decode cX7_seal 4 = .ok (.iload_n 1, 1) := by decide +kernel
theorem dX7_seal_5 : decode cX7_seal 5 = .ok (.invokevirtual 143, 3) := by decide +kernel
theorem dX7_seal_8 : decode cX7_seal 8 = .ok (.ifCond .ne 6, 3) := by decide +kernel
theorem dX7_seal_11 : decode cX7_seal 11 = .ok (.ldc 147, 2) := by decide +kernel
theorem dX7_seal_13 : decode cX7_seal 13 = .ok (.ireturn, 1) := by decide +kernel
theorem dX7_seal_14 : decode cX7_seal 14 = .ok (.iload_n 2, 1) := by decide +kernel
theorem dX7_seal_15 : decode cX7_seal 15 = .ok (.ifCond .lt 9, 3) := by decide +kernel
theorem dX7_seal_18 : decode cX7_seal 18 = .ok (.iload_n 2, 1) := by decide +kernel
theorem dX7_seal_19 : decode cX7_seal 19 = .ok (.bipush 48, 2) := by decide +kernel
theorem dX7_seal_21 : decode cX7_seal 21 = .ok (.if_icmp .lt 6, 3) := by decide +kernel
theorem dX7_seal_24 : decode cX7_seal 24 = .ok (.ldc 79, 2) := by decide +kernel
theorem dX7_seal_26 : decode cX7_seal 26 = .ok (.ireturn, 1) := by decide +kernel
theorem dX7_seal_27 : decode cX7_seal 27 = .ok (.aload_n 0, 1) := by decide +kernel
theorem dX7_seal_28 : decode cX7_seal 28 = .ok (.getfield 47, 3) := by decide +kernel
theorem dX7_seal_31 : decode cX7_seal 31 = .ok (.getfield 102, 3) := by decide +kernel
theorem dX7_seal_34 : decode cX7_seal 34 = .ok (.bipush 8, 2) := by decide +kernel
theorem dX7_seal_36 : decode cX7_seal 36 = .ok (.if_icmp .lt 6, 3) := by decide +kernel
theorem dX7_seal_39 : decode cX7_seal 39 = .ok (.ldc 84, 2) := by decide +kernel
theorem dX7_seal_41 : decode cX7_seal 41 = .ok (.ireturn, 1) := by decide +kernel
theorem dX7_seal_42 : decode cX7_seal 42 = .ok (.aload_n 0, 1) := by decide +kernel
theorem dX7_seal_43 : decode cX7_seal 43 = .ok (.getfield 47, 3) := by decide +kernel
theorem dX7_seal_46 : decode cX7_seal 46 = .ok (.iload_n 1, 1) := by decide +kernel
theorem dX7_seal_47 : decode cX7_seal 47 = .ok (.iload_n 2, 1) := by decide +kernel
theorem dX7_seal_48 : decode cX7_seal 48 = .ok (.invokevirtual 237, 3) := by decide +kernel
theorem dX7_seal_51 : decode cX7_seal 51 = .ok (.aload_n 0, 1) := by decide +kernel
theorem dX7_seal_52 : decode cX7_seal 52 = .ok (.getfield 47, 3) := by decide +kernel
theorem dX7_seal_55 : decode cX7_seal 55 = .ok (.getfield 102, 3) := by decide +kernel
theorem dX7_seal_58 : decode cX7_seal 58 = .ok (.ireturn, 1) := by decide +kernel
set_option maxRecDepth 20000 in
theorem ggX7_fits_X6_someWay : GoodIn wsX7_fits wsX6_someWay := goodIn_m (fun w hw => by
  revert w hw; unfold wsX6_someWay wsX6_someWay_r1 wsX6_someWay_r2 wsX6_someWay_r3
  exact am_cons (am_at in_wsX7_fits_0 6 rfl) (am_app (am_app (am_app (am_cons (am_at in_wsX7_fits_0 7 rfl) (am_cons (am_at in_wsX7_fits_0 8 rfl) (am_cons (am_at in_wsX7_fits_0 9 rfl) (am_cons (am_at in_wsX7_fits_0 10 rfl) (am_cons (am_at in_wsX7_fits_0 5 rfl) (am_cons (am_at in_wsX7_fits_0 11 rfl) (am_cons (am_at in_wsX7_fits_0 12 rfl) (am_cons (am_at in_wsX7_fits_0 13 rfl) (am_cons (am_at in_wsX7_fits_0 14 rfl) (am_cons (am_at in_wsX7_fits_0 15 rfl) (am_cons (am_at in_wsX7_fits_0 16 rfl) (am_cons (am_at in_wsX7_fits_0 17 rfl) (am_cons (am_at in_wsX7_fits_0 18 rfl) (am_cons (am_at in_wsX7_fits_0 19 rfl) (am_cons (am_at in_wsX7_fits_0 20 rfl) (am_cons (am_at in_wsX7_fits_0 21 rfl) (am_cons (am_at in_wsX7_fits_0 22 rfl) (am_cons (am_at in_wsX7_fits_0 23 rfl) (am_cons (am_at in_wsX7_fits_1 0 rfl) (am_cons (am_at in_wsX7_fits_1 1 rfl) (am_cons (am_at in_wsX7_fits_1 2 rfl) (am_cons (am_at in_wsX7_fits_1 3 rfl) (am_cons (am_at in_wsX7_fits_1 4 rfl) (am_cons (am_at in_wsX7_fits_1 5 rfl) am_nil)))))))))))))))))))))))) (am_app (am_cons (am_at in_wsX7_fits_1 6 rfl) (am_cons (am_at in_wsX7_fits_1 7 rfl) (am_cons (am_at in_wsX7_fits_1 8 rfl) (am_cons (am_at in_wsX7_fits_1 9 rfl) (am_cons (am_at in_wsX7_fits_1 10 rfl) (am_cons (am_at in_wsX7_fits_1 11 rfl) (am_cons (am_at in_wsX7_fits_1 12 rfl) (am_cons (am_at in_wsX7_fits_1 13 rfl) (am_cons (am_at in_wsX7_fits_1 14 rfl) (am_cons (am_at in_wsX7_fits_1 15 rfl) (am_cons (am_at in_wsX7_fits_1 16 rfl) (am_cons (am_at in_wsX7_fits_1 17 rfl) (am_cons (am_at in_wsX7_fits_1 18 rfl) (am_cons (am_at in_wsX7_fits_1 19 rfl) (am_cons (am_at in_wsX7_fits_1 20 rfl) (am_cons (am_at in_wsX7_fits_1 21 rfl) (am_cons (am_at in_wsX7_fits_1 22 rfl) (am_cons (am_at in_wsX7_fits_1 23 rfl) (am_cons (am_at in_wsX7_fits_2 0 rfl) (am_cons (am_at in_wsX7_fits_2 1 rfl) (am_cons (am_at in_wsX7_fits_2 2 rfl) (am_cons (am_at in_wsX7_fits_2 3 rfl) (am_cons (am_at in_wsX7_fits_2 4 rfl) (am_cons (am_at in_wsX7_fits_2 5 rfl) am_nil)))))))))))))))))))))))) (am_cons (am_at in_wsX7_fits_2 6 rfl) (am_cons (am_at in_wsX7_fits_2 7 rfl) (am_cons (am_at in_wsX7_fits_2 8 rfl) (am_cons (am_at in_wsX7_fits_2 9 rfl) (am_cons (am_at in_wsX7_fits_2 10 rfl) (am_cons (am_at in_wsX7_fits_2 11 rfl) am_nil)))))))) in_wsX7_fits_4) in_wsX7_fits_5)) gw_wsX6_someWay
set_option maxRecDepth 20000 in
theorem gX7_fits_X6_someWay : GoodIn wsX7_fits (wsV RX7 241 RX6 yX6_someWay wsX6_someWay) := goodIn_app (goodIn_m (am_cons (am_at in_wsX7_fits_0 2 rfl) (am_cons (am_at in_wsX7_fits_0 3 rfl) (am_cons (am_at in_wsX7_fits_0 4 rfl) (am_cons (am_at in_wsX7_fits_0 5 rfl) am_nil)))) (by decide +kernel)) ggX7_fits_X6_someWay
theorem dX7_fits_0 : decode cX7_fits 0 = .ok (.aload_n 0, 1) := by decide +kernel
theorem dX7_fits_1 : decode cX7_fits 1 = .ok (.getfield 47, 3) := by decide +kernel
theorem dX7_fits_4 : decode cX7_fits 4 = .ok (.aload_n 0, 1) := by decide +kernel
theorem dX7_fits_5 : decode cX7_fits 5 = .ok (.getfield 72, 3) := by decide +kernel
theorem dX7_fits_8 : decode cX7_fits 8 = .ok (.iconst (-1), 1) := by decide +kernel
theorem dX7_fits_9 : decode cX7_fits 9 = .ok (.invokevirtual 241, 3) := by decide +kernel
theorem dX7_fits_12 : decode cX7_fits 12 = .ok (.ifCond .eq 7, 3) := by decide +kernel
theorem dX7_fits_15 : decode cX7_fits 15 = .ok (.iconst 1, 1) := by decide +kernel
theorem dX7_fits_16 : decode cX7_fits 16 = .ok (.goto 4, 3) := by decide +kernel
theorem dX7_fits_19 : decode cX7_fits 19 = .ok (.iconst 0, 1) := by decide +kernel
theorem dX7_fits_20 : decode cX7_fits 20 = .ok (.ireturn, 1) := by decide +kernel
set_option maxRecDepth 20000 in
theorem ggX7_bought_X6_boughtSeals : GoodIn wsX7_bought wsX6_boughtSeals := goodIn_m (fun w hw => by
  revert w hw; unfold wsX6_boughtSeals wsX6_boughtSeals_r1 wsX6_boughtSeals_r2 wsX6_boughtSeals_r3
  exact am_cons (am_at in_wsX7_bought_0 6 rfl) (am_app (am_app (am_app (am_cons (am_at in_wsX7_bought_0 7 rfl) (am_cons (am_at in_wsX7_bought_0 8 rfl) (am_cons (am_at in_wsX7_bought_0 9 rfl) (am_cons (am_at in_wsX7_bought_0 10 rfl) (am_cons (am_at in_wsX7_bought_0 5 rfl) (am_cons (am_at in_wsX7_bought_0 11 rfl) (am_cons (am_at in_wsX7_bought_0 12 rfl) (am_cons (am_at in_wsX7_bought_0 13 rfl) (am_cons (am_at in_wsX7_bought_0 14 rfl) (am_cons (am_at in_wsX7_bought_0 15 rfl) (am_cons (am_at in_wsX7_bought_0 16 rfl) (am_cons (am_at in_wsX7_bought_0 17 rfl) (am_cons (am_at in_wsX7_bought_0 18 rfl) (am_cons (am_at in_wsX7_bought_0 19 rfl) (am_cons (am_at in_wsX7_bought_0 20 rfl) (am_cons (am_at in_wsX7_bought_0 21 rfl) (am_cons (am_at in_wsX7_bought_0 22 rfl) (am_cons (am_at in_wsX7_bought_0 23 rfl) (am_cons (am_at in_wsX7_bought_1 0 rfl) (am_cons (am_at in_wsX7_bought_1 1 rfl) (am_cons (am_at in_wsX7_bought_1 2 rfl) (am_cons (am_at in_wsX7_bought_1 3 rfl) (am_cons (am_at in_wsX7_bought_1 4 rfl) (am_cons (am_at in_wsX7_bought_1 5 rfl) am_nil)))))))))))))))))))))))) (am_app (am_cons (am_at in_wsX7_bought_1 6 rfl) (am_cons (am_at in_wsX7_bought_1 7 rfl) (am_cons (am_at in_wsX7_bought_1 8 rfl) (am_cons (am_at in_wsX7_bought_1 9 rfl) (am_cons (am_at in_wsX7_bought_1 10 rfl) (am_cons (am_at in_wsX7_bought_1 11 rfl) (am_cons (am_at in_wsX7_bought_1 12 rfl) (am_cons (am_at in_wsX7_bought_1 13 rfl) (am_cons (am_at in_wsX7_bought_1 14 rfl) (am_cons (am_at in_wsX7_bought_1 15 rfl) (am_cons (am_at in_wsX7_bought_1 16 rfl) (am_cons (am_at in_wsX7_bought_1 17 rfl) (am_cons (am_at in_wsX7_bought_1 18 rfl) (am_cons (am_at in_wsX7_bought_1 19 rfl) (am_cons (am_at in_wsX7_bought_1 20 rfl) (am_cons (am_at in_wsX7_bought_1 21 rfl) (am_cons (am_at in_wsX7_bought_1 22 rfl) (am_cons (am_at in_wsX7_bought_1 23 rfl) (am_cons (am_at in_wsX7_bought_2 0 rfl) (am_cons (am_at in_wsX7_bought_2 1 rfl) (am_cons (am_at in_wsX7_bought_2 2 rfl) (am_cons (am_at in_wsX7_bought_2 3 rfl) (am_cons (am_at in_wsX7_bought_2 4 rfl) (am_cons (am_at in_wsX7_bought_2 5 rfl) am_nil)))))))))))))))))))))))) (am_cons (am_at in_wsX7_bought_2 6 rfl) (am_cons (am_at in_wsX7_bought_2 7 rfl) (am_cons (am_at in_wsX7_bought_2 8 rfl) (am_cons (am_at in_wsX7_bought_2 9 rfl) (am_cons (am_at in_wsX7_bought_2 10 rfl) (am_cons (am_at in_wsX7_bought_2 11 rfl) (am_cons (am_at in_wsX7_bought_2 12 rfl) (am_cons (am_at in_wsX7_bought_2 13 rfl) (am_cons (am_at in_wsX7_bought_2 14 rfl) (am_cons (am_at in_wsX7_bought_2 15 rfl) am_nil)))))))))))) in_wsX7_bought_4) in_wsX7_bought_5)) gw_wsX6_boughtSeals
set_option maxRecDepth 20000 in
theorem gX7_bought_X6_boughtSeals : GoodIn wsX7_bought (wsV RX7 245 RX6 yX6_boughtSeals wsX6_boughtSeals) := goodIn_app (goodIn_m (am_cons (am_at in_wsX7_bought_0 2 rfl) (am_cons (am_at in_wsX7_bought_0 3 rfl) (am_cons (am_at in_wsX7_bought_0 4 rfl) (am_cons (am_at in_wsX7_bought_0 5 rfl) am_nil)))) (by decide +kernel)) ggX7_bought_X6_boughtSeals
theorem dX7_bought_0 : decode cX7_bought 0 = .ok (.aload_n 0, 1) := by decide +kernel
theorem dX7_bought_1 : decode cX7_bought 1 = .ok (.getfield 47, 3) := by decide +kernel
theorem dX7_bought_4 : decode cX7_bought 4 = .ok (.aload_n 0, 1) := by decide +kernel
theorem dX7_bought_5 : decode cX7_bought 5 = .ok (.getfield 72, 3) := by decide +kernel
theorem dX7_bought_8 : decode cX7_bought 8 = .ok (.invokevirtual 245, 3) := by decide +kernel
theorem dX7_bought_11 : decode cX7_bought 11 = .ok (.ireturn, 1) := by decide +kernel
set_option maxRecDepth 20000 in
theorem ggX7_was_X6_sweepBoth : GoodIn wsX7_was wsX6_sweepBoth := goodIn_m (fun w hw => by
  revert w hw; unfold wsX6_sweepBoth wsX6_sweepBoth_r1 wsX6_sweepBoth_r2 wsX6_sweepBoth_r3
  exact am_cons (am_at in_wsX7_was_0 7 rfl) (am_app (am_app (am_app (am_cons (am_at in_wsX7_was_0 8 rfl) (am_cons (am_at in_wsX7_was_0 9 rfl) (am_cons (am_at in_wsX7_was_0 10 rfl) (am_cons (am_at in_wsX7_was_0 6 rfl) (am_cons (am_at in_wsX7_was_0 11 rfl) (am_cons (am_at in_wsX7_was_0 12 rfl) (am_cons (am_at in_wsX7_was_0 13 rfl) (am_cons (am_at in_wsX7_was_0 14 rfl) (am_cons (am_at in_wsX7_was_0 15 rfl) (am_cons (am_at in_wsX7_was_0 16 rfl) (am_cons (am_at in_wsX7_was_0 17 rfl) (am_cons (am_at in_wsX7_was_0 18 rfl) (am_cons (am_at in_wsX7_was_0 19 rfl) (am_cons (am_at in_wsX7_was_0 20 rfl) (am_cons (am_at in_wsX7_was_0 21 rfl) (am_cons (am_at in_wsX7_was_0 22 rfl) (am_cons (am_at in_wsX7_was_0 23 rfl) (am_cons (am_at in_wsX7_was_1 0 rfl) (am_cons (am_at in_wsX7_was_1 1 rfl) (am_cons (am_at in_wsX7_was_1 2 rfl) (am_cons (am_at in_wsX7_was_1 3 rfl) (am_cons (am_at in_wsX7_was_1 4 rfl) (am_cons (am_at in_wsX7_was_1 5 rfl) (am_cons (am_at in_wsX7_was_1 6 rfl) am_nil)))))))))))))))))))))))) (am_app (am_cons (am_at in_wsX7_was_1 7 rfl) (am_cons (am_at in_wsX7_was_1 8 rfl) (am_cons (am_at in_wsX7_was_1 9 rfl) (am_cons (am_at in_wsX7_was_1 10 rfl) (am_cons (am_at in_wsX7_was_1 11 rfl) (am_cons (am_at in_wsX7_was_1 12 rfl) (am_cons (am_at in_wsX7_was_1 13 rfl) (am_cons (am_at in_wsX7_was_1 14 rfl) (am_cons (am_at in_wsX7_was_1 15 rfl) (am_cons (am_at in_wsX7_was_1 16 rfl) (am_cons (am_at in_wsX7_was_1 17 rfl) (am_cons (am_at in_wsX7_was_1 18 rfl) (am_cons (am_at in_wsX7_was_1 19 rfl) (am_cons (am_at in_wsX7_was_1 20 rfl) (am_cons (am_at in_wsX7_was_1 21 rfl) (am_cons (am_at in_wsX7_was_1 22 rfl) (am_cons (am_at in_wsX7_was_1 23 rfl) (am_cons (am_at in_wsX7_was_2 0 rfl) (am_cons (am_at in_wsX7_was_2 1 rfl) (am_cons (am_at in_wsX7_was_2 2 rfl) (am_cons (am_at in_wsX7_was_2 3 rfl) (am_cons (am_at in_wsX7_was_2 4 rfl) (am_cons (am_at in_wsX7_was_2 5 rfl) (am_cons (am_at in_wsX7_was_2 6 rfl) am_nil)))))))))))))))))))))))) (am_cons (am_at in_wsX7_was_2 7 rfl) (am_cons (am_at in_wsX7_was_2 8 rfl) (am_cons (am_at in_wsX7_was_2 9 rfl) (am_cons (am_at in_wsX7_was_2 10 rfl) (am_cons (am_at in_wsX7_was_2 11 rfl) (am_cons (am_at in_wsX7_was_2 12 rfl) (am_cons (am_at in_wsX7_was_2 13 rfl) (am_cons (am_at in_wsX7_was_2 14 rfl) (am_cons (am_at in_wsX7_was_2 15 rfl) (am_cons (am_at in_wsX7_was_2 16 rfl) (am_cons (am_at in_wsX7_was_2 17 rfl) (am_cons (am_at in_wsX7_was_2 18 rfl) (am_cons (am_at in_wsX7_was_2 19 rfl) (am_cons (am_at in_wsX7_was_2 20 rfl) (am_cons (am_at in_wsX7_was_2 21 rfl) (am_cons (am_at in_wsX7_was_2 22 rfl) (am_cons (am_at in_wsX7_was_2 23 rfl) (am_cons (am_at in_wsX7_was_3 0 rfl) (am_cons (am_at in_wsX7_was_3 1 rfl) am_nil))))))))))))))))))))) in_wsX7_was_5) in_wsX7_was_6)) gw_wsX6_sweepBoth
set_option maxRecDepth 20000 in
theorem gX7_was_X6_sweepBoth : GoodIn wsX7_was (wsV RX7 248 RX6 yX6_sweepBoth wsX6_sweepBoth) := goodIn_app (goodIn_m (am_cons (am_at in_wsX7_was_0 3 rfl) (am_cons (am_at in_wsX7_was_0 4 rfl) (am_cons (am_at in_wsX7_was_0 5 rfl) (am_cons (am_at in_wsX7_was_0 6 rfl) am_nil)))) (by decide +kernel)) ggX7_was_X6_sweepBoth
set_option maxRecDepth 20000 in
theorem ggX7_was_X6_townsAt : GoodIn wsX7_was wsX6_townsAt := goodIn_m (fun w hw => by
  revert w hw; unfold wsX6_townsAt
  exact am_cons (am_at in_wsX7_was_3 5 rfl) (am_app (am_cons (am_at in_wsX7_was_0 13 rfl) (am_cons (am_at in_wsX7_was_2 17 rfl) am_nil)) in_wsX7_was_5)) gw_wsX6_townsAt
set_option maxRecDepth 20000 in
theorem gX7_was_X6_townsAt : GoodIn wsX7_was (wsV RX7 251 RX6 yX6_townsAt wsX6_townsAt) := goodIn_app (goodIn_m (am_cons (am_at in_wsX7_was_3 2 rfl) (am_cons (am_at in_wsX7_was_3 3 rfl) (am_cons (am_at in_wsX7_was_3 4 rfl) (am_cons (am_at in_wsX7_was_0 6 rfl) am_nil)))) (by decide +kernel)) ggX7_was_X6_townsAt
theorem dX7_was_0 : decode cX7_was 0 = .ok (.iload_n 1, 1) := by decide +kernel
theorem dX7_was_1 : decode cX7_was 1 = .ok (.ifCond .lt 9, 3) := by decide +kernel
theorem dX7_was_4 : decode cX7_was 4 = .ok (.iload_n 1, 1) := by decide +kernel
theorem dX7_was_5 : decode cX7_was 5 = .ok (.bipush 48, 2) := by decide +kernel
theorem dX7_was_7 : decode cX7_was 7 = .ok (.if_icmp .le 6, 3) := by decide +kernel
theorem dX7_was_10 : decode cX7_was 10 = .ok (.ldc 79, 2) := by decide +kernel
theorem dX7_was_12 : decode cX7_was 12 = .ok (.ireturn, 1) := by decide +kernel
theorem dX7_was_13 : decode cX7_was 13 = .ok (.aload_n 0, 1) := by decide +kernel
theorem dX7_was_14 : decode cX7_was 14 = .ok (.getfield 47, 3) := by decide +kernel
theorem dX7_was_17 : decode cX7_was 17 = .ok (.aload_n 0, 1) := by decide +kernel
theorem dX7_was_18 : decode cX7_was 18 = .ok (.getfield 72, 3) := by decide +kernel
theorem dX7_was_21 : decode cX7_was 21 = .ok (.invokevirtual 248, 3) := by decide +kernel
theorem dX7_was_24 : decode cX7_was 24 = .ok (.aload_n 0, 1) := by decide +kernel
theorem dX7_was_25 : decode cX7_was 25 = .ok (.getfield 47, 3) := by decide +kernel
theorem dX7_was_28 : decode cX7_was 28 = .ok (.iload_n 1, 1) := by decide +kernel
theorem dX7_was_29 : decode cX7_was 29 = .ok (.invokevirtual 251, 3) := by decide +kernel
theorem dX7_was_32 : decode cX7_was 32 = .ok (.ireturn, 1) := by decide +kernel
set_option maxRecDepth 20000 in
theorem ggX7_ask_X6_sweepBoth : GoodIn wsX7_ask wsX6_sweepBoth := goodIn_m (fun w hw => by
  revert w hw; unfold wsX6_sweepBoth wsX6_sweepBoth_r1 wsX6_sweepBoth_r2 wsX6_sweepBoth_r3
  exact am_cons (am_at in_wsX7_ask_0 6 rfl) (am_app (am_app (am_app (am_cons (am_at in_wsX7_ask_0 7 rfl) (am_cons (am_at in_wsX7_ask_0 8 rfl) (am_cons (am_at in_wsX7_ask_0 9 rfl) (am_cons (am_at in_wsX7_ask_0 5 rfl) (am_cons (am_at in_wsX7_ask_0 10 rfl) (am_cons (am_at in_wsX7_ask_0 11 rfl) (am_cons (am_at in_wsX7_ask_0 12 rfl) (am_cons (am_at in_wsX7_ask_0 13 rfl) (am_cons (am_at in_wsX7_ask_0 14 rfl) (am_cons (am_at in_wsX7_ask_0 15 rfl) (am_cons (am_at in_wsX7_ask_0 16 rfl) (am_cons (am_at in_wsX7_ask_0 17 rfl) (am_cons (am_at in_wsX7_ask_0 18 rfl) (am_cons (am_at in_wsX7_ask_0 19 rfl) (am_cons (am_at in_wsX7_ask_0 20 rfl) (am_cons (am_at in_wsX7_ask_0 21 rfl) (am_cons (am_at in_wsX7_ask_0 22 rfl) (am_cons (am_at in_wsX7_ask_0 23 rfl) (am_cons (am_at in_wsX7_ask_1 0 rfl) (am_cons (am_at in_wsX7_ask_1 1 rfl) (am_cons (am_at in_wsX7_ask_1 2 rfl) (am_cons (am_at in_wsX7_ask_1 3 rfl) (am_cons (am_at in_wsX7_ask_1 4 rfl) (am_cons (am_at in_wsX7_ask_1 5 rfl) am_nil)))))))))))))))))))))))) (am_app (am_cons (am_at in_wsX7_ask_1 6 rfl) (am_cons (am_at in_wsX7_ask_1 7 rfl) (am_cons (am_at in_wsX7_ask_1 8 rfl) (am_cons (am_at in_wsX7_ask_1 9 rfl) (am_cons (am_at in_wsX7_ask_1 10 rfl) (am_cons (am_at in_wsX7_ask_1 11 rfl) (am_cons (am_at in_wsX7_ask_1 12 rfl) (am_cons (am_at in_wsX7_ask_1 13 rfl) (am_cons (am_at in_wsX7_ask_1 14 rfl) (am_cons (am_at in_wsX7_ask_1 15 rfl) (am_cons (am_at in_wsX7_ask_1 16 rfl) (am_cons (am_at in_wsX7_ask_1 17 rfl) (am_cons (am_at in_wsX7_ask_1 18 rfl) (am_cons (am_at in_wsX7_ask_1 19 rfl) (am_cons (am_at in_wsX7_ask_1 20 rfl) (am_cons (am_at in_wsX7_ask_1 21 rfl) (am_cons (am_at in_wsX7_ask_1 22 rfl) (am_cons (am_at in_wsX7_ask_1 23 rfl) (am_cons (am_at in_wsX7_ask_2 0 rfl) (am_cons (am_at in_wsX7_ask_2 1 rfl) (am_cons (am_at in_wsX7_ask_2 2 rfl) (am_cons (am_at in_wsX7_ask_2 3 rfl) (am_cons (am_at in_wsX7_ask_2 4 rfl) (am_cons (am_at in_wsX7_ask_2 5 rfl) am_nil)))))))))))))))))))))))) (am_cons (am_at in_wsX7_ask_2 6 rfl) (am_cons (am_at in_wsX7_ask_2 7 rfl) (am_cons (am_at in_wsX7_ask_2 8 rfl) (am_cons (am_at in_wsX7_ask_2 9 rfl) (am_cons (am_at in_wsX7_ask_2 10 rfl) (am_cons (am_at in_wsX7_ask_2 11 rfl) (am_cons (am_at in_wsX7_ask_2 12 rfl) (am_cons (am_at in_wsX7_ask_2 13 rfl) (am_cons (am_at in_wsX7_ask_2 14 rfl) (am_cons (am_at in_wsX7_ask_2 15 rfl) (am_cons (am_at in_wsX7_ask_2 16 rfl) (am_cons (am_at in_wsX7_ask_2 17 rfl) (am_cons (am_at in_wsX7_ask_2 18 rfl) (am_cons (am_at in_wsX7_ask_2 19 rfl) (am_cons (am_at in_wsX7_ask_2 20 rfl) (am_cons (am_at in_wsX7_ask_2 21 rfl) (am_cons (am_at in_wsX7_ask_2 22 rfl) (am_cons (am_at in_wsX7_ask_2 23 rfl) (am_cons (am_at in_wsX7_ask_3 0 rfl) am_nil))))))))))))))))))))) in_wsX7_ask_5) in_wsX7_ask_6)) gw_wsX6_sweepBoth
set_option maxRecDepth 20000 in
theorem gX7_ask_X6_sweepBoth : GoodIn wsX7_ask (wsV RX7 248 RX6 yX6_sweepBoth wsX6_sweepBoth) := goodIn_app (goodIn_m (am_cons (am_at in_wsX7_ask_0 2 rfl) (am_cons (am_at in_wsX7_ask_0 3 rfl) (am_cons (am_at in_wsX7_ask_0 4 rfl) (am_cons (am_at in_wsX7_ask_0 5 rfl) am_nil)))) (by decide +kernel)) ggX7_ask_X6_sweepBoth
set_option maxRecDepth 20000 in
theorem ggX7_ask_X6_widestMonth : GoodIn wsX7_ask wsX6_widestMonth := goodIn_m (fun w hw => by
  revert w hw; unfold wsX6_widestMonth
  exact am_cons (am_at in_wsX7_ask_3 4 rfl) (am_app (am_cons (am_at in_wsX7_ask_3 5 rfl) (am_cons (am_at in_wsX7_ask_3 6 rfl) (am_cons (am_at in_wsX7_ask_3 7 rfl) (am_cons (am_at in_wsX7_ask_0 5 rfl) (am_cons (am_at in_wsX7_ask_3 8 rfl) (am_cons (am_at in_wsX7_ask_0 12 rfl) (am_cons (am_at in_wsX7_ask_2 16 rfl) (am_cons (am_at in_wsX7_ask_3 9 rfl) (am_cons (am_at in_wsX7_ask_3 10 rfl) (am_cons (am_at in_wsX7_ask_3 11 rfl) (am_cons (am_at in_wsX7_ask_3 12 rfl) (am_cons (am_at in_wsX7_ask_3 13 rfl) (am_cons (am_at in_wsX7_ask_3 14 rfl) (am_cons (am_at in_wsX7_ask_3 15 rfl) am_nil)))))))))))))) in_wsX7_ask_5)) gw_wsX6_widestMonth
set_option maxRecDepth 20000 in
theorem gX7_ask_X6_widestMonth : GoodIn wsX7_ask (wsV RX7 255 RX6 yX6_widestMonth wsX6_widestMonth) := goodIn_app (goodIn_m (am_cons (am_at in_wsX7_ask_3 1 rfl) (am_cons (am_at in_wsX7_ask_3 2 rfl) (am_cons (am_at in_wsX7_ask_3 3 rfl) (am_cons (am_at in_wsX7_ask_0 5 rfl) am_nil)))) (by decide +kernel)) ggX7_ask_X6_widestMonth
theorem dX7_ask_0 : decode cX7_ask 0 = .ok (.aload_n 0, 1) := by decide +kernel
theorem dX7_ask_1 : decode cX7_ask 1 = .ok (.getfield 47, 3) := by decide +kernel
theorem dX7_ask_4 : decode cX7_ask 4 = .ok (.aload_n 0, 1) := by decide +kernel
theorem dX7_ask_5 : decode cX7_ask 5 = .ok (.getfield 72, 3) := by decide +kernel
theorem dX7_ask_8 : decode cX7_ask 8 = .ok (.invokevirtual 248, 3) := by decide +kernel
theorem dX7_ask_11 : decode cX7_ask 11 = .ok (.aload_n 0, 1) := by decide +kernel
theorem dX7_ask_12 : decode cX7_ask 12 = .ok (.getfield 47, 3) := by decide +kernel
theorem dX7_ask_15 : decode cX7_ask 15 = .ok (.invokevirtual 255, 3) := by decide +kernel
theorem dX7_ask_18 : decode cX7_ask 18 = .ok (.ireturn, 1) := by decide +kernel
theorem dX7_write_0 : decode cX7_write 0 = .ok (.iload_n 1, 1) := by decide +kernel
theorem dX7_write_1 : decode cX7_write 1 = .ok (.ifCond .lt 10, 3) := by decide +kernel
theorem dX7_write_4 : decode cX7_write 4 = .ok (.iload_n 1, 1) := by decide +kernel
theorem dX7_write_5 : decode cX7_write 5 = .ok (.sipush 9999, 3) := by decide +kernel
theorem dX7_write_8 : decode cX7_write 8 = .ok (.if_icmp .le 6, 3) := by decide +kernel
theorem dX7_write_11 : decode cX7_write 11 = .ok (.ldc 79, 2) := by decide +kernel
theorem dX7_write_13 : decode cX7_write 13 = .ok (.ireturn, 1) := by decide +kernel
theorem dX7_write_14 : decode cX7_write 14 = .ok (.aload_n 0, 1) := by decide +kernel
theorem dX7_write_15 : decode cX7_write 15 = .ok (.getfield 103, 3) := by decide +kernel
theorem dX7_write_18 : decode cX7_write 18 = .ok (.bipush 15, 2) := by decide +kernel
theorem dX7_write_20 : decode cX7_write 20 = .ok (.if_icmp .lt 6, 3) := by decide +kernel
theorem dX7_write_23 : decode cX7_write 23 = .ok (.ldc 84, 2) := by decide +kernel
theorem dX7_write_25 : decode cX7_write 25 = .ok (.ireturn, 1) := by decide +kernel
theorem dX7_write_26 : decode cX7_write 26 = .ok (.aload_n 0, 1) := by decide +kernel
theorem dX7_write_27 : decode cX7_write 27 = .ok (.getfield 63, 3) := by decide +kernel
theorem dX7_write_30 : decode cX7_write 30 = .ok (.aload_n 0, 1) := by decide +kernel
theorem dX7_write_31 : decode cX7_write 31 = .ok (.getfield 103, 3) := by decide +kernel
theorem dX7_write_34 : decode cX7_write 34 = .ok (.iload_n 1, 1) := by decide +kernel
theorem dX7_write_35 : decode cX7_write 35 = .ok (.iastore, 1) := by decide +kernel
theorem dX7_write_36 : decode cX7_write 36 = .ok (.aload_n 0, 1) := by decide +kernel
theorem dX7_write_37 : decode cX7_write 37 = .ok (.dup, 1) := by decide +kernel
theorem dX7_write_38 : decode cX7_write 38 = .ok (.getfield 103, 3) := by decide +kernel
theorem dX7_write_41 : decode cX7_write 41 = .ok (.iconst 1, 1) := by decide +kernel
theorem dX7_write_42 : decode cX7_write 42 = .ok (.iadd, 1) := by decide +kernel
theorem dX7_write_43 : decode cX7_write 43 = .ok (.putfield 103, 3) := by decide +kernel
theorem dX7_write_46 : decode cX7_write 46 = .ok (.aload_n 0, 1) := by decide +kernel
theorem dX7_write_47 : decode cX7_write 47 = .ok (.getfield 103, 3) := by decide +kernel
theorem dX7_write_50 : decode cX7_write 50 = .ok (.ireturn, 1) := by decide +kernel
theorem dX7_tear_0 : decode cX7_tear 0 = .ok (.aload_n 0, 1) := by decide +kernel
theorem dX7_tear_1 : decode cX7_tear 1 = .ok (.getfield 47, 3) := by decide +kernel
theorem dX7_tear_4 : decode cX7_tear 4 = .ok (.getfield 102, 3) := by decide +kernel
theorem dX7_tear_7 : decode cX7_tear 7 = .ok (.aload_n 0, 1) := by decide +kernel
theorem dX7_tear_8 : decode cX7_tear 8 = .ok (.getfield 103, 3) := by decide +kernel
theorem dX7_tear_11 : decode cX7_tear 11 = .ok (.iadd, 1) := by decide +kernel
theorem dX7_tear_12 : decode cX7_tear 12 = .ok (.istore_n 1, 1) := by decide +kernel
theorem dX7_tear_13 : decode cX7_tear 13 = .ok (.aload_n 0, 1) := by decide +kernel
theorem dX7_tear_14 : decode cX7_tear 14 = .ok (.getfield 47, 3) := by decide +kernel
theorem dX7_tear_17 : decode cX7_tear 17 = .ok (.iconst 0, 1) := by decide +kernel
theorem dX7_tear_18 : decode cX7_tear 18 = .ok (.putfield 102, 3) := by decide +kernel
theorem dX7_tear_21 : decode cX7_tear 21 = .ok (.aload_n 0, 1) := by decide +kernel
theorem dX7_tear_22 : decode cX7_tear 22 = .ok (.iconst 0, 1) := by decide +kernel
theorem dX7_tear_23 : decode cX7_tear 23 = .ok (.putfield 103, 3) := by decide +kernel
theorem dX7_tear_26 : decode cX7_tear 26 = .ok (.iload_n 1, 1) := by decide +kernel
theorem dX7_tear_27 : decode cX7_tear 27 = .ok (.ireturn, 1) := by decide +kernel
theorem dX7_judge_0 : decode cX7_judge 0 = .ok (.iconst 0, 1) := by decide +kernel
theorem dX7_judge_1 : decode cX7_judge 1 = .ok (.istore_n 1, 1) := by decide +kernel
theorem dX7_judge_2 : decode cX7_judge 2 = .ok (.iload_n 1, 1) := by decide +kernel
theorem dX7_judge_3 : decode cX7_judge 3 = .ok (.aload_n 0, 1) := by decide +kernel
theorem dX7_judge_4 : decode cX7_judge 4 = .ok (.getfield 103, 3) := by decide +kernel
theorem dX7_judge_7 : decode cX7_judge 7 = .ok (.if_icmp .ge 33, 3) := by decide +kernel
theorem dX7_judge_10 : decode cX7_judge 10 = .ok (.iload_n 1, 1) := by decide +kernel
theorem dX7_judge_11 : decode cX7_judge 11 = .ok (.bipush 15, 2) := by decide +kernel
theorem dX7_judge_13 : decode cX7_judge 13 = .ok (.if_icmp .ge 27, 3) := by decide +kernel
theorem dX7_judge_16 : decode cX7_judge 16 = .ok (.aload_n 0, 1) := by decide +kernel
theorem dX7_judge_17 : decode cX7_judge 17 = .ok (.getfield 63, 3) := by decide +kernel
theorem dX7_judge_20 : decode cX7_judge 20 = .ok (.iload_n 1, 1) := by decide +kernel
theorem dX7_judge_21 : decode cX7_judge 21 = .ok (.iaload, 1) := by decide +kernel
theorem dX7_judge_22 : decode cX7_judge 22 = .ok (.aload_n 0, 1) := by decide +kernel
theorem dX7_judge_23 : decode cX7_judge 23 = .ok (.getfield 19, 3) := by decide +kernel
theorem dX7_judge_26 : decode cX7_judge 26 = .ok (.getfield 130, 3) := by decide +kernel
theorem dX7_judge_29 : decode cX7_judge 29 = .ok (.if_icmp .eq 5, 3) := by decide +kernel
theorem dX7_judge_32 : decode cX7_judge 32 = .ok (.iload_n 1, 1) := by decide +kernel
theorem dX7_judge_33 : decode cX7_judge 33 = .ok (.ireturn, 1) := by decide +kernel
theorem dX7_judge_34 : decode cX7_judge 34 = .ok (.iinc 1 1, 3) := by decide +kernel
theorem dX7_judge_37 : decode cX7_judge 37 = .ok (.goto (-35), 3) := by decide +kernel
theorem dX7_judge_40 : decode cX7_judge 40 = .ok (.iconst (-1), 1) := by decide +kernel
theorem dX7_judge_41 : decode cX7_judge 41 = .ok (.ireturn, 1) := by decide +kernel
theorem dX7_seed_0 : decode cX7_seed 0 = .ok (.iload_n 1, 1) := by decide +kernel
theorem dX7_seed_1 : decode cX7_seed 1 = .ok (.ifCond .ge 6, 3) := by decide +kernel
theorem dX7_seed_4 : decode cX7_seed 4 = .ok (.ldc 79, 2) := by decide +kernel
theorem dX7_seed_6 : decode cX7_seed 6 = .ok (.ireturn, 1) := by decide +kernel
theorem dX7_seed_7 : decode cX7_seed 7 = .ok (.aload_n 0, 1) := by decide +kernel
theorem dX7_seed_8 : decode cX7_seed 8 = .ok (.getfield 258, 3) := by decide +kernel
theorem dX7_seed_11 : decode cX7_seed 11 = .ok (.istore_n 2, 1) := by decide +kernel
theorem dX7_seed_12 : decode cX7_seed 12 = .ok (.aload_n 0, 1) := by decide +kernel
theorem dX7_seed_13 : decode cX7_seed 13 = .ok (.iload_n 1, 1) := by decide +kernel
theorem dX7_seed_14 : decode cX7_seed 14 = .ok (.putfield 258, 3) := by decide +kernel
theorem dX7_seed_17 : decode cX7_seed 17 = .ok (.iload_n 2, 1) := by decide +kernel
theorem dX7_seed_18 : decode cX7_seed 18 = .ok (.ireturn, 1) := by decide +kernel
set_option maxRecDepth 20000 in
theorem ggX7_keep_X1_copy : GoodIn wsX7_keep wsX1_copy := goodIn_m (fun w hw => by
  revert w hw; unfold wsX1_copy
  exact am_cons (am_at in_wsX7_keep_0 12 rfl) (am_app (am_cons (am_at in_wsX7_keep_0 13 rfl) (am_cons (am_at in_wsX7_keep_0 14 rfl) (am_cons (am_at in_wsX7_keep_0 15 rfl) (am_cons (am_at in_wsX7_keep_0 16 rfl) (am_cons (am_at in_wsX7_keep_0 17 rfl) (am_cons (am_at in_wsX7_keep_0 18 rfl) (am_cons (am_at in_wsX7_keep_0 19 rfl) am_nil))))))) in_wsX7_keep_3)) gw_wsX1_copy
set_option maxRecDepth 20000 in
theorem gX7_keep_X1_copy : GoodIn wsX7_keep (wsV RX7 261 RX1 yX1_copy wsX1_copy) := goodIn_app (goodIn_m (am_cons (am_at in_wsX7_keep_0 8 rfl) (am_cons (am_at in_wsX7_keep_0 9 rfl) (am_cons (am_at in_wsX7_keep_0 10 rfl) (am_cons (am_at in_wsX7_keep_0 11 rfl) am_nil)))) (by decide +kernel)) ggX7_keep_X1_copy
theorem dX7_keep_0 : decode cX7_keep 0 = .ok (.iload_n 1, 1) := by decide +kernel
theorem dX7_keep_1 : decode cX7_keep 1 = .ok (.ifCond .lt 8, 3) := by decide +kernel
theorem dX7_keep_4 : decode cX7_keep 4 = .ok (.iload_n 1, 1) := by decide +kernel
theorem dX7_keep_5 : decode cX7_keep 5 = .ok (.iconst 2, 1) := by decide +kernel
theorem dX7_keep_6 : decode cX7_keep 6 = .ok (.if_icmp .lt 6, 3) := by decide +kernel
theorem dX7_keep_9 : decode cX7_keep 9 = .ok (.ldc 147, 2) := by decide +kernel
theorem dX7_keep_11 : decode cX7_keep 11 = .ok (.ireturn, 1) := by decide +kernel
theorem dX7_keep_12 : decode cX7_keep 12 = .ok (.aload_n 0, 1) := by decide +kernel
theorem dX7_keep_13 : decode cX7_keep 13 = .ok (.getfield 51, 3) := by decide +kernel
theorem dX7_keep_16 : decode cX7_keep 16 = .ok (.iload_n 1, 1) := by decide +kernel
theorem dX7_keep_17 : decode cX7_keep 17 = .ok (.aaload, 1) := by decide +kernel
theorem dX7_keep_18 : decode cX7_keep 18 = .ok (.aload_n 0, 1) := by decide +kernel
theorem dX7_keep_19 : decode cX7_keep 19 = .ok (.getfield 19, 3) := by decide +kernel
theorem dX7_keep_22 : decode cX7_keep 22 = .ok (.invokevirtual 261, 3) := by decide +kernel
theorem dX7_keep_25 : decode cX7_keep 25 = .ok (.aload_n 0, 1) := by decide +kernel
theorem dX7_keep_26 : decode cX7_keep 26 = .ok (.getfield 55, 3) := by decide +kernel
theorem dX7_keep_29 : decode cX7_keep 29 = .ok (.iload_n 1, 1) := by decide +kernel
theorem dX7_keep_30 : decode cX7_keep 30 = .ok (.aload_n 0, 1) := by decide +kernel
theorem dX7_keep_31 : decode cX7_keep 31 = .ok (.getfield 258, 3) := by decide +kernel
theorem dX7_keep_34 : decode cX7_keep 34 = .ok (.iastore, 1) := by decide +kernel
theorem dX7_keep_35 : decode cX7_keep 35 = .ok (.aload_n 0, 1) := by decide +kernel
theorem dX7_keep_36 : decode cX7_keep 36 = .ok (.getfield 59, 3) := by decide +kernel
theorem dX7_keep_39 : decode cX7_keep 39 = .ok (.iload_n 1, 1) := by decide +kernel
theorem dX7_keep_40 : decode cX7_keep 40 = .ok (.iconst 1, 1) := by decide +kernel
theorem dX7_keep_41 : decode cX7_keep 41 = .ok (.bastore, 1) := by decide +kernel
theorem dX7_keep_42 : decode cX7_keep 42 = .ok (.aload_n 0, 1) := by decide +kernel
theorem dX7_keep_43 : decode cX7_keep 43 = .ok (.getfield 26, 3) := by decide +kernel
theorem dX7_keep_46 : decode cX7_keep 46 = .ok (.iconst 0, 1) := by decide +kernel
theorem dX7_keep_47 : decode cX7_keep 47 = .ok (.putfield 99, 3) := by decide +kernel
theorem dX7_keep_50 : decode cX7_keep 50 = .ok (.iconst 1, 1) := by decide +kernel
theorem dX7_keep_51 : decode cX7_keep 51 = .ok (.ireturn, 1) := by decide +kernel
set_option maxRecDepth 20000 in
theorem ggX7_goBack_X1_copy : GoodIn wsX7_goBack wsX1_copy := goodIn_m (fun w hw => by
  revert w hw; unfold wsX1_copy
  exact am_cons (am_at in_wsX7_goBack_0 13 rfl) (am_app (am_cons (am_at in_wsX7_goBack_0 14 rfl) (am_cons (am_at in_wsX7_goBack_0 15 rfl) (am_cons (am_at in_wsX7_goBack_0 16 rfl) (am_cons (am_at in_wsX7_goBack_0 17 rfl) (am_cons (am_at in_wsX7_goBack_0 18 rfl) (am_cons (am_at in_wsX7_goBack_0 19 rfl) (am_cons (am_at in_wsX7_goBack_0 20 rfl) am_nil))))))) in_wsX7_goBack_3)) gw_wsX1_copy
set_option maxRecDepth 20000 in
theorem gX7_goBack_X1_copy : GoodIn wsX7_goBack (wsV RX7 261 RX1 yX1_copy wsX1_copy) := goodIn_app (goodIn_m (am_cons (am_at in_wsX7_goBack_0 9 rfl) (am_cons (am_at in_wsX7_goBack_0 10 rfl) (am_cons (am_at in_wsX7_goBack_0 11 rfl) (am_cons (am_at in_wsX7_goBack_0 12 rfl) am_nil)))) (by decide +kernel)) ggX7_goBack_X1_copy
theorem dX7_goBack_0 : decode cX7_goBack 0 = .ok (.iload_n 1, 1) := by decide +kernel
theorem dX7_goBack_1 : decode cX7_goBack 1 = .ok (.ifCond .lt 8, 3) := by decide +kernel
theorem dX7_goBack_4 : decode cX7_goBack 4 = .ok (.iload_n 1, 1) := by decide +kernel
theorem dX7_goBack_5 : decode cX7_goBack 5 = .ok (.iconst 2, 1) := by decide +kernel
theorem dX7_goBack_6 : decode cX7_goBack 6 = .ok (.if_icmp .lt 6, 3) := by decide +kernel
theorem dX7_goBack_9 : decode cX7_goBack 9 = .ok (.ldc 147, 2) := by decide +kernel
theorem dX7_goBack_11 : decode cX7_goBack 11 = .ok (.ireturn, 1) := by decide +kernel
theorem dX7_goBack_12 : decode cX7_goBack 12 = .ok (.aload_n 0, 1) := by decide +kernel
theorem dX7_goBack_13 : decode cX7_goBack 13 = .ok (.getfield 59, 3) := by decide +kernel
theorem dX7_goBack_16 : decode cX7_goBack 16 = .ok (.iload_n 1, 1) := by decide +kernel
theorem dX7_goBack_17 : decode cX7_goBack 17 = .ok (.baload, 1) := by decide +kernel
theorem dX7_goBack_18 : decode cX7_goBack 18 = .ok (.ifCond .ne 6, 3) := by decide +kernel
theorem dX7_goBack_21 : decode cX7_goBack 21 = .ok (.ldc 181, 2) := by decide +kernel
theorem dX7_goBack_23 : decode cX7_goBack 23 = .ok (.ireturn, 1) := by decide +kernel
theorem dX7_goBack_24 : decode cX7_goBack 24 = .ok (.aload_n 0, 1) := by decide +kernel
theorem dX7_goBack_25 : decode cX7_goBack 25 = .ok (.getfield 19, 3) := by decide +kernel
theorem dX7_goBack_28 : decode cX7_goBack 28 = .ok (.aload_n 0, 1) := by decide +kernel
theorem dX7_goBack_29 : decode cX7_goBack 29 = .ok (.getfield 51, 3) := by decide +kernel
theorem dX7_goBack_32 : decode cX7_goBack 32 = .ok (.iload_n 1, 1) := by decide +kernel
theorem dX7_goBack_33 : decode cX7_goBack 33 = .ok (.aaload, 1) := by decide +kernel
theorem dX7_goBack_34 : decode cX7_goBack 34 = .ok (.invokevirtual 261, 3) := by decide +kernel
theorem dX7_goBack_37 : decode cX7_goBack 37 = .ok (.aload_n 0, 1) := by decide +kernel
theorem dX7_goBack_38 : decode cX7_goBack 38 = .ok (.aload_n 0, 1) := by decide +kernel
theorem dX7_goBack_39 : decode cX7_goBack 39 = .ok (.getfield 55, 3) := by decide +kernel
theorem dX7_goBack_42 : decode cX7_goBack 42 = .ok (.iload_n 1, 1) := by decide +kernel
theorem dX7_goBack_43 : decode cX7_goBack 43 = .ok (.iaload, 1) := by decide +kernel
theorem dX7_goBack_44 : decode cX7_goBack 44 = .ok (.putfield 258, 3) := by decide +kernel
theorem dX7_goBack_47 : decode cX7_goBack 47 = .ok (.aload_n 0, 1) := by decide +kernel
theorem dX7_goBack_48 : decode cX7_goBack 48 = .ok (.getfield 26, 3) := by decide +kernel
theorem dX7_goBack_51 : decode cX7_goBack 51 = .ok (.iconst 0, 1) := by decide +kernel
theorem dX7_goBack_52 : decode cX7_goBack 52 = .ok (.putfield 99, 3) := by decide +kernel
theorem dX7_goBack_55 : decode cX7_goBack 55 = .ok (.iconst 1, 1) := by decide +kernel
theorem dX7_goBack_56 : decode cX7_goBack 56 = .ok (.ireturn, 1) := by decide +kernel
theorem dX7_cannotGoOn_0 : decode cX7_cannotGoOn 0 = .ok (.aload_n 0, 1) := by decide +kernel
theorem dX7_cannotGoOn_1 : decode cX7_cannotGoOn 1 = .ok (.getfield 72, 3) := by decide +kernel
theorem dX7_cannotGoOn_4 : decode cX7_cannotGoOn 4 = .ok (.getfield 106, 3) := by decide +kernel
theorem dX7_cannotGoOn_7 : decode cX7_cannotGoOn 7 = .ok (.ifCond .eq 13, 3) := by decide +kernel
theorem dX7_cannotGoOn_10 : decode cX7_cannotGoOn 10 = .ok (.aload_n 0, 1) := by decide +kernel
theorem dX7_cannotGoOn_11 : decode cX7_cannotGoOn 11 = .ok (.getfield 19, 3) := by decide +kernel
theorem dX7_cannotGoOn_14 : decode cX7_cannotGoOn 14 = .ok (.getfield 139, 3) := by decide +kernel
theorem dX7_cannotGoOn_17 : decode cX7_cannotGoOn 17 = .ok (.ifCond .eq 7, 3) := by decide +kernel
theorem dX7_cannotGoOn_20 : decode cX7_cannotGoOn 20 = .ok (.iconst 1, 1) := by decide +kernel
theorem dX7_cannotGoOn_21 : decode cX7_cannotGoOn 21 = .ok (.goto 4, 3) := by decide +kernel
theorem dX7_cannotGoOn_24 : decode cX7_cannotGoOn 24 = .ok (.iconst 0, 1) := by decide +kernel
theorem dX7_cannotGoOn_25 : decode cX7_cannotGoOn 25 = .ok (.ireturn, 1) := by decide +kernel
theorem dX7_draw_0 : decode cX7_draw 0 = .ok (.aload_n 0, 1) := by decide +kernel
theorem dX7_draw_1 : decode cX7_draw 1 = .ok (.aload_n 0, 1) := by decide +kernel
theorem dX7_draw_2 : decode cX7_draw 2 = .ok (.getfield 258, 3) := by decide +kernel
theorem dX7_draw_5 : decode cX7_draw 5 = .ok (.i2l, 1) := by decide +kernel
theorem dX7_draw_6 : decode cX7_draw 6 = .ok (.ldc2_w 264, 3) := by decide +kernel
theorem dX7_draw_9 : decode cX7_draw 9 = .ok (.lmul, 1) := by decide +kernel
theorem dX7_draw_10 : decode cX7_draw 10 = .ok (.ldc2_w 266, 3) := by decide +kernel
theorem dX7_draw_13 : decode cX7_draw 13 = .ok (.ladd, 1) := by decide +kernel
theorem dX7_draw_14 : decode cX7_draw 14 = .ok (.ldc2_w 268, 3) := by decide +kernel
theorem dX7_draw_17 : decode cX7_draw 17 = .ok (.land, 1) := by decide +kernel
theorem dX7_draw_18 : decode cX7_draw 18 = .ok (.l2i, 1) := by decide +kernel
theorem dX7_draw_19 : decode cX7_draw 19 = .ok (.putfield 258, 3) := by decide +kernel
theorem dX7_draw_22 : decode cX7_draw 22 = .ok (.iload_n 1, 1) := by decide +kernel
theorem dX7_draw_23 : decode cX7_draw 23 = .ok (.ifCond .le 16, 3) := by decide +kernel
theorem dX7_draw_26 : decode cX7_draw 26 = .ok (.aload_n 0, 1) := by decide +kernel
theorem dX7_draw_27 : decode cX7_draw 27 = .ok (.getfield 258, 3) := by decide +kernel
theorem dX7_draw_30 : decode cX7_draw 30 = .ok (.ldc_w 270, 3) := by decide +kernel
theorem dX7_draw_33 : decode cX7_draw 33 = .ok (.idiv, 1) := by decide +kernel
theorem dX7_draw_34 : decode cX7_draw 34 = .ok (.iload_n 1, 1) := by decide +kernel
theorem dX7_draw_35 : decode cX7_draw 35 = .ok (.irem, 1) := by decide +kernel
theorem dX7_draw_36 : decode cX7_draw 36 = .ok (.goto 4, 3) := by decide +kernel
theorem dX7_draw_39 : decode cX7_draw 39 = .ok (.iconst 0, 1) := by decide +kernel
theorem dX7_draw_40 : decode cX7_draw 40 = .ok (.ireturn, 1) := by decide +kernel
set_option maxRecDepth 20000 in
theorem ggX7_driftMonth_X7_draw : GoodIn wsX7_driftMonth wsX7_draw := goodIn_m (fun w hw => by
  revert w hw; unfold wsX7_draw
  exact am_cons (am_at in_wsX7_driftMonth_0 9 rfl) (am_app (am_cons (am_at in_wsX7_driftMonth_0 10 rfl) (am_cons (am_at in_wsX7_driftMonth_0 11 rfl) (am_cons (am_at in_wsX7_driftMonth_0 12 rfl) (am_cons (am_at in_wsX7_driftMonth_0 13 rfl) (am_cons (am_at in_wsX7_driftMonth_0 14 rfl) am_nil))))) in_wsX7_driftMonth_3)) gw_wsX7_draw
set_option maxRecDepth 20000 in
theorem gX7_driftMonth_X7_draw : GoodIn wsX7_driftMonth (wsV RX7 271 RX7 yX7_draw wsX7_draw) := goodIn_app (goodIn_m (am_cons (am_at in_wsX7_driftMonth_0 5 rfl) (am_cons (am_at in_wsX7_driftMonth_0 6 rfl) (am_cons (am_at in_wsX7_driftMonth_0 7 rfl) (am_cons (am_at in_wsX7_driftMonth_0 8 rfl) am_nil)))) (by decide +kernel)) ggX7_driftMonth_X7_draw
set_option maxRecDepth 20000 in
theorem ggX7_driftMonth_X1_mayStay : GoodIn wsX7_driftMonth wsX1_mayStay := goodIn_m (fun w hw => by
  revert w hw; unfold wsX1_mayStay
  exact am_cons (am_at in_wsX7_driftMonth_0 19 rfl) (am_app (am_app (am_cons (am_at in_wsX7_driftMonth_0 20 rfl) (am_cons (am_at in_wsX7_driftMonth_0 21 rfl) am_nil)) in_wsX7_driftMonth_5) in_wsX7_driftMonth_4)) gw_wsX1_mayStay
set_option maxRecDepth 20000 in
theorem gX7_driftMonth_X1_mayStay : GoodIn wsX7_driftMonth (wsV RX7 177 RX1 yX1_mayStay wsX1_mayStay) := goodIn_app (goodIn_m (am_cons (am_at in_wsX7_driftMonth_0 15 rfl) (am_cons (am_at in_wsX7_driftMonth_0 16 rfl) (am_cons (am_at in_wsX7_driftMonth_0 17 rfl) (am_cons (am_at in_wsX7_driftMonth_0 18 rfl) am_nil)))) (by decide +kernel)) ggX7_driftMonth_X1_mayStay
set_option maxRecDepth 20000 in
theorem ggX7_driftMonth_X1_stayMonth : GoodIn wsX7_driftMonth wsX1_stayMonth := goodIn_m (fun w hw => by
  revert w hw; unfold wsX1_stayMonth
  exact am_cons (am_at in_wsX7_driftMonth_1 1 rfl) (am_app (am_app (am_cons (am_at in_wsX7_driftMonth_1 2 rfl) (am_cons (am_at in_wsX7_driftMonth_1 3 rfl) (am_cons (am_at in_wsX7_driftMonth_1 4 rfl) (am_cons (am_at in_wsX7_driftMonth_1 5 rfl) (am_cons (am_at in_wsX7_driftMonth_0 20 rfl) (am_cons (am_at in_wsX7_driftMonth_1 6 rfl) (am_cons (am_at in_wsX7_driftMonth_1 7 rfl) (am_cons (am_at in_wsX7_driftMonth_1 8 rfl) (am_cons (am_at in_wsX7_driftMonth_1 9 rfl) (am_cons (am_at in_wsX7_driftMonth_1 10 rfl) (am_cons (am_at in_wsX7_driftMonth_1 11 rfl) (am_cons (am_at in_wsX7_driftMonth_1 12 rfl) (am_cons (am_at in_wsX7_driftMonth_1 13 rfl) (am_cons (am_at in_wsX7_driftMonth_1 14 rfl) (am_cons (am_at in_wsX7_driftMonth_1 15 rfl) (am_cons (am_at in_wsX7_driftMonth_1 16 rfl) (am_cons (am_at in_wsX7_driftMonth_1 17 rfl) (am_cons (am_at in_wsX7_driftMonth_1 18 rfl) (am_cons (am_at in_wsX7_driftMonth_1 19 rfl) (am_cons (am_at in_wsX7_driftMonth_1 20 rfl) (am_cons (am_at in_wsX7_driftMonth_1 21 rfl) (am_cons (am_at in_wsX7_driftMonth_1 22 rfl) (am_cons (am_at in_wsX7_driftMonth_1 23 rfl) am_nil))))))))))))))))))))))) in_wsX7_driftMonth_5) in_wsX7_driftMonth_4)) gw_wsX1_stayMonth
set_option maxRecDepth 20000 in
theorem gX7_driftMonth_X1_stayMonth : GoodIn wsX7_driftMonth (wsV RX7 186 RX1 yX1_stayMonth wsX1_stayMonth) := goodIn_app (goodIn_m (am_cons (am_at in_wsX7_driftMonth_0 22 rfl) (am_cons (am_at in_wsX7_driftMonth_0 23 rfl) (am_cons (am_at in_wsX7_driftMonth_1 0 rfl) (am_cons (am_at in_wsX7_driftMonth_0 18 rfl) am_nil)))) (by decide +kernel)) ggX7_driftMonth_X1_stayMonth
set_option maxRecDepth 20000 in
theorem ggX7_driftMonth_X1_walks : GoodIn wsX7_driftMonth wsX1_walks := goodIn_m (fun w hw => by
  revert w hw; unfold wsX1_walks
  exact am_cons (am_at in_wsX7_driftMonth_2 3 rfl) (am_app (am_app (am_cons (am_at in_wsX7_driftMonth_1 2 rfl) (am_cons (am_at in_wsX7_driftMonth_2 4 rfl) (am_cons (am_at in_wsX7_driftMonth_2 5 rfl) (am_cons (am_at in_wsX7_driftMonth_2 6 rfl) (am_cons (am_at in_wsX7_driftMonth_2 7 rfl) (am_cons (am_at in_wsX7_driftMonth_1 9 rfl) (am_cons (am_at in_wsX7_driftMonth_2 8 rfl) (am_cons (am_at in_wsX7_driftMonth_2 9 rfl) (am_cons (am_at in_wsX7_driftMonth_2 10 rfl) (am_cons (am_at in_wsX7_driftMonth_2 11 rfl) (am_cons (am_at in_wsX7_driftMonth_2 12 rfl) (am_cons (am_at in_wsX7_driftMonth_2 13 rfl) (am_cons (am_at in_wsX7_driftMonth_2 14 rfl) (am_cons (am_at in_wsX7_driftMonth_2 15 rfl) (am_cons (am_at in_wsX7_driftMonth_2 16 rfl) am_nil))))))))))))))) in_wsX7_driftMonth_5) in_wsX7_driftMonth_4)) gw_wsX1_walks
set_option maxRecDepth 20000 in
theorem gX7_driftMonth_X1_walks : GoodIn wsX7_driftMonth (wsV RX7 190 RX1 yX1_walks wsX1_walks) := goodIn_app (goodIn_m (am_cons (am_at in_wsX7_driftMonth_2 0 rfl) (am_cons (am_at in_wsX7_driftMonth_2 1 rfl) (am_cons (am_at in_wsX7_driftMonth_2 2 rfl) (am_cons (am_at in_wsX7_driftMonth_0 18 rfl) am_nil)))) (by decide +kernel)) ggX7_driftMonth_X1_walks
set_option maxRecDepth 20000 in
theorem ggX7_driftMonth_X1_walkMonth : GoodIn wsX7_driftMonth wsX1_walkMonth := goodIn_m (fun w hw => by
  revert w hw; unfold wsX1_walkMonth
  exact am_cons (am_at in_wsX7_driftMonth_2 20 rfl) (am_app (am_cons (am_at in_wsX7_driftMonth_1 2 rfl) (am_cons (am_at in_wsX7_driftMonth_0 20 rfl) (am_cons (am_at in_wsX7_driftMonth_1 3 rfl) am_nil))) in_wsX7_driftMonth_5)) gw_wsX1_walkMonth
set_option maxRecDepth 20000 in
theorem gX7_driftMonth_X1_walkMonth : GoodIn wsX7_driftMonth (wsV RX7 193 RX1 yX1_walkMonth wsX1_walkMonth) := goodIn_app (goodIn_m (am_cons (am_at in_wsX7_driftMonth_2 17 rfl) (am_cons (am_at in_wsX7_driftMonth_2 18 rfl) (am_cons (am_at in_wsX7_driftMonth_2 19 rfl) (am_cons (am_at in_wsX7_driftMonth_0 18 rfl) am_nil)))) (by decide +kernel)) ggX7_driftMonth_X1_walkMonth
theorem dX7_driftMonth_0 : decode cX7_driftMonth 0 = .ok (.aload_n 0, 1) := by decide +kernel
theorem dX7_driftMonth_1 : decode cX7_driftMonth 1 = .ok (.iconst 4, 1) := by decide +kernel
theorem dX7_driftMonth_2 : decode cX7_driftMonth 2 = .ok (.invokevirtual 271, 3) := by decide +kernel
theorem dX7_driftMonth_5 : decode cX7_driftMonth 5 = .ok (.ifCond .ne 38, 3) := by decide +kernel
theorem dX7_driftMonth_8 : decode cX7_driftMonth 8 = .ok (.aload_n 0, 1) := by decide +kernel
theorem dX7_driftMonth_9 : decode cX7_driftMonth 9 = .ok (.getfield 72, 3) := by decide +kernel
theorem dX7_driftMonth_12 : decode cX7_driftMonth 12 = .ok (.getfield 118, 3) := by decide +kernel
theorem dX7_driftMonth_15 : decode cX7_driftMonth 15 = .ok (.ifCond .le 28, 3) := by decide +kernel
theorem dX7_driftMonth_18 : decode cX7_driftMonth 18 = .ok (.aload_n 0, 1) := by decide +kernel
theorem dX7_driftMonth_19 : decode cX7_driftMonth 19 = .ok (.getfield 19, 3) := by decide +kernel
theorem dX7_driftMonth_22 : decode cX7_driftMonth 22 = .ok (.dup, 1) := by decide +kernel
theorem dX7_driftMonth_23 : decode cX7_driftMonth 23 = .ok (.getfield 136, 3) := by decide +kernel
theorem dX7_driftMonth_26 : decode cX7_driftMonth 26 = .ok (.iconst 1, 1) := by decide +kernel
theorem dX7_driftMonth_27 : decode cX7_driftMonth 27 = .ok (.aload_n 0, 1) := by decide +kernel
theorem dX7_driftMonth_28 : decode cX7_driftMonth 28 = .ok (.aload_n 0, 1) := by decide +kernel
theorem dX7_driftMonth_29 : decode cX7_driftMonth 29 = .ok (.getfield 72, 3) := by decide +kernel
theorem dX7_driftMonth_32 : decode cX7_driftMonth 32 = .ok (.getfield 118, 3) := by decide +kernel
theorem dX7_driftMonth_35 : decode cX7_driftMonth 35 = .ok (.invokevirtual 271, 3) := by decide +kernel
theorem dX7_driftMonth_38 : decode cX7_driftMonth 38 = .ok (.ishl, 1) := by decide +kernel
theorem dX7_driftMonth_39 : decode cX7_driftMonth 39 = .ok (.ixor, 1) := by decide +kernel
theorem dX7_driftMonth_40 : decode cX7_driftMonth 40 = .ok (.putfield 136, 3) := by decide +kernel
theorem dX7_driftMonth_43 : decode cX7_driftMonth 43 = .ok (.aload_n 0, 1) := by decide +kernel
theorem dX7_driftMonth_44 : decode cX7_driftMonth 44 = .ok (.iconst 2, 1) := by decide +kernel
theorem dX7_driftMonth_45 : decode cX7_driftMonth 45 = .ok (.invokevirtual 271, 3) := by decide +kernel
theorem dX7_driftMonth_48 : decode cX7_driftMonth 48 = .ok (.ifCond .ne 30, 3) := by decide +kernel
theorem dX7_driftMonth_51 : decode cX7_driftMonth 51 = .ok (.aload_n 0, 1) := by decide +kernel
theorem dX7_driftMonth_52 : decode cX7_driftMonth 52 = .ok (.getfield 19, 3) := by decide +kernel
theorem dX7_driftMonth_55 : decode cX7_driftMonth 55 = .ok (.aload_n 0, 1) := by decide +kernel
theorem dX7_driftMonth_56 : decode cX7_driftMonth 56 = .ok (.getfield 72, 3) := by decide +kernel
theorem dX7_driftMonth_59 : decode cX7_driftMonth 59 = .ok (.invokevirtual 177, 3) := by decide +kernel
theorem dX7_driftMonth_62 : decode cX7_driftMonth 62 = .ok (.ifCond .eq 16, 3) := by decide +kernel
theorem dX7_driftMonth_65 : decode cX7_driftMonth 65 = .ok (.aload_n 0, 1) := by decide +kernel
theorem dX7_driftMonth_66 : decode cX7_driftMonth 66 = .ok (.getfield 19, 3) := by decide +kernel
theorem dX7_driftMonth_69 : decode cX7_driftMonth 69 = .ok (.aload_n 0, 1) := by decide +kernel
theorem dX7_driftMonth_70 : decode cX7_driftMonth 70 = .ok (.getfield 72, 3) := by decide +kernel
theorem dX7_driftMonth_73 : decode cX7_driftMonth 73 = .ok (.invokevirtual 186, 3) := by decide +kernel
theorem dX7_driftMonth_76 : decode cX7_driftMonth 76 = .ok (.pop, 1) := by decide +kernel
theorem dX7_driftMonth_77 : decode cX7_driftMonth 77 = .ok (.return_, 1) := by decide +kernel
theorem dX7_driftMonth_78 : decode cX7_driftMonth 78 = .ok (.aload_n 0, 1) := by decide +kernel
theorem dX7_driftMonth_79 : decode cX7_driftMonth 79 = .ok (.getfield 19, 3) := by decide +kernel
theorem dX7_driftMonth_82 : decode cX7_driftMonth 82 = .ok (.aload_n 0, 1) := by decide +kernel
theorem dX7_driftMonth_83 : decode cX7_driftMonth 83 = .ok (.getfield 72, 3) := by decide +kernel
theorem dX7_driftMonth_86 : decode cX7_driftMonth 86 = .ok (.invokevirtual 190, 3) := by decide +kernel
theorem dX7_driftMonth_89 : decode cX7_driftMonth 89 = .ok (.istore_n 1, 1) := by decide +kernel
theorem dX7_driftMonth_90 : decode cX7_driftMonth 90 = .ok (.iconst 0, 1) := by decide +kernel
theorem dX7_driftMonth_91 : decode cX7_driftMonth 91 = .ok (.istore_n 2, 1) := by decide +kernel
theorem dX7_driftMonth_92 : decode cX7_driftMonth 92 = .ok (.iload_n 2, 1) := by decide +kernel
theorem dX7_driftMonth_93 : decode cX7_driftMonth 93 = .ok (.aload_n 0, 1) := by decide +kernel
theorem dX7_driftMonth_94 : decode cX7_driftMonth 94 = .ok (.getfield 72, 3) := by decide +kernel
theorem dX7_driftMonth_97 : decode cX7_driftMonth 97 = .ok (.getfield 106, 3) := by decide +kernel
theorem dX7_driftMonth_100 : decode cX7_driftMonth 100 = .ok (.if_icmp .ge 26, 3) := by decide +kernel
theorem dX7_driftMonth_103 : decode cX7_driftMonth 103 = .ok (.iload_n 1, 1) := by decide +kernel
theorem dX7_driftMonth_104 : decode cX7_driftMonth 104 = .ok (.iload_n 2, 1) := by decide +kernel
theorem dX7_driftMonth_105 : decode cX7_driftMonth 105 = .ok (.ishr, 1) := by decide +kernel
theorem dX7_driftMonth_106 : decode cX7_driftMonth 106 = .ok (.iconst 1, 1) := by decide +kernel
theorem dX7_driftMonth_107 : decode cX7_driftMonth 107 = .ok (.iand, 1) := by decide +kernel
theorem dX7_driftMonth_108 : decode cX7_driftMonth 108 = .ok (.ifCond .eq 12, 3) := by decide +kernel
theorem dX7_driftMonth_111 : decode cX7_driftMonth 111 = .ok (.aload_n 0, 1) := by decide +kernel
theorem dX7_driftMonth_112 : decode cX7_driftMonth 112 = .ok (.getfield 19, 3) := by decide +kernel
theorem dX7_driftMonth_115 : decode cX7_driftMonth 115 = .ok (.iload_n 2, 1) := by decide +kernel
theorem dX7_driftMonth_116 : decode cX7_driftMonth 116 = .ok (.invokevirtual 193, 3) := by decide +kernel
theorem dX7_driftMonth_119 : decode cX7_driftMonth 119 = .ok (.return_, 1) := by decide +kernel
theorem dX7_driftMonth_120 : decode cX7_driftMonth 120 = .ok (.iinc 2 1, 3) := by decide +kernel
theorem dX7_driftMonth_123 : decode cX7_driftMonth 123 = .ok (.goto (-31), 3) := by decide +kernel
theorem dX7_driftMonth_126 : decode cX7_driftMonth 126 = .ok (.return_, 1) := by decide +kernel
theorem dX7_exitsOf_0 : decode cX7_exitsOf 0 = .ok (.iconst 0, 1) := by decide +kernel
theorem dX7_exitsOf_1 : decode cX7_exitsOf 1 = .ok (.istore_n 2, 1) := by decide +kernel
theorem dX7_exitsOf_2 : decode cX7_exitsOf 2 = .ok (.iconst 0, 1) := by decide +kernel
theorem dX7_exitsOf_3 : decode cX7_exitsOf 3 = .ok (.istore_n 3, 1) := by decide +kernel
theorem dX7_exitsOf_4 : decode cX7_exitsOf 4 = .ok (.iload_n 3, 1) := by decide +kernel
theorem dX7_exitsOf_5 : decode cX7_exitsOf 5 = .ok (.aload_n 1, 1) := by decide +kernel
theorem dX7_exitsOf_6 : decode cX7_exitsOf 6 = .ok (.arraylength, 1) := by decide +kernel
theorem dX7_exitsOf_7 : decode cX7_exitsOf 7 = .ok (.if_icmp .ge 23, 3) := by decide +kernel
theorem dX7_exitsOf_10 : decode cX7_exitsOf 10 = .ok (.iload_n 0, 1) := by decide +kernel
theorem dX7_exitsOf_11 : decode cX7_exitsOf 11 = .ok (.iload_n 3, 1) := by decide +kernel
theorem dX7_exitsOf_12 : decode cX7_exitsOf 12 = .ok (.ishr, 1) := by decide +kernel
theorem dX7_exitsOf_13 : decode cX7_exitsOf 13 = .ok (.iconst 1, 1) := by decide +kernel
theorem dX7_exitsOf_14 : decode cX7_exitsOf 14 = .ok (.iand, 1) := by decide +kernel
theorem dX7_exitsOf_15 : decode cX7_exitsOf 15 = .ok (.ifCond .eq 9, 3) := by decide +kernel
theorem dX7_exitsOf_18 : decode cX7_exitsOf 18 = .ok (.iload_n 2, 1) := by decide +kernel
theorem dX7_exitsOf_19 : decode cX7_exitsOf 19 = .ok (.aload_n 1, 1) := by decide +kernel
theorem dX7_exitsOf_20 : decode cX7_exitsOf 20 = .ok (.iload_n 3, 1) := by decide +kernel
theorem dX7_exitsOf_21 : decode cX7_exitsOf 21 = .ok (.iaload, 1) := by decide +kernel
theorem dX7_exitsOf_22 : decode cX7_exitsOf 22 = .ok (.ior, 1) := by decide +kernel
theorem dX7_exitsOf_23 : decode cX7_exitsOf 23 = .ok (.istore_n 2, 1) := by decide +kernel
theorem dX7_exitsOf_24 : decode cX7_exitsOf 24 = .ok (.iinc 3 1, 3) := by decide +kernel
theorem dX7_exitsOf_27 : decode cX7_exitsOf 27 = .ok (.goto (-23), 3) := by decide +kernel
theorem dX7_exitsOf_30 : decode cX7_exitsOf 30 = .ok (.iload_n 2, 1) := by decide +kernel
theorem dX7_exitsOf_31 : decode cX7_exitsOf 31 = .ok (.ireturn, 1) := by decide +kernel
theorem dX8_init_0 : decode cX8_init 0 = .ok (.aload_n 0, 1) := by decide +kernel
theorem dX8_init_1 : decode cX8_init 1 = .ok (.invokespecial 1, 3) := by decide +kernel
theorem dX8_init_4 : decode cX8_init 4 = .ok (.aload_n 0, 1) := by decide +kernel
theorem dX8_init_5 : decode cX8_init 5 = .ok (.sipush 240, 3) := by decide +kernel
theorem dX8_init_8 : decode cX8_init 8 = .ok (.newarray .int, 2) := by decide +kernel
theorem dX8_init_10 : decode cX8_init 10 = .ok (.putfield 7, 3) := by decide +kernel
theorem dX8_init_13 : decode cX8_init 13 = .ok (.aload_n 0, 1) := by decide +kernel
theorem dX8_init_14 : decode cX8_init 14 = .ok (.bipush 52, 2) := by decide +kernel
theorem dX8_init_16 : decode cX8_init 16 = .ok (.newarray .int, 2) := by decide +kernel
theorem dX8_init_18 : decode cX8_init 18 = .ok (.putfield 13, 3) := by decide +kernel
theorem dX8_init_21 : decode cX8_init 21 = .ok (.aload_n 0, 1) := by decide +kernel
theorem dX8_init_22 : decode cX8_init 22 = .ok (.bipush 52, 2) := by decide +kernel
theorem dX8_init_24 : decode cX8_init 24 = .ok (.newarray .int, 2) := by decide +kernel
theorem dX8_init_26 : decode cX8_init 26 = .ok (.putfield 16, 3) := by decide +kernel
theorem dX8_init_29 : decode cX8_init 29 = .ok (.aload_n 0, 1) := by decide +kernel
theorem dX8_init_30 : decode cX8_init 30 = .ok (.bipush 7, 2) := by decide +kernel
theorem dX8_init_32 : decode cX8_init 32 = .ok (.newarray .int, 2) := by decide +kernel
theorem dX8_init_34 : decode cX8_init 34 = .ok (.putfield 19, 3) := by decide +kernel
theorem dX8_init_37 : decode cX8_init 37 = .ok (.aload_n 0, 1) := by decide +kernel
theorem dX8_init_38 : decode cX8_init 38 = .ok (.sipush 140, 3) := by decide +kernel
theorem dX8_init_41 : decode cX8_init 41 = .ok (.newarray .int, 2) := by decide +kernel
theorem dX8_init_43 : decode cX8_init 43 = .ok (.putfield 22, 3) := by decide +kernel
theorem dX8_init_46 : decode cX8_init 46 = .ok (.aload_n 0, 1) := by decide +kernel
theorem dX8_init_47 : decode cX8_init 47 = .ok (.bipush 16, 2) := by decide +kernel
theorem dX8_init_49 : decode cX8_init 49 = .ok (.newarray .int, 2) := by decide +kernel
theorem dX8_init_51 : decode cX8_init 51 = .ok (.putfield 25, 3) := by decide +kernel
theorem dX8_init_54 : decode cX8_init 54 = .ok (.aload_n 0, 1) := by decide +kernel
theorem dX8_init_55 : decode cX8_init 55 = .ok (.iconst 2, 1) := by decide +kernel
theorem dX8_init_56 : decode cX8_init 56 = .ok (.newarray .boolean, 2) := by decide +kernel
theorem dX8_init_58 : decode cX8_init 58 = .ok (.putfield 28, 3) := by decide +kernel
theorem dX8_init_61 : decode cX8_init 61 = .ok (.aload_n 0, 1) := by decide +kernel
theorem dX8_init_62 : decode cX8_init 62 = .ok (.bipush 8, 2) := by decide +kernel
theorem dX8_init_64 : decode cX8_init 64 = .ok (.newarray .int, 2) := by decide +kernel
theorem dX8_init_66 : decode cX8_init 66 = .ok (.putfield 32, 3) := by decide +kernel
theorem dX8_init_69 : decode cX8_init 69 = .ok (.aload_n 0, 1) := by decide +kernel
theorem dX8_init_70 : decode cX8_init 70 = .ok (.bipush 15, 2) := by decide +kernel
theorem dX8_init_72 : decode cX8_init 72 = .ok (.newarray .int, 2) := by decide +kernel
theorem dX8_init_74 : decode cX8_init 74 = .ok (.putfield 35, 3) := by decide +kernel
theorem dX8_init_77 : decode cX8_init 77 = .ok (.aload_n 0, 1) := by decide +kernel
theorem dX8_init_78 : decode cX8_init 78 = .ok (.iconst (-1), 1) := by decide +kernel
theorem dX8_init_79 : decode cX8_init 79 = .ok (.putfield 38, 3) := by decide +kernel
theorem dX8_init_82 : decode cX8_init 82 = .ok (.aload_n 0, 1) := by decide +kernel
theorem dX8_init_83 : decode cX8_init 83 = .ok (.sipush 1480, 3) := by decide +kernel
theorem dX8_init_86 : decode cX8_init 86 = .ok (.newarray .int, 2) := by decide +kernel
theorem dX8_init_88 : decode cX8_init 88 = .ok (.putfield 42, 3) := by decide +kernel
theorem dX8_init_91 : decode cX8_init 91 = .ok (.aload_n 0, 1) := by decide +kernel
theorem dX8_init_92 : decode cX8_init 92 = .ok (.sipush 256, 3) := by decide +kernel
theorem dX8_init_95 : decode cX8_init 95 = .ok (.newarray .long, 2) := by decide +kernel
theorem dX8_init_97 : decode cX8_init 97 = .ok (.putfield 45, 3) := by decide +kernel
theorem dX8_init_100 : decode cX8_init 100 = .ok (.aload_n 0, 1) := by decide +kernel
theorem dX8_init_101 : decode cX8_init 101 = .ok (.sipush 256, 3) := by decide +kernel
theorem dX8_init_104 : decode cX8_init 104 = .ok (.newarray .long, 2) := by decide +kernel
theorem dX8_init_106 : decode cX8_init 106 = .ok (.putfield 49, 3) := by decide +kernel
theorem dX8_init_109 : decode cX8_init 109 = .ok (.aload_n 0, 1) := by decide +kernel
theorem dX8_init_110 : decode cX8_init 110 = .ok (.bipush 49, 2) := by decide +kernel
theorem dX8_init_112 : decode cX8_init 112 = .ok (.newarray .long, 2) := by decide +kernel
theorem dX8_init_114 : decode cX8_init 114 = .ok (.putfield 52, 3) := by decide +kernel
theorem dX8_init_117 : decode cX8_init 117 = .ok (.return_, 1) := by decide +kernel
theorem dX8_in_0 : decode cX8_in 0 = .ok (.iload_n 0, 1) := by decide +kernel
theorem dX8_in_1 : decode cX8_in 1 = .ok (.iload_n 1, 1) := by decide +kernel
theorem dX8_in_2 : decode cX8_in 2 = .ok (.if_icmp .lt 12, 3) := by decide +kernel
theorem dX8_in_5 : decode cX8_in 5 = .ok (.iload_n 0, 1) := by decide +kernel
theorem dX8_in_6 : decode cX8_in 6 = .ok (.iload_n 2, 1) := by decide +kernel
theorem dX8_in_7 : decode cX8_in 7 = .ok (.if_icmp .gt 7, 3) := by decide +kernel
theorem dX8_in_10 : decode cX8_in 10 = .ok (.iconst 1, 1) := by decide +kernel
theorem dX8_in_11 : decode cX8_in 11 = .ok (.goto 4, 3) := by decide +kernel
theorem dX8_in_14 : decode cX8_in 14 = .ok (.iconst 0, 1) := by decide +kernel
theorem dX8_in_15 : decode cX8_in 15 = .ok (.ireturn, 1) := by decide +kernel
set_option maxRecDepth 20000 in
theorem ggX8_isTown_X8_in : GoodIn wsX8_isTown wsX8_in := goodIn_m (fun w hw => by
  revert w hw; unfold wsX8_in
  exact am_cons (am_at in_wsX8_isTown_0 4 rfl) am_nil) gw_wsX8_in
set_option maxRecDepth 20000 in
theorem gX8_isTown_X8_in : GoodIn wsX8_isTown (va_wsS RX8 55 yX8_in wsX8_in) := goodIn_app (goodIn_m (am_cons (am_at in_wsX8_isTown_0 1 rfl) (am_cons (am_at in_wsX8_isTown_0 2 rfl) (am_cons (am_at in_wsX8_isTown_0 3 rfl) am_nil))) (by decide +kernel)) ggX8_isTown_X8_in
theorem dX8_isTown_0 : decode cX8_isTown 0 = .ok (.iload_n 1, 1) := by decide +kernel
theorem dX8_isTown_1 : decode cX8_isTown 1 = .ok (.iconst 0, 1) := by decide +kernel
theorem dX8_isTown_2 : decode cX8_isTown 2 = .ok (.aload_n 0, 1) := by decide +kernel
theorem dX8_isTown_3 : decode cX8_isTown 3 = .ok (.getfield 13, 3) := by decide +kernel
theorem dX8_isTown_6 : decode cX8_isTown 6 = .ok (.iconst 2, 1) := by decide +kernel
theorem dX8_isTown_7 : decode cX8_isTown 7 = .ok (.iaload, 1) := by decide +kernel
theorem dX8_isTown_8 : decode cX8_isTown 8 = .ok (.iconst 1, 1) := by decide +kernel
theorem dX8_isTown_9 : decode cX8_isTown 9 = .ok (.isub, 1) := by decide +kernel
theorem dX8_isTown_10 : decode cX8_isTown 10 = .ok (.invokestatic 55, 3) := by decide +kernel
theorem dX8_isTown_13 : decode cX8_isTown 13 = .ok (.ireturn, 1) := by decide +kernel
set_option maxRecDepth 20000 in
theorem ggX8_isRoad_X8_in : GoodIn wsX8_isRoad wsX8_in := goodIn_m (fun w hw => by
  revert w hw; unfold wsX8_in
  exact am_cons (am_at in_wsX8_isRoad_0 4 rfl) am_nil) gw_wsX8_in
set_option maxRecDepth 20000 in
theorem gX8_isRoad_X8_in : GoodIn wsX8_isRoad (va_wsS RX8 55 yX8_in wsX8_in) := goodIn_app (goodIn_m (am_cons (am_at in_wsX8_isRoad_0 1 rfl) (am_cons (am_at in_wsX8_isRoad_0 2 rfl) (am_cons (am_at in_wsX8_isRoad_0 3 rfl) am_nil))) (by decide +kernel)) ggX8_isRoad_X8_in
theorem dX8_isRoad_0 : decode cX8_isRoad 0 = .ok (.iload_n 1, 1) := by decide +kernel
theorem dX8_isRoad_1 : decode cX8_isRoad 1 = .ok (.iconst 0, 1) := by decide +kernel
theorem dX8_isRoad_2 : decode cX8_isRoad 2 = .ok (.aload_n 0, 1) := by decide +kernel
theorem dX8_isRoad_3 : decode cX8_isRoad 3 = .ok (.getfield 13, 3) := by decide +kernel
theorem dX8_isRoad_6 : decode cX8_isRoad 6 = .ok (.iconst 3, 1) := by decide +kernel
theorem dX8_isRoad_7 : decode cX8_isRoad 7 = .ok (.iaload, 1) := by decide +kernel
theorem dX8_isRoad_8 : decode cX8_isRoad 8 = .ok (.iconst 1, 1) := by decide +kernel
theorem dX8_isRoad_9 : decode cX8_isRoad 9 = .ok (.isub, 1) := by decide +kernel
theorem dX8_isRoad_10 : decode cX8_isRoad 10 = .ok (.invokestatic 55, 3) := by decide +kernel
theorem dX8_isRoad_13 : decode cX8_isRoad 13 = .ok (.ireturn, 1) := by decide +kernel
theorem dX8_ones_0 : decode cX8_ones 0 = .ok (.iconst 0, 1) := by decide +kernel
theorem dX8_ones_1 : decode cX8_ones 1 = .ok (.istore_n 1, 1) := by decide +kernel
theorem dX8_ones_2 : decode cX8_ones 2 = .ok (.iconst 0, 1) := by decide +kernel
theorem dX8_ones_3 : decode cX8_ones 3 = .ok (.istore_n 2, 1) := by decide +kernel
theorem dX8_ones_4 : decode cX8_ones 4 = .ok (.iload_n 2, 1) := by decide +kernel
theorem dX8_ones_5 : decode cX8_ones 5 = .ok (.bipush 12, 2) := by decide +kernel
theorem dX8_ones_7 : decode cX8_ones 7 = .ok (.if_icmp .ge 17, 3) := by decide +kernel
theorem dX8_ones_10 : decode cX8_ones 10 = .ok (.iload_n 1, 1) := by decide +kernel
theorem dX8_ones_11 : decode cX8_ones 11 = .ok (.iload_n 0, 1) := by decide +kernel
theorem dX8_ones_12 : decode cX8_ones 12 = .ok (.iload_n 2, 1) := by decide +kernel
theorem dX8_ones_13 : decode cX8_ones 13 = .ok (.ishr, 1) := by decide +kernel
theorem dX8_ones_14 : decode cX8_ones 14 = .ok (.iconst 1, 1) := by decide +kernel
theorem dX8_ones_15 : decode cX8_ones 15 = .ok (.iand, 1) := by decide +kernel
theorem dX8_ones_16 : decode cX8_ones 16 = .ok (.iadd, 1) := by decide +kernel
theorem dX8_ones_17 : decode cX8_ones 17 = .ok (.istore_n 1, 1) := by decide +kernel
theorem dX8_ones_18 : decode cX8_ones 18 = .ok (.iinc 2 1, 3) := by decide +kernel
theorem dX8_ones_21 : decode cX8_ones 21 = .ok (.goto (-17), 3) := by decide +kernel
theorem dX8_ones_24 : decode cX8_ones 24 = .ok (.iload_n 1, 1) := by decide +kernel
theorem dX8_ones_25 : decode cX8_ones 25 = .ok (.ireturn, 1) := by decide +kernel
set_option maxRecDepth 20000 in
theorem ggX8_feed_X8_in : GoodIn wsX8_feed wsX8_in := goodIn_m (fun w hw => by
  revert w hw; unfold wsX8_in
  exact am_cons (am_at in_wsX8_feed_0 7 rfl) am_nil) gw_wsX8_in
set_option maxRecDepth 20000 in
theorem gX8_feed_X8_in : GoodIn wsX8_feed (va_wsS RX8 55 yX8_in wsX8_in) := goodIn_app (goodIn_m (am_cons (am_at in_wsX8_feed_0 4 rfl) (am_cons (am_at in_wsX8_feed_0 5 rfl) (am_cons (am_at in_wsX8_feed_0 6 rfl) am_nil))) (by decide +kernel)) ggX8_feed_X8_in
theorem dX8_feed_0 : decode cX8_feed 0 = .ok (.iload_n 1, 1) := by decide +kernel
theorem dX8_feed_1 : decode cX8_feed 1 = .ok (.iconst 0, 1) := by decide +kernel
theorem dX8_feed_2 : decode cX8_feed 2 = .ok (.sipush 255, 3) := by decide +kernel
theorem dX8_feed_5 : decode cX8_feed 5 = .ok (.invokestatic 55, 3) := by decide +kernel
theorem dX8_feed_8 : decode cX8_feed 8 = .ok (.ifCond .ne 6, 3) := by decide +kernel
theorem dX8_feed_11 : decode cX8_feed 11 = .ok (.ldc 59, 2) := by decide +kernel
theorem dX8_feed_13 : decode cX8_feed 13 = .ok (.ireturn, 1) := by decide +kernel
theorem dX8_feed_14 : decode cX8_feed 14 = .ok (.aload_n 0, 1) := by decide +kernel
theorem dX8_feed_15 : decode cX8_feed 15 = .ok (.getfield 60, 3) := by decide +kernel
theorem dX8_feed_18 : decode cX8_feed 18 = .ok (.sipush 240, 3) := by decide +kernel
theorem dX8_feed_21 : decode cX8_feed 21 = .ok (.if_icmp .ne 6, 3) := by decide +kernel
theorem dX8_feed_24 : decode cX8_feed 24 = .ok (.ldc 63, 2) := by decide +kernel
theorem dX8_feed_26 : decode cX8_feed 26 = .ok (.ireturn, 1) := by decide +kernel
theorem dX8_feed_27 : decode cX8_feed 27 = .ok (.aload_n 0, 1) := by decide +kernel
theorem dX8_feed_28 : decode cX8_feed 28 = .ok (.getfield 7, 3) := by decide +kernel
theorem dX8_feed_31 : decode cX8_feed 31 = .ok (.aload_n 0, 1) := by decide +kernel
theorem dX8_feed_32 : decode cX8_feed 32 = .ok (.getfield 60, 3) := by decide +kernel
theorem dX8_feed_35 : decode cX8_feed 35 = .ok (.iload_n 1, 1) := by decide +kernel
theorem dX8_feed_36 : decode cX8_feed 36 = .ok (.iastore, 1) := by decide +kernel
theorem dX8_feed_37 : decode cX8_feed 37 = .ok (.aload_n 0, 1) := by decide +kernel
theorem dX8_feed_38 : decode cX8_feed 38 = .ok (.dup, 1) := by decide +kernel
theorem dX8_feed_39 : decode cX8_feed 39 = .ok (.getfield 60, 3) := by decide +kernel
theorem dX8_feed_42 : decode cX8_feed 42 = .ok (.iconst 1, 1) := by decide +kernel
theorem dX8_feed_43 : decode cX8_feed 43 = .ok (.iadd, 1) := by decide +kernel
theorem dX8_feed_44 : decode cX8_feed 44 = .ok (.putfield 60, 3) := by decide +kernel
theorem dX8_feed_47 : decode cX8_feed 47 = .ok (.aload_n 0, 1) := by decide +kernel
theorem dX8_feed_48 : decode cX8_feed 48 = .ok (.getfield 60, 3) := by decide +kernel
theorem dX8_feed_51 : decode cX8_feed 51 = .ok (.ireturn, 1) := by decide +kernel
theorem dX8_letter_0 : decode cX8_letter 0 = .ok (.aload_n 0, 1) := by decide +kernel
theorem dX8_letter_1 : decode cX8_letter 1 = .ok (.getfield 64, 3) := by decide +kernel
theorem dX8_letter_4 : decode cX8_letter 4 = .ok (.aload_n 0, 1) := by decide +kernel
theorem dX8_letter_5 : decode cX8_letter 5 = .ok (.getfield 60, 3) := by decide +kernel
theorem dX8_letter_8 : decode cX8_letter 8 = .ok (.if_icmp .ge 30, 3) := by decide +kernel
theorem dX8_letter_11 : decode cX8_letter 11 = .ok (.aload_n 0, 1) := by decide +kernel
theorem dX8_letter_12 : decode cX8_letter 12 = .ok (.getfield 7, 3) := by decide +kernel
theorem dX8_letter_15 : decode cX8_letter 15 = .ok (.aload_n 0, 1) := by decide +kernel
theorem dX8_letter_16 : decode cX8_letter 16 = .ok (.getfield 64, 3) := by decide +kernel
theorem dX8_letter_19 : decode cX8_letter 19 = .ok (.iaload, 1) := by decide +kernel
theorem dX8_letter_20 : decode cX8_letter 20 = .ok (.bipush 32, 2) := by decide +kernel
theorem dX8_letter_22 : decode cX8_letter 22 = .ok (.if_icmp .ne 16, 3) := by decide +kernel
theorem dX8_letter_25 : decode cX8_letter 25 = .ok (.aload_n 0, 1) := by decide +kernel
theorem dX8_letter_26 : decode cX8_letter 26 = .ok (.dup, 1) := by decide +kernel
theorem dX8_letter_27 : decode cX8_letter 27 = .ok (.getfield 64, 3) := by decide +kernel
theorem dX8_letter_30 : decode cX8_letter 30 = .ok (.iconst 1, 1) := by decide +kernel
theorem dX8_letter_31 : decode cX8_letter 31 = .ok (.iadd, 1) := by decide +kernel
theorem dX8_letter_32 : decode cX8_letter 32 = .ok (.putfield 64, 3) := by decide +kernel
theorem dX8_letter_35 : decode cX8_letter 35 = .ok (.goto (-35), 3) := by decide +kernel
theorem dX8_letter_38 : decode cX8_letter 38 = .ok (.aload_n 0, 1) := by decide +kernel
theorem dX8_letter_39 : decode cX8_letter 39 = .ok (.getfield 64, 3) := by decide +kernel
theorem dX8_letter_42 : decode cX8_letter 42 = .ok (.aload_n 0, 1) := by decide +kernel
theorem dX8_letter_43 : decode cX8_letter 43 = .ok (.getfield 60, 3) := by decide +kernel
theorem dX8_letter_46 : decode cX8_letter 46 = .ok (.if_icmp .ge 15, 3) := by decide +kernel
theorem dX8_letter_49 : decode cX8_letter 49 = .ok (.aload_n 0, 1) := by decide +kernel
theorem dX8_letter_50 : decode cX8_letter 50 = .ok (.getfield 7, 3) := by decide +kernel
theorem dX8_letter_53 : decode cX8_letter 53 = .ok (.aload_n 0, 1) := by decide +kernel
theorem dX8_letter_54 : decode cX8_letter 54 = .ok (.getfield 64, 3) := by decide +kernel
theorem dX8_letter_57 : decode cX8_letter 57 = .ok (.iaload, 1) := by decide +kernel
theorem dX8_letter_58 : decode cX8_letter 58 = .ok (.goto 4, 3) := by decide +kernel
theorem dX8_letter_61 : decode cX8_letter 61 = .ok (.iconst (-1), 1) := by decide +kernel
theorem dX8_letter_62 : decode cX8_letter 62 = .ok (.ireturn, 1) := by decide +kernel
theorem dX8_isWrong_0 : decode cX8_isWrong 0 = .ok (.aload_n 0, 1) := by decide +kernel
theorem dX8_isWrong_1 : decode cX8_isWrong 1 = .ok (.iload_n 1, 1) := by decide +kernel
theorem dX8_isWrong_2 : decode cX8_isWrong 2 = .ok (.putfield 67, 3) := by decide +kernel
theorem dX8_isWrong_5 : decode cX8_isWrong 5 = .ok (.aload_n 0, 1) := by decide +kernel
theorem dX8_isWrong_6 : decode cX8_isWrong 6 = .ok (.iload_n 2, 1) := by decide +kernel
theorem dX8_isWrong_7 : decode cX8_isWrong 7 = .ok (.putfield 64, 3) := by decide +kernel
theorem dX8_isWrong_10 : decode cX8_isWrong 10 = .ok (.iconst 0, 1) := by decide +kernel
theorem dX8_isWrong_11 : decode cX8_isWrong 11 = .ok (.ireturn, 1) := by decide +kernel
set_option maxRecDepth 20000 in
theorem ggX8_number_X8_letter : GoodIn wsX8_number wsX8_letter := goodIn_m (fun w hw => by
  revert w hw; unfold wsX8_letter
  exact am_cons (am_at in_wsX8_number_0 9 rfl) (am_app (am_cons (am_at in_wsX8_number_0 0 rfl) (am_cons (am_at in_wsX8_number_0 3 rfl) (am_cons (am_at in_wsX8_number_0 4 rfl) am_nil))) in_wsX8_number_1)) gw_wsX8_letter
set_option maxRecDepth 20000 in
theorem gX8_number_X8_letter : GoodIn wsX8_number (wsV RX8 70 RX8 yX8_letter wsX8_letter) := goodIn_app (goodIn_m (am_cons (am_at in_wsX8_number_0 5 rfl) (am_cons (am_at in_wsX8_number_0 6 rfl) (am_cons (am_at in_wsX8_number_0 7 rfl) (am_cons (am_at in_wsX8_number_0 8 rfl) am_nil)))) (by decide +kernel)) ggX8_number_X8_letter
set_option maxRecDepth 20000 in
theorem ggX8_number_X8_in : GoodIn wsX8_number wsX8_in := goodIn_m (fun w hw => by
  revert w hw; unfold wsX8_in
  exact am_cons (am_at in_wsX8_number_0 12 rfl) am_nil) gw_wsX8_in
set_option maxRecDepth 20000 in
theorem gX8_number_X8_in : GoodIn wsX8_number (va_wsS RX8 55 yX8_in wsX8_in) := goodIn_app (goodIn_m (am_cons (am_at in_wsX8_number_0 10 rfl) (am_cons (am_at in_wsX8_number_0 11 rfl) (am_cons (am_at in_wsX8_number_0 8 rfl) am_nil))) (by decide +kernel)) ggX8_number_X8_in
set_option maxRecDepth 20000 in
theorem ggX8_number_X8_isWrong : GoodIn wsX8_number wsX8_isWrong := goodIn_m (fun w hw => by
  revert w hw; unfold wsX8_isWrong
  exact am_cons (am_at in_wsX8_number_0 16 rfl) (am_app (am_cons (am_at in_wsX8_number_0 17 rfl) (am_cons (am_at in_wsX8_number_0 0 rfl) am_nil)) in_wsX8_number_1)) gw_wsX8_isWrong
set_option maxRecDepth 20000 in
theorem gX8_number_X8_isWrong : GoodIn wsX8_number (wsV RX8 77 RX8 yX8_isWrong wsX8_isWrong) := goodIn_app (goodIn_m (am_cons (am_at in_wsX8_number_0 13 rfl) (am_cons (am_at in_wsX8_number_0 14 rfl) (am_cons (am_at in_wsX8_number_0 15 rfl) (am_cons (am_at in_wsX8_number_0 8 rfl) am_nil)))) (by decide +kernel)) ggX8_number_X8_isWrong
theorem dX8_number_0 : decode cX8_number 0 = .ok (.aload_n 0, 1) := by decide +kernel
theorem dX8_number_1 : decode cX8_number 1 = .ok (.invokevirtual 70, 3) := by decide +kernel
theorem dX8_number_4 : decode cX8_number 4 = .ok (.istore_n 3, 1) := by decide +kernel
theorem dX8_number_5 : decode cX8_number 5 = .ok (.aload_n 0, 1) := by decide +kernel
theorem dX8_number_6 : decode cX8_number 6 = .ok (.aload_n 0, 1) := by decide +kernel
theorem dX8_number_7 : decode cX8_number 7 = .ok (.getfield 64, 3) := by decide +kernel
theorem dX8_number_10 : decode cX8_number 10 = .ok (.putfield 74, 3) := by decide +kernel
theorem dX8_number_13 : decode cX8_number 13 = .ok (.iload_n 3, 1) := by decide +kernel
theorem dX8_number_14 : decode cX8_number 14 = .ok (.bipush 48, 2) := by decide +kernel
theorem dX8_number_16 : decode cX8_number 16 = .ok (.bipush 57, 2) := by decide +kernel
theorem dX8_number_18 : decode cX8_number 18 = .ok (.invokestatic 55, 3) := by decide +kernel
theorem dX8_number_21 : decode cX8_number 21 = .ok (.ifCond .ne 13, 3) := by decide +kernel
theorem dX8_number_24 : decode cX8_number 24 = .ok (.aload_n 0, 1) := by decide +kernel
theorem dX8_number_25 : decode cX8_number 25 = .ok (.iconst 1, 1) := by decide +kernel
theorem dX8_number_26 : decode cX8_number 26 = .ok (.aload_n 0, 1) := by decide +kernel
theorem dX8_number_27 : decode cX8_number 27 = .ok (.getfield 64, 3) := by decide +kernel
theorem dX8_number_30 : decode cX8_number 30 = .ok (.invokevirtual 77, 3) := by decide +kernel
theorem dX8_number_33 : decode cX8_number 33 = .ok (.ireturn, 1) := by decide +kernel
theorem dX8_number_34 : decode cX8_number 34 = .ok (.iconst 0, 1) := by decide +kernel
theorem dX8_number_35 : decode cX8_number 35 = .ok (.istore 4, 2) := by decide +kernel
theorem dX8_number_37 : decode cX8_number 37 = .ok (.aload_n 0, 1) := by decide +kernel
theorem dX8_number_38 : decode cX8_number 38 = .ok (.iconst 0, 1) := by decide +kernel
theorem dX8_number_39 : decode cX8_number 39 = .ok (.putfield 81, 3) := by decide +kernel
theorem dX8_number_42 : decode cX8_number 42 = .ok (.aload_n 0, 1) := by decide +kernel
theorem dX8_number_43 : decode cX8_number 43 = .ok (.getfield 64, 3) := by decide +kernel
theorem dX8_number_46 : decode cX8_number 46 = .ok (.aload_n 0, 1) := by decide +kernel
theorem dX8_number_47 : decode cX8_number 47 = .ok (.getfield 60, 3) := by decide +kernel
theorem dX8_number_50 : decode cX8_number 50 = .ok (.if_icmp .ge 75, 3) := by decide +kernel
theorem dX8_number_53 : decode cX8_number 53 = .ok (.aload_n 0, 1) := by decide +kernel
theorem dX8_number_54 : decode cX8_number 54 = .ok (.getfield 7, 3) := by decide +kernel
theorem dX8_number_57 : decode cX8_number 57 = .ok (.aload_n 0, 1) := by decide +kernel
theorem dX8_number_58 : decode cX8_number 58 = .ok (.getfield 64, 3) := by decide +kernel
theorem dX8_number_61 : decode cX8_number 61 = .ok (.iaload, 1) := by decide +kernel
theorem dX8_number_62 : decode cX8_number 62 = .ok (.bipush 48, 2) := by decide +kernel
theorem dX8_number_64 : decode cX8_number 64 = .ok (.bipush 57, 2) := by decide +kernel
theorem dX8_number_66 : decode cX8_number 66 = .ok (.invokestatic 55, 3) := by decide +kernel
theorem dX8_number_69 : decode cX8_number 69 = .ok (.ifCond .eq 56, 3) := by decide +kernel
theorem dX8_number_72 : decode cX8_number 72 = .ok (.aload_n 0, 1) := by decide +kernel
theorem dX8_number_73 : decode cX8_number 73 = .ok (.iload 4, 2) := by decide +kernel
theorem dX8_number_75 : decode cX8_number 75 = .ok (.iconst 4, 1) := by decide +kernel
theorem dX8_number_76 : decode cX8_number 76 = .ok (.if_icmp .ge 26, 3) := by decide +kernel
theorem dX8_number_79 : decode cX8_number 79 = .ok (.bipush 10, 2) := by decide +kernel
theorem dX8_number_81 : decode cX8_number 81 = .ok (.aload_n 0, 1) := by decide +kernel
theorem dX8_number_82 : decode cX8_number 82 = .ok (.getfield 81, 3) := by decide +kernel
theorem dX8_number_85 : decode cX8_number 85 = .ok (.imul, 1) := by decide +kernel
theorem dX8_number_86 : decode cX8_number 86 = .ok (.aload_n 0, 1) := by decide +kernel
theorem dX8_number_87 : decode cX8_number 87 = .ok (.getfield 7, 3) := by decide +kernel
theorem dX8_number_90 : decode cX8_number 90 = .ok (.aload_n 0, 1) := by decide +kernel
theorem dX8_number_91 : decode cX8_number 91 = .ok (.getfield 64, 3) := by decide +kernel
theorem dX8_number_94 : decode cX8_number 94 = .ok (.iaload, 1) := by decide +kernel
theorem dX8_number_95 : decode cX8_number 95 = .ok (.iadd, 1) := by decide +kernel
theorem dX8_number_96 : decode cX8_number 96 = .ok (.bipush 48, 2) := by decide +kernel
theorem dX8_number_98 : decode cX8_number 98 = .ok (.isub, 1) := by decide +kernel
theorem dX8_number_99 : decode cX8_number 99 = .ok (.goto 7, 3) := by decide +kernel
theorem dX8_number_102 : decode cX8_number 102 = .ok (.aload_n 0, 1) := by decide +kernel
theorem dX8_number_103 : decode cX8_number 103 = .ok (.getfield 81, 3) := by decide +kernel
theorem dX8_number_106 : decode cX8_number 106 = .ok (.putfield 81, 3) := by decide +kernel
theorem dX8_number_109 : decode cX8_number 109 = .ok (.iinc 4 1, 3) := by decide +kernel
theorem dX8_number_112 : decode cX8_number 112 = .ok (.aload_n 0, 1) := by decide +kernel
theorem dX8_number_113 : decode cX8_number 113 = .ok (.dup, 1) := by decide +kernel
theorem dX8_number_114 : decode cX8_number 114 = .ok (.getfield 64, 3) := by decide +kernel
theorem dX8_number_117 : decode cX8_number 117 = .ok (.iconst 1, 1) := by decide +kernel
theorem dX8_number_118 : decode cX8_number 118 = .ok (.iadd, 1) := by decide +kernel
theorem dX8_number_119 : decode cX8_number 119 = .ok (.putfield 64, 3) := by decide +kernel
theorem dX8_number_122 : decode cX8_number 122 = .ok (.goto (-80), 3) := by decide +kernel
theorem dX8_number_125 : decode cX8_number 125 = .ok (.iload 4, 2) := by decide +kernel
theorem dX8_number_127 : decode cX8_number 127 = .ok (.iconst 5, 1) := by decide +kernel
theorem dX8_number_128 : decode cX8_number 128 = .ok (.if_icmp .ge 15, 3) := by decide +kernel
theorem dX8_number_131 : decode cX8_number 131 = .ok (.aload_n 0, 1) := by decide +kernel
theorem dX8_number_132 : decode cX8_number 132 = .ok (.getfield 81, 3) := by decide +kernel
theorem dX8_number_135 : decode cX8_number 135 = .ok (.iload_n 1, 1) := by decide +kernel
theorem dX8_number_136 : decode cX8_number 136 = .ok (.iload_n 2, 1) := by decide +kernel
theorem dX8_number_137 : decode cX8_number 137 = .ok (.invokestatic 55, 3) := by decide +kernel
theorem dX8_number_140 : decode cX8_number 140 = .ok (.ifCond .ne 15, 3) := by decide +kernel
theorem dX8_number_143 : decode cX8_number 143 = .ok (.aload_n 0, 1) := by decide +kernel
theorem dX8_number_144 : decode cX8_number 144 = .ok (.iconst 2, 1) := by decide +kernel
theorem dX8_number_145 : decode cX8_number 145 = .ok (.aload_n 0, 1) := by decide +kernel
theorem dX8_number_146 : decode cX8_number 146 = .ok (.getfield 74, 3) := by decide +kernel
theorem dX8_number_149 : decode cX8_number 149 = .ok (.invokevirtual 77, 3) := by decide +kernel
theorem dX8_number_152 : decode cX8_number 152 = .ok (.ifCond .eq 7, 3) := by decide +kernel
theorem dX8_number_155 : decode cX8_number 155 = .ok (.iconst 1, 1) := by decide +kernel
theorem dX8_number_156 : decode cX8_number 156 = .ok (.goto 4, 3) := by decide +kernel
theorem dX8_number_159 : decode cX8_number 159 = .ok (.iconst 0, 1) := by decide +kernel
theorem dX8_number_160 : decode cX8_number 160 = .ok (.ireturn, 1) := by decide +kernel
set_option maxRecDepth 20000 in
theorem ggX8_ends_X8_letter : GoodIn wsX8_ends wsX8_letter := goodIn_m (fun w hw => by
  revert w hw; unfold wsX8_letter
  exact am_cons (am_at in_wsX8_ends_0 5 rfl) (am_app (am_cons (am_at in_wsX8_ends_0 0 rfl) (am_cons (am_at in_wsX8_ends_0 6 rfl) (am_cons (am_at in_wsX8_ends_0 7 rfl) am_nil))) in_wsX8_ends_1)) gw_wsX8_letter
set_option maxRecDepth 20000 in
theorem gX8_ends_X8_letter : GoodIn wsX8_ends (wsV RX8 70 RX8 yX8_letter wsX8_letter) := goodIn_app (goodIn_m (am_cons (am_at in_wsX8_ends_0 1 rfl) (am_cons (am_at in_wsX8_ends_0 2 rfl) (am_cons (am_at in_wsX8_ends_0 3 rfl) (am_cons (am_at in_wsX8_ends_0 4 rfl) am_nil)))) (by decide +kernel)) ggX8_ends_X8_letter
set_option maxRecDepth 20000 in
theorem ggX8_ends_X8_isWrong : GoodIn wsX8_ends wsX8_isWrong := goodIn_m (fun w hw => by
  revert w hw; unfold wsX8_isWrong
  exact am_cons (am_at in_wsX8_ends_0 11 rfl) (am_app (am_cons (am_at in_wsX8_ends_0 12 rfl) (am_cons (am_at in_wsX8_ends_0 0 rfl) am_nil)) in_wsX8_ends_1)) gw_wsX8_isWrong
set_option maxRecDepth 20000 in
theorem gX8_ends_X8_isWrong : GoodIn wsX8_ends (wsV RX8 77 RX8 yX8_isWrong wsX8_isWrong) := goodIn_app (goodIn_m (am_cons (am_at in_wsX8_ends_0 8 rfl) (am_cons (am_at in_wsX8_ends_0 9 rfl) (am_cons (am_at in_wsX8_ends_0 10 rfl) (am_cons (am_at in_wsX8_ends_0 4 rfl) am_nil)))) (by decide +kernel)) ggX8_ends_X8_isWrong
theorem dX8_ends_0 : decode cX8_ends 0 = .ok (.aload_n 0, 1) := by decide +kernel
theorem dX8_ends_1 : decode cX8_ends 1 = .ok (.invokevirtual 70, 3) := by decide +kernel
theorem dX8_ends_4 : decode cX8_ends 4 = .ok (.bipush 59, 2) := by decide +kernel
theorem dX8_ends_6 : decode cX8_ends 6 = .ok (.if_icmp .eq 13, 3) := by decide +kernel
theorem dX8_ends_9 : decode cX8_ends 9 = .ok (.aload_n 0, 1) := by decide +kernel
theorem dX8_ends_10 : decode cX8_ends 10 = .ok (.iconst 1, 1) := by decide +kernel
theorem dX8_ends_11 : decode cX8_ends 11 = .ok (.aload_n 0, 1) := by decide +kernel
theorem dX8_ends_12 : decode cX8_ends 12 = .ok (.getfield 64, 3) := by decide +kernel
theorem dX8_ends_15 : decode cX8_ends 15 = .ok (.invokevirtual 77, 3) := by decide +kernel
theorem dX8_ends_18 : decode cX8_ends 18 = .ok (.ireturn, 1) := by decide +kernel
theorem dX8_ends_19 : decode cX8_ends 19 = .ok (.aload_n 0, 1) := by decide +kernel
theorem dX8_ends_20 : decode cX8_ends 20 = .ok (.dup, 1) := by decide +kernel
theorem dX8_ends_21 : decode cX8_ends 21 = .ok (.getfield 64, 3) := by decide +kernel
theorem dX8_ends_24 : decode cX8_ends 24 = .ok (.iconst 1, 1) := by decide +kernel
theorem dX8_ends_25 : decode cX8_ends 25 = .ok (.iadd, 1) := by decide +kernel
theorem dX8_ends_26 : decode cX8_ends 26 = .ok (.putfield 64, 3) := by decide +kernel
theorem dX8_ends_29 : decode cX8_ends 29 = .ok (.iconst 1, 1) := by decide +kernel
theorem dX8_ends_30 : decode cX8_ends 30 = .ok (.ireturn, 1) := by decide +kernel
set_option maxRecDepth 20000 in
theorem ggX8_readsStay_X8_number : GoodIn wsX8_readsStay wsX8_number := goodIn_m (fun w hw => by
  revert w hw; unfold wsX8_number
  exact am_cons (am_at in_wsX8_readsStay_0 6 rfl) (am_app (am_cons (am_at in_wsX8_readsStay_0 7 rfl) (am_cons (am_at in_wsX8_readsStay_0 8 rfl) (am_cons (am_at in_wsX8_readsStay_0 1 rfl) (am_cons (am_at in_wsX8_readsStay_0 9 rfl) (am_cons (am_at in_wsX8_readsStay_0 10 rfl) (am_cons (am_at in_wsX8_readsStay_0 11 rfl) (am_cons (am_at in_wsX8_readsStay_0 12 rfl) (am_cons (am_at in_wsX8_readsStay_0 13 rfl) (am_cons (am_at in_wsX8_readsStay_0 5 rfl) (am_cons (am_at in_wsX8_readsStay_0 14 rfl) (am_cons (am_at in_wsX8_readsStay_0 15 rfl) (am_cons (am_at in_wsX8_readsStay_0 16 rfl) (am_cons (am_at in_wsX8_readsStay_0 17 rfl) (am_cons (am_at in_wsX8_readsStay_0 18 rfl) (am_cons (am_at in_wsX8_readsStay_0 19 rfl) (am_cons (am_at in_wsX8_readsStay_0 20 rfl) (am_cons (am_at in_wsX8_readsStay_0 21 rfl) (am_cons (am_at in_wsX8_readsStay_0 22 rfl) am_nil)))))))))))))))))) in_wsX8_readsStay_2)) gw_wsX8_number
set_option maxRecDepth 20000 in
theorem gX8_readsStay_X8_number : GoodIn wsX8_readsStay (wsV RX8 84 RX8 yX8_number wsX8_number) := goodIn_app (goodIn_m (am_cons (am_at in_wsX8_readsStay_0 2 rfl) (am_cons (am_at in_wsX8_readsStay_0 3 rfl) (am_cons (am_at in_wsX8_readsStay_0 4 rfl) (am_cons (am_at in_wsX8_readsStay_0 5 rfl) am_nil)))) (by decide +kernel)) ggX8_readsStay_X8_number
set_option maxRecDepth 20000 in
theorem ggX8_readsStay_X8_ends : GoodIn wsX8_readsStay wsX8_ends := goodIn_m (fun w hw => by
  revert w hw; unfold wsX8_ends
  exact am_cons (am_at in_wsX8_readsStay_1 2 rfl) (am_app (am_cons (am_at in_wsX8_readsStay_0 7 rfl) (am_cons (am_at in_wsX8_readsStay_0 11 rfl) (am_cons (am_at in_wsX8_readsStay_0 12 rfl) (am_cons (am_at in_wsX8_readsStay_0 13 rfl) (am_cons (am_at in_wsX8_readsStay_0 5 rfl) (am_cons (am_at in_wsX8_readsStay_0 14 rfl) (am_cons (am_at in_wsX8_readsStay_0 9 rfl) (am_cons (am_at in_wsX8_readsStay_0 10 rfl) (am_cons (am_at in_wsX8_readsStay_0 18 rfl) (am_cons (am_at in_wsX8_readsStay_0 19 rfl) (am_cons (am_at in_wsX8_readsStay_0 20 rfl) (am_cons (am_at in_wsX8_readsStay_0 21 rfl) (am_cons (am_at in_wsX8_readsStay_0 22 rfl) am_nil))))))))))))) in_wsX8_readsStay_2)) gw_wsX8_ends
set_option maxRecDepth 20000 in
theorem gX8_readsStay_X8_ends : GoodIn wsX8_readsStay (wsV RX8 87 RX8 yX8_ends wsX8_ends) := goodIn_app (goodIn_m (am_cons (am_at in_wsX8_readsStay_0 23 rfl) (am_cons (am_at in_wsX8_readsStay_1 0 rfl) (am_cons (am_at in_wsX8_readsStay_1 1 rfl) (am_cons (am_at in_wsX8_readsStay_0 5 rfl) am_nil)))) (by decide +kernel)) ggX8_readsStay_X8_ends
theorem dX8_readsStay_0 : decode cX8_readsStay 0 = .ok (.aload_n 0, 1) := by decide +kernel
theorem dX8_readsStay_1 : decode cX8_readsStay 1 = .ok (.iconst 1, 1) := by decide +kernel
theorem dX8_readsStay_2 : decode cX8_readsStay 2 = .ok (.iconst 4, 1) := by decide +kernel
theorem dX8_readsStay_3 : decode cX8_readsStay 3 = .ok (.invokevirtual 84, 3) := by decide +kernel
theorem dX8_readsStay_6 : decode cX8_readsStay 6 = .ok (.ifCond .ne 5, 3) := by decide +kernel
theorem dX8_readsStay_9 : decode cX8_readsStay 9 = .ok (.iconst 0, 1) := by decide +kernel
theorem dX8_readsStay_10 : decode cX8_readsStay 10 = .ok (.ireturn, 1) := by decide +kernel
theorem dX8_readsStay_11 : decode cX8_readsStay 11 = .ok (.aload_n 0, 1) := by decide +kernel
theorem dX8_readsStay_12 : decode cX8_readsStay 12 = .ok (.getfield 16, 3) := by decide +kernel
theorem dX8_readsStay_15 : decode cX8_readsStay 15 = .ok (.iconst 0, 1) := by decide +kernel
theorem dX8_readsStay_16 : decode cX8_readsStay 16 = .ok (.aload_n 0, 1) := by decide +kernel
theorem dX8_readsStay_17 : decode cX8_readsStay 17 = .ok (.getfield 81, 3) := by decide +kernel
theorem dX8_readsStay_20 : decode cX8_readsStay 20 = .ok (.iastore, 1) := by decide +kernel
theorem dX8_readsStay_21 : decode cX8_readsStay 21 = .ok (.aload_n 0, 1) := by decide +kernel
theorem dX8_readsStay_22 : decode cX8_readsStay 22 = .ok (.iconst 0, 1) := by decide +kernel
theorem dX8_readsStay_23 : decode cX8_readsStay 23 = .ok (.bipush 11, 2) := by decide +kernel
theorem dX8_readsStay_25 : decode cX8_readsStay 25 = .ok (.invokevirtual 84, 3) := by decide +kernel
theorem dX8_readsStay_28 : decode cX8_readsStay 28 = .ok (.ifCond .ne 5, 3) := by decide +kernel
theorem dX8_readsStay_31 : decode cX8_readsStay 31 = .ok (.iconst 0, 1) := by decide +kernel
theorem dX8_readsStay_32 : decode cX8_readsStay 32 = .ok (.ireturn, 1) := by decide +kernel
theorem dX8_readsStay_33 : decode cX8_readsStay 33 = .ok (.aload_n 0, 1) := by decide +kernel
theorem dX8_readsStay_34 : decode cX8_readsStay 34 = .ok (.getfield 16, 3) := by decide +kernel
theorem dX8_readsStay_37 : decode cX8_readsStay 37 = .ok (.iconst 1, 1) := by decide +kernel
theorem dX8_readsStay_38 : decode cX8_readsStay 38 = .ok (.aload_n 0, 1) := by decide +kernel
theorem dX8_readsStay_39 : decode cX8_readsStay 39 = .ok (.getfield 81, 3) := by decide +kernel
theorem dX8_readsStay_42 : decode cX8_readsStay 42 = .ok (.iastore, 1) := by decide +kernel
theorem dX8_readsStay_43 : decode cX8_readsStay 43 = .ok (.aload_n 0, 1) := by decide +kernel
theorem dX8_readsStay_44 : decode cX8_readsStay 44 = .ok (.invokevirtual 87, 3) := by decide +kernel
theorem dX8_readsStay_47 : decode cX8_readsStay 47 = .ok (.ireturn, 1) := by decide +kernel
set_option maxRecDepth 20000 in
theorem ggX8_readsTown_X8_number : GoodIn wsX8_readsTown wsX8_number := goodIn_m (fun w hw => by
  revert w hw; unfold wsX8_number
  exact am_cons (am_at in_wsX8_readsTown_0 6 rfl) (am_app (am_cons (am_at in_wsX8_readsTown_0 7 rfl) (am_cons (am_at in_wsX8_readsTown_0 8 rfl) (am_cons (am_at in_wsX8_readsTown_0 1 rfl) (am_cons (am_at in_wsX8_readsTown_0 9 rfl) (am_cons (am_at in_wsX8_readsTown_0 10 rfl) (am_cons (am_at in_wsX8_readsTown_0 11 rfl) (am_cons (am_at in_wsX8_readsTown_0 12 rfl) (am_cons (am_at in_wsX8_readsTown_0 13 rfl) (am_cons (am_at in_wsX8_readsTown_0 5 rfl) (am_cons (am_at in_wsX8_readsTown_0 14 rfl) (am_cons (am_at in_wsX8_readsTown_0 15 rfl) (am_cons (am_at in_wsX8_readsTown_0 16 rfl) (am_cons (am_at in_wsX8_readsTown_0 17 rfl) (am_cons (am_at in_wsX8_readsTown_0 18 rfl) (am_cons (am_at in_wsX8_readsTown_0 19 rfl) (am_cons (am_at in_wsX8_readsTown_0 20 rfl) (am_cons (am_at in_wsX8_readsTown_0 21 rfl) (am_cons (am_at in_wsX8_readsTown_0 22 rfl) am_nil)))))))))))))))))) in_wsX8_readsTown_2)) gw_wsX8_number
set_option maxRecDepth 20000 in
theorem gX8_readsTown_X8_number : GoodIn wsX8_readsTown (wsV RX8 84 RX8 yX8_number wsX8_number) := goodIn_app (goodIn_m (am_cons (am_at in_wsX8_readsTown_0 2 rfl) (am_cons (am_at in_wsX8_readsTown_0 3 rfl) (am_cons (am_at in_wsX8_readsTown_0 4 rfl) (am_cons (am_at in_wsX8_readsTown_0 5 rfl) am_nil)))) (by decide +kernel)) ggX8_readsTown_X8_number
set_option maxRecDepth 20000 in
theorem ggX8_readsTown_X8_ends : GoodIn wsX8_readsTown wsX8_ends := goodIn_m (fun w hw => by
  revert w hw; unfold wsX8_ends
  exact am_cons (am_at in_wsX8_readsTown_1 2 rfl) (am_app (am_cons (am_at in_wsX8_readsTown_0 7 rfl) (am_cons (am_at in_wsX8_readsTown_0 11 rfl) (am_cons (am_at in_wsX8_readsTown_0 12 rfl) (am_cons (am_at in_wsX8_readsTown_0 13 rfl) (am_cons (am_at in_wsX8_readsTown_0 5 rfl) (am_cons (am_at in_wsX8_readsTown_0 14 rfl) (am_cons (am_at in_wsX8_readsTown_0 9 rfl) (am_cons (am_at in_wsX8_readsTown_0 10 rfl) (am_cons (am_at in_wsX8_readsTown_0 18 rfl) (am_cons (am_at in_wsX8_readsTown_0 19 rfl) (am_cons (am_at in_wsX8_readsTown_0 20 rfl) (am_cons (am_at in_wsX8_readsTown_0 21 rfl) (am_cons (am_at in_wsX8_readsTown_0 22 rfl) am_nil))))))))))))) in_wsX8_readsTown_2)) gw_wsX8_ends
set_option maxRecDepth 20000 in
theorem gX8_readsTown_X8_ends : GoodIn wsX8_readsTown (wsV RX8 87 RX8 yX8_ends wsX8_ends) := goodIn_app (goodIn_m (am_cons (am_at in_wsX8_readsTown_0 23 rfl) (am_cons (am_at in_wsX8_readsTown_1 0 rfl) (am_cons (am_at in_wsX8_readsTown_1 1 rfl) (am_cons (am_at in_wsX8_readsTown_0 5 rfl) am_nil)))) (by decide +kernel)) ggX8_readsTown_X8_ends
theorem dX8_readsTown_0 : decode cX8_readsTown 0 = .ok (.aload_n 0, 1) := by decide +kernel
theorem dX8_readsTown_1 : decode cX8_readsTown 1 = .ok (.getfield 16, 3) := by decide +kernel
theorem dX8_readsTown_4 : decode cX8_readsTown 4 = .ok (.iconst 2, 1) := by decide +kernel
theorem dX8_readsTown_5 : decode cX8_readsTown 5 = .ok (.iaload, 1) := by decide +kernel
theorem dX8_readsTown_6 : decode cX8_readsTown 6 = .ok (.istore_n 1, 1) := by decide +kernel
theorem dX8_readsTown_7 : decode cX8_readsTown 7 = .ok (.aload_n 0, 1) := by decide +kernel
theorem dX8_readsTown_8 : decode cX8_readsTown 8 = .ok (.iconst 0, 1) := by decide +kernel
theorem dX8_readsTown_9 : decode cX8_readsTown 9 = .ok (.sipush 999, 3) := by decide +kernel
theorem dX8_readsTown_12 : decode cX8_readsTown 12 = .ok (.invokevirtual 84, 3) := by decide +kernel
theorem dX8_readsTown_15 : decode cX8_readsTown 15 = .ok (.ifCond .ne 5, 3) := by decide +kernel
theorem dX8_readsTown_18 : decode cX8_readsTown 18 = .ok (.iconst 0, 1) := by decide +kernel
theorem dX8_readsTown_19 : decode cX8_readsTown 19 = .ok (.ireturn, 1) := by decide +kernel
theorem dX8_readsTown_20 : decode cX8_readsTown 20 = .ok (.aload_n 0, 1) := by decide +kernel
theorem dX8_readsTown_21 : decode cX8_readsTown 21 = .ok (.getfield 16, 3) := by decide +kernel
theorem dX8_readsTown_24 : decode cX8_readsTown 24 = .ok (.iconst 4, 1) := by decide +kernel
theorem dX8_readsTown_25 : decode cX8_readsTown 25 = .ok (.iload_n 1, 1) := by decide +kernel
theorem dX8_readsTown_26 : decode cX8_readsTown 26 = .ok (.iadd, 1) := by decide +kernel
theorem dX8_readsTown_27 : decode cX8_readsTown 27 = .ok (.aload_n 0, 1) := by decide +kernel
theorem dX8_readsTown_28 : decode cX8_readsTown 28 = .ok (.getfield 81, 3) := by decide +kernel
theorem dX8_readsTown_31 : decode cX8_readsTown 31 = .ok (.iastore, 1) := by decide +kernel
theorem dX8_readsTown_32 : decode cX8_readsTown 32 = .ok (.aload_n 0, 1) := by decide +kernel
theorem dX8_readsTown_33 : decode cX8_readsTown 33 = .ok (.iconst 0, 1) := by decide +kernel
theorem dX8_readsTown_34 : decode cX8_readsTown 34 = .ok (.sipush 4095, 3) := by decide +kernel
theorem dX8_readsTown_37 : decode cX8_readsTown 37 = .ok (.invokevirtual 84, 3) := by decide +kernel
theorem dX8_readsTown_40 : decode cX8_readsTown 40 = .ok (.ifCond .ne 5, 3) := by decide +kernel
theorem dX8_readsTown_43 : decode cX8_readsTown 43 = .ok (.iconst 0, 1) := by decide +kernel
theorem dX8_readsTown_44 : decode cX8_readsTown 44 = .ok (.ireturn, 1) := by decide +kernel
theorem dX8_readsTown_45 : decode cX8_readsTown 45 = .ok (.aload_n 0, 1) := by decide +kernel
theorem dX8_readsTown_46 : decode cX8_readsTown 46 = .ok (.getfield 16, 3) := by decide +kernel
theorem dX8_readsTown_49 : decode cX8_readsTown 49 = .ok (.bipush 12, 2) := by decide +kernel
theorem dX8_readsTown_51 : decode cX8_readsTown 51 = .ok (.iload_n 1, 1) := by decide +kernel
theorem dX8_readsTown_52 : decode cX8_readsTown 52 = .ok (.iadd, 1) := by decide +kernel
theorem dX8_readsTown_53 : decode cX8_readsTown 53 = .ok (.aload_n 0, 1) := by decide +kernel
theorem dX8_readsTown_54 : decode cX8_readsTown 54 = .ok (.getfield 81, 3) := by decide +kernel
theorem dX8_readsTown_57 : decode cX8_readsTown 57 = .ok (.iastore, 1) := by decide +kernel
theorem dX8_readsTown_58 : decode cX8_readsTown 58 = .ok (.aload_n 0, 1) := by decide +kernel
theorem dX8_readsTown_59 : decode cX8_readsTown 59 = .ok (.iconst 0, 1) := by decide +kernel
theorem dX8_readsTown_60 : decode cX8_readsTown 60 = .ok (.bipush 20, 2) := by decide +kernel
theorem dX8_readsTown_62 : decode cX8_readsTown 62 = .ok (.invokevirtual 84, 3) := by decide +kernel
theorem dX8_readsTown_65 : decode cX8_readsTown 65 = .ok (.ifCond .ne 5, 3) := by decide +kernel
theorem dX8_readsTown_68 : decode cX8_readsTown 68 = .ok (.iconst 0, 1) := by decide +kernel
theorem dX8_readsTown_69 : decode cX8_readsTown 69 = .ok (.ireturn, 1) := by decide +kernel
theorem dX8_readsTown_70 : decode cX8_readsTown 70 = .ok (.aload_n 0, 1) := by decide +kernel
theorem dX8_readsTown_71 : decode cX8_readsTown 71 = .ok (.getfield 16, 3) := by decide +kernel
theorem dX8_readsTown_74 : decode cX8_readsTown 74 = .ok (.bipush 20, 2) := by decide +kernel
theorem dX8_readsTown_76 : decode cX8_readsTown 76 = .ok (.iload_n 1, 1) := by decide +kernel
theorem dX8_readsTown_77 : decode cX8_readsTown 77 = .ok (.iadd, 1) := by decide +kernel
theorem dX8_readsTown_78 : decode cX8_readsTown 78 = .ok (.aload_n 0, 1) := by decide +kernel
theorem dX8_readsTown_79 : decode cX8_readsTown 79 = .ok (.getfield 81, 3) := by decide +kernel
theorem dX8_readsTown_82 : decode cX8_readsTown 82 = .ok (.iastore, 1) := by decide +kernel
theorem dX8_readsTown_83 : decode cX8_readsTown 83 = .ok (.aload_n 0, 1) := by decide +kernel
theorem dX8_readsTown_84 : decode cX8_readsTown 84 = .ok (.getfield 16, 3) := by decide +kernel
theorem dX8_readsTown_87 : decode cX8_readsTown 87 = .ok (.iconst 2, 1) := by decide +kernel
theorem dX8_readsTown_88 : decode cX8_readsTown 88 = .ok (.dup2, 1) := by decide +kernel
theorem dX8_readsTown_89 : decode cX8_readsTown 89 = .ok (.iaload, 1) := by decide +kernel
theorem dX8_readsTown_90 : decode cX8_readsTown 90 = .ok (.iconst 1, 1) := by decide +kernel
theorem dX8_readsTown_91 : decode cX8_readsTown 91 = .ok (.iadd, 1) := by decide +kernel
theorem dX8_readsTown_92 : decode cX8_readsTown 92 = .ok (.iastore, 1) := by decide +kernel
theorem dX8_readsTown_93 : decode cX8_readsTown 93 = .ok (.aload_n 0, 1) := by decide +kernel
theorem dX8_readsTown_94 : decode cX8_readsTown 94 = .ok (.invokevirtual 87, 3) := by decide +kernel
theorem dX8_readsTown_97 : decode cX8_readsTown 97 = .ok (.ireturn, 1) := by decide +kernel
set_option maxRecDepth 20000 in
theorem ggX8_readsRoad_X8_number : GoodIn wsX8_readsRoad wsX8_number := goodIn_m (fun w hw => by
  revert w hw; unfold wsX8_number
  exact am_cons (am_at in_wsX8_readsRoad_0 7 rfl) (am_app (am_cons (am_at in_wsX8_readsRoad_0 8 rfl) (am_cons (am_at in_wsX8_readsRoad_0 2 rfl) (am_cons (am_at in_wsX8_readsRoad_0 1 rfl) (am_cons (am_at in_wsX8_readsRoad_0 9 rfl) (am_cons (am_at in_wsX8_readsRoad_0 10 rfl) (am_cons (am_at in_wsX8_readsRoad_0 11 rfl) (am_cons (am_at in_wsX8_readsRoad_0 12 rfl) (am_cons (am_at in_wsX8_readsRoad_0 13 rfl) (am_cons (am_at in_wsX8_readsRoad_0 6 rfl) (am_cons (am_at in_wsX8_readsRoad_0 14 rfl) (am_cons (am_at in_wsX8_readsRoad_0 15 rfl) (am_cons (am_at in_wsX8_readsRoad_0 16 rfl) (am_cons (am_at in_wsX8_readsRoad_0 17 rfl) (am_cons (am_at in_wsX8_readsRoad_0 18 rfl) (am_cons (am_at in_wsX8_readsRoad_0 19 rfl) (am_cons (am_at in_wsX8_readsRoad_0 20 rfl) (am_cons (am_at in_wsX8_readsRoad_0 21 rfl) (am_cons (am_at in_wsX8_readsRoad_0 22 rfl) am_nil)))))))))))))))))) in_wsX8_readsRoad_2)) gw_wsX8_number
set_option maxRecDepth 20000 in
theorem gX8_readsRoad_X8_number : GoodIn wsX8_readsRoad (wsV RX8 84 RX8 yX8_number wsX8_number) := goodIn_app (goodIn_m (am_cons (am_at in_wsX8_readsRoad_0 3 rfl) (am_cons (am_at in_wsX8_readsRoad_0 4 rfl) (am_cons (am_at in_wsX8_readsRoad_0 5 rfl) (am_cons (am_at in_wsX8_readsRoad_0 6 rfl) am_nil)))) (by decide +kernel)) ggX8_readsRoad_X8_number
set_option maxRecDepth 20000 in
theorem ggX8_readsRoad_X8_isWrong : GoodIn wsX8_readsRoad wsX8_isWrong := goodIn_m (fun w hw => by
  revert w hw; unfold wsX8_isWrong
  exact am_cons (am_at in_wsX8_readsRoad_0 21 rfl) (am_app (am_cons (am_at in_wsX8_readsRoad_0 22 rfl) (am_cons (am_at in_wsX8_readsRoad_0 8 rfl) am_nil)) in_wsX8_readsRoad_2)) gw_wsX8_isWrong
set_option maxRecDepth 20000 in
theorem gX8_readsRoad_X8_isWrong : GoodIn wsX8_readsRoad (wsV RX8 77 RX8 yX8_isWrong wsX8_isWrong) := goodIn_app (goodIn_m (am_cons (am_at in_wsX8_readsRoad_0 18 rfl) (am_cons (am_at in_wsX8_readsRoad_0 19 rfl) (am_cons (am_at in_wsX8_readsRoad_0 20 rfl) (am_cons (am_at in_wsX8_readsRoad_0 6 rfl) am_nil)))) (by decide +kernel)) ggX8_readsRoad_X8_isWrong
set_option maxRecDepth 20000 in
theorem ggX8_readsRoad_X8_ends : GoodIn wsX8_readsRoad wsX8_ends := goodIn_m (fun w hw => by
  revert w hw; unfold wsX8_ends
  exact am_cons (am_at in_wsX8_readsRoad_1 2 rfl) (am_app (am_cons (am_at in_wsX8_readsRoad_0 8 rfl) (am_cons (am_at in_wsX8_readsRoad_0 11 rfl) (am_cons (am_at in_wsX8_readsRoad_0 12 rfl) (am_cons (am_at in_wsX8_readsRoad_0 13 rfl) (am_cons (am_at in_wsX8_readsRoad_0 6 rfl) (am_cons (am_at in_wsX8_readsRoad_0 14 rfl) (am_cons (am_at in_wsX8_readsRoad_0 9 rfl) (am_cons (am_at in_wsX8_readsRoad_0 10 rfl) (am_cons (am_at in_wsX8_readsRoad_0 18 rfl) (am_cons (am_at in_wsX8_readsRoad_0 19 rfl) (am_cons (am_at in_wsX8_readsRoad_0 20 rfl) (am_cons (am_at in_wsX8_readsRoad_0 21 rfl) (am_cons (am_at in_wsX8_readsRoad_0 22 rfl) am_nil))))))))))))) in_wsX8_readsRoad_2)) gw_wsX8_ends
set_option maxRecDepth 20000 in
theorem gX8_readsRoad_X8_ends : GoodIn wsX8_readsRoad (wsV RX8 87 RX8 yX8_ends wsX8_ends) := goodIn_app (goodIn_m (am_cons (am_at in_wsX8_readsRoad_0 23 rfl) (am_cons (am_at in_wsX8_readsRoad_1 0 rfl) (am_cons (am_at in_wsX8_readsRoad_1 1 rfl) (am_cons (am_at in_wsX8_readsRoad_0 6 rfl) am_nil)))) (by decide +kernel)) ggX8_readsRoad_X8_ends
theorem dX8_readsRoad_0 : decode cX8_readsRoad 0 = .ok (.aload_n 0, 1) := by decide +kernel
theorem dX8_readsRoad_1 : decode cX8_readsRoad 1 = .ok (.iconst 0, 1) := by decide +kernel
theorem dX8_readsRoad_2 : decode cX8_readsRoad 2 = .ok (.aload_n 0, 1) := by decide +kernel
theorem dX8_readsRoad_3 : decode cX8_readsRoad 3 = .ok (.getfield 16, 3) := by decide +kernel
theorem dX8_readsRoad_6 : decode cX8_readsRoad 6 = .ok (.iconst 2, 1) := by decide +kernel
theorem dX8_readsRoad_7 : decode cX8_readsRoad 7 = .ok (.iaload, 1) := by decide +kernel
theorem dX8_readsRoad_8 : decode cX8_readsRoad 8 = .ok (.iconst 1, 1) := by decide +kernel
theorem dX8_readsRoad_9 : decode cX8_readsRoad 9 = .ok (.isub, 1) := by decide +kernel
theorem dX8_readsRoad_10 : decode cX8_readsRoad 10 = .ok (.invokevirtual 84, 3) := by decide +kernel
theorem dX8_readsRoad_13 : decode cX8_readsRoad 13 = .ok (.ifCond .ne 5, 3) := by decide +kernel
theorem dX8_readsRoad_16 : decode cX8_readsRoad 16 = .ok (.iconst 0, 1) := by decide +kernel
theorem dX8_readsRoad_17 : decode cX8_readsRoad 17 = .ok (.ireturn, 1) := by decide +kernel
theorem dX8_readsRoad_18 : decode cX8_readsRoad 18 = .ok (.aload_n 0, 1) := by decide +kernel
theorem dX8_readsRoad_19 : decode cX8_readsRoad 19 = .ok (.getfield 81, 3) := by decide +kernel
theorem dX8_readsRoad_22 : decode cX8_readsRoad 22 = .ok (.istore_n 1, 1) := by decide +kernel
theorem dX8_readsRoad_23 : decode cX8_readsRoad 23 = .ok (.aload_n 0, 1) := by decide +kernel
theorem dX8_readsRoad_24 : decode cX8_readsRoad 24 = .ok (.iconst 0, 1) := by decide +kernel
theorem dX8_readsRoad_25 : decode cX8_readsRoad 25 = .ok (.aload_n 0, 1) := by decide +kernel
theorem dX8_readsRoad_26 : decode cX8_readsRoad 26 = .ok (.getfield 16, 3) := by decide +kernel
theorem dX8_readsRoad_29 : decode cX8_readsRoad 29 = .ok (.iconst 2, 1) := by decide +kernel
theorem dX8_readsRoad_30 : decode cX8_readsRoad 30 = .ok (.iaload, 1) := by decide +kernel
theorem dX8_readsRoad_31 : decode cX8_readsRoad 31 = .ok (.iconst 1, 1) := by decide +kernel
theorem dX8_readsRoad_32 : decode cX8_readsRoad 32 = .ok (.isub, 1) := by decide +kernel
theorem dX8_readsRoad_33 : decode cX8_readsRoad 33 = .ok (.invokevirtual 84, 3) := by decide +kernel
theorem dX8_readsRoad_36 : decode cX8_readsRoad 36 = .ok (.ifCond .ne 5, 3) := by decide +kernel
theorem dX8_readsRoad_39 : decode cX8_readsRoad 39 = .ok (.iconst 0, 1) := by decide +kernel
theorem dX8_readsRoad_40 : decode cX8_readsRoad 40 = .ok (.ireturn, 1) := by decide +kernel
theorem dX8_readsRoad_41 : decode cX8_readsRoad 41 = .ok (.iload_n 1, 1) := by decide +kernel
theorem dX8_readsRoad_42 : decode cX8_readsRoad 42 = .ok (.aload_n 0, 1) := by decide +kernel
theorem dX8_readsRoad_43 : decode cX8_readsRoad 43 = .ok (.getfield 81, 3) := by decide +kernel
theorem dX8_readsRoad_46 : decode cX8_readsRoad 46 = .ok (.if_icmp .ne 7, 3) := by decide +kernel
theorem dX8_readsRoad_49 : decode cX8_readsRoad 49 = .ok (.iconst 1, 1) := by decide +kernel
theorem dX8_readsRoad_50 : decode cX8_readsRoad 50 = .ok (.goto 4, 3) := by decide +kernel
theorem dX8_readsRoad_53 : decode cX8_readsRoad 53 = .ok (.iconst 0, 1) := by decide +kernel
theorem dX8_readsRoad_54 : decode cX8_readsRoad 54 = .ok (.istore_n 2, 1) := by decide +kernel
theorem dX8_readsRoad_55 : decode cX8_readsRoad 55 = .ok (.iconst 0, 1) := by decide +kernel
theorem dX8_readsRoad_56 : decode cX8_readsRoad 56 = .ok (.istore_n 3, 1) := by decide +kernel
theorem dX8_readsRoad_57 : decode cX8_readsRoad 57 = .ok (.iload_n 3, 1) := by decide +kernel
theorem dX8_readsRoad_58 : decode cX8_readsRoad 58 = .ok (.aload_n 0, 1) := by decide +kernel
theorem dX8_readsRoad_59 : decode cX8_readsRoad 59 = .ok (.getfield 16, 3) := by decide +kernel
theorem dX8_readsRoad_62 : decode cX8_readsRoad 62 = .ok (.iconst 3, 1) := by decide +kernel
theorem dX8_readsRoad_63 : decode cX8_readsRoad 63 = .ok (.iaload, 1) := by decide +kernel
theorem dX8_readsRoad_64 : decode cX8_readsRoad 64 = .ok (.if_icmp .ge 71, 3) := by decide +kernel
theorem dX8_readsRoad_67 : decode cX8_readsRoad 67 = .ok (.aload_n 0, 1) := by decide +kernel
theorem dX8_readsRoad_68 : decode cX8_readsRoad 68 = .ok (.getfield 16, 3) := by decide +kernel
theorem dX8_readsRoad_71 : decode cX8_readsRoad 71 = .ok (.bipush 28, 2) := by decide +kernel
theorem dX8_readsRoad_73 : decode cX8_readsRoad 73 = .ok (.iload_n 3, 1) := by decide +kernel
theorem dX8_readsRoad_74 : decode cX8_readsRoad 74 = .ok (.iadd, 1) := by decide +kernel
theorem dX8_readsRoad_75 : decode cX8_readsRoad 75 = .ok (.iaload, 1) := by decide +kernel
theorem dX8_readsRoad_76 : decode cX8_readsRoad 76 = .ok (.istore 4, 2) := by decide +kernel
theorem dX8_readsRoad_78 : decode cX8_readsRoad 78 = .ok (.aload_n 0, 1) := by decide +kernel
theorem dX8_readsRoad_79 : decode cX8_readsRoad 79 = .ok (.getfield 16, 3) := by decide +kernel
theorem dX8_readsRoad_82 : decode cX8_readsRoad 82 = .ok (.bipush 40, 2) := by decide +kernel
theorem dX8_readsRoad_84 : decode cX8_readsRoad 84 = .ok (.iload_n 3, 1) := by decide +kernel
theorem dX8_readsRoad_85 : decode cX8_readsRoad 85 = .ok (.iadd, 1) := by decide +kernel
theorem dX8_readsRoad_86 : decode cX8_readsRoad 86 = .ok (.iaload, 1) := by decide +kernel
theorem dX8_readsRoad_87 : decode cX8_readsRoad 87 = .ok (.istore 5, 2) := by decide +kernel
theorem dX8_readsRoad_89 : decode cX8_readsRoad 89 = .ok (.iload_n 2, 1) := by decide +kernel
theorem dX8_readsRoad_90 : decode cX8_readsRoad 90 = .ok (.ifCond .ne 33, 3) := by decide +kernel
theorem dX8_readsRoad_93 : decode cX8_readsRoad 93 = .ok (.iload 4, 2) := by decide +kernel
theorem dX8_readsRoad_95 : decode cX8_readsRoad 95 = .ok (.iload_n 1, 1) := by decide +kernel
theorem dX8_readsRoad_96 : decode cX8_readsRoad 96 = .ok (.if_icmp .ne 12, 3) := by decide +kernel
theorem dX8_readsRoad_99 : decode cX8_readsRoad 99 = .ok (.iload 5, 2) := by decide +kernel
theorem dX8_readsRoad_101 : decode cX8_readsRoad 101 = .ok (.aload_n 0, 1) := by decide +kernel
theorem dX8_readsRoad_102 : decode cX8_readsRoad 102 = .ok (.getfield 81, 3) := by decide +kernel
theorem dX8_readsRoad_105 : decode cX8_readsRoad 105 = .ok (.if_icmp .eq 18, 3) := by decide +kernel
theorem dX8_readsRoad_108 : decode cX8_readsRoad 108 = .ok (.iload 4, 2) := by decide +kernel
theorem dX8_readsRoad_110 : decode cX8_readsRoad 110 = .ok (.aload_n 0, 1) := by decide +kernel
theorem dX8_readsRoad_111 : decode cX8_readsRoad 111 = .ok (.getfield 81, 3) := by decide +kernel
theorem dX8_readsRoad_114 : decode cX8_readsRoad 114 = .ok (.if_icmp .ne 13, 3) := by decide +kernel
theorem dX8_readsRoad_117 : decode cX8_readsRoad 117 = .ok (.iload 5, 2) := by decide +kernel
theorem dX8_readsRoad_119 : decode cX8_readsRoad 119 = .ok (.iload_n 1, 1) := by decide +kernel
theorem dX8_readsRoad_120 : decode cX8_readsRoad 120 = .ok (.if_icmp .ne 7, 3) := by decide +kernel
theorem dX8_readsRoad_123 : decode cX8_readsRoad 123 = .ok (.iconst 1, 1) := by decide +kernel
theorem dX8_readsRoad_124 : decode cX8_readsRoad 124 = .ok (.goto 4, 3) := by decide +kernel
theorem dX8_readsRoad_127 : decode cX8_readsRoad 127 = .ok (.iconst 0, 1) := by decide +kernel
theorem dX8_readsRoad_128 : decode cX8_readsRoad 128 = .ok (.istore_n 2, 1) := by decide +kernel
theorem dX8_readsRoad_129 : decode cX8_readsRoad 129 = .ok (.iinc 3 1, 3) := by decide +kernel
theorem dX8_readsRoad_132 : decode cX8_readsRoad 132 = .ok (.goto (-75), 3) := by decide +kernel
theorem dX8_readsRoad_135 : decode cX8_readsRoad 135 = .ok (.iload_n 2, 1) := by decide +kernel
theorem dX8_readsRoad_136 : decode cX8_readsRoad 136 = .ok (.ifCond .eq 13, 3) := by decide +kernel
theorem dX8_readsRoad_139 : decode cX8_readsRoad 139 = .ok (.aload_n 0, 1) := by decide +kernel
theorem dX8_readsRoad_140 : decode cX8_readsRoad 140 = .ok (.iconst 4, 1) := by decide +kernel
theorem dX8_readsRoad_141 : decode cX8_readsRoad 141 = .ok (.aload_n 0, 1) := by decide +kernel
theorem dX8_readsRoad_142 : decode cX8_readsRoad 142 = .ok (.getfield 74, 3) := by decide +kernel
theorem dX8_readsRoad_145 : decode cX8_readsRoad 145 = .ok (.invokevirtual 77, 3) := by decide +kernel
theorem dX8_readsRoad_148 : decode cX8_readsRoad 148 = .ok (.ireturn, 1) := by decide +kernel
theorem dX8_readsRoad_149 : decode cX8_readsRoad 149 = .ok (.aload_n 0, 1) := by decide +kernel
theorem dX8_readsRoad_150 : decode cX8_readsRoad 150 = .ok (.getfield 16, 3) := by decide +kernel
theorem dX8_readsRoad_153 : decode cX8_readsRoad 153 = .ok (.bipush 28, 2) := by decide +kernel
theorem dX8_readsRoad_155 : decode cX8_readsRoad 155 = .ok (.aload_n 0, 1) := by decide +kernel
theorem dX8_readsRoad_156 : decode cX8_readsRoad 156 = .ok (.getfield 16, 3) := by decide +kernel
theorem dX8_readsRoad_159 : decode cX8_readsRoad 159 = .ok (.iconst 3, 1) := by decide +kernel
theorem dX8_readsRoad_160 : decode cX8_readsRoad 160 = .ok (.iaload, 1) := by decide +kernel
theorem dX8_readsRoad_161 : decode cX8_readsRoad 161 = .ok (.iadd, 1) := by decide +kernel
theorem dX8_readsRoad_162 : decode cX8_readsRoad 162 = .ok (.iload_n 1, 1) := by decide +kernel
theorem dX8_readsRoad_163 : decode cX8_readsRoad 163 = .ok (.iastore, 1) := by decide +kernel
theorem dX8_readsRoad_164 : decode cX8_readsRoad 164 = .ok (.aload_n 0, 1) := by decide +kernel
theorem dX8_readsRoad_165 : decode cX8_readsRoad 165 = .ok (.getfield 16, 3) := by decide +kernel
theorem dX8_readsRoad_168 : decode cX8_readsRoad 168 = .ok (.bipush 40, 2) := by decide +kernel
theorem dX8_readsRoad_170 : decode cX8_readsRoad 170 = .ok (.aload_n 0, 1) := by decide +kernel
theorem dX8_readsRoad_171 : decode cX8_readsRoad 171 = .ok (.getfield 16, 3) := by decide +kernel
theorem dX8_readsRoad_174 : decode cX8_readsRoad 174 = .ok (.iconst 3, 1) := by decide +kernel
theorem dX8_readsRoad_175 : decode cX8_readsRoad 175 = .ok (.iaload, 1) := by decide +kernel
theorem dX8_readsRoad_176 : decode cX8_readsRoad 176 = .ok (.iadd, 1) := by decide +kernel
theorem dX8_readsRoad_177 : decode cX8_readsRoad 177 = .ok (.aload_n 0, 1) := by decide +kernel
theorem dX8_readsRoad_178 : decode cX8_readsRoad 178 = .ok (.getfield 81, 3) := by decide +kernel
theorem dX8_readsRoad_181 : decode cX8_readsRoad 181 = .ok (.iastore, 1) := by decide +kernel
theorem dX8_readsRoad_182 : decode cX8_readsRoad 182 = .ok (.aload_n 0, 1) := by decide +kernel
theorem dX8_readsRoad_183 : decode cX8_readsRoad 183 = .ok (.getfield 16, 3) := by decide +kernel
theorem dX8_readsRoad_186 : decode cX8_readsRoad 186 = .ok (.iconst 3, 1) := by decide +kernel
theorem dX8_readsRoad_187 : decode cX8_readsRoad 187 = .ok (.dup2, 1) := by decide +kernel
theorem dX8_readsRoad_188 : decode cX8_readsRoad 188 = .ok (.iaload, 1) := by decide +kernel
theorem dX8_readsRoad_189 : decode cX8_readsRoad 189 = .ok (.iconst 1, 1) := by decide +kernel
theorem dX8_readsRoad_190 : decode cX8_readsRoad 190 = .ok (.iadd, 1) := by decide +kernel
theorem dX8_readsRoad_191 : decode cX8_readsRoad 191 = .ok (.iastore, 1) := by decide +kernel
theorem dX8_readsRoad_192 : decode cX8_readsRoad 192 = .ok (.aload_n 0, 1) := by decide +kernel
theorem dX8_readsRoad_193 : decode cX8_readsRoad 193 = .ok (.invokevirtual 87, 3) := by decide +kernel
theorem dX8_readsRoad_196 : decode cX8_readsRoad 196 = .ok (.ireturn, 1) := by decide +kernel
set_option maxRecDepth 20000 in
theorem ggX8_readsClause_X8_isWrong : GoodIn wsX8_readsClause wsX8_isWrong := goodIn_m (fun w hw => by
  revert w hw; unfold wsX8_isWrong
  exact am_cons (am_at in_wsX8_readsClause_0 6 rfl) (am_app (am_cons (am_at in_wsX8_readsClause_0 7 rfl) (am_cons (am_at in_wsX8_readsClause_0 1 rfl) am_nil)) in_wsX8_readsClause_2)) gw_wsX8_isWrong
set_option maxRecDepth 20000 in
theorem gX8_readsClause_X8_isWrong : GoodIn wsX8_readsClause (wsV RX8 77 RX8 yX8_isWrong wsX8_isWrong) := goodIn_app (goodIn_m (am_cons (am_at in_wsX8_readsClause_0 2 rfl) (am_cons (am_at in_wsX8_readsClause_0 3 rfl) (am_cons (am_at in_wsX8_readsClause_0 4 rfl) (am_cons (am_at in_wsX8_readsClause_0 5 rfl) am_nil)))) (by decide +kernel)) ggX8_readsClause_X8_isWrong
set_option maxRecDepth 20000 in
theorem ggX8_readsClause_X8_readsStay : GoodIn wsX8_readsClause wsX8_readsStay := goodIn_m (fun w hw => by
  revert w hw; unfold wsX8_readsStay wsX8_readsStay_r1 wsX8_readsStay_r2
  exact am_cons (am_at in_wsX8_readsClause_0 11 rfl) (am_app (am_app (am_cons (am_at in_wsX8_readsClause_0 0 rfl) (am_cons (am_at in_wsX8_readsClause_0 12 rfl) (am_cons (am_at in_wsX8_readsClause_0 13 rfl) (am_cons (am_at in_wsX8_readsClause_0 14 rfl) (am_cons (am_at in_wsX8_readsClause_0 15 rfl) (am_cons (am_at in_wsX8_readsClause_0 5 rfl) (am_cons (am_at in_wsX8_readsClause_0 16 rfl) (am_cons (am_at in_wsX8_readsClause_0 1 rfl) (am_cons (am_at in_wsX8_readsClause_0 17 rfl) (am_cons (am_at in_wsX8_readsClause_0 18 rfl) (am_cons (am_at in_wsX8_readsClause_0 19 rfl) (am_cons (am_at in_wsX8_readsClause_0 20 rfl) (am_cons (am_at in_wsX8_readsClause_0 21 rfl) (am_cons (am_at in_wsX8_readsClause_0 22 rfl) (am_cons (am_at in_wsX8_readsClause_0 23 rfl) (am_cons (am_at in_wsX8_readsClause_1 0 rfl) (am_cons (am_at in_wsX8_readsClause_1 1 rfl) (am_cons (am_at in_wsX8_readsClause_1 2 rfl) (am_cons (am_at in_wsX8_readsClause_0 2 rfl) (am_cons (am_at in_wsX8_readsClause_0 3 rfl) (am_cons (am_at in_wsX8_readsClause_0 4 rfl) (am_cons (am_at in_wsX8_readsClause_0 6 rfl) (am_cons (am_at in_wsX8_readsClause_0 7 rfl) (am_cons (am_at in_wsX8_readsClause_1 3 rfl) am_nil)))))))))))))))))))))))) (am_cons (am_at in_wsX8_readsClause_1 4 rfl) (am_cons (am_at in_wsX8_readsClause_1 5 rfl) (am_cons (am_at in_wsX8_readsClause_1 6 rfl) am_nil)))) in_wsX8_readsClause_2)) gw_wsX8_readsStay
set_option maxRecDepth 20000 in
theorem gX8_readsClause_X8_readsStay : GoodIn wsX8_readsClause (wsV RX8 91 RX8 yX8_readsStay wsX8_readsStay) := goodIn_app (goodIn_m (am_cons (am_at in_wsX8_readsClause_0 8 rfl) (am_cons (am_at in_wsX8_readsClause_0 9 rfl) (am_cons (am_at in_wsX8_readsClause_0 10 rfl) (am_cons (am_at in_wsX8_readsClause_0 5 rfl) am_nil)))) (by decide +kernel)) ggX8_readsClause_X8_readsStay
set_option maxRecDepth 20000 in
theorem ggX8_readsClause_X8_readsTown : GoodIn wsX8_readsClause wsX8_readsTown := goodIn_m (fun w hw => by
  revert w hw; unfold wsX8_readsTown wsX8_readsTown_r1 wsX8_readsTown_r2
  exact am_cons (am_at in_wsX8_readsClause_1 10 rfl) (am_app (am_app (am_cons (am_at in_wsX8_readsClause_0 0 rfl) (am_cons (am_at in_wsX8_readsClause_0 12 rfl) (am_cons (am_at in_wsX8_readsClause_0 13 rfl) (am_cons (am_at in_wsX8_readsClause_0 14 rfl) (am_cons (am_at in_wsX8_readsClause_0 15 rfl) (am_cons (am_at in_wsX8_readsClause_0 5 rfl) (am_cons (am_at in_wsX8_readsClause_0 16 rfl) (am_cons (am_at in_wsX8_readsClause_0 1 rfl) (am_cons (am_at in_wsX8_readsClause_0 17 rfl) (am_cons (am_at in_wsX8_readsClause_0 18 rfl) (am_cons (am_at in_wsX8_readsClause_0 19 rfl) (am_cons (am_at in_wsX8_readsClause_0 20 rfl) (am_cons (am_at in_wsX8_readsClause_0 21 rfl) (am_cons (am_at in_wsX8_readsClause_0 22 rfl) (am_cons (am_at in_wsX8_readsClause_0 23 rfl) (am_cons (am_at in_wsX8_readsClause_1 0 rfl) (am_cons (am_at in_wsX8_readsClause_1 1 rfl) (am_cons (am_at in_wsX8_readsClause_1 2 rfl) (am_cons (am_at in_wsX8_readsClause_0 2 rfl) (am_cons (am_at in_wsX8_readsClause_0 3 rfl) (am_cons (am_at in_wsX8_readsClause_0 4 rfl) (am_cons (am_at in_wsX8_readsClause_0 6 rfl) (am_cons (am_at in_wsX8_readsClause_0 7 rfl) (am_cons (am_at in_wsX8_readsClause_1 3 rfl) am_nil)))))))))))))))))))))))) (am_cons (am_at in_wsX8_readsClause_1 4 rfl) (am_cons (am_at in_wsX8_readsClause_1 5 rfl) (am_cons (am_at in_wsX8_readsClause_1 6 rfl) am_nil)))) in_wsX8_readsClause_2)) gw_wsX8_readsTown
set_option maxRecDepth 20000 in
theorem gX8_readsClause_X8_readsTown : GoodIn wsX8_readsClause (wsV RX8 94 RX8 yX8_readsTown wsX8_readsTown) := goodIn_app (goodIn_m (am_cons (am_at in_wsX8_readsClause_1 7 rfl) (am_cons (am_at in_wsX8_readsClause_1 8 rfl) (am_cons (am_at in_wsX8_readsClause_1 9 rfl) (am_cons (am_at in_wsX8_readsClause_0 5 rfl) am_nil)))) (by decide +kernel)) ggX8_readsClause_X8_readsTown
set_option maxRecDepth 20000 in
theorem ggX8_readsClause_X8_readsRoad : GoodIn wsX8_readsClause wsX8_readsRoad := goodIn_m (fun w hw => by
  revert w hw; unfold wsX8_readsRoad wsX8_readsRoad_r1 wsX8_readsRoad_r2
  exact am_cons (am_at in_wsX8_readsClause_1 14 rfl) (am_app (am_app (am_cons (am_at in_wsX8_readsClause_0 0 rfl) (am_cons (am_at in_wsX8_readsClause_0 12 rfl) (am_cons (am_at in_wsX8_readsClause_0 17 rfl) (am_cons (am_at in_wsX8_readsClause_0 13 rfl) (am_cons (am_at in_wsX8_readsClause_0 14 rfl) (am_cons (am_at in_wsX8_readsClause_0 15 rfl) (am_cons (am_at in_wsX8_readsClause_0 5 rfl) (am_cons (am_at in_wsX8_readsClause_0 16 rfl) (am_cons (am_at in_wsX8_readsClause_0 1 rfl) (am_cons (am_at in_wsX8_readsClause_0 18 rfl) (am_cons (am_at in_wsX8_readsClause_0 19 rfl) (am_cons (am_at in_wsX8_readsClause_0 20 rfl) (am_cons (am_at in_wsX8_readsClause_0 21 rfl) (am_cons (am_at in_wsX8_readsClause_0 22 rfl) (am_cons (am_at in_wsX8_readsClause_0 23 rfl) (am_cons (am_at in_wsX8_readsClause_1 0 rfl) (am_cons (am_at in_wsX8_readsClause_1 1 rfl) (am_cons (am_at in_wsX8_readsClause_1 2 rfl) (am_cons (am_at in_wsX8_readsClause_0 2 rfl) (am_cons (am_at in_wsX8_readsClause_0 3 rfl) (am_cons (am_at in_wsX8_readsClause_0 4 rfl) (am_cons (am_at in_wsX8_readsClause_0 6 rfl) (am_cons (am_at in_wsX8_readsClause_0 7 rfl) (am_cons (am_at in_wsX8_readsClause_1 3 rfl) am_nil)))))))))))))))))))))))) (am_cons (am_at in_wsX8_readsClause_1 4 rfl) (am_cons (am_at in_wsX8_readsClause_1 5 rfl) (am_cons (am_at in_wsX8_readsClause_1 6 rfl) am_nil)))) in_wsX8_readsClause_2)) gw_wsX8_readsRoad
set_option maxRecDepth 20000 in
theorem gX8_readsClause_X8_readsRoad : GoodIn wsX8_readsClause (wsV RX8 97 RX8 yX8_readsRoad wsX8_readsRoad) := goodIn_app (goodIn_m (am_cons (am_at in_wsX8_readsClause_1 11 rfl) (am_cons (am_at in_wsX8_readsClause_1 12 rfl) (am_cons (am_at in_wsX8_readsClause_1 13 rfl) (am_cons (am_at in_wsX8_readsClause_0 5 rfl) am_nil)))) (by decide +kernel)) ggX8_readsClause_X8_readsRoad
theorem dX8_readsClause_0 : decode cX8_readsClause 0 = .ok (.aload_n 0, 1) := by decide +kernel
theorem dX8_readsClause_1 : decode cX8_readsClause 1 = .ok (.getfield 16, 3) := by decide +kernel
theorem dX8_readsClause_4 : decode cX8_readsClause 4 = .ok (.iconst 0, 1) := by decide +kernel
theorem dX8_readsClause_5 : decode cX8_readsClause 5 = .ok (.iaload, 1) := by decide +kernel
theorem dX8_readsClause_6 : decode cX8_readsClause 6 = .ok (.ifCond .ne 7, 3) := by decide +kernel
theorem dX8_readsClause_9 : decode cX8_readsClause 9 = .ok (.iconst 1, 1) := by decide +kernel
theorem dX8_readsClause_10 : decode cX8_readsClause 10 = .ok (.goto 4, 3) := by decide +kernel
theorem dX8_readsClause_13 : decode cX8_readsClause 13 = .ok (.iconst 0, 1) := by decide +kernel
theorem dX8_readsClause_14 : decode cX8_readsClause 14 = .ok (.istore_n 2, 1) := by decide +kernel
theorem dX8_readsClause_15 : decode cX8_readsClause 15 = .ok (.iload_n 1, 1) := by decide +kernel
theorem dX8_readsClause_16 : decode cX8_readsClause 16 = .ok (.bipush 108, 2) := by decide +kernel
theorem dX8_readsClause_18 : decode cX8_readsClause 18 = .ok (.if_icmp .eq 15, 3) := by decide +kernel
theorem dX8_readsClause_21 : decode cX8_readsClause 21 = .ok (.iload_n 1, 1) := by decide +kernel
theorem dX8_readsClause_22 : decode cX8_readsClause 22 = .ok (.bipush 116, 2) := by decide +kernel
theorem dX8_readsClause_24 : decode cX8_readsClause 24 = .ok (.if_icmp .eq 9, 3) := by decide +kernel
theorem dX8_readsClause_27 : decode cX8_readsClause 27 = .ok (.iload_n 1, 1) := by decide +kernel
theorem dX8_readsClause_28 : decode cX8_readsClause 28 = .ok (.bipush 114, 2) := by decide +kernel
theorem dX8_readsClause_30 : decode cX8_readsClause 30 = .ok (.if_icmp .ne 22, 3) := by decide +kernel
theorem dX8_readsClause_33 : decode cX8_readsClause 33 = .ok (.iload_n 2, 1) := by decide +kernel
theorem dX8_readsClause_34 : decode cX8_readsClause 34 = .ok (.iload_n 1, 1) := by decide +kernel
theorem dX8_readsClause_35 : decode cX8_readsClause 35 = .ok (.bipush 108, 2) := by decide +kernel
theorem dX8_readsClause_37 : decode cX8_readsClause 37 = .ok (.if_icmp .ne 7, 3) := by decide +kernel
theorem dX8_readsClause_40 : decode cX8_readsClause 40 = .ok (.iconst 1, 1) := by decide +kernel
theorem dX8_readsClause_41 : decode cX8_readsClause 41 = .ok (.goto 4, 3) := by decide +kernel
theorem dX8_readsClause_44 : decode cX8_readsClause 44 = .ok (.iconst 0, 1) := by decide +kernel
theorem dX8_readsClause_45 : decode cX8_readsClause 45 = .ok (.if_icmp .eq 17, 3) := by decide +kernel
theorem dX8_readsClause_48 : decode cX8_readsClause 48 = .ok (.iload_n 2, 1) := by decide +kernel
theorem dX8_readsClause_49 : decode cX8_readsClause 49 = .ok (.ifCond .eq 13, 3) := by decide +kernel
theorem dX8_readsClause_52 : decode cX8_readsClause 52 = .ok (.aload_n 0, 1) := by decide +kernel
theorem dX8_readsClause_53 : decode cX8_readsClause 53 = .ok (.iconst 1, 1) := by decide +kernel
theorem dX8_readsClause_54 : decode cX8_readsClause 54 = .ok (.aload_n 0, 1) := by decide +kernel
theorem dX8_readsClause_55 : decode cX8_readsClause 55 = .ok (.getfield 64, 3) := by decide +kernel
theorem dX8_readsClause_58 : decode cX8_readsClause 58 = .ok (.invokevirtual 77, 3) := by decide +kernel
theorem dX8_readsClause_61 : decode cX8_readsClause 61 = .ok (.ireturn, 1) := by decide +kernel
theorem dX8_readsClause_62 : decode cX8_readsClause 62 = .ok (.iload_n 2, 1) := by decide +kernel
theorem dX8_readsClause_63 : decode cX8_readsClause 63 = .ok (.ifCond .ne 9, 3) := by decide +kernel
theorem dX8_readsClause_66 : decode cX8_readsClause 66 = .ok (.iload_n 1, 1) := by decide +kernel
theorem dX8_readsClause_67 : decode cX8_readsClause 67 = .ok (.bipush 108, 2) := by decide +kernel
theorem dX8_readsClause_69 : decode cX8_readsClause 69 = .ok (.if_icmp .eq 37, 3) := by decide +kernel
theorem dX8_readsClause_72 : decode cX8_readsClause 72 = .ok (.iload_n 1, 1) := by decide +kernel
theorem dX8_readsClause_73 : decode cX8_readsClause 73 = .ok (.bipush 116, 2) := by decide +kernel
theorem dX8_readsClause_75 : decode cX8_readsClause 75 = .ok (.if_icmp .ne 14, 3) := by decide +kernel
theorem dX8_readsClause_78 : decode cX8_readsClause 78 = .ok (.aload_n 0, 1) := by decide +kernel
theorem dX8_readsClause_79 : decode cX8_readsClause 79 = .ok (.getfield 16, 3) := by decide +kernel
theorem dX8_readsClause_82 : decode cX8_readsClause 82 = .ok (.iconst 2, 1) := by decide +kernel
theorem dX8_readsClause_83 : decode cX8_readsClause 83 = .ok (.iaload, 1) := by decide +kernel
theorem dX8_readsClause_84 : decode cX8_readsClause 84 = .ok (.bipush 8, 2) := by decide +kernel
theorem dX8_readsClause_86 : decode cX8_readsClause 86 = .ok (.if_icmp .eq 20, 3) := by decide +kernel
theorem dX8_readsClause_89 : decode cX8_readsClause 89 = .ok (.iload_n 1, 1) := by decide +kernel
theorem dX8_readsClause_90 : decode cX8_readsClause 90 = .ok (.bipush 114, 2) := by decide +kernel
theorem dX8_readsClause_92 : decode cX8_readsClause 92 = .ok (.if_icmp .ne 24, 3) := by decide +kernel
theorem dX8_readsClause_95 : decode cX8_readsClause 95 = .ok (.aload_n 0, 1) := by decide +kernel
theorem dX8_readsClause_96 : decode cX8_readsClause 96 = .ok (.getfield 16, 3) := by decide +kernel
theorem dX8_readsClause_99 : decode cX8_readsClause 99 = .ok (.iconst 3, 1) := by decide +kernel
theorem dX8_readsClause_100 : decode cX8_readsClause 100 = .ok (.iaload, 1) := by decide +kernel
theorem dX8_readsClause_101 : decode cX8_readsClause 101 = .ok (.bipush 12, 2) := by decide +kernel
theorem dX8_readsClause_103 : decode cX8_readsClause 103 = .ok (.if_icmp .ne 13, 3) := by decide +kernel
theorem dX8_readsClause_106 : decode cX8_readsClause 106 = .ok (.aload_n 0, 1) := by decide +kernel
theorem dX8_readsClause_107 : decode cX8_readsClause 107 = .ok (.iconst 3, 1) := by decide +kernel
theorem dX8_readsClause_108 : decode cX8_readsClause 108 = .ok (.aload_n 0, 1) := by decide +kernel
theorem dX8_readsClause_109 : decode cX8_readsClause 109 = .ok (.getfield 64, 3) := by decide +kernel
theorem dX8_readsClause_112 : decode cX8_readsClause 112 = .ok (.invokevirtual 77, 3) := by decide +kernel
theorem dX8_readsClause_115 : decode cX8_readsClause 115 = .ok (.ireturn, 1) := by decide +kernel
theorem dX8_readsClause_116 : decode cX8_readsClause 116 = .ok (.aload_n 0, 1) := by decide +kernel
theorem dX8_readsClause_117 : decode cX8_readsClause 117 = .ok (.dup, 1) := by decide +kernel
theorem dX8_readsClause_118 : decode cX8_readsClause 118 = .ok (.getfield 64, 3) := by decide +kernel
theorem dX8_readsClause_121 : decode cX8_readsClause 121 = .ok (.iconst 1, 1) := by decide +kernel
theorem dX8_readsClause_122 : decode cX8_readsClause 122 = .ok (.iadd, 1) := by decide +kernel
theorem dX8_readsClause_123 : decode cX8_readsClause 123 = .ok (.putfield 64, 3) := by decide +kernel
theorem dX8_readsClause_126 : decode cX8_readsClause 126 = .ok (.iload_n 1, 1) := by decide +kernel
theorem dX8_readsClause_127 : decode cX8_readsClause 127 = .ok (.bipush 108, 2) := by decide +kernel
theorem dX8_readsClause_129 : decode cX8_readsClause 129 = .ok (.if_icmp .ne 10, 3) := by decide +kernel
theorem dX8_readsClause_132 : decode cX8_readsClause 132 = .ok (.aload_n 0, 1) := by decide +kernel
theorem dX8_readsClause_133 : decode cX8_readsClause 133 = .ok (.invokevirtual 91, 3) := by decide +kernel
theorem dX8_readsClause_136 : decode cX8_readsClause 136 = .ok (.goto 20, 3) := by decide +kernel
theorem dX8_readsClause_139 : decode cX8_readsClause 139 = .ok (.iload_n 1, 1) := by decide +kernel
theorem dX8_readsClause_140 : decode cX8_readsClause 140 = .ok (.bipush 116, 2) := by decide +kernel
theorem dX8_readsClause_142 : decode cX8_readsClause 142 = .ok (.if_icmp .ne 10, 3) := by decide +kernel
theorem dX8_readsClause_145 : decode cX8_readsClause 145 = .ok (.aload_n 0, 1) := by decide +kernel
theorem dX8_readsClause_146 : decode cX8_readsClause 146 = .ok (.invokevirtual 94, 3) := by decide +kernel
theorem dX8_readsClause_149 : decode cX8_readsClause 149 = .ok (.goto 7, 3) := by decide +kernel
theorem dX8_readsClause_152 : decode cX8_readsClause 152 = .ok (.aload_n 0, 1) := by decide +kernel
theorem dX8_readsClause_153 : decode cX8_readsClause 153 = .ok (.invokevirtual 97, 3) := by decide +kernel
theorem dX8_readsClause_156 : decode cX8_readsClause 156 = .ok (.ireturn, 1) := by decide +kernel
set_option maxRecDepth 20000 in
theorem ggX8_reads_X8_letter : GoodIn wsX8_reads wsX8_letter := goodIn_m (fun w hw => by
  revert w hw; unfold wsX8_letter
  exact am_cons (am_at in_wsX8_reads_0 7 rfl) (am_app (am_cons (am_at in_wsX8_reads_0 2 rfl) (am_cons (am_at in_wsX8_reads_0 8 rfl) (am_cons (am_at in_wsX8_reads_0 9 rfl) am_nil))) in_wsX8_reads_2)) gw_wsX8_letter
set_option maxRecDepth 20000 in
theorem gX8_reads_X8_letter : GoodIn wsX8_reads (wsV RX8 70 RX8 yX8_letter wsX8_letter) := goodIn_app (goodIn_m (am_cons (am_at in_wsX8_reads_0 3 rfl) (am_cons (am_at in_wsX8_reads_0 4 rfl) (am_cons (am_at in_wsX8_reads_0 5 rfl) (am_cons (am_at in_wsX8_reads_0 6 rfl) am_nil)))) (by decide +kernel)) ggX8_reads_X8_letter
set_option maxRecDepth 20000 in
theorem ggX8_reads_X8_readsClause : GoodIn wsX8_reads wsX8_readsClause := goodIn_m (fun w hw => by
  revert w hw; unfold wsX8_readsClause wsX8_readsClause_r1 wsX8_readsClause_r2
  exact am_cons (am_at in_wsX8_reads_0 13 rfl) (am_app (am_app (am_cons (am_at in_wsX8_reads_0 0 rfl) (am_cons (am_at in_wsX8_reads_0 2 rfl) (am_cons (am_at in_wsX8_reads_0 14 rfl) (am_cons (am_at in_wsX8_reads_0 15 rfl) (am_cons (am_at in_wsX8_reads_0 16 rfl) (am_cons (am_at in_wsX8_reads_0 6 rfl) (am_cons (am_at in_wsX8_reads_0 17 rfl) (am_cons (am_at in_wsX8_reads_0 1 rfl) (am_cons (am_at in_wsX8_reads_0 18 rfl) (am_cons (am_at in_wsX8_reads_0 19 rfl) (am_cons (am_at in_wsX8_reads_0 20 rfl) (am_cons (am_at in_wsX8_reads_0 21 rfl) (am_cons (am_at in_wsX8_reads_0 22 rfl) (am_cons (am_at in_wsX8_reads_0 23 rfl) (am_cons (am_at in_wsX8_reads_1 0 rfl) (am_cons (am_at in_wsX8_reads_1 1 rfl) (am_cons (am_at in_wsX8_reads_1 2 rfl) (am_cons (am_at in_wsX8_reads_1 3 rfl) (am_cons (am_at in_wsX8_reads_0 8 rfl) (am_cons (am_at in_wsX8_reads_0 9 rfl) (am_cons (am_at in_wsX8_reads_0 3 rfl) (am_cons (am_at in_wsX8_reads_0 4 rfl) (am_cons (am_at in_wsX8_reads_0 5 rfl) (am_cons (am_at in_wsX8_reads_0 7 rfl) am_nil)))))))))))))))))))))))) (am_cons (am_at in_wsX8_reads_1 4 rfl) (am_cons (am_at in_wsX8_reads_1 5 rfl) (am_cons (am_at in_wsX8_reads_1 6 rfl) (am_cons (am_at in_wsX8_reads_1 7 rfl) (am_cons (am_at in_wsX8_reads_1 8 rfl) (am_cons (am_at in_wsX8_reads_1 9 rfl) (am_cons (am_at in_wsX8_reads_1 10 rfl) (am_cons (am_at in_wsX8_reads_1 11 rfl) (am_cons (am_at in_wsX8_reads_1 12 rfl) (am_cons (am_at in_wsX8_reads_1 13 rfl) (am_cons (am_at in_wsX8_reads_1 14 rfl) (am_cons (am_at in_wsX8_reads_1 15 rfl) (am_cons (am_at in_wsX8_reads_1 16 rfl) (am_cons (am_at in_wsX8_reads_1 17 rfl) (am_cons (am_at in_wsX8_reads_1 18 rfl) am_nil)))))))))))))))) in_wsX8_reads_2)) gw_wsX8_readsClause
set_option maxRecDepth 20000 in
theorem gX8_reads_X8_readsClause : GoodIn wsX8_reads (wsV RX8 100 RX8 yX8_readsClause wsX8_readsClause) := goodIn_app (goodIn_m (am_cons (am_at in_wsX8_reads_0 10 rfl) (am_cons (am_at in_wsX8_reads_0 11 rfl) (am_cons (am_at in_wsX8_reads_0 12 rfl) (am_cons (am_at in_wsX8_reads_0 6 rfl) am_nil)))) (by decide +kernel)) ggX8_reads_X8_readsClause
theorem dX8_reads_0 : decode cX8_reads 0 = .ok (.iconst 0, 1) := by decide +kernel
theorem dX8_reads_1 : decode cX8_reads 1 = .ok (.istore_n 1, 1) := by decide +kernel
theorem dX8_reads_2 : decode cX8_reads 2 = .ok (.iload_n 1, 1) := by decide +kernel
theorem dX8_reads_3 : decode cX8_reads 3 = .ok (.bipush 52, 2) := by decide +kernel
theorem dX8_reads_5 : decode cX8_reads 5 = .ok (.if_icmp .ge 16, 3) := by decide +kernel
theorem dX8_reads_8 : decode cX8_reads 8 = .ok (.aload_n 0, 1) := by decide +kernel
theorem dX8_reads_9 : decode cX8_reads 9 = .ok (.getfield 16, 3) := by decide +kernel
theorem dX8_reads_12 : decode cX8_reads 12 = .ok (.iload_n 1, 1) := by decide +kernel
theorem dX8_reads_13 : decode cX8_reads 13 = .ok (.iconst 0, 1) := by decide +kernel
theorem dX8_reads_14 : decode cX8_reads 14 = .ok (.iastore, 1) := by decide +kernel
theorem dX8_reads_15 : decode cX8_reads 15 = .ok (.iinc 1 1, 3) := by decide +kernel
theorem dX8_reads_18 : decode cX8_reads 18 = .ok (.goto (-16), 3) := by decide +kernel
theorem dX8_reads_21 : decode cX8_reads 21 = .ok (.aload_n 0, 1) := by decide +kernel
theorem dX8_reads_22 : decode cX8_reads 22 = .ok (.iconst 0, 1) := by decide +kernel
theorem dX8_reads_23 : decode cX8_reads 23 = .ok (.putfield 67, 3) := by decide +kernel
theorem dX8_reads_26 : decode cX8_reads 26 = .ok (.aload_n 0, 1) := by decide +kernel
theorem dX8_reads_27 : decode cX8_reads 27 = .ok (.iconst 0, 1) := by decide +kernel
theorem dX8_reads_28 : decode cX8_reads 28 = .ok (.putfield 64, 3) := by decide +kernel
theorem dX8_reads_31 : decode cX8_reads 31 = .ok (.aload_n 0, 1) := by decide +kernel
theorem dX8_reads_32 : decode cX8_reads 32 = .ok (.invokevirtual 70, 3) := by decide +kernel
theorem dX8_reads_35 : decode cX8_reads 35 = .ok (.ifCond .lt 16, 3) := by decide +kernel
theorem dX8_reads_38 : decode cX8_reads 38 = .ok (.aload_n 0, 1) := by decide +kernel
theorem dX8_reads_39 : decode cX8_reads 39 = .ok (.aload_n 0, 1) := by decide +kernel
theorem dX8_reads_40 : decode cX8_reads 40 = .ok (.invokevirtual 70, 3) := by decide +kernel
theorem dX8_reads_43 : decode cX8_reads 43 = .ok (.invokevirtual 100, 3) := by decide +kernel
theorem dX8_reads_46 : decode cX8_reads 46 = .ok (.ifCond .ne (-15), 3) := by decide +kernel
theorem dX8_reads_49 : decode cX8_reads 49 = .ok (.iconst 0, 1) := by decide +kernel
theorem dX8_reads_50 : decode cX8_reads 50 = .ok (.ireturn, 1) := by decide +kernel
theorem dX8_reads_51 : decode cX8_reads 51 = .ok (.iconst 1, 1) := by decide +kernel
theorem dX8_reads_52 : decode cX8_reads 52 = .ok (.ireturn, 1) := by decide +kernel
set_option maxRecDepth 20000 in
theorem ggX8_land_X8_reads : GoodIn wsX8_land wsX8_reads := goodIn_m (fun w hw => by
  revert w hw; unfold wsX8_reads wsX8_reads_r1 wsX8_reads_r2
  exact am_cons (am_at in_wsX8_land_0 15 rfl) (am_app (am_app (am_cons (am_at in_wsX8_land_0 5 rfl) (am_cons (am_at in_wsX8_land_0 3 rfl) (am_cons (am_at in_wsX8_land_0 1 rfl) (am_cons (am_at in_wsX8_land_0 16 rfl) (am_cons (am_at in_wsX8_land_0 17 rfl) (am_cons (am_at in_wsX8_land_0 18 rfl) (am_cons (am_at in_wsX8_land_0 14 rfl) (am_cons (am_at in_wsX8_land_0 19 rfl) (am_cons (am_at in_wsX8_land_0 0 rfl) (am_cons (am_at in_wsX8_land_0 20 rfl) (am_cons (am_at in_wsX8_land_0 21 rfl) (am_cons (am_at in_wsX8_land_0 22 rfl) (am_cons (am_at in_wsX8_land_0 23 rfl) (am_cons (am_at in_wsX8_land_1 0 rfl) (am_cons (am_at in_wsX8_land_1 1 rfl) (am_cons (am_at in_wsX8_land_1 2 rfl) (am_cons (am_at in_wsX8_land_1 3 rfl) (am_cons (am_at in_wsX8_land_1 4 rfl) (am_cons (am_at in_wsX8_land_1 5 rfl) (am_cons (am_at in_wsX8_land_1 6 rfl) (am_cons (am_at in_wsX8_land_1 7 rfl) (am_cons (am_at in_wsX8_land_1 8 rfl) (am_cons (am_at in_wsX8_land_1 9 rfl) (am_cons (am_at in_wsX8_land_1 10 rfl) am_nil)))))))))))))))))))))))) (am_cons (am_at in_wsX8_land_1 11 rfl) (am_cons (am_at in_wsX8_land_1 12 rfl) (am_cons (am_at in_wsX8_land_1 13 rfl) (am_cons (am_at in_wsX8_land_1 14 rfl) (am_cons (am_at in_wsX8_land_1 15 rfl) (am_cons (am_at in_wsX8_land_1 16 rfl) (am_cons (am_at in_wsX8_land_1 17 rfl) (am_cons (am_at in_wsX8_land_1 18 rfl) (am_cons (am_at in_wsX8_land_1 19 rfl) (am_cons (am_at in_wsX8_land_1 20 rfl) (am_cons (am_at in_wsX8_land_1 21 rfl) (am_cons (am_at in_wsX8_land_1 22 rfl) (am_cons (am_at in_wsX8_land_1 23 rfl) (am_cons (am_at in_wsX8_land_2 0 rfl) (am_cons (am_at in_wsX8_land_2 1 rfl) (am_cons (am_at in_wsX8_land_2 2 rfl) (am_cons (am_at in_wsX8_land_2 3 rfl) (am_cons (am_at in_wsX8_land_2 4 rfl) (am_cons (am_at in_wsX8_land_2 5 rfl) am_nil)))))))))))))))))))) in_wsX8_land_3)) gw_wsX8_reads
set_option maxRecDepth 20000 in
theorem gX8_land_X8_reads : GoodIn wsX8_land (wsV RX8 104 RX8 yX8_reads wsX8_reads) := goodIn_app (goodIn_m (am_cons (am_at in_wsX8_land_0 11 rfl) (am_cons (am_at in_wsX8_land_0 12 rfl) (am_cons (am_at in_wsX8_land_0 13 rfl) (am_cons (am_at in_wsX8_land_0 14 rfl) am_nil)))) (by decide +kernel)) ggX8_land_X8_reads
theorem dX8_land_0 : decode cX8_land 0 = .ok (.aload_n 0, 1) := by decide +kernel
theorem dX8_land_1 : decode cX8_land 1 = .ok (.invokevirtual 104, 3) := by decide +kernel
theorem dX8_land_4 : decode cX8_land 4 = .ok (.istore_n 1, 1) := by decide +kernel
theorem dX8_land_5 : decode cX8_land 5 = .ok (.aload_n 0, 1) := by decide +kernel
theorem dX8_land_6 : decode cX8_land 6 = .ok (.iconst 0, 1) := by decide +kernel
theorem dX8_land_7 : decode cX8_land 7 = .ok (.putfield 60, 3) := by decide +kernel
theorem dX8_land_10 : decode cX8_land 10 = .ok (.aload_n 0, 1) := by decide +kernel
theorem dX8_land_11 : decode cX8_land 11 = .ok (.iload_n 1, 1) := by decide +kernel
theorem dX8_land_12 : decode cX8_land 12 = .ok (.ifCond .eq 7, 3) := by decide +kernel
theorem dX8_land_15 : decode cX8_land 15 = .ok (.iconst (-1), 1) := by decide +kernel
theorem dX8_land_16 : decode cX8_land 16 = .ok (.goto 7, 3) := by decide +kernel
theorem dX8_land_19 : decode cX8_land 19 = .ok (.aload_n 0, 1) := by decide +kernel
theorem dX8_land_20 : decode cX8_land 20 = .ok (.getfield 64, 3) := by decide +kernel
theorem dX8_land_23 : decode cX8_land 23 = .ok (.putfield 38, 3) := by decide +kernel
theorem dX8_land_26 : decode cX8_land 26 = .ok (.iload_n 1, 1) := by decide +kernel
theorem dX8_land_27 : decode cX8_land 27 = .ok (.ifCond .ne 11, 3) := by decide +kernel
theorem dX8_land_30 : decode cX8_land 30 = .ok (.bipush (-10), 2) := by decide +kernel
theorem dX8_land_32 : decode cX8_land 32 = .ok (.aload_n 0, 1) := by decide +kernel
theorem dX8_land_33 : decode cX8_land 33 = .ok (.getfield 67, 3) := by decide +kernel
theorem dX8_land_36 : decode cX8_land 36 = .ok (.isub, 1) := by decide +kernel
theorem dX8_land_37 : decode cX8_land 37 = .ok (.ireturn, 1) := by decide +kernel
theorem dX8_land_38 : decode cX8_land 38 = .ok (.iconst 0, 1) := by decide +kernel
theorem dX8_land_39 : decode cX8_land 39 = .ok (.istore_n 2, 1) := by decide +kernel
theorem dX8_land_40 : decode cX8_land 40 = .ok (.iload_n 2, 1) := by decide +kernel
theorem dX8_land_41 : decode cX8_land 41 = .ok (.bipush 52, 2) := by decide +kernel
theorem dX8_land_43 : decode cX8_land 43 = .ok (.if_icmp .ge 21, 3) := by decide +kernel
theorem dX8_land_46 : decode cX8_land 46 = .ok (.aload_n 0, 1) := by decide +kernel
theorem dX8_land_47 : decode cX8_land 47 = .ok (.getfield 13, 3) := by decide +kernel
theorem dX8_land_50 : decode cX8_land 50 = .ok (.iload_n 2, 1) := by decide +kernel
theorem dX8_land_51 : decode cX8_land 51 = .ok (.aload_n 0, 1) := by decide +kernel
theorem dX8_land_52 : decode cX8_land 52 = .ok (.getfield 16, 3) := by decide +kernel
theorem dX8_land_55 : decode cX8_land 55 = .ok (.iload_n 2, 1) := by decide +kernel
theorem dX8_land_56 : decode cX8_land 56 = .ok (.iaload, 1) := by decide +kernel
theorem dX8_land_57 : decode cX8_land 57 = .ok (.iastore, 1) := by decide +kernel
theorem dX8_land_58 : decode cX8_land 58 = .ok (.iinc 2 1, 3) := by decide +kernel
theorem dX8_land_61 : decode cX8_land 61 = .ok (.goto (-21), 3) := by decide +kernel
theorem dX8_land_64 : decode cX8_land 64 = .ok (.iconst 0, 1) := by decide +kernel
theorem dX8_land_65 : decode cX8_land 65 = .ok (.istore_n 2, 1) := by decide +kernel
theorem dX8_land_66 : decode cX8_land 66 = .ok (.iload_n 2, 1) := by decide +kernel
theorem dX8_land_67 : decode cX8_land 67 = .ok (.bipush 7, 2) := by decide +kernel
theorem dX8_land_69 : decode cX8_land 69 = .ok (.if_icmp .ge 16, 3) := by decide +kernel
theorem dX8_land_72 : decode cX8_land 72 = .ok (.aload_n 0, 1) := by decide +kernel
theorem dX8_land_73 : decode cX8_land 73 = .ok (.getfield 19, 3) := by decide +kernel
theorem dX8_land_76 : decode cX8_land 76 = .ok (.iload_n 2, 1) := by decide +kernel
theorem dX8_land_77 : decode cX8_land 77 = .ok (.iconst 0, 1) := by decide +kernel
theorem dX8_land_78 : decode cX8_land 78 = .ok (.iastore, 1) := by decide +kernel
theorem dX8_land_79 : decode cX8_land 79 = .ok (.iinc 2 1, 3) := by decide +kernel
theorem dX8_land_82 : decode cX8_land 82 = .ok (.goto (-16), 3) := by decide +kernel
theorem dX8_land_85 : decode cX8_land 85 = .ok (.aload_n 0, 1) := by decide +kernel
theorem dX8_land_86 : decode cX8_land 86 = .ok (.iconst 0, 1) := by decide +kernel
theorem dX8_land_87 : decode cX8_land 87 = .ok (.putfield 107, 3) := by decide +kernel
theorem dX8_land_90 : decode cX8_land 90 = .ok (.aload_n 0, 1) := by decide +kernel
theorem dX8_land_91 : decode cX8_land 91 = .ok (.iconst 0, 1) := by decide +kernel
theorem dX8_land_92 : decode cX8_land 92 = .ok (.putfield 110, 3) := by decide +kernel
theorem dX8_land_95 : decode cX8_land 95 = .ok (.aload_n 0, 1) := by decide +kernel
theorem dX8_land_96 : decode cX8_land 96 = .ok (.iconst 0, 1) := by decide +kernel
theorem dX8_land_97 : decode cX8_land 97 = .ok (.putfield 113, 3) := by decide +kernel
theorem dX8_land_100 : decode cX8_land 100 = .ok (.aload_n 0, 1) := by decide +kernel
theorem dX8_land_101 : decode cX8_land 101 = .ok (.getfield 28, 3) := by decide +kernel
theorem dX8_land_104 : decode cX8_land 104 = .ok (.iconst 0, 1) := by decide +kernel
theorem dX8_land_105 : decode cX8_land 105 = .ok (.iconst 0, 1) := by decide +kernel
theorem dX8_land_106 : decode cX8_land 106 = .ok (.bastore, 1) := by decide +kernel
theorem dX8_land_107 : decode cX8_land 107 = .ok (.aload_n 0, 1) := by decide +kernel
theorem dX8_land_108 : decode cX8_land 108 = .ok (.getfield 28, 3) := by decide +kernel
theorem dX8_land_111 : decode cX8_land 111 = .ok (.iconst 1, 1) := by decide +kernel
theorem dX8_land_112 : decode cX8_land 112 = .ok (.iconst 0, 1) := by decide +kernel
theorem dX8_land_113 : decode cX8_land 113 = .ok (.bastore, 1) := by decide +kernel
theorem dX8_land_114 : decode cX8_land 114 = .ok (.aload_n 0, 1) := by decide +kernel
theorem dX8_land_115 : decode cX8_land 115 = .ok (.getfield 13, 3) := by decide +kernel
theorem dX8_land_118 : decode cX8_land 118 = .ok (.iconst 2, 1) := by decide +kernel
theorem dX8_land_119 : decode cX8_land 119 = .ok (.iaload, 1) := by decide +kernel
theorem dX8_land_120 : decode cX8_land 120 = .ok (.ireturn, 1) := by decide +kernel
theorem dX8_fault_0 : decode cX8_fault 0 = .ok (.aload_n 0, 1) := by decide +kernel
theorem dX8_fault_1 : decode cX8_fault 1 = .ok (.getfield 38, 3) := by decide +kernel
theorem dX8_fault_4 : decode cX8_fault 4 = .ok (.ireturn, 1) := by decide +kernel
theorem dX8_told_0 : decode cX8_told 0 = .ok (.iload_n 1, 1) := by decide +kernel
theorem dX8_told_1 : decode cX8_told 1 = .ok (.tableswitch 173 0 14 #[75, 82, 89, 96, 103, 108, 115, 122, 129, 136, 143, 150, 158, 163, 168], 75) := by decide +kernel
theorem dX8_told_76 : decode cX8_told 76 = .ok (.aload_n 0, 1) := by decide +kernel
theorem dX8_told_77 : decode cX8_told 77 = .ok (.getfield 13, 3) := by decide +kernel
theorem dX8_told_80 : decode cX8_told 80 = .ok (.iconst 0, 1) := by decide +kernel
theorem dX8_told_81 : decode cX8_told 81 = .ok (.iaload, 1) := by decide +kernel
theorem dX8_told_82 : decode cX8_told 82 = .ok (.ireturn, 1) := by decide +kernel
theorem dX8_told_83 : decode cX8_told 83 = .ok (.aload_n 0, 1) := by decide +kernel
theorem dX8_told_84 : decode cX8_told 84 = .ok (.getfield 13, 3) := by decide +kernel
theorem dX8_told_87 : decode cX8_told 87 = .ok (.iconst 1, 1) := by decide +kernel
theorem dX8_told_88 : decode cX8_told 88 = .ok (.iaload, 1) := by decide +kernel
theorem dX8_told_89 : decode cX8_told 89 = .ok (.ireturn, 1) := by decide +kernel
theorem dX8_told_90 : decode cX8_told 90 = .ok (.aload_n 0, 1) := by decide +kernel
theorem dX8_told_91 : decode cX8_told 91 = .ok (.getfield 13, 3) := by decide +kernel
theorem dX8_told_94 : decode cX8_told 94 = .ok (.iconst 2, 1) := by decide +kernel
theorem dX8_told_95 : decode cX8_told 95 = .ok (.iaload, 1) := by decide +kernel
theorem dX8_told_96 : decode cX8_told 96 = .ok (.ireturn, 1) := by decide +kernel
theorem dX8_told_97 : decode cX8_told 97 = .ok (.aload_n 0, 1) := by decide +kernel
theorem dX8_told_98 : decode cX8_told 98 = .ok (.getfield 13, 3) := by decide +kernel
theorem dX8_told_101 : decode cX8_told 101 = .ok (.iconst 3, 1) := by decide +kernel
theorem dX8_told_102 : decode cX8_told 102 = .ok (.iaload, 1) := by decide +kernel
theorem dX8_told_103 : decode cX8_told 103 = .ok (.ireturn, 1) := by decide +kernel
theorem dX8_told_104 : decode cX8_told 104 = .ok (.aload_n 0, 1) := by decide +kernel
theorem dX8_told_105 : decode cX8_told 105 = .ok (.getfield 60, 3) := by decide +kernel
theorem dX8_told_108 : decode cX8_told 108 = .ok (.ireturn, 1) := by decide +kernel
theorem dX8_told_109 : decode cX8_told 109 = .ok (.aload_n 0, 1) := by decide +kernel
theorem dX8_told_110 : decode cX8_told 110 = .ok (.getfield 19, 3) := by decide +kernel
theorem dX8_told_113 : decode cX8_told 113 = .ok (.iconst 1, 1) := by decide +kernel
theorem dX8_told_114 : decode cX8_told 114 = .ok (.iaload, 1) := by decide +kernel
theorem dX8_told_115 : decode cX8_told 115 = .ok (.ireturn, 1) := by decide +kernel
theorem dX8_told_116 : decode cX8_told 116 = .ok (.aload_n 0, 1) := by decide +kernel
theorem dX8_told_117 : decode cX8_told 117 = .ok (.getfield 19, 3) := by decide +kernel
theorem dX8_told_120 : decode cX8_told 120 = .ok (.iconst 0, 1) := by decide +kernel
theorem dX8_told_121 : decode cX8_told 121 = .ok (.iaload, 1) := by decide +kernel
theorem dX8_told_122 : decode cX8_told 122 = .ok (.ireturn, 1) := by decide +kernel
theorem dX8_told_123 : decode cX8_told 123 = .ok (.aload_n 0, 1) := by decide +kernel
theorem dX8_told_124 : decode cX8_told 124 = .ok (.getfield 19, 3) := by decide +kernel
theorem dX8_told_127 : decode cX8_told 127 = .ok (.iconst 2, 1) := by decide +kernel
theorem dX8_told_128 : decode cX8_told 128 = .ok (.iaload, 1) := by decide +kernel
theorem dX8_told_129 : decode cX8_told 129 = .ok (.ireturn, 1) := by decide +kernel
theorem dX8_told_130 : decode cX8_told 130 = .ok (.aload_n 0, 1) := by decide +kernel
theorem dX8_told_131 : decode cX8_told 131 = .ok (.getfield 19, 3) := by decide +kernel
theorem dX8_told_134 : decode cX8_told 134 = .ok (.iconst 3, 1) := by decide +kernel
theorem dX8_told_135 : decode cX8_told 135 = .ok (.iaload, 1) := by decide +kernel
theorem dX8_told_136 : decode cX8_told 136 = .ok (.ireturn, 1) := by decide +kernel
theorem dX8_told_137 : decode cX8_told 137 = .ok (.aload_n 0, 1) := by decide +kernel
theorem dX8_told_138 : decode cX8_told 138 = .ok (.getfield 19, 3) := by decide +kernel
theorem dX8_told_141 : decode cX8_told 141 = .ok (.iconst 4, 1) := by decide +kernel
theorem dX8_told_142 : decode cX8_told 142 = .ok (.iaload, 1) := by decide +kernel
theorem dX8_told_143 : decode cX8_told 143 = .ok (.ireturn, 1) := by decide +kernel
theorem dX8_told_144 : decode cX8_told 144 = .ok (.aload_n 0, 1) := by decide +kernel
theorem dX8_told_145 : decode cX8_told 145 = .ok (.getfield 19, 3) := by decide +kernel
theorem dX8_told_148 : decode cX8_told 148 = .ok (.iconst 5, 1) := by decide +kernel
theorem dX8_told_149 : decode cX8_told 149 = .ok (.iaload, 1) := by decide +kernel
theorem dX8_told_150 : decode cX8_told 150 = .ok (.ireturn, 1) := by decide +kernel
theorem dX8_told_151 : decode cX8_told 151 = .ok (.aload_n 0, 1) := by decide +kernel
theorem dX8_told_152 : decode cX8_told 152 = .ok (.getfield 19, 3) := by decide +kernel
theorem dX8_told_155 : decode cX8_told 155 = .ok (.bipush 6, 2) := by decide +kernel
theorem dX8_told_157 : decode cX8_told 157 = .ok (.iaload, 1) := by decide +kernel
theorem dX8_told_158 : decode cX8_told 158 = .ok (.ireturn, 1) := by decide +kernel
theorem dX8_told_159 : decode cX8_told 159 = .ok (.aload_n 0, 1) := by decide +kernel
theorem dX8_told_160 : decode cX8_told 160 = .ok (.getfield 110, 3) := by decide +kernel
theorem dX8_told_163 : decode cX8_told 163 = .ok (.ireturn, 1) := by decide +kernel
theorem dX8_told_164 : decode cX8_told 164 = .ok (.aload_n 0, 1) := by decide +kernel
theorem dX8_told_165 : decode cX8_told 165 = .ok (.getfield 113, 3) := by decide +kernel
theorem dX8_told_168 : decode cX8_told 168 = .ok (.ireturn, 1) := by decide +kernel
theorem dX8_told_169 : decode cX8_told 169 = .ok (.aload_n 0, 1) := by decide +kernel
theorem dX8_told_170 : decode cX8_told 170 = .ok (.getfield 107, 3) := by decide +kernel
theorem dX8_told_173 : decode cX8_told 173 = .ok (.ireturn, 1) := by decide +kernel
theorem dX8_told_174 : decode cX8_told 174 = .ok (.ldc 59, 2) := by decide +kernel
theorem dX8_told_176 : decode cX8_told 176 = .ok (.ireturn, 1) := by decide +kernel
theorem dX8_isBanned_0 : decode cX8_isBanned 0 = .ok (.aload_n 0, 1) := by decide +kernel
theorem dX8_isBanned_1 : decode cX8_isBanned 1 = .ok (.getfield 13, 3) := by decide +kernel
theorem dX8_isBanned_4 : decode cX8_isBanned 4 = .ok (.iconst 4, 1) := by decide +kernel
theorem dX8_isBanned_5 : decode cX8_isBanned 5 = .ok (.iload_n 1, 1) := by decide +kernel
theorem dX8_isBanned_6 : decode cX8_isBanned 6 = .ok (.iadd, 1) := by decide +kernel
theorem dX8_isBanned_7 : decode cX8_isBanned 7 = .ok (.iaload, 1) := by decide +kernel
theorem dX8_isBanned_8 : decode cX8_isBanned 8 = .ok (.bipush 50, 2) := by decide +kernel
theorem dX8_isBanned_10 : decode cX8_isBanned 10 = .ok (.if_icmp .ge 7, 3) := by decide +kernel
theorem dX8_isBanned_13 : decode cX8_isBanned 13 = .ok (.iconst 1, 1) := by decide +kernel
theorem dX8_isBanned_14 : decode cX8_isBanned 14 = .ok (.goto 4, 3) := by decide +kernel
theorem dX8_isBanned_17 : decode cX8_isBanned 17 = .ok (.iconst 0, 1) := by decide +kernel
theorem dX8_isBanned_18 : decode cX8_isBanned 18 = .ok (.ireturn, 1) := by decide +kernel
theorem dX8_leads_0 : decode cX8_leads 0 = .ok (.iconst 0, 1) := by decide +kernel
theorem dX8_leads_1 : decode cX8_leads 1 = .ok (.istore_n 3, 1) := by decide +kernel
theorem dX8_leads_2 : decode cX8_leads 2 = .ok (.iconst 0, 1) := by decide +kernel
theorem dX8_leads_3 : decode cX8_leads 3 = .ok (.istore 4, 2) := by decide +kernel
theorem dX8_leads_5 : decode cX8_leads 5 = .ok (.iload 4, 2) := by decide +kernel
theorem dX8_leads_7 : decode cX8_leads 7 = .ok (.aload_n 0, 1) := by decide +kernel
theorem dX8_leads_8 : decode cX8_leads 8 = .ok (.getfield 13, 3) := by decide +kernel
theorem dX8_leads_11 : decode cX8_leads 11 = .ok (.iconst 3, 1) := by decide +kernel
theorem dX8_leads_12 : decode cX8_leads 12 = .ok (.iaload, 1) := by decide +kernel
theorem dX8_leads_13 : decode cX8_leads 13 = .ok (.if_icmp .ge 84, 3) := by decide +kernel
theorem dX8_leads_16 : decode cX8_leads 16 = .ok (.iload_n 2, 1) := by decide +kernel
theorem dX8_leads_17 : decode cX8_leads 17 = .ok (.iload 4, 2) := by decide +kernel
theorem dX8_leads_19 : decode cX8_leads 19 = .ok (.ishr, 1) := by decide +kernel
theorem dX8_leads_20 : decode cX8_leads 20 = .ok (.iconst 1, 1) := by decide +kernel
theorem dX8_leads_21 : decode cX8_leads 21 = .ok (.iand, 1) := by decide +kernel
theorem dX8_leads_22 : decode cX8_leads 22 = .ok (.ifCond .ne 69, 3) := by decide +kernel
theorem dX8_leads_25 : decode cX8_leads 25 = .ok (.iload_n 3, 1) := by decide +kernel
theorem dX8_leads_26 : decode cX8_leads 26 = .ok (.aload_n 0, 1) := by decide +kernel
theorem dX8_leads_27 : decode cX8_leads 27 = .ok (.getfield 13, 3) := by decide +kernel
theorem dX8_leads_30 : decode cX8_leads 30 = .ok (.bipush 28, 2) := by decide +kernel
theorem dX8_leads_32 : decode cX8_leads 32 = .ok (.iload 4, 2) := by decide +kernel
theorem dX8_leads_34 : decode cX8_leads 34 = .ok (.iadd, 1) := by decide +kernel
theorem dX8_leads_35 : decode cX8_leads 35 = .ok (.iaload, 1) := by decide +kernel
theorem dX8_leads_36 : decode cX8_leads 36 = .ok (.iload_n 1, 1) := by decide +kernel
theorem dX8_leads_37 : decode cX8_leads 37 = .ok (.if_icmp .ne 18, 3) := by decide +kernel
theorem dX8_leads_40 : decode cX8_leads 40 = .ok (.iconst 1, 1) := by decide +kernel
theorem dX8_leads_41 : decode cX8_leads 41 = .ok (.aload_n 0, 1) := by decide +kernel
theorem dX8_leads_42 : decode cX8_leads 42 = .ok (.getfield 13, 3) := by decide +kernel
theorem dX8_leads_45 : decode cX8_leads 45 = .ok (.bipush 40, 2) := by decide +kernel
theorem dX8_leads_47 : decode cX8_leads 47 = .ok (.iload 4, 2) := by decide +kernel
theorem dX8_leads_49 : decode cX8_leads 49 = .ok (.iadd, 1) := by decide +kernel
theorem dX8_leads_50 : decode cX8_leads 50 = .ok (.iaload, 1) := by decide +kernel
theorem dX8_leads_51 : decode cX8_leads 51 = .ok (.ishl, 1) := by decide +kernel
theorem dX8_leads_52 : decode cX8_leads 52 = .ok (.goto 4, 3) := by decide +kernel
theorem dX8_leads_55 : decode cX8_leads 55 = .ok (.iconst 0, 1) := by decide +kernel
theorem dX8_leads_56 : decode cX8_leads 56 = .ok (.ior, 1) := by decide +kernel
theorem dX8_leads_57 : decode cX8_leads 57 = .ok (.istore_n 3, 1) := by decide +kernel
theorem dX8_leads_58 : decode cX8_leads 58 = .ok (.iload_n 3, 1) := by decide +kernel
theorem dX8_leads_59 : decode cX8_leads 59 = .ok (.aload_n 0, 1) := by decide +kernel
theorem dX8_leads_60 : decode cX8_leads 60 = .ok (.getfield 13, 3) := by decide +kernel
theorem dX8_leads_63 : decode cX8_leads 63 = .ok (.bipush 40, 2) := by decide +kernel
theorem dX8_leads_65 : decode cX8_leads 65 = .ok (.iload 4, 2) := by decide +kernel
theorem dX8_leads_67 : decode cX8_leads 67 = .ok (.iadd, 1) := by decide +kernel
theorem dX8_leads_68 : decode cX8_leads 68 = .ok (.iaload, 1) := by decide +kernel
theorem dX8_leads_69 : decode cX8_leads 69 = .ok (.iload_n 1, 1) := by decide +kernel
theorem dX8_leads_70 : decode cX8_leads 70 = .ok (.if_icmp .ne 18, 3) := by decide +kernel
theorem dX8_leads_73 : decode cX8_leads 73 = .ok (.iconst 1, 1) := by decide +kernel
theorem dX8_leads_74 : decode cX8_leads 74 = .ok (.aload_n 0, 1) := by decide +kernel
theorem dX8_leads_75 : decode cX8_leads 75 = .ok (.getfield 13, 3) := by decide +kernel
theorem dX8_leads_78 : decode cX8_leads 78 = .ok (.bipush 28, 2) := by decide +kernel
theorem dX8_leads_80 : decode cX8_leads 80 = .ok (.iload 4, 2) := by decide +kernel
theorem dX8_leads_82 : decode cX8_leads 82 = .ok (.iadd, 1) := by decide +kernel
theorem dX8_leads_83 : decode cX8_leads 83 = .ok (.iaload, 1) := by decide +kernel
theorem dX8_leads_84 : decode cX8_leads 84 = .ok (.ishl, 1) := by decide +kernel
theorem dX8_leads_85 : decode cX8_leads 85 = .ok (.goto 4, 3) := by decide +kernel
theorem dX8_leads_88 : decode cX8_leads 88 = .ok (.iconst 0, 1) := by decide +kernel
theorem dX8_leads_89 : decode cX8_leads 89 = .ok (.ior, 1) := by decide +kernel
theorem dX8_leads_90 : decode cX8_leads 90 = .ok (.istore_n 3, 1) := by decide +kernel
theorem dX8_leads_91 : decode cX8_leads 91 = .ok (.iinc 4 1, 3) := by decide +kernel
theorem dX8_leads_94 : decode cX8_leads 94 = .ok (.goto (-89), 3) := by decide +kernel
theorem dX8_leads_97 : decode cX8_leads 97 = .ok (.iload_n 3, 1) := by decide +kernel
theorem dX8_leads_98 : decode cX8_leads 98 = .ok (.ireturn, 1) := by decide +kernel
set_option maxRecDepth 20000 in
theorem ggX8_walks_X8_leads : GoodIn wsX8_walks wsX8_leads := goodIn_m (fun w hw => by
  revert w hw; unfold wsX8_leads
  exact am_cons (am_at in_wsX8_walks_0 5 rfl) (am_app (am_cons (am_at in_wsX8_walks_0 0 rfl) am_nil) in_wsX8_walks_1)) gw_wsX8_leads
set_option maxRecDepth 20000 in
theorem gX8_walks_X8_leads : GoodIn wsX8_walks (wsV RX8 116 RX8 yX8_leads wsX8_leads) := goodIn_app (goodIn_m (am_cons (am_at in_wsX8_walks_0 1 rfl) (am_cons (am_at in_wsX8_walks_0 2 rfl) (am_cons (am_at in_wsX8_walks_0 3 rfl) (am_cons (am_at in_wsX8_walks_0 4 rfl) am_nil)))) (by decide +kernel)) ggX8_walks_X8_leads
set_option maxRecDepth 20000 in
theorem ggX8_walks_X8_isBanned : GoodIn wsX8_walks wsX8_isBanned := goodIn_m (fun w hw => by
  revert w hw; unfold wsX8_isBanned
  exact am_cons (am_at in_wsX8_walks_0 9 rfl) (am_app (am_cons (am_at in_wsX8_walks_0 0 rfl) am_nil) in_wsX8_walks_1)) gw_wsX8_isBanned
set_option maxRecDepth 20000 in
theorem gX8_walks_X8_isBanned : GoodIn wsX8_walks (wsV RX8 120 RX8 yX8_isBanned wsX8_isBanned) := goodIn_app (goodIn_m (am_cons (am_at in_wsX8_walks_0 6 rfl) (am_cons (am_at in_wsX8_walks_0 7 rfl) (am_cons (am_at in_wsX8_walks_0 8 rfl) (am_cons (am_at in_wsX8_walks_0 4 rfl) am_nil)))) (by decide +kernel)) ggX8_walks_X8_isBanned
theorem dX8_walks_0 : decode cX8_walks 0 = .ok (.aload_n 0, 1) := by decide +kernel
theorem dX8_walks_1 : decode cX8_walks 1 = .ok (.iload_n 1, 1) := by decide +kernel
theorem dX8_walks_2 : decode cX8_walks 2 = .ok (.iload_n 2, 1) := by decide +kernel
theorem dX8_walks_3 : decode cX8_walks 3 = .ok (.invokevirtual 116, 3) := by decide +kernel
theorem dX8_walks_6 : decode cX8_walks 6 = .ok (.istore_n 3, 1) := by decide +kernel
theorem dX8_walks_7 : decode cX8_walks 7 = .ok (.iconst 0, 1) := by decide +kernel
theorem dX8_walks_8 : decode cX8_walks 8 = .ok (.istore 4, 2) := by decide +kernel
theorem dX8_walks_10 : decode cX8_walks 10 = .ok (.iload 4, 2) := by decide +kernel
theorem dX8_walks_12 : decode cX8_walks 12 = .ok (.aload_n 0, 1) := by decide +kernel
theorem dX8_walks_13 : decode cX8_walks 13 = .ok (.getfield 13, 3) := by decide +kernel
theorem dX8_walks_16 : decode cX8_walks 16 = .ok (.iconst 2, 1) := by decide +kernel
theorem dX8_walks_17 : decode cX8_walks 17 = .ok (.iaload, 1) := by decide +kernel
theorem dX8_walks_18 : decode cX8_walks 18 = .ok (.if_icmp .ge 31, 3) := by decide +kernel
theorem dX8_walks_21 : decode cX8_walks 21 = .ok (.iload_n 3, 1) := by decide +kernel
theorem dX8_walks_22 : decode cX8_walks 22 = .ok (.aload_n 0, 1) := by decide +kernel
theorem dX8_walks_23 : decode cX8_walks 23 = .ok (.iload 4, 2) := by decide +kernel
theorem dX8_walks_25 : decode cX8_walks 25 = .ok (.invokevirtual 120, 3) := by decide +kernel
theorem dX8_walks_28 : decode cX8_walks 28 = .ok (.ifCond .eq 12, 3) := by decide +kernel
theorem dX8_walks_31 : decode cX8_walks 31 = .ok (.iconst 1, 1) := by decide +kernel
theorem dX8_walks_32 : decode cX8_walks 32 = .ok (.iload 4, 2) := by decide +kernel
theorem dX8_walks_34 : decode cX8_walks 34 = .ok (.ishl, 1) := by decide +kernel
theorem dX8_walks_35 : decode cX8_walks 35 = .ok (.iconst (-1), 1) := by decide +kernel
theorem dX8_walks_36 : decode cX8_walks 36 = .ok (.ixor, 1) := by decide +kernel
theorem dX8_walks_37 : decode cX8_walks 37 = .ok (.goto 4, 3) := by decide +kernel
theorem dX8_walks_40 : decode cX8_walks 40 = .ok (.iconst (-1), 1) := by decide +kernel
theorem dX8_walks_41 : decode cX8_walks 41 = .ok (.iand, 1) := by decide +kernel
theorem dX8_walks_42 : decode cX8_walks 42 = .ok (.istore_n 3, 1) := by decide +kernel
theorem dX8_walks_43 : decode cX8_walks 43 = .ok (.iinc 4 1, 3) := by decide +kernel
theorem dX8_walks_46 : decode cX8_walks 46 = .ok (.goto (-36), 3) := by decide +kernel
theorem dX8_walks_49 : decode cX8_walks 49 = .ok (.iload_n 3, 1) := by decide +kernel
theorem dX8_walks_50 : decode cX8_walks 50 = .ok (.ireturn, 1) := by decide +kernel
set_option maxRecDepth 20000 in
theorem ggX8_town_X8_isTown : GoodIn wsX8_town wsX8_isTown := goodIn_m (fun w hw => by
  revert w hw; unfold wsX8_isTown
  exact am_cons (am_at in_wsX8_town_0 7 rfl) (am_app (am_cons (am_at in_wsX8_town_0 1 rfl) (am_cons (am_at in_wsX8_town_0 8 rfl) (am_cons (am_at in_wsX8_town_0 9 rfl) (am_cons (am_at in_wsX8_town_0 6 rfl) (am_cons (am_at in_wsX8_town_0 10 rfl) am_nil))))) in_wsX8_town_1)) gw_wsX8_isTown
set_option maxRecDepth 20000 in
theorem gX8_town_X8_isTown : GoodIn wsX8_town (wsV RX8 123 RX8 yX8_isTown wsX8_isTown) := goodIn_app (goodIn_m (am_cons (am_at in_wsX8_town_0 3 rfl) (am_cons (am_at in_wsX8_town_0 4 rfl) (am_cons (am_at in_wsX8_town_0 5 rfl) (am_cons (am_at in_wsX8_town_0 6 rfl) am_nil)))) (by decide +kernel)) ggX8_town_X8_isTown
set_option maxRecDepth 20000 in
theorem ggX8_town_X8_leads : GoodIn wsX8_town wsX8_leads := goodIn_m (fun w hw => by
  revert w hw; unfold wsX8_leads
  exact am_cons (am_at in_wsX8_town_0 14 rfl) (am_app (am_cons (am_at in_wsX8_town_0 1 rfl) am_nil) in_wsX8_town_1)) gw_wsX8_leads
set_option maxRecDepth 20000 in
theorem gX8_town_X8_leads : GoodIn wsX8_town (wsV RX8 116 RX8 yX8_leads wsX8_leads) := goodIn_app (goodIn_m (am_cons (am_at in_wsX8_town_0 11 rfl) (am_cons (am_at in_wsX8_town_0 12 rfl) (am_cons (am_at in_wsX8_town_0 13 rfl) (am_cons (am_at in_wsX8_town_0 6 rfl) am_nil)))) (by decide +kernel)) ggX8_town_X8_leads
set_option maxRecDepth 20000 in
theorem ggX8_town_X8_isBanned : GoodIn wsX8_town wsX8_isBanned := goodIn_m (fun w hw => by
  revert w hw; unfold wsX8_isBanned
  exact am_cons (am_at in_wsX8_town_0 18 rfl) (am_app (am_cons (am_at in_wsX8_town_0 1 rfl) am_nil) in_wsX8_town_1)) gw_wsX8_isBanned
set_option maxRecDepth 20000 in
theorem gX8_town_X8_isBanned : GoodIn wsX8_town (wsV RX8 120 RX8 yX8_isBanned wsX8_isBanned) := goodIn_app (goodIn_m (am_cons (am_at in_wsX8_town_0 15 rfl) (am_cons (am_at in_wsX8_town_0 16 rfl) (am_cons (am_at in_wsX8_town_0 17 rfl) (am_cons (am_at in_wsX8_town_0 6 rfl) am_nil)))) (by decide +kernel)) ggX8_town_X8_isBanned
theorem dX8_town_0 : decode cX8_town 0 = .ok (.aload_n 0, 1) := by decide +kernel
theorem dX8_town_1 : decode cX8_town 1 = .ok (.iload_n 1, 1) := by decide +kernel
theorem dX8_town_2 : decode cX8_town 2 = .ok (.invokevirtual 123, 3) := by decide +kernel
theorem dX8_town_5 : decode cX8_town 5 = .ok (.ifCond .ne 6, 3) := by decide +kernel
theorem dX8_town_8 : decode cX8_town 8 = .ok (.ldc 126, 2) := by decide +kernel
theorem dX8_town_10 : decode cX8_town 10 = .ok (.ireturn, 1) := by decide +kernel
theorem dX8_town_11 : decode cX8_town 11 = .ok (.iload_n 2, 1) := by decide +kernel
theorem dX8_town_12 : decode cX8_town 12 = .ok (.tableswitch 86 0 4 #[36, 45, 55, 65, 72], 36) := by decide +kernel
theorem dX8_town_48 : decode cX8_town 48 = .ok (.aload_n 0, 1) := by decide +kernel
theorem dX8_town_49 : decode cX8_town 49 = .ok (.getfield 13, 3) := by decide +kernel
theorem dX8_town_52 : decode cX8_town 52 = .ok (.iconst 4, 1) := by decide +kernel
theorem dX8_town_53 : decode cX8_town 53 = .ok (.iload_n 1, 1) := by decide +kernel
theorem dX8_town_54 : decode cX8_town 54 = .ok (.iadd, 1) := by decide +kernel
theorem dX8_town_55 : decode cX8_town 55 = .ok (.iaload, 1) := by decide +kernel
theorem dX8_town_56 : decode cX8_town 56 = .ok (.ireturn, 1) := by decide +kernel
theorem dX8_town_57 : decode cX8_town 57 = .ok (.aload_n 0, 1) := by decide +kernel
theorem dX8_town_58 : decode cX8_town 58 = .ok (.getfield 13, 3) := by decide +kernel
theorem dX8_town_61 : decode cX8_town 61 = .ok (.bipush 12, 2) := by decide +kernel
theorem dX8_town_63 : decode cX8_town 63 = .ok (.iload_n 1, 1) := by decide +kernel
theorem dX8_town_64 : decode cX8_town 64 = .ok (.iadd, 1) := by decide +kernel
theorem dX8_town_65 : decode cX8_town 65 = .ok (.iaload, 1) := by decide +kernel
theorem dX8_town_66 : decode cX8_town 66 = .ok (.ireturn, 1) := by decide +kernel
theorem dX8_town_67 : decode cX8_town 67 = .ok (.aload_n 0, 1) := by decide +kernel
theorem dX8_town_68 : decode cX8_town 68 = .ok (.getfield 13, 3) := by decide +kernel
theorem dX8_town_71 : decode cX8_town 71 = .ok (.bipush 20, 2) := by decide +kernel
theorem dX8_town_73 : decode cX8_town 73 = .ok (.iload_n 1, 1) := by decide +kernel
theorem dX8_town_74 : decode cX8_town 74 = .ok (.iadd, 1) := by decide +kernel
theorem dX8_town_75 : decode cX8_town 75 = .ok (.iaload, 1) := by decide +kernel
theorem dX8_town_76 : decode cX8_town 76 = .ok (.ireturn, 1) := by decide +kernel
theorem dX8_town_77 : decode cX8_town 77 = .ok (.aload_n 0, 1) := by decide +kernel
theorem dX8_town_78 : decode cX8_town 78 = .ok (.iload_n 1, 1) := by decide +kernel
theorem dX8_town_79 : decode cX8_town 79 = .ok (.iconst 0, 1) := by decide +kernel
theorem dX8_town_80 : decode cX8_town 80 = .ok (.invokevirtual 116, 3) := by decide +kernel
theorem dX8_town_83 : decode cX8_town 83 = .ok (.ireturn, 1) := by decide +kernel
theorem dX8_town_84 : decode cX8_town 84 = .ok (.aload_n 0, 1) := by decide +kernel
theorem dX8_town_85 : decode cX8_town 85 = .ok (.iload_n 1, 1) := by decide +kernel
theorem dX8_town_86 : decode cX8_town 86 = .ok (.invokevirtual 120, 3) := by decide +kernel
theorem dX8_town_89 : decode cX8_town 89 = .ok (.ifCond .eq 7, 3) := by decide +kernel
theorem dX8_town_92 : decode cX8_town 92 = .ok (.iconst 1, 1) := by decide +kernel
theorem dX8_town_93 : decode cX8_town 93 = .ok (.goto 4, 3) := by decide +kernel
theorem dX8_town_96 : decode cX8_town 96 = .ok (.iconst 0, 1) := by decide +kernel
theorem dX8_town_97 : decode cX8_town 97 = .ok (.ireturn, 1) := by decide +kernel
theorem dX8_town_98 : decode cX8_town 98 = .ok (.ldc 59, 2) := by decide +kernel
theorem dX8_town_100 : decode cX8_town 100 = .ok (.ireturn, 1) := by decide +kernel
set_option maxRecDepth 20000 in
theorem ggX8_road_X8_isRoad : GoodIn wsX8_road wsX8_isRoad := goodIn_m (fun w hw => by
  revert w hw; unfold wsX8_isRoad
  exact am_cons (am_at in_wsX8_road_0 8 rfl) (am_app (am_cons (am_at in_wsX8_road_0 1 rfl) (am_cons (am_at in_wsX8_road_0 9 rfl) (am_cons (am_at in_wsX8_road_0 10 rfl) (am_cons (am_at in_wsX8_road_0 7 rfl) (am_cons (am_at in_wsX8_road_0 11 rfl) am_nil))))) in_wsX8_road_1)) gw_wsX8_isRoad
set_option maxRecDepth 20000 in
theorem gX8_road_X8_isRoad : GoodIn wsX8_road (wsV RX8 127 RX8 yX8_isRoad wsX8_isRoad) := goodIn_app (goodIn_m (am_cons (am_at in_wsX8_road_0 4 rfl) (am_cons (am_at in_wsX8_road_0 5 rfl) (am_cons (am_at in_wsX8_road_0 6 rfl) (am_cons (am_at in_wsX8_road_0 7 rfl) am_nil)))) (by decide +kernel)) ggX8_road_X8_isRoad
theorem dX8_road_0 : decode cX8_road 0 = .ok (.aload_n 0, 1) := by decide +kernel
theorem dX8_road_1 : decode cX8_road 1 = .ok (.iload_n 1, 1) := by decide +kernel
theorem dX8_road_2 : decode cX8_road 2 = .ok (.invokevirtual 127, 3) := by decide +kernel
theorem dX8_road_5 : decode cX8_road 5 = .ok (.ifCond .ne 6, 3) := by decide +kernel
theorem dX8_road_8 : decode cX8_road 8 = .ok (.ldc 126, 2) := by decide +kernel
theorem dX8_road_10 : decode cX8_road 10 = .ok (.ireturn, 1) := by decide +kernel
theorem dX8_road_11 : decode cX8_road 11 = .ok (.iload_n 2, 1) := by decide +kernel
theorem dX8_road_12 : decode cX8_road 12 = .ok (.tableswitch 59 0 2 #[28, 38, 48], 28) := by decide +kernel
theorem dX8_road_40 : decode cX8_road 40 = .ok (.aload_n 0, 1) := by decide +kernel
theorem dX8_road_41 : decode cX8_road 41 = .ok (.getfield 13, 3) := by decide +kernel
theorem dX8_road_44 : decode cX8_road 44 = .ok (.bipush 28, 2) := by decide +kernel
theorem dX8_road_46 : decode cX8_road 46 = .ok (.iload_n 1, 1) := by decide +kernel
theorem dX8_road_47 : decode cX8_road 47 = .ok (.iadd, 1) := by decide +kernel
theorem dX8_road_48 : decode cX8_road 48 = .ok (.iaload, 1) := by decide +kernel
theorem dX8_road_49 : decode cX8_road 49 = .ok (.ireturn, 1) := by decide +kernel
theorem dX8_road_50 : decode cX8_road 50 = .ok (.aload_n 0, 1) := by decide +kernel
theorem dX8_road_51 : decode cX8_road 51 = .ok (.getfield 13, 3) := by decide +kernel
theorem dX8_road_54 : decode cX8_road 54 = .ok (.bipush 40, 2) := by decide +kernel
theorem dX8_road_56 : decode cX8_road 56 = .ok (.iload_n 1, 1) := by decide +kernel
theorem dX8_road_57 : decode cX8_road 57 = .ok (.iadd, 1) := by decide +kernel
theorem dX8_road_58 : decode cX8_road 58 = .ok (.iaload, 1) := by decide +kernel
theorem dX8_road_59 : decode cX8_road 59 = .ok (.ireturn, 1) := by decide +kernel
theorem dX8_road_60 : decode cX8_road 60 = .ok (.aload_n 0, 1) := by decide +kernel
theorem dX8_road_61 : decode cX8_road 61 = .ok (.getfield 19, 3) := by decide +kernel
theorem dX8_road_64 : decode cX8_road 64 = .ok (.iconst 5, 1) := by decide +kernel
theorem dX8_road_65 : decode cX8_road 65 = .ok (.iaload, 1) := by decide +kernel
theorem dX8_road_66 : decode cX8_road 66 = .ok (.iload_n 1, 1) := by decide +kernel
theorem dX8_road_67 : decode cX8_road 67 = .ok (.ishr, 1) := by decide +kernel
theorem dX8_road_68 : decode cX8_road 68 = .ok (.iconst 1, 1) := by decide +kernel
theorem dX8_road_69 : decode cX8_road 69 = .ok (.iand, 1) := by decide +kernel
theorem dX8_road_70 : decode cX8_road 70 = .ok (.ireturn, 1) := by decide +kernel
theorem dX8_road_71 : decode cX8_road 71 = .ok (.ldc 59, 2) := by decide +kernel
theorem dX8_road_73 : decode cX8_road 73 = .ok (.ireturn, 1) := by decide +kernel
theorem dX8_keeps_0 : decode cX8_keeps 0 = .ok (.aload_n 0, 1) := by decide +kernel
theorem dX8_keeps_1 : decode cX8_keeps 1 = .ok (.getfield 107, 3) := by decide +kernel
theorem dX8_keeps_4 : decode cX8_keeps 4 = .ok (.bipush 20, 2) := by decide +kernel
theorem dX8_keeps_6 : decode cX8_keeps 6 = .ok (.if_icmp .ne 43, 3) := by decide +kernel
theorem dX8_keeps_9 : decode cX8_keeps 9 = .ok (.iconst 0, 1) := by decide +kernel
theorem dX8_keeps_10 : decode cX8_keeps 10 = .ok (.istore_n 1, 1) := by decide +kernel
theorem dX8_keeps_11 : decode cX8_keeps 11 = .ok (.iload_n 1, 1) := by decide +kernel
theorem dX8_keeps_12 : decode cX8_keeps 12 = .ok (.sipush 133, 3) := by decide +kernel
theorem dX8_keeps_15 : decode cX8_keeps 15 = .ok (.if_icmp .ge 24, 3) := by decide +kernel
theorem dX8_keeps_18 : decode cX8_keeps 18 = .ok (.aload_n 0, 1) := by decide +kernel
theorem dX8_keeps_19 : decode cX8_keeps 19 = .ok (.getfield 22, 3) := by decide +kernel
theorem dX8_keeps_22 : decode cX8_keeps 22 = .ok (.iload_n 1, 1) := by decide +kernel
theorem dX8_keeps_23 : decode cX8_keeps 23 = .ok (.aload_n 0, 1) := by decide +kernel
theorem dX8_keeps_24 : decode cX8_keeps 24 = .ok (.getfield 22, 3) := by decide +kernel
theorem dX8_keeps_27 : decode cX8_keeps 27 = .ok (.iload_n 1, 1) := by decide +kernel
theorem dX8_keeps_28 : decode cX8_keeps 28 = .ok (.bipush 7, 2) := by decide +kernel
theorem dX8_keeps_30 : decode cX8_keeps 30 = .ok (.iadd, 1) := by decide +kernel
theorem dX8_keeps_31 : decode cX8_keeps 31 = .ok (.iaload, 1) := by decide +kernel
theorem dX8_keeps_32 : decode cX8_keeps 32 = .ok (.iastore, 1) := by decide +kernel
theorem dX8_keeps_33 : decode cX8_keeps 33 = .ok (.iinc 1 1, 3) := by decide +kernel
theorem dX8_keeps_36 : decode cX8_keeps 36 = .ok (.goto (-25), 3) := by decide +kernel
theorem dX8_keeps_39 : decode cX8_keeps 39 = .ok (.aload_n 0, 1) := by decide +kernel
theorem dX8_keeps_40 : decode cX8_keeps 40 = .ok (.dup, 1) := by decide +kernel
theorem dX8_keeps_41 : decode cX8_keeps 41 = .ok (.getfield 107, 3) := by decide +kernel
theorem dX8_keeps_44 : decode cX8_keeps 44 = .ok (.iconst 1, 1) := by decide +kernel
theorem dX8_keeps_45 : decode cX8_keeps 45 = .ok (.isub, 1) := by decide +kernel
theorem dX8_keeps_46 : decode cX8_keeps 46 = .ok (.putfield 107, 3) := by decide +kernel
theorem dX8_keeps_49 : decode cX8_keeps 49 = .ok (.iconst 0, 1) := by decide +kernel
theorem dX8_keeps_50 : decode cX8_keeps 50 = .ok (.istore_n 1, 1) := by decide +kernel
theorem dX8_keeps_51 : decode cX8_keeps 51 = .ok (.iload_n 1, 1) := by decide +kernel
theorem dX8_keeps_52 : decode cX8_keeps 52 = .ok (.bipush 7, 2) := by decide +kernel
theorem dX8_keeps_54 : decode cX8_keeps 54 = .ok (.if_icmp .ge 29, 3) := by decide +kernel
theorem dX8_keeps_57 : decode cX8_keeps 57 = .ok (.aload_n 0, 1) := by decide +kernel
theorem dX8_keeps_58 : decode cX8_keeps 58 = .ok (.getfield 22, 3) := by decide +kernel
theorem dX8_keeps_61 : decode cX8_keeps 61 = .ok (.bipush 7, 2) := by decide +kernel
theorem dX8_keeps_63 : decode cX8_keeps 63 = .ok (.aload_n 0, 1) := by decide +kernel
theorem dX8_keeps_64 : decode cX8_keeps 64 = .ok (.getfield 107, 3) := by decide +kernel
theorem dX8_keeps_67 : decode cX8_keeps 67 = .ok (.imul, 1) := by decide +kernel
theorem dX8_keeps_68 : decode cX8_keeps 68 = .ok (.iload_n 1, 1) := by decide +kernel
theorem dX8_keeps_69 : decode cX8_keeps 69 = .ok (.iadd, 1) := by decide +kernel
theorem dX8_keeps_70 : decode cX8_keeps 70 = .ok (.aload_n 0, 1) := by decide +kernel
theorem dX8_keeps_71 : decode cX8_keeps 71 = .ok (.getfield 19, 3) := by decide +kernel
theorem dX8_keeps_74 : decode cX8_keeps 74 = .ok (.iload_n 1, 1) := by decide +kernel
theorem dX8_keeps_75 : decode cX8_keeps 75 = .ok (.iaload, 1) := by decide +kernel
