theorem dX0_init_0 : decode cX0_init 0 = .ok (.aload_n 0, 1) := by decide +kernel
theorem dX0_init_1 : decode cX0_init 1 = .ok (.invokespecial 3, 3) := by decide +kernel
theorem dX0_init_4 : decode cX0_init 4 = .ok (.aload_n 0, 1) := by decide +kernel
theorem dX0_init_5 : decode cX0_init 5 = .ok (.bipush 8, 2) := by decide +kernel
theorem dX0_init_7 : decode cX0_init 7 = .ok (.newarray .int, 2) := by decide +kernel
theorem dX0_init_9 : decode cX0_init 9 = .ok (.putfield 9, 3) := by decide +kernel
theorem dX0_init_12 : decode cX0_init 12 = .ok (.aload_n 0, 1) := by decide +kernel
theorem dX0_init_13 : decode cX0_init 13 = .ok (.bipush 8, 2) := by decide +kernel
theorem dX0_init_15 : decode cX0_init 15 = .ok (.newarray .int, 2) := by decide +kernel
theorem dX0_init_17 : decode cX0_init 17 = .ok (.putfield 15, 3) := by decide +kernel
theorem dX0_init_20 : decode cX0_init 20 = .ok (.aload_n 0, 1) := by decide +kernel
theorem dX0_init_21 : decode cX0_init 21 = .ok (.bipush 8, 2) := by decide +kernel
theorem dX0_init_23 : decode cX0_init 23 = .ok (.newarray .int, 2) := by decide +kernel
theorem dX0_init_25 : decode cX0_init 25 = .ok (.putfield 18, 3) := by decide +kernel
theorem dX0_init_28 : decode cX0_init 28 = .ok (.aload_n 0, 1) := by decide +kernel
theorem dX0_init_29 : decode cX0_init 29 = .ok (.bipush 12, 2) := by decide +kernel
theorem dX0_init_31 : decode cX0_init 31 = .ok (.newarray .int, 2) := by decide +kernel
theorem dX0_init_33 : decode cX0_init 33 = .ok (.putfield 21, 3) := by decide +kernel
theorem dX0_init_36 : decode cX0_init 36 = .ok (.aload_n 0, 1) := by decide +kernel
theorem dX0_init_37 : decode cX0_init 37 = .ok (.bipush 12, 2) := by decide +kernel
theorem dX0_init_39 : decode cX0_init 39 = .ok (.newarray .int, 2) := by decide +kernel
theorem dX0_init_41 : decode cX0_init 41 = .ok (.putfield 24, 3) := by decide +kernel
theorem dX0_init_44 : decode cX0_init 44 = .ok (.return_, 1) := by decide +kernel
theorem dX0_clear_0 : decode cX0_clear 0 = .ok (.aload_n 0, 1) := by decide +kernel
theorem dX0_clear_1 : decode cX0_clear 1 = .ok (.iconst 0, 1) := by decide +kernel
theorem dX0_clear_2 : decode cX0_clear 2 = .ok (.putfield 27, 3) := by decide +kernel
theorem dX0_clear_5 : decode cX0_clear 5 = .ok (.aload_n 0, 1) := by decide +kernel
theorem dX0_clear_6 : decode cX0_clear 6 = .ok (.iconst 0, 1) := by decide +kernel
theorem dX0_clear_7 : decode cX0_clear 7 = .ok (.putfield 31, 3) := by decide +kernel
theorem dX0_clear_10 : decode cX0_clear 10 = .ok (.aload_n 0, 1) := by decide +kernel
theorem dX0_clear_11 : decode cX0_clear 11 = .ok (.iconst 0, 1) := by decide +kernel
theorem dX0_clear_12 : decode cX0_clear 12 = .ok (.putfield 34, 3) := by decide +kernel
theorem dX0_clear_15 : decode cX0_clear 15 = .ok (.aload_n 0, 1) := by decide +kernel
theorem dX0_clear_16 : decode cX0_clear 16 = .ok (.iconst 0, 1) := by decide +kernel
theorem dX0_clear_17 : decode cX0_clear 17 = .ok (.putfield 37, 3) := by decide +kernel
theorem dX0_clear_20 : decode cX0_clear 20 = .ok (.aload_n 0, 1) := by decide +kernel
theorem dX0_clear_21 : decode cX0_clear 21 = .ok (.iconst 0, 1) := by decide +kernel
theorem dX0_clear_22 : decode cX0_clear 22 = .ok (.putfield 40, 3) := by decide +kernel
theorem dX0_clear_25 : decode cX0_clear 25 = .ok (.return_, 1) := by decide +kernel
theorem dX0_addTown_0 : decode cX0_addTown 0 = .ok (.aload_n 0, 1) := by decide +kernel
theorem dX0_addTown_1 : decode cX0_addTown 1 = .ok (.getfield 34, 3) := by decide +kernel
theorem dX0_addTown_4 : decode cX0_addTown 4 = .ok (.bipush 8, 2) := by decide +kernel
theorem dX0_addTown_6 : decode cX0_addTown 6 = .ok (.if_icmp .ge 68, 3) := by decide +kernel
theorem dX0_addTown_9 : decode cX0_addTown 9 = .ok (.aload_n 0, 1) := by decide +kernel
theorem dX0_addTown_10 : decode cX0_addTown 10 = .ok (.getfield 9, 3) := by decide +kernel
theorem dX0_addTown_13 : decode cX0_addTown 13 = .ok (.aload_n 0, 1) := by decide +kernel
theorem dX0_addTown_14 : decode cX0_addTown 14 = .ok (.getfield 34, 3) := by decide +kernel
theorem dX0_addTown_17 : decode cX0_addTown 17 = .ok (.iload_n 1, 1) := by decide +kernel
theorem dX0_addTown_18 : decode cX0_addTown 18 = .ok (.iastore, 1) := by decide +kernel
theorem dX0_addTown_19 : decode cX0_addTown 19 = .ok (.aload_n 0, 1) := by decide +kernel
theorem dX0_addTown_20 : decode cX0_addTown 20 = .ok (.getfield 15, 3) := by decide +kernel
theorem dX0_addTown_23 : decode cX0_addTown 23 = .ok (.aload_n 0, 1) := by decide +kernel
theorem dX0_addTown_24 : decode cX0_addTown 24 = .ok (.getfield 34, 3) := by decide +kernel
theorem dX0_addTown_27 : decode cX0_addTown 27 = .ok (.iload_n 2, 1) := by decide +kernel
theorem dX0_addTown_28 : decode cX0_addTown 28 = .ok (.iastore, 1) := by decide +kernel
theorem dX0_addTown_29 : decode cX0_addTown 29 = .ok (.aload_n 0, 1) := by decide +kernel
theorem dX0_addTown_30 : decode cX0_addTown 30 = .ok (.getfield 18, 3) := by decide +kernel
theorem dX0_addTown_33 : decode cX0_addTown 33 = .ok (.aload_n 0, 1) := by decide +kernel
theorem dX0_addTown_34 : decode cX0_addTown 34 = .ok (.getfield 34, 3) := by decide +kernel
theorem dX0_addTown_37 : decode cX0_addTown 37 = .ok (.iload_n 3, 1) := by decide +kernel
theorem dX0_addTown_38 : decode cX0_addTown 38 = .ok (.iastore, 1) := by decide +kernel
theorem dX0_addTown_39 : decode cX0_addTown 39 = .ok (.aload_n 0, 1) := by decide +kernel
theorem dX0_addTown_40 : decode cX0_addTown 40 = .ok (.dup, 1) := by decide +kernel
theorem dX0_addTown_41 : decode cX0_addTown 41 = .ok (.getfield 40, 3) := by decide +kernel
theorem dX0_addTown_44 : decode cX0_addTown 44 = .ok (.iload_n 1, 1) := by decide +kernel
theorem dX0_addTown_45 : decode cX0_addTown 45 = .ok (.bipush 50, 2) := by decide +kernel
theorem dX0_addTown_47 : decode cX0_addTown 47 = .ok (.if_icmp .ge 12, 3) := by decide +kernel
theorem dX0_addTown_50 : decode cX0_addTown 50 = .ok (.iconst 1, 1) := by decide +kernel
theorem dX0_addTown_51 : decode cX0_addTown 51 = .ok (.aload_n 0, 1) := by decide +kernel
theorem dX0_addTown_52 : decode cX0_addTown 52 = .ok (.getfield 34, 3) := by decide +kernel
theorem dX0_addTown_55 : decode cX0_addTown 55 = .ok (.ishl, 1) := by decide +kernel
theorem dX0_addTown_56 : decode cX0_addTown 56 = .ok (.goto 4, 3) := by decide +kernel
theorem dX0_addTown_59 : decode cX0_addTown 59 = .ok (.iconst 0, 1) := by decide +kernel
theorem dX0_addTown_60 : decode cX0_addTown 60 = .ok (.ior, 1) := by decide +kernel
theorem dX0_addTown_61 : decode cX0_addTown 61 = .ok (.putfield 40, 3) := by decide +kernel
theorem dX0_addTown_64 : decode cX0_addTown 64 = .ok (.aload_n 0, 1) := by decide +kernel
theorem dX0_addTown_65 : decode cX0_addTown 65 = .ok (.dup, 1) := by decide +kernel
theorem dX0_addTown_66 : decode cX0_addTown 66 = .ok (.getfield 34, 3) := by decide +kernel
theorem dX0_addTown_69 : decode cX0_addTown 69 = .ok (.iconst 1, 1) := by decide +kernel
theorem dX0_addTown_70 : decode cX0_addTown 70 = .ok (.iadd, 1) := by decide +kernel
theorem dX0_addTown_71 : decode cX0_addTown 71 = .ok (.putfield 34, 3) := by decide +kernel
theorem dX0_addTown_74 : decode cX0_addTown 74 = .ok (.return_, 1) := by decide +kernel
theorem dX0_addRoad_0 : decode cX0_addRoad 0 = .ok (.aload_n 0, 1) := by decide +kernel
theorem dX0_addRoad_1 : decode cX0_addRoad 1 = .ok (.getfield 37, 3) := by decide +kernel
theorem dX0_addRoad_4 : decode cX0_addRoad 4 = .ok (.bipush 12, 2) := by decide +kernel
theorem dX0_addRoad_6 : decode cX0_addRoad 6 = .ok (.if_icmp .ge 33, 3) := by decide +kernel
theorem dX0_addRoad_9 : decode cX0_addRoad 9 = .ok (.aload_n 0, 1) := by decide +kernel
theorem dX0_addRoad_10 : decode cX0_addRoad 10 = .ok (.getfield 21, 3) := by decide +kernel
theorem dX0_addRoad_13 : decode cX0_addRoad 13 = .ok (.aload_n 0, 1) := by decide +kernel
theorem dX0_addRoad_14 : decode cX0_addRoad 14 = .ok (.getfield 37, 3) := by decide +kernel
theorem dX0_addRoad_17 : decode cX0_addRoad 17 = .ok (.iload_n 1, 1) := by decide +kernel
theorem dX0_addRoad_18 : decode cX0_addRoad 18 = .ok (.iastore, 1) := by decide +kernel
theorem dX0_addRoad_19 : decode cX0_addRoad 19 = .ok (.aload_n 0, 1) := by decide +kernel
theorem dX0_addRoad_20 : decode cX0_addRoad 20 = .ok (.getfield 24, 3) := by decide +kernel
theorem dX0_addRoad_23 : decode cX0_addRoad 23 = .ok (.aload_n 0, 1) := by decide +kernel
theorem dX0_addRoad_24 : decode cX0_addRoad 24 = .ok (.getfield 37, 3) := by decide +kernel
theorem dX0_addRoad_27 : decode cX0_addRoad 27 = .ok (.iload_n 2, 1) := by decide +kernel
theorem dX0_addRoad_28 : decode cX0_addRoad 28 = .ok (.iastore, 1) := by decide +kernel
theorem dX0_addRoad_29 : decode cX0_addRoad 29 = .ok (.aload_n 0, 1) := by decide +kernel
theorem dX0_addRoad_30 : decode cX0_addRoad 30 = .ok (.dup, 1) := by decide +kernel
theorem dX0_addRoad_31 : decode cX0_addRoad 31 = .ok (.getfield 37, 3) := by decide +kernel
theorem dX0_addRoad_34 : decode cX0_addRoad 34 = .ok (.iconst 1, 1) := by decide +kernel
theorem dX0_addRoad_35 : decode cX0_addRoad 35 = .ok (.iadd, 1) := by decide +kernel
theorem dX0_addRoad_36 : decode cX0_addRoad 36 = .ok (.putfield 37, 3) := by decide +kernel
theorem dX0_addRoad_39 : decode cX0_addRoad 39 = .ok (.return_, 1) := by decide +kernel
theorem dX0_hasTown_0 : decode cX0_hasTown 0 = .ok (.iload_n 1, 1) := by decide +kernel
theorem dX0_hasTown_1 : decode cX0_hasTown 1 = .ok (.ifCond .lt 15, 3) := by decide +kernel
theorem dX0_hasTown_4 : decode cX0_hasTown 4 = .ok (.iload_n 1, 1) := by decide +kernel
theorem dX0_hasTown_5 : decode cX0_hasTown 5 = .ok (.aload_n 0, 1) := by decide +kernel
theorem dX0_hasTown_6 : decode cX0_hasTown 6 = .ok (.getfield 34, 3) := by decide +kernel
theorem dX0_hasTown_9 : decode cX0_hasTown 9 = .ok (.if_icmp .ge 7, 3) := by decide +kernel
theorem dX0_hasTown_12 : decode cX0_hasTown 12 = .ok (.iconst 1, 1) := by decide +kernel
theorem dX0_hasTown_13 : decode cX0_hasTown 13 = .ok (.goto 4, 3) := by decide +kernel
theorem dX0_hasTown_16 : decode cX0_hasTown 16 = .ok (.iconst 0, 1) := by decide +kernel
theorem dX0_hasTown_17 : decode cX0_hasTown 17 = .ok (.ireturn, 1) := by decide +kernel
theorem dX0_hasRoad_0 : decode cX0_hasRoad 0 = .ok (.iload_n 1, 1) := by decide +kernel
theorem dX0_hasRoad_1 : decode cX0_hasRoad 1 = .ok (.ifCond .lt 15, 3) := by decide +kernel
theorem dX0_hasRoad_4 : decode cX0_hasRoad 4 = .ok (.iload_n 1, 1) := by decide +kernel
theorem dX0_hasRoad_5 : decode cX0_hasRoad 5 = .ok (.aload_n 0, 1) := by decide +kernel
theorem dX0_hasRoad_6 : decode cX0_hasRoad 6 = .ok (.getfield 37, 3) := by decide +kernel
theorem dX0_hasRoad_9 : decode cX0_hasRoad 9 = .ok (.if_icmp .ge 7, 3) := by decide +kernel
theorem dX0_hasRoad_12 : decode cX0_hasRoad 12 = .ok (.iconst 1, 1) := by decide +kernel
theorem dX0_hasRoad_13 : decode cX0_hasRoad 13 = .ok (.goto 4, 3) := by decide +kernel
theorem dX0_hasRoad_16 : decode cX0_hasRoad 16 = .ok (.iconst 0, 1) := by decide +kernel
theorem dX0_hasRoad_17 : decode cX0_hasRoad 17 = .ok (.ireturn, 1) := by decide +kernel
theorem dX0_allTowns_0 : decode cX0_allTowns 0 = .ok (.iconst 1, 1) := by decide +kernel
theorem dX0_allTowns_1 : decode cX0_allTowns 1 = .ok (.aload_n 0, 1) := by decide +kernel
theorem dX0_allTowns_2 : decode cX0_allTowns 2 = .ok (.getfield 34, 3) := by decide +kernel
theorem dX0_allTowns_5 : decode cX0_allTowns 5 = .ok (.ishl, 1) := by decide +kernel
theorem dX0_allTowns_6 : decode cX0_allTowns 6 = .ok (.iconst 1, 1) := by decide +kernel
theorem dX0_allTowns_7 : decode cX0_allTowns 7 = .ok (.isub, 1) := by decide +kernel
theorem dX0_allTowns_8 : decode cX0_allTowns 8 = .ok (.ireturn, 1) := by decide +kernel
theorem dX0_isBanned_0 : decode cX0_isBanned 0 = .ok (.aload_n 0, 1) := by decide +kernel
theorem dX0_isBanned_1 : decode cX0_isBanned 1 = .ok (.getfield 40, 3) := by decide +kernel
theorem dX0_isBanned_4 : decode cX0_isBanned 4 = .ok (.iload_n 1, 1) := by decide +kernel
theorem dX0_isBanned_5 : decode cX0_isBanned 5 = .ok (.ishr, 1) := by decide +kernel
theorem dX0_isBanned_6 : decode cX0_isBanned 6 = .ok (.iconst 1, 1) := by decide +kernel
theorem dX0_isBanned_7 : decode cX0_isBanned 7 = .ok (.iand, 1) := by decide +kernel
theorem dX0_isBanned_8 : decode cX0_isBanned 8 = .ok (.ifCond .eq 7, 3) := by decide +kernel
theorem dX0_isBanned_11 : decode cX0_isBanned 11 = .ok (.iconst 1, 1) := by decide +kernel
theorem dX0_isBanned_12 : decode cX0_isBanned 12 = .ok (.goto 4, 3) := by decide +kernel
theorem dX0_isBanned_15 : decode cX0_isBanned 15 = .ok (.iconst 0, 1) := by decide +kernel
theorem dX0_isBanned_16 : decode cX0_isBanned 16 = .ok (.ireturn, 1) := by decide +kernel
set_option maxRecDepth 20000 in
theorem ggX0_worksIn_X0_hasTown : GoodIn wsX0_worksIn wsX0_hasTown := goodIn_m (fun w hw => by
  revert w hw; unfold wsX0_hasTown
  exact am_cons (am_at in_wsX0_worksIn_0 6 rfl) (am_app (am_cons (am_at in_wsX0_worksIn_0 7 rfl) am_nil) in_wsX0_worksIn_1)) gw_wsX0_hasTown
set_option maxRecDepth 20000 in
theorem gX0_worksIn_X0_hasTown : GoodIn wsX0_worksIn (wsV RX0 43 RX0 yX0_hasTown wsX0_hasTown) := goodIn_app (goodIn_m (am_cons (am_at in_wsX0_worksIn_0 2 rfl) (am_cons (am_at in_wsX0_worksIn_0 3 rfl) (am_cons (am_at in_wsX0_worksIn_0 4 rfl) (am_cons (am_at in_wsX0_worksIn_0 5 rfl) am_nil)))) (by decide +kernel)) ggX0_worksIn_X0_hasTown
theorem dX0_worksIn_0 : decode cX0_worksIn 0 = .ok (.aload_n 0, 1) := by decide +kernel
theorem dX0_worksIn_1 : decode cX0_worksIn 1 = .ok (.iload_n 1, 1) := by decide +kernel
theorem dX0_worksIn_2 : decode cX0_worksIn 2 = .ok (.invokevirtual 43, 3) := by decide +kernel
theorem dX0_worksIn_5 : decode cX0_worksIn 5 = .ok (.ifCond .eq 28, 3) := by decide +kernel
theorem dX0_worksIn_8 : decode cX0_worksIn 8 = .ok (.aload_n 0, 1) := by decide +kernel
theorem dX0_worksIn_9 : decode cX0_worksIn 9 = .ok (.getfield 15, 3) := by decide +kernel
theorem dX0_worksIn_12 : decode cX0_worksIn 12 = .ok (.iload_n 1, 1) := by decide +kernel
theorem dX0_worksIn_13 : decode cX0_worksIn 13 = .ok (.iaload, 1) := by decide +kernel
theorem dX0_worksIn_14 : decode cX0_worksIn 14 = .ok (.aload_n 0, 1) := by decide +kernel
theorem dX0_worksIn_15 : decode cX0_worksIn 15 = .ok (.getfield 31, 3) := by decide +kernel
theorem dX0_worksIn_18 : decode cX0_worksIn 18 = .ok (.iload_n 2, 1) := by decide +kernel
theorem dX0_worksIn_19 : decode cX0_worksIn 19 = .ok (.iadd, 1) := by decide +kernel
theorem dX0_worksIn_20 : decode cX0_worksIn 20 = .ok (.bipush 12, 2) := by decide +kernel
theorem dX0_worksIn_22 : decode cX0_worksIn 22 = .ok (.irem, 1) := by decide +kernel
theorem dX0_worksIn_23 : decode cX0_worksIn 23 = .ok (.ishr, 1) := by decide +kernel
theorem dX0_worksIn_24 : decode cX0_worksIn 24 = .ok (.iconst 1, 1) := by decide +kernel
theorem dX0_worksIn_25 : decode cX0_worksIn 25 = .ok (.iand, 1) := by decide +kernel
theorem dX0_worksIn_26 : decode cX0_worksIn 26 = .ok (.ifCond .eq 7, 3) := by decide +kernel
theorem dX0_worksIn_29 : decode cX0_worksIn 29 = .ok (.iconst 1, 1) := by decide +kernel
theorem dX0_worksIn_30 : decode cX0_worksIn 30 = .ok (.goto 4, 3) := by decide +kernel
theorem dX0_worksIn_33 : decode cX0_worksIn 33 = .ok (.iconst 0, 1) := by decide +kernel
theorem dX0_worksIn_34 : decode cX0_worksIn 34 = .ok (.ireturn, 1) := by decide +kernel
set_option maxRecDepth 20000 in
theorem ggX0_gainIn_X0_worksIn : GoodIn wsX0_gainIn wsX0_worksIn := goodIn_m (fun w hw => by
  revert w hw; unfold wsX0_worksIn
  exact am_cons (am_at in_wsX0_gainIn_0 5 rfl) (am_app (am_cons (am_at in_wsX0_gainIn_0 6 rfl) (am_cons (am_at in_wsX0_gainIn_0 7 rfl) (am_cons (am_at in_wsX0_gainIn_0 8 rfl) (am_cons (am_at in_wsX0_gainIn_0 9 rfl) (am_cons (am_at in_wsX0_gainIn_0 10 rfl) (am_cons (am_at in_wsX0_gainIn_0 4 rfl) (am_cons (am_at in_wsX0_gainIn_0 11 rfl) (am_cons (am_at in_wsX0_gainIn_0 12 rfl) am_nil)))))))) in_wsX0_gainIn_1)) gw_wsX0_worksIn
set_option maxRecDepth 20000 in
theorem gX0_gainIn_X0_worksIn : GoodIn wsX0_gainIn (wsV RX0 47 RX0 yX0_worksIn wsX0_worksIn) := goodIn_app (goodIn_m (am_cons (am_at in_wsX0_gainIn_0 1 rfl) (am_cons (am_at in_wsX0_gainIn_0 2 rfl) (am_cons (am_at in_wsX0_gainIn_0 3 rfl) (am_cons (am_at in_wsX0_gainIn_0 4 rfl) am_nil)))) (by decide +kernel)) ggX0_gainIn_X0_worksIn
theorem dX0_gainIn_0 : decode cX0_gainIn 0 = .ok (.aload_n 0, 1) := by decide +kernel
theorem dX0_gainIn_1 : decode cX0_gainIn 1 = .ok (.iload_n 1, 1) := by decide +kernel
theorem dX0_gainIn_2 : decode cX0_gainIn 2 = .ok (.iload_n 2, 1) := by decide +kernel
theorem dX0_gainIn_3 : decode cX0_gainIn 3 = .ok (.invokevirtual 47, 3) := by decide +kernel
theorem dX0_gainIn_6 : decode cX0_gainIn 6 = .ok (.ifCond .eq 12, 3) := by decide +kernel
theorem dX0_gainIn_9 : decode cX0_gainIn 9 = .ok (.aload_n 0, 1) := by decide +kernel
theorem dX0_gainIn_10 : decode cX0_gainIn 10 = .ok (.getfield 18, 3) := by decide +kernel
theorem dX0_gainIn_13 : decode cX0_gainIn 13 = .ok (.iload_n 1, 1) := by decide +kernel
theorem dX0_gainIn_14 : decode cX0_gainIn 14 = .ok (.iaload, 1) := by decide +kernel
theorem dX0_gainIn_15 : decode cX0_gainIn 15 = .ok (.goto 4, 3) := by decide +kernel
theorem dX0_gainIn_18 : decode cX0_gainIn 18 = .ok (.iconst 0, 1) := by decide +kernel
theorem dX0_gainIn_19 : decode cX0_gainIn 19 = .ok (.ireturn, 1) := by decide +kernel
theorem dX0_neighbours_0 : decode cX0_neighbours 0 = .ok (.iconst 0, 1) := by decide +kernel
theorem dX0_neighbours_1 : decode cX0_neighbours 1 = .ok (.istore_n 3, 1) := by decide +kernel
theorem dX0_neighbours_2 : decode cX0_neighbours 2 = .ok (.iconst 0, 1) := by decide +kernel
theorem dX0_neighbours_3 : decode cX0_neighbours 3 = .ok (.istore 4, 2) := by decide +kernel
theorem dX0_neighbours_5 : decode cX0_neighbours 5 = .ok (.iload 4, 2) := by decide +kernel
theorem dX0_neighbours_7 : decode cX0_neighbours 7 = .ok (.aload_n 0, 1) := by decide +kernel
theorem dX0_neighbours_8 : decode cX0_neighbours 8 = .ok (.getfield 37, 3) := by decide +kernel
theorem dX0_neighbours_11 : decode cX0_neighbours 11 = .ok (.if_icmp .ge 70, 3) := by decide +kernel
theorem dX0_neighbours_14 : decode cX0_neighbours 14 = .ok (.iload_n 2, 1) := by decide +kernel
theorem dX0_neighbours_15 : decode cX0_neighbours 15 = .ok (.iload 4, 2) := by decide +kernel
theorem dX0_neighbours_17 : decode cX0_neighbours 17 = .ok (.ishr, 1) := by decide +kernel
theorem dX0_neighbours_18 : decode cX0_neighbours 18 = .ok (.iconst 1, 1) := by decide +kernel
theorem dX0_neighbours_19 : decode cX0_neighbours 19 = .ok (.iand, 1) := by decide +kernel
theorem dX0_neighbours_20 : decode cX0_neighbours 20 = .ok (.ifCond .eq 6, 3) := by decide +kernel
theorem dX0_neighbours_23 : decode cX0_neighbours 23 = .ok (.goto 52, 3) := by decide +kernel
theorem dX0_neighbours_26 : decode cX0_neighbours 26 = .ok (.aload_n 0, 1) := by decide +kernel
theorem dX0_neighbours_27 : decode cX0_neighbours 27 = .ok (.getfield 21, 3) := by decide +kernel
theorem dX0_neighbours_30 : decode cX0_neighbours 30 = .ok (.iload 4, 2) := by decide +kernel
theorem dX0_neighbours_32 : decode cX0_neighbours 32 = .ok (.iaload, 1) := by decide +kernel
theorem dX0_neighbours_33 : decode cX0_neighbours 33 = .ok (.iload_n 1, 1) := by decide +kernel
theorem dX0_neighbours_34 : decode cX0_neighbours 34 = .ok (.if_icmp .ne 18, 3) := by decide +kernel
theorem dX0_neighbours_37 : decode cX0_neighbours 37 = .ok (.iload_n 3, 1) := by decide +kernel
theorem dX0_neighbours_38 : decode cX0_neighbours 38 = .ok (.iconst 1, 1) := by decide +kernel
theorem dX0_neighbours_39 : decode cX0_neighbours 39 = .ok (.aload_n 0, 1) := by decide +kernel
theorem dX0_neighbours_40 : decode cX0_neighbours 40 = .ok (.getfield 24, 3) := by decide +kernel
theorem dX0_neighbours_43 : decode cX0_neighbours 43 = .ok (.iload 4, 2) := by decide +kernel
theorem dX0_neighbours_45 : decode cX0_neighbours 45 = .ok (.iaload, 1) := by decide +kernel
theorem dX0_neighbours_46 : decode cX0_neighbours 46 = .ok (.ishl, 1) := by decide +kernel
theorem dX0_neighbours_47 : decode cX0_neighbours 47 = .ok (.ior, 1) := by decide +kernel
theorem dX0_neighbours_48 : decode cX0_neighbours 48 = .ok (.istore_n 3, 1) := by decide +kernel
theorem dX0_neighbours_49 : decode cX0_neighbours 49 = .ok (.goto 26, 3) := by decide +kernel
theorem dX0_neighbours_52 : decode cX0_neighbours 52 = .ok (.aload_n 0, 1) := by decide +kernel
theorem dX0_neighbours_53 : decode cX0_neighbours 53 = .ok (.getfield 24, 3) := by decide +kernel
theorem dX0_neighbours_56 : decode cX0_neighbours 56 = .ok (.iload 4, 2) := by decide +kernel
theorem dX0_neighbours_58 : decode cX0_neighbours 58 = .ok (.iaload, 1) := by decide +kernel
theorem dX0_neighbours_59 : decode cX0_neighbours 59 = .ok (.iload_n 1, 1) := by decide +kernel
theorem dX0_neighbours_60 : decode cX0_neighbours 60 = .ok (.if_icmp .ne 15, 3) := by decide +kernel
theorem dX0_neighbours_63 : decode cX0_neighbours 63 = .ok (.iload_n 3, 1) := by decide +kernel
theorem dX0_neighbours_64 : decode cX0_neighbours 64 = .ok (.iconst 1, 1) := by decide +kernel
theorem dX0_neighbours_65 : decode cX0_neighbours 65 = .ok (.aload_n 0, 1) := by decide +kernel
theorem dX0_neighbours_66 : decode cX0_neighbours 66 = .ok (.getfield 21, 3) := by decide +kernel
theorem dX0_neighbours_69 : decode cX0_neighbours 69 = .ok (.iload 4, 2) := by decide +kernel
theorem dX0_neighbours_71 : decode cX0_neighbours 71 = .ok (.iaload, 1) := by decide +kernel
theorem dX0_neighbours_72 : decode cX0_neighbours 72 = .ok (.ishl, 1) := by decide +kernel
theorem dX0_neighbours_73 : decode cX0_neighbours 73 = .ok (.ior, 1) := by decide +kernel
theorem dX0_neighbours_74 : decode cX0_neighbours 74 = .ok (.istore_n 3, 1) := by decide +kernel
theorem dX0_neighbours_75 : decode cX0_neighbours 75 = .ok (.iinc 4 1, 3) := by decide +kernel
theorem dX0_neighbours_78 : decode cX0_neighbours 78 = .ok (.goto (-73), 3) := by decide +kernel
theorem dX0_neighbours_81 : decode cX0_neighbours 81 = .ok (.iload_n 3, 1) := by decide +kernel
theorem dX0_neighbours_82 : decode cX0_neighbours 82 = .ok (.ireturn, 1) := by decide +kernel
set_option maxRecDepth 20000 in
theorem ggX0_walksFrom_X0_neighbours : GoodIn wsX0_walksFrom wsX0_neighbours := goodIn_m (fun w hw => by
  revert w hw; unfold wsX0_neighbours
  exact am_cons (am_at in_wsX0_walksFrom_0 5 rfl) (am_app (am_cons (am_at in_wsX0_walksFrom_0 6 rfl) (am_cons (am_at in_wsX0_walksFrom_0 7 rfl) (am_cons (am_at in_wsX0_walksFrom_0 8 rfl) am_nil))) in_wsX0_walksFrom_1)) gw_wsX0_neighbours
set_option maxRecDepth 20000 in
theorem gX0_walksFrom_X0_neighbours : GoodIn wsX0_walksFrom (wsV RX0 51 RX0 yX0_neighbours wsX0_neighbours) := goodIn_app (goodIn_m (am_cons (am_at in_wsX0_walksFrom_0 1 rfl) (am_cons (am_at in_wsX0_walksFrom_0 2 rfl) (am_cons (am_at in_wsX0_walksFrom_0 3 rfl) (am_cons (am_at in_wsX0_walksFrom_0 4 rfl) am_nil)))) (by decide +kernel)) ggX0_walksFrom_X0_neighbours
theorem dX0_walksFrom_0 : decode cX0_walksFrom 0 = .ok (.aload_n 0, 1) := by decide +kernel
theorem dX0_walksFrom_1 : decode cX0_walksFrom 1 = .ok (.iload_n 1, 1) := by decide +kernel
theorem dX0_walksFrom_2 : decode cX0_walksFrom 2 = .ok (.iload_n 2, 1) := by decide +kernel
theorem dX0_walksFrom_3 : decode cX0_walksFrom 3 = .ok (.invokevirtual 51, 3) := by decide +kernel
theorem dX0_walksFrom_6 : decode cX0_walksFrom 6 = .ok (.aload_n 0, 1) := by decide +kernel
theorem dX0_walksFrom_7 : decode cX0_walksFrom 7 = .ok (.getfield 40, 3) := by decide +kernel
theorem dX0_walksFrom_10 : decode cX0_walksFrom 10 = .ok (.iconst (-1), 1) := by decide +kernel
theorem dX0_walksFrom_11 : decode cX0_walksFrom 11 = .ok (.ixor, 1) := by decide +kernel
theorem dX0_walksFrom_12 : decode cX0_walksFrom 12 = .ok (.iand, 1) := by decide +kernel
theorem dX0_walksFrom_13 : decode cX0_walksFrom 13 = .ok (.ireturn, 1) := by decide +kernel
set_option maxRecDepth 20000 in
theorem ggX0_fillExits_X0_walksFrom : GoodIn wsX0_fillExits wsX0_walksFrom := goodIn_m (fun w hw => by
  revert w hw; unfold wsX0_walksFrom
  exact am_cons (am_at in_wsX0_fillExits_0 5 rfl) (am_app (am_cons (am_at in_wsX0_fillExits_0 6 rfl) (am_cons (am_at in_wsX0_fillExits_0 7 rfl) (am_cons (am_at in_wsX0_fillExits_0 8 rfl) (am_cons (am_at in_wsX0_fillExits_0 9 rfl) (am_cons (am_at in_wsX0_fillExits_0 4 rfl) (am_cons (am_at in_wsX0_fillExits_0 10 rfl) (am_cons (am_at in_wsX0_fillExits_0 11 rfl) (am_cons (am_at in_wsX0_fillExits_0 12 rfl) (am_cons (am_at in_wsX0_fillExits_0 13 rfl) am_nil))))))))) in_wsX0_fillExits_1)) gw_wsX0_walksFrom
set_option maxRecDepth 20000 in
theorem gX0_fillExits_X0_walksFrom : GoodIn wsX0_fillExits (wsV RX0 55 RX0 yX0_walksFrom wsX0_walksFrom) := goodIn_app (goodIn_m (am_cons (am_at in_wsX0_fillExits_0 1 rfl) (am_cons (am_at in_wsX0_fillExits_0 2 rfl) (am_cons (am_at in_wsX0_fillExits_0 3 rfl) (am_cons (am_at in_wsX0_fillExits_0 4 rfl) am_nil)))) (by decide +kernel)) ggX0_fillExits_X0_walksFrom
theorem dX0_fillExits_0 : decode cX0_fillExits 0 = .ok (.iconst 0, 1) := by decide +kernel
theorem dX0_fillExits_1 : decode cX0_fillExits 1 = .ok (.istore_n 3, 1) := by decide +kernel
theorem dX0_fillExits_2 : decode cX0_fillExits 2 = .ok (.iload_n 3, 1) := by decide +kernel
theorem dX0_fillExits_3 : decode cX0_fillExits 3 = .ok (.aload_n 1, 1) := by decide +kernel
theorem dX0_fillExits_4 : decode cX0_fillExits 4 = .ok (.arraylength, 1) := by decide +kernel
theorem dX0_fillExits_5 : decode cX0_fillExits 5 = .ok (.if_icmp .ge 30, 3) := by decide +kernel
theorem dX0_fillExits_8 : decode cX0_fillExits 8 = .ok (.aload_n 1, 1) := by decide +kernel
theorem dX0_fillExits_9 : decode cX0_fillExits 9 = .ok (.iload_n 3, 1) := by decide +kernel
theorem dX0_fillExits_10 : decode cX0_fillExits 10 = .ok (.iload_n 3, 1) := by decide +kernel
theorem dX0_fillExits_11 : decode cX0_fillExits 11 = .ok (.aload_n 0, 1) := by decide +kernel
theorem dX0_fillExits_12 : decode cX0_fillExits 12 = .ok (.getfield 34, 3) := by decide +kernel
theorem dX0_fillExits_15 : decode cX0_fillExits 15 = .ok (.if_icmp .ge 12, 3) := by decide +kernel
theorem dX0_fillExits_18 : decode cX0_fillExits 18 = .ok (.aload_n 0, 1) := by decide +kernel
theorem dX0_fillExits_19 : decode cX0_fillExits 19 = .ok (.iload_n 3, 1) := by decide +kernel
theorem dX0_fillExits_20 : decode cX0_fillExits 20 = .ok (.iload_n 2, 1) := by decide +kernel
theorem dX0_fillExits_21 : decode cX0_fillExits 21 = .ok (.invokevirtual 55, 3) := by decide +kernel
theorem dX0_fillExits_24 : decode cX0_fillExits 24 = .ok (.goto 4, 3) := by decide +kernel
theorem dX0_fillExits_27 : decode cX0_fillExits 27 = .ok (.iconst 0, 1) := by decide +kernel
theorem dX0_fillExits_28 : decode cX0_fillExits 28 = .ok (.iastore, 1) := by decide +kernel
theorem dX0_fillExits_29 : decode cX0_fillExits 29 = .ok (.iinc 3 1, 3) := by decide +kernel
theorem dX0_fillExits_32 : decode cX0_fillExits 32 = .ok (.goto (-30), 3) := by decide +kernel
theorem dX0_fillExits_35 : decode cX0_fillExits 35 = .ok (.return_, 1) := by decide +kernel
theorem dX1_init_0 : decode cX1_init 0 = .ok (.aload_n 0, 1) := by decide +kernel
theorem dX1_init_1 : decode cX1_init 1 = .ok (.invokespecial 1, 3) := by decide +kernel
theorem dX1_init_4 : decode cX1_init 4 = .ok (.return_, 1) := by decide +kernel
theorem dX1_clear_0 : decode cX1_clear 0 = .ok (.aload_n 0, 1) := by decide +kernel
theorem dX1_clear_1 : decode cX1_clear 1 = .ok (.iconst 0, 1) := by decide +kernel
theorem dX1_clear_2 : decode cX1_clear 2 = .ok (.putfield 7, 3) := by decide +kernel
theorem dX1_clear_5 : decode cX1_clear 5 = .ok (.aload_n 0, 1) := by decide +kernel
theorem dX1_clear_6 : decode cX1_clear 6 = .ok (.iconst 0, 1) := by decide +kernel
theorem dX1_clear_7 : decode cX1_clear 7 = .ok (.putfield 13, 3) := by decide +kernel
theorem dX1_clear_10 : decode cX1_clear 10 = .ok (.aload_n 0, 1) := by decide +kernel
theorem dX1_clear_11 : decode cX1_clear 11 = .ok (.iconst 0, 1) := by decide +kernel
theorem dX1_clear_12 : decode cX1_clear 12 = .ok (.putfield 16, 3) := by decide +kernel
theorem dX1_clear_15 : decode cX1_clear 15 = .ok (.aload_n 0, 1) := by decide +kernel
theorem dX1_clear_16 : decode cX1_clear 16 = .ok (.iconst 0, 1) := by decide +kernel
theorem dX1_clear_17 : decode cX1_clear 17 = .ok (.putfield 19, 3) := by decide +kernel
theorem dX1_clear_20 : decode cX1_clear 20 = .ok (.aload_n 0, 1) := by decide +kernel
theorem dX1_clear_21 : decode cX1_clear 21 = .ok (.iconst 0, 1) := by decide +kernel
theorem dX1_clear_22 : decode cX1_clear 22 = .ok (.putfield 22, 3) := by decide +kernel
theorem dX1_clear_25 : decode cX1_clear 25 = .ok (.aload_n 0, 1) := by decide +kernel
theorem dX1_clear_26 : decode cX1_clear 26 = .ok (.iconst 0, 1) := by decide +kernel
theorem dX1_clear_27 : decode cX1_clear 27 = .ok (.putfield 25, 3) := by decide +kernel
theorem dX1_clear_30 : decode cX1_clear 30 = .ok (.aload_n 0, 1) := by decide +kernel
theorem dX1_clear_31 : decode cX1_clear 31 = .ok (.iconst 0, 1) := by decide +kernel
theorem dX1_clear_32 : decode cX1_clear 32 = .ok (.putfield 28, 3) := by decide +kernel
theorem dX1_clear_35 : decode cX1_clear 35 = .ok (.return_, 1) := by decide +kernel
theorem dX1_copy_0 : decode cX1_copy 0 = .ok (.aload_n 0, 1) := by decide +kernel
theorem dX1_copy_1 : decode cX1_copy 1 = .ok (.aload_n 1, 1) := by decide +kernel
theorem dX1_copy_2 : decode cX1_copy 2 = .ok (.getfield 7, 3) := by decide +kernel
theorem dX1_copy_5 : decode cX1_copy 5 = .ok (.putfield 7, 3) := by decide +kernel
theorem dX1_copy_8 : decode cX1_copy 8 = .ok (.aload_n 0, 1) := by decide +kernel
theorem dX1_copy_9 : decode cX1_copy 9 = .ok (.aload_n 1, 1) := by decide +kernel
theorem dX1_copy_10 : decode cX1_copy 10 = .ok (.getfield 13, 3) := by decide +kernel
theorem dX1_copy_13 : decode cX1_copy 13 = .ok (.putfield 13, 3) := by decide +kernel
theorem dX1_copy_16 : decode cX1_copy 16 = .ok (.aload_n 0, 1) := by decide +kernel
theorem dX1_copy_17 : decode cX1_copy 17 = .ok (.aload_n 1, 1) := by decide +kernel
theorem dX1_copy_18 : decode cX1_copy 18 = .ok (.getfield 16, 3) := by decide +kernel
theorem dX1_copy_21 : decode cX1_copy 21 = .ok (.putfield 16, 3) := by decide +kernel
theorem dX1_copy_24 : decode cX1_copy 24 = .ok (.aload_n 0, 1) := by decide +kernel
theorem dX1_copy_25 : decode cX1_copy 25 = .ok (.aload_n 1, 1) := by decide +kernel
theorem dX1_copy_26 : decode cX1_copy 26 = .ok (.getfield 19, 3) := by decide +kernel
theorem dX1_copy_29 : decode cX1_copy 29 = .ok (.putfield 19, 3) := by decide +kernel
theorem dX1_copy_32 : decode cX1_copy 32 = .ok (.aload_n 0, 1) := by decide +kernel
theorem dX1_copy_33 : decode cX1_copy 33 = .ok (.aload_n 1, 1) := by decide +kernel
theorem dX1_copy_34 : decode cX1_copy 34 = .ok (.getfield 22, 3) := by decide +kernel
theorem dX1_copy_37 : decode cX1_copy 37 = .ok (.putfield 22, 3) := by decide +kernel
theorem dX1_copy_40 : decode cX1_copy 40 = .ok (.aload_n 0, 1) := by decide +kernel
theorem dX1_copy_41 : decode cX1_copy 41 = .ok (.aload_n 1, 1) := by decide +kernel
theorem dX1_copy_42 : decode cX1_copy 42 = .ok (.getfield 25, 3) := by decide +kernel
theorem dX1_copy_45 : decode cX1_copy 45 = .ok (.putfield 25, 3) := by decide +kernel
theorem dX1_copy_48 : decode cX1_copy 48 = .ok (.aload_n 0, 1) := by decide +kernel
theorem dX1_copy_49 : decode cX1_copy 49 = .ok (.aload_n 1, 1) := by decide +kernel
theorem dX1_copy_50 : decode cX1_copy 50 = .ok (.getfield 28, 3) := by decide +kernel
theorem dX1_copy_53 : decode cX1_copy 53 = .ok (.putfield 28, 3) := by decide +kernel
theorem dX1_copy_56 : decode cX1_copy 56 = .ok (.return_, 1) := by decide +kernel
theorem dX1_mayStay_0 : decode cX1_mayStay 0 = .ok (.aload_n 0, 1) := by decide +kernel
theorem dX1_mayStay_1 : decode cX1_mayStay 1 = .ok (.getfield 16, 3) := by decide +kernel
theorem dX1_mayStay_4 : decode cX1_mayStay 4 = .ok (.aload_n 1, 1) := by decide +kernel
theorem dX1_mayStay_5 : decode cX1_mayStay 5 = .ok (.getfield 32, 3) := by decide +kernel
theorem dX1_mayStay_8 : decode cX1_mayStay 8 = .ok (.if_icmp .ge 7, 3) := by decide +kernel
theorem dX1_mayStay_11 : decode cX1_mayStay 11 = .ok (.iconst 1, 1) := by decide +kernel
theorem dX1_mayStay_12 : decode cX1_mayStay 12 = .ok (.goto 4, 3) := by decide +kernel
theorem dX1_mayStay_15 : decode cX1_mayStay 15 = .ok (.iconst 0, 1) := by decide +kernel
theorem dX1_mayStay_16 : decode cX1_mayStay 16 = .ok (.ireturn, 1) := by decide +kernel
set_option maxRecDepth 20000 in
theorem ggX1_walks_X0_walksFrom : GoodIn wsX1_walks wsX0_walksFrom := goodIn_m (fun w hw => by
  revert w hw; unfold wsX0_walksFrom
  exact am_cons (am_at in_wsX1_walks_0 6 rfl) (am_app (am_cons (am_at in_wsX1_walks_0 7 rfl) (am_cons (am_at in_wsX1_walks_0 8 rfl) (am_cons (am_at in_wsX1_walks_0 9 rfl) (am_cons (am_at in_wsX1_walks_0 10 rfl) (am_cons (am_at in_wsX1_walks_0 5 rfl) (am_cons (am_at in_wsX1_walks_0 11 rfl) (am_cons (am_at in_wsX1_walks_0 12 rfl) (am_cons (am_at in_wsX1_walks_0 13 rfl) (am_cons (am_at in_wsX1_walks_0 14 rfl) am_nil))))))))) in_wsX1_walks_2)) gw_wsX0_walksFrom
set_option maxRecDepth 20000 in
theorem gX1_walks_X0_walksFrom : GoodIn wsX1_walks (wsV RX1 37 RX0 yX0_walksFrom wsX0_walksFrom) := goodIn_app (goodIn_m (am_cons (am_at in_wsX1_walks_0 2 rfl) (am_cons (am_at in_wsX1_walks_0 3 rfl) (am_cons (am_at in_wsX1_walks_0 4 rfl) (am_cons (am_at in_wsX1_walks_0 5 rfl) am_nil)))) (by decide +kernel)) ggX1_walks_X0_walksFrom
theorem dX1_walks_0 : decode cX1_walks 0 = .ok (.aload_n 1, 1) := by decide +kernel
theorem dX1_walks_1 : decode cX1_walks 1 = .ok (.aload_n 0, 1) := by decide +kernel
theorem dX1_walks_2 : decode cX1_walks 2 = .ok (.getfield 7, 3) := by decide +kernel
theorem dX1_walks_5 : decode cX1_walks 5 = .ok (.aload_n 0, 1) := by decide +kernel
theorem dX1_walks_6 : decode cX1_walks 6 = .ok (.getfield 25, 3) := by decide +kernel
theorem dX1_walks_9 : decode cX1_walks 9 = .ok (.invokevirtual 37, 3) := by decide +kernel
theorem dX1_walks_12 : decode cX1_walks 12 = .ok (.ireturn, 1) := by decide +kernel
set_option maxRecDepth 20000 in
theorem ggX1_stayMonth_X0_gainIn : GoodIn wsX1_stayMonth wsX0_gainIn := goodIn_m (fun w hw => by
  revert w hw; unfold wsX0_gainIn
  exact am_cons (am_at in_wsX1_stayMonth_0 9 rfl) (am_app (am_cons (am_at in_wsX1_stayMonth_0 10 rfl) (am_cons (am_at in_wsX1_stayMonth_0 11 rfl) (am_cons (am_at in_wsX1_stayMonth_0 12 rfl) (am_cons (am_at in_wsX1_stayMonth_0 13 rfl) (am_cons (am_at in_wsX1_stayMonth_0 8 rfl) (am_cons (am_at in_wsX1_stayMonth_0 14 rfl) (am_cons (am_at in_wsX1_stayMonth_0 15 rfl) (am_cons (am_at in_wsX1_stayMonth_0 16 rfl) (am_cons (am_at in_wsX1_stayMonth_0 17 rfl) (am_cons (am_at in_wsX1_stayMonth_0 18 rfl) (am_cons (am_at in_wsX1_stayMonth_0 19 rfl) (am_cons (am_at in_wsX1_stayMonth_0 20 rfl) (am_cons (am_at in_wsX1_stayMonth_0 21 rfl) am_nil))))))))))))) in_wsX1_stayMonth_2)) gw_wsX0_gainIn
set_option maxRecDepth 20000 in
theorem gX1_stayMonth_X0_gainIn : GoodIn wsX1_stayMonth (wsV RX1 41 RX0 yX0_gainIn wsX0_gainIn) := goodIn_app (goodIn_m (am_cons (am_at in_wsX1_stayMonth_0 5 rfl) (am_cons (am_at in_wsX1_stayMonth_0 6 rfl) (am_cons (am_at in_wsX1_stayMonth_0 7 rfl) (am_cons (am_at in_wsX1_stayMonth_0 8 rfl) am_nil)))) (by decide +kernel)) ggX1_stayMonth_X0_gainIn
set_option maxRecDepth 20000 in
theorem ggX1_stayMonth_X0_worksIn : GoodIn wsX1_stayMonth wsX0_worksIn := goodIn_m (fun w hw => by
  revert w hw; unfold wsX0_worksIn
  exact am_cons (am_at in_wsX1_stayMonth_0 14 rfl) (am_app (am_cons (am_at in_wsX1_stayMonth_0 15 rfl) (am_cons (am_at in_wsX1_stayMonth_0 16 rfl) (am_cons (am_at in_wsX1_stayMonth_0 17 rfl) (am_cons (am_at in_wsX1_stayMonth_0 18 rfl) (am_cons (am_at in_wsX1_stayMonth_0 19 rfl) (am_cons (am_at in_wsX1_stayMonth_0 8 rfl) (am_cons (am_at in_wsX1_stayMonth_0 20 rfl) (am_cons (am_at in_wsX1_stayMonth_0 21 rfl) am_nil)))))))) in_wsX1_stayMonth_2)) gw_wsX0_worksIn
set_option maxRecDepth 20000 in
theorem gX1_stayMonth_X0_worksIn : GoodIn wsX1_stayMonth (wsV RX1 44 RX0 yX0_worksIn wsX0_worksIn) := goodIn_app (goodIn_m (am_cons (am_at in_wsX1_stayMonth_0 22 rfl) (am_cons (am_at in_wsX1_stayMonth_0 12 rfl) (am_cons (am_at in_wsX1_stayMonth_0 13 rfl) (am_cons (am_at in_wsX1_stayMonth_0 8 rfl) am_nil)))) (by decide +kernel)) ggX1_stayMonth_X0_worksIn
theorem dX1_stayMonth_0 : decode cX1_stayMonth 0 = .ok (.aload_n 1, 1) := by decide +kernel
theorem dX1_stayMonth_1 : decode cX1_stayMonth 1 = .ok (.aload_n 0, 1) := by decide +kernel
theorem dX1_stayMonth_2 : decode cX1_stayMonth 2 = .ok (.getfield 7, 3) := by decide +kernel
theorem dX1_stayMonth_5 : decode cX1_stayMonth 5 = .ok (.aload_n 0, 1) := by decide +kernel
theorem dX1_stayMonth_6 : decode cX1_stayMonth 6 = .ok (.getfield 13, 3) := by decide +kernel
theorem dX1_stayMonth_9 : decode cX1_stayMonth 9 = .ok (.invokevirtual 41, 3) := by decide +kernel
theorem dX1_stayMonth_12 : decode cX1_stayMonth 12 = .ok (.istore_n 2, 1) := by decide +kernel
theorem dX1_stayMonth_13 : decode cX1_stayMonth 13 = .ok (.aload_n 1, 1) := by decide +kernel
theorem dX1_stayMonth_14 : decode cX1_stayMonth 14 = .ok (.aload_n 0, 1) := by decide +kernel
theorem dX1_stayMonth_15 : decode cX1_stayMonth 15 = .ok (.getfield 7, 3) := by decide +kernel
theorem dX1_stayMonth_18 : decode cX1_stayMonth 18 = .ok (.aload_n 0, 1) := by decide +kernel
theorem dX1_stayMonth_19 : decode cX1_stayMonth 19 = .ok (.getfield 13, 3) := by decide +kernel
theorem dX1_stayMonth_22 : decode cX1_stayMonth 22 = .ok (.invokevirtual 44, 3) := by decide +kernel
theorem dX1_stayMonth_25 : decode cX1_stayMonth 25 = .ok (.ifCond .eq 18, 3) := by decide +kernel
theorem dX1_stayMonth_28 : decode cX1_stayMonth 28 = .ok (.aload_n 0, 1) := by decide +kernel
theorem dX1_stayMonth_29 : decode cX1_stayMonth 29 = .ok (.dup, 1) := by decide +kernel
theorem dX1_stayMonth_30 : decode cX1_stayMonth 30 = .ok (.getfield 22, 3) := by decide +kernel
theorem dX1_stayMonth_33 : decode cX1_stayMonth 33 = .ok (.iconst 1, 1) := by decide +kernel
theorem dX1_stayMonth_34 : decode cX1_stayMonth 34 = .ok (.aload_n 0, 1) := by decide +kernel
theorem dX1_stayMonth_35 : decode cX1_stayMonth 35 = .ok (.getfield 7, 3) := by decide +kernel
theorem dX1_stayMonth_38 : decode cX1_stayMonth 38 = .ok (.ishl, 1) := by decide +kernel
theorem dX1_stayMonth_39 : decode cX1_stayMonth 39 = .ok (.ior, 1) := by decide +kernel
theorem dX1_stayMonth_40 : decode cX1_stayMonth 40 = .ok (.putfield 22, 3) := by decide +kernel
theorem dX1_stayMonth_43 : decode cX1_stayMonth 43 = .ok (.aload_n 0, 1) := by decide +kernel
theorem dX1_stayMonth_44 : decode cX1_stayMonth 44 = .ok (.dup, 1) := by decide +kernel
theorem dX1_stayMonth_45 : decode cX1_stayMonth 45 = .ok (.getfield 19, 3) := by decide +kernel
theorem dX1_stayMonth_48 : decode cX1_stayMonth 48 = .ok (.iload_n 2, 1) := by decide +kernel
theorem dX1_stayMonth_49 : decode cX1_stayMonth 49 = .ok (.iadd, 1) := by decide +kernel
theorem dX1_stayMonth_50 : decode cX1_stayMonth 50 = .ok (.putfield 19, 3) := by decide +kernel
theorem dX1_stayMonth_53 : decode cX1_stayMonth 53 = .ok (.aload_n 0, 1) := by decide +kernel
theorem dX1_stayMonth_54 : decode cX1_stayMonth 54 = .ok (.dup, 1) := by decide +kernel
theorem dX1_stayMonth_55 : decode cX1_stayMonth 55 = .ok (.getfield 16, 3) := by decide +kernel
theorem dX1_stayMonth_58 : decode cX1_stayMonth 58 = .ok (.iconst 1, 1) := by decide +kernel
theorem dX1_stayMonth_59 : decode cX1_stayMonth 59 = .ok (.iadd, 1) := by decide +kernel
theorem dX1_stayMonth_60 : decode cX1_stayMonth 60 = .ok (.putfield 16, 3) := by decide +kernel
theorem dX1_stayMonth_63 : decode cX1_stayMonth 63 = .ok (.aload_n 0, 1) := by decide +kernel
theorem dX1_stayMonth_64 : decode cX1_stayMonth 64 = .ok (.dup, 1) := by decide +kernel
theorem dX1_stayMonth_65 : decode cX1_stayMonth 65 = .ok (.getfield 13, 3) := by decide +kernel
theorem dX1_stayMonth_68 : decode cX1_stayMonth 68 = .ok (.iconst 1, 1) := by decide +kernel
theorem dX1_stayMonth_69 : decode cX1_stayMonth 69 = .ok (.iadd, 1) := by decide +kernel
theorem dX1_stayMonth_70 : decode cX1_stayMonth 70 = .ok (.putfield 13, 3) := by decide +kernel
theorem dX1_stayMonth_73 : decode cX1_stayMonth 73 = .ok (.iload_n 2, 1) := by decide +kernel
theorem dX1_stayMonth_74 : decode cX1_stayMonth 74 = .ok (.ireturn, 1) := by decide +kernel
theorem dX1_walkMonth_0 : decode cX1_walkMonth 0 = .ok (.aload_n 0, 1) := by decide +kernel
theorem dX1_walkMonth_1 : decode cX1_walkMonth 1 = .ok (.iload_n 1, 1) := by decide +kernel
theorem dX1_walkMonth_2 : decode cX1_walkMonth 2 = .ok (.putfield 7, 3) := by decide +kernel
theorem dX1_walkMonth_5 : decode cX1_walkMonth 5 = .ok (.aload_n 0, 1) := by decide +kernel
theorem dX1_walkMonth_6 : decode cX1_walkMonth 6 = .ok (.iconst 0, 1) := by decide +kernel
theorem dX1_walkMonth_7 : decode cX1_walkMonth 7 = .ok (.putfield 16, 3) := by decide +kernel
theorem dX1_walkMonth_10 : decode cX1_walkMonth 10 = .ok (.aload_n 0, 1) := by decide +kernel
theorem dX1_walkMonth_11 : decode cX1_walkMonth 11 = .ok (.dup, 1) := by decide +kernel
theorem dX1_walkMonth_12 : decode cX1_walkMonth 12 = .ok (.getfield 13, 3) := by decide +kernel
theorem dX1_walkMonth_15 : decode cX1_walkMonth 15 = .ok (.iconst 1, 1) := by decide +kernel
theorem dX1_walkMonth_16 : decode cX1_walkMonth 16 = .ok (.iadd, 1) := by decide +kernel
theorem dX1_walkMonth_17 : decode cX1_walkMonth 17 = .ok (.putfield 13, 3) := by decide +kernel
theorem dX1_walkMonth_20 : decode cX1_walkMonth 20 = .ok (.return_, 1) := by decide +kernel
set_option maxRecDepth 20000 in
theorem ggX2_init_X1_init : GoodIn wsX2_init wsX1_init := goodIn_m (fun w hw => by
  revert w hw; unfold wsX1_init
  exact am_cons (am_at in_wsX2_init_0 8 rfl) (am_cons (am_at in_wsX2_init_0 9 rfl) (am_cons (am_at in_wsX2_init_0 1 rfl) (am_cons (am_at in_wsX2_init_0 2 rfl) am_nil)))) gw_wsX1_init
set_option maxRecDepth 20000 in
theorem gX2_init_X1_init_n17 : GoodIn wsX2_init (wsX1_init) := ggX2_init_X1_init
theorem dX2_init_0 : decode cX2_init 0 = .ok (.aload_n 0, 1) := by decide +kernel
theorem dX2_init_1 : decode cX2_init 1 = .ok (.invokespecial 3, 3) := by decide +kernel
theorem dX2_init_4 : decode cX2_init 4 = .ok (.aload_n 0, 1) := by decide +kernel
theorem dX2_init_5 : decode cX2_init 5 = .ok (.bipush 20, 2) := by decide +kernel
theorem dX2_init_7 : decode cX2_init 7 = .ok (.anewarray 9, 3) := by decide +kernel
theorem dX2_init_10 : decode cX2_init 10 = .ok (.putfield 11, 3) := by decide +kernel
theorem dX2_init_13 : decode cX2_init 13 = .ok (.iconst 0, 1) := by decide +kernel
theorem dX2_init_14 : decode cX2_init 14 = .ok (.istore_n 1, 1) := by decide +kernel
theorem dX2_init_15 : decode cX2_init 15 = .ok (.iload_n 1, 1) := by decide +kernel
theorem dX2_init_16 : decode cX2_init 16 = .ok (.bipush 20, 2) := by decide +kernel
theorem dX2_init_18 : decode cX2_init 18 = .ok (.if_icmp .ge 22, 3) := by decide +kernel
theorem dX2_init_21 : decode cX2_init 21 = .ok (.aload_n 0, 1) := by decide +kernel
theorem dX2_init_22 : decode cX2_init 22 = .ok (.getfield 11, 3) := by decide +kernel
theorem dX2_init_25 : decode cX2_init 25 = .ok (.iload_n 1, 1) := by decide +kernel
theorem dX2_init_26 : decode cX2_init 26 = .ok (.new 9, 3) := by decide +kernel
theorem dX2_init_29 : decode cX2_init 29 = .ok (.dup, 1) := by decide +kernel
theorem dX2_init_30 : decode cX2_init 30 = .ok (.invokespecial 17, 3) := by decide +kernel
theorem dX2_init_33 : decode cX2_init 33 = .ok (.aastore, 1) := by decide +kernel
theorem dX2_init_34 : decode cX2_init 34 = .ok (.iinc 1 1, 3) := by decide +kernel
theorem dX2_init_37 : decode cX2_init 37 = .ok (.goto (-22), 3) := by decide +kernel
theorem dX2_init_40 : decode cX2_init 40 = .ok (.return_, 1) := by decide +kernel
set_option maxRecDepth 20000 in
theorem ggX2_push_X2_loseOldest : GoodIn wsX2_push wsX2_loseOldest := goodIn_m (fun w hw => by
  revert w hw; unfold wsX2_loseOldest
  exact am_cons (am_at in_wsX2_push_0 6 rfl) (am_app (am_cons (am_at in_wsX2_push_0 1 rfl) (am_cons (am_at in_wsX2_push_0 0 rfl) am_nil)) in_wsX2_push_1)) gw_wsX2_loseOldest
set_option maxRecDepth 20000 in
theorem gX2_push_X2_loseOldest : GoodIn wsX2_push (wsV RX2 22 RX2 yX2_loseOldest wsX2_loseOldest) := goodIn_app (goodIn_m (am_cons (am_at in_wsX2_push_0 2 rfl) (am_cons (am_at in_wsX2_push_0 3 rfl) (am_cons (am_at in_wsX2_push_0 4 rfl) (am_cons (am_at in_wsX2_push_0 5 rfl) am_nil)))) (by decide +kernel)) ggX2_push_X2_loseOldest
set_option maxRecDepth 20000 in
theorem ggX2_push_X1_copy : GoodIn wsX2_push wsX1_copy := goodIn_m (fun w hw => by
  revert w hw; unfold wsX1_copy
  exact am_cons (am_at in_wsX2_push_0 11 rfl) (am_app (am_cons (am_at in_wsX2_push_0 12 rfl) (am_cons (am_at in_wsX2_push_0 13 rfl) (am_cons (am_at in_wsX2_push_0 14 rfl) (am_cons (am_at in_wsX2_push_0 15 rfl) (am_cons (am_at in_wsX2_push_0 16 rfl) (am_cons (am_at in_wsX2_push_0 17 rfl) (am_cons (am_at in_wsX2_push_0 18 rfl) am_nil))))))) in_wsX2_push_2)) gw_wsX1_copy
set_option maxRecDepth 20000 in
theorem gX2_push_X1_copy : GoodIn wsX2_push (wsV RX2 25 RX1 yX1_copy wsX1_copy) := goodIn_app (goodIn_m (am_cons (am_at in_wsX2_push_0 7 rfl) (am_cons (am_at in_wsX2_push_0 8 rfl) (am_cons (am_at in_wsX2_push_0 9 rfl) (am_cons (am_at in_wsX2_push_0 10 rfl) am_nil)))) (by decide +kernel)) ggX2_push_X1_copy
theorem dX2_push_0 : decode cX2_push 0 = .ok (.aload_n 0, 1) := by decide +kernel
theorem dX2_push_1 : decode cX2_push 1 = .ok (.getfield 18, 3) := by decide +kernel
theorem dX2_push_4 : decode cX2_push 4 = .ok (.bipush 20, 2) := by decide +kernel
theorem dX2_push_6 : decode cX2_push 6 = .ok (.if_icmp .lt 7, 3) := by decide +kernel
theorem dX2_push_9 : decode cX2_push 9 = .ok (.aload_n 0, 1) := by decide +kernel
theorem dX2_push_10 : decode cX2_push 10 = .ok (.invokevirtual 22, 3) := by decide +kernel
theorem dX2_push_13 : decode cX2_push 13 = .ok (.aload_n 0, 1) := by decide +kernel
theorem dX2_push_14 : decode cX2_push 14 = .ok (.getfield 11, 3) := by decide +kernel
theorem dX2_push_17 : decode cX2_push 17 = .ok (.aload_n 0, 1) := by decide +kernel
theorem dX2_push_18 : decode cX2_push 18 = .ok (.getfield 18, 3) := by decide +kernel
theorem dX2_push_21 : decode cX2_push 21 = .ok (.aaload, 1) := by decide +kernel
theorem dX2_push_22 : decode cX2_push 22 = .ok (.aload_n 1, 1) := by decide +kernel
theorem dX2_push_23 : decode cX2_push 23 = .ok (.invokevirtual 25, 3) := by decide +kernel
theorem dX2_push_26 : decode cX2_push 26 = .ok (.aload_n 0, 1) := by decide +kernel
theorem dX2_push_27 : decode cX2_push 27 = .ok (.dup, 1) := by decide +kernel
theorem dX2_push_28 : decode cX2_push 28 = .ok (.getfield 18, 3) := by decide +kernel
theorem dX2_push_31 : decode cX2_push 31 = .ok (.iconst 1, 1) := by decide +kernel
theorem dX2_push_32 : decode cX2_push 32 = .ok (.iadd, 1) := by decide +kernel
theorem dX2_push_33 : decode cX2_push 33 = .ok (.putfield 18, 3) := by decide +kernel
theorem dX2_push_36 : decode cX2_push 36 = .ok (.return_, 1) := by decide +kernel
set_option maxRecDepth 20000 in
theorem ggX2_pop_X1_copy : GoodIn wsX2_pop wsX1_copy := goodIn_m (fun w hw => by
  revert w hw; unfold wsX1_copy
  exact am_cons (am_at in_wsX2_pop_0 6 rfl) (am_app (am_cons (am_at in_wsX2_pop_0 7 rfl) (am_cons (am_at in_wsX2_pop_0 8 rfl) (am_cons (am_at in_wsX2_pop_0 9 rfl) (am_cons (am_at in_wsX2_pop_0 10 rfl) (am_cons (am_at in_wsX2_pop_0 11 rfl) (am_cons (am_at in_wsX2_pop_0 12 rfl) (am_cons (am_at in_wsX2_pop_0 13 rfl) am_nil))))))) in_wsX2_pop_2)) gw_wsX1_copy
set_option maxRecDepth 20000 in
theorem gX2_pop_X1_copy : GoodIn wsX2_pop (wsV RX2 25 RX1 yX1_copy wsX1_copy) := goodIn_app (goodIn_m (am_cons (am_at in_wsX2_pop_0 2 rfl) (am_cons (am_at in_wsX2_pop_0 3 rfl) (am_cons (am_at in_wsX2_pop_0 4 rfl) (am_cons (am_at in_wsX2_pop_0 5 rfl) am_nil)))) (by decide +kernel)) ggX2_pop_X1_copy
theorem dX2_pop_0 : decode cX2_pop 0 = .ok (.aload_n 0, 1) := by decide +kernel
theorem dX2_pop_1 : decode cX2_pop 1 = .ok (.getfield 18, 3) := by decide +kernel
theorem dX2_pop_4 : decode cX2_pop 4 = .ok (.ifCond .le 26, 3) := by decide +kernel
theorem dX2_pop_7 : decode cX2_pop 7 = .ok (.aload_n 0, 1) := by decide +kernel
theorem dX2_pop_8 : decode cX2_pop 8 = .ok (.dup, 1) := by decide +kernel
theorem dX2_pop_9 : decode cX2_pop 9 = .ok (.getfield 18, 3) := by decide +kernel
theorem dX2_pop_12 : decode cX2_pop 12 = .ok (.iconst 1, 1) := by decide +kernel
theorem dX2_pop_13 : decode cX2_pop 13 = .ok (.isub, 1) := by decide +kernel
theorem dX2_pop_14 : decode cX2_pop 14 = .ok (.putfield 18, 3) := by decide +kernel
theorem dX2_pop_17 : decode cX2_pop 17 = .ok (.aload_n 1, 1) := by decide +kernel
theorem dX2_pop_18 : decode cX2_pop 18 = .ok (.aload_n 0, 1) := by decide +kernel
theorem dX2_pop_19 : decode cX2_pop 19 = .ok (.getfield 11, 3) := by decide +kernel
theorem dX2_pop_22 : decode cX2_pop 22 = .ok (.aload_n 0, 1) := by decide +kernel
theorem dX2_pop_23 : decode cX2_pop 23 = .ok (.getfield 18, 3) := by decide +kernel
theorem dX2_pop_26 : decode cX2_pop 26 = .ok (.aaload, 1) := by decide +kernel
theorem dX2_pop_27 : decode cX2_pop 27 = .ok (.invokevirtual 25, 3) := by decide +kernel
theorem dX2_pop_30 : decode cX2_pop 30 = .ok (.return_, 1) := by decide +kernel
theorem dX2_loseOldest_0 : decode cX2_loseOldest 0 = .ok (.aload_n 0, 1) := by decide +kernel
theorem dX2_loseOldest_1 : decode cX2_loseOldest 1 = .ok (.getfield 11, 3) := by decide +kernel
theorem dX2_loseOldest_4 : decode cX2_loseOldest 4 = .ok (.iconst 0, 1) := by decide +kernel
theorem dX2_loseOldest_5 : decode cX2_loseOldest 5 = .ok (.aaload, 1) := by decide +kernel
theorem dX2_loseOldest_6 : decode cX2_loseOldest 6 = .ok (.astore_n 1, 1) := by decide +kernel
theorem dX2_loseOldest_7 : decode cX2_loseOldest 7 = .ok (.iconst 1, 1) := by decide +kernel
theorem dX2_loseOldest_8 : decode cX2_loseOldest 8 = .ok (.istore_n 2, 1) := by decide +kernel
theorem dX2_loseOldest_9 : decode cX2_loseOldest 9 = .ok (.iload_n 2, 1) := by decide +kernel
theorem dX2_loseOldest_10 : decode cX2_loseOldest 10 = .ok (.bipush 20, 2) := by decide +kernel
theorem dX2_loseOldest_12 : decode cX2_loseOldest 12 = .ok (.if_icmp .ge 23, 3) := by decide +kernel
theorem dX2_loseOldest_15 : decode cX2_loseOldest 15 = .ok (.aload_n 0, 1) := by decide +kernel
theorem dX2_loseOldest_16 : decode cX2_loseOldest 16 = .ok (.getfield 11, 3) := by decide +kernel
theorem dX2_loseOldest_19 : decode cX2_loseOldest 19 = .ok (.iload_n 2, 1) := by decide +kernel
theorem dX2_loseOldest_20 : decode cX2_loseOldest 20 = .ok (.iconst 1, 1) := by decide +kernel
theorem dX2_loseOldest_21 : decode cX2_loseOldest 21 = .ok (.isub, 1) := by decide +kernel
theorem dX2_loseOldest_22 : decode cX2_loseOldest 22 = .ok (.aload_n 0, 1) := by decide +kernel
theorem dX2_loseOldest_23 : decode cX2_loseOldest 23 = .ok (.getfield 11, 3) := by decide +kernel
theorem dX2_loseOldest_26 : decode cX2_loseOldest 26 = .ok (.iload_n 2, 1) := by decide +kernel
theorem dX2_loseOldest_27 : decode cX2_loseOldest 27 = .ok (.aaload, 1) := by decide +kernel
theorem dX2_loseOldest_28 : decode cX2_loseOldest 28 = .ok (.aastore, 1) := by decide +kernel
theorem dX2_loseOldest_29 : decode cX2_loseOldest 29 = .ok (.iinc 2 1, 3) := by decide +kernel
theorem dX2_loseOldest_32 : decode cX2_loseOldest 32 = .ok (.goto (-23), 3) := by decide +kernel
theorem dX2_loseOldest_35 : decode cX2_loseOldest 35 = .ok (.aload_n 0, 1) := by decide +kernel
theorem dX2_loseOldest_36 : decode cX2_loseOldest 36 = .ok (.getfield 11, 3) := by decide +kernel
theorem dX2_loseOldest_39 : decode cX2_loseOldest 39 = .ok (.bipush 19, 2) := by decide +kernel
theorem dX2_loseOldest_41 : decode cX2_loseOldest 41 = .ok (.aload_n 1, 1) := by decide +kernel
theorem dX2_loseOldest_42 : decode cX2_loseOldest 42 = .ok (.aastore, 1) := by decide +kernel
theorem dX2_loseOldest_43 : decode cX2_loseOldest 43 = .ok (.aload_n 0, 1) := by decide +kernel
theorem dX2_loseOldest_44 : decode cX2_loseOldest 44 = .ok (.bipush 19, 2) := by decide +kernel
theorem dX2_loseOldest_46 : decode cX2_loseOldest 46 = .ok (.putfield 18, 3) := by decide +kernel
theorem dX2_loseOldest_49 : decode cX2_loseOldest 49 = .ok (.return_, 1) := by decide +kernel
theorem dX3_init_0 : decode cX3_init 0 = .ok (.aload_n 0, 1) := by decide +kernel
theorem dX3_init_1 : decode cX3_init 1 = .ok (.invokespecial 3, 3) := by decide +kernel
theorem dX3_init_4 : decode cX3_init 4 = .ok (.aload_n 0, 1) := by decide +kernel
theorem dX3_init_5 : decode cX3_init 5 = .ok (.sipush 1480, 3) := by decide +kernel
theorem dX3_init_8 : decode cX3_init 8 = .ok (.newarray .int, 2) := by decide +kernel
theorem dX3_init_10 : decode cX3_init 10 = .ok (.putfield 11, 3) := by decide +kernel
theorem dX3_init_13 : decode cX3_init 13 = .ok (.aload_n 0, 1) := by decide +kernel
theorem dX3_init_14 : decode cX3_init 14 = .ok (.iconst 5, 1) := by decide +kernel
theorem dX3_init_15 : decode cX3_init 15 = .ok (.newarray .int, 2) := by decide +kernel
theorem dX3_init_17 : decode cX3_init 17 = .ok (.putfield 15, 3) := by decide +kernel
theorem dX3_init_20 : decode cX3_init 20 = .ok (.aload_n 0, 1) := by decide +kernel
theorem dX3_init_21 : decode cX3_init 21 = .ok (.iconst 5, 1) := by decide +kernel
theorem dX3_init_22 : decode cX3_init 22 = .ok (.newarray .int, 2) := by decide +kernel
theorem dX3_init_24 : decode cX3_init 24 = .ok (.putfield 18, 3) := by decide +kernel
theorem dX3_init_27 : decode cX3_init 27 = .ok (.return_, 1) := by decide +kernel
set_option maxRecDepth 20000 in
theorem ggX3_fill_X3_fillTown : GoodIn wsX3_fill wsX3_fillTown := goodIn_m (fun w hw => by
  revert w hw; unfold wsX3_fillTown wsX3_fillTown_r1 wsX3_fillTown_r2
  exact am_cons (am_at in_wsX3_fill_0 6 rfl) (am_app (am_app (am_app (am_cons (am_at in_wsX3_fill_0 1 rfl) (am_cons (am_at in_wsX3_fill_0 7 rfl) (am_cons (am_at in_wsX3_fill_0 8 rfl) (am_cons (am_at in_wsX3_fill_0 9 rfl) (am_cons (am_at in_wsX3_fill_0 10 rfl) (am_cons (am_at in_wsX3_fill_0 11 rfl) (am_cons (am_at in_wsX3_fill_0 0 rfl) (am_cons (am_at in_wsX3_fill_0 12 rfl) (am_cons (am_at in_wsX3_fill_0 13 rfl) (am_cons (am_at in_wsX3_fill_0 14 rfl) (am_cons (am_at in_wsX3_fill_0 5 rfl) (am_cons (am_at in_wsX3_fill_0 15 rfl) (am_cons (am_at in_wsX3_fill_0 16 rfl) (am_cons (am_at in_wsX3_fill_0 17 rfl) (am_cons (am_at in_wsX3_fill_0 18 rfl) (am_cons (am_at in_wsX3_fill_0 19 rfl) (am_cons (am_at in_wsX3_fill_0 20 rfl) (am_cons (am_at in_wsX3_fill_0 21 rfl) (am_cons (am_at in_wsX3_fill_0 22 rfl) (am_cons (am_at in_wsX3_fill_0 23 rfl) (am_cons (am_at in_wsX3_fill_1 0 rfl) (am_cons (am_at in_wsX3_fill_1 1 rfl) (am_cons (am_at in_wsX3_fill_1 2 rfl) (am_cons (am_at in_wsX3_fill_1 3 rfl) am_nil)))))))))))))))))))))))) (am_cons (am_at in_wsX3_fill_1 4 rfl) (am_cons (am_at in_wsX3_fill_1 5 rfl) (am_cons (am_at in_wsX3_fill_1 6 rfl) (am_cons (am_at in_wsX3_fill_1 7 rfl) (am_cons (am_at in_wsX3_fill_1 8 rfl) am_nil)))))) in_wsX3_fill_3) in_wsX3_fill_2)) gw_wsX3_fillTown
set_option maxRecDepth 20000 in
theorem gX3_fill_X3_fillTown : GoodIn wsX3_fill (wsV RX3 27 RX3 yX3_fillTown wsX3_fillTown) := goodIn_app (goodIn_m (am_cons (am_at in_wsX3_fill_0 2 rfl) (am_cons (am_at in_wsX3_fill_0 3 rfl) (am_cons (am_at in_wsX3_fill_0 4 rfl) (am_cons (am_at in_wsX3_fill_0 5 rfl) am_nil)))) (by decide +kernel)) ggX3_fill_X3_fillTown
theorem dX3_fill_0 : decode cX3_fill 0 = .ok (.iconst 0, 1) := by decide +kernel
theorem dX3_fill_1 : decode cX3_fill 1 = .ok (.istore 5, 2) := by decide +kernel
theorem dX3_fill_3 : decode cX3_fill 3 = .ok (.iload 5, 2) := by decide +kernel
theorem dX3_fill_5 : decode cX3_fill 5 = .ok (.bipush 40, 2) := by decide +kernel
theorem dX3_fill_7 : decode cX3_fill 7 = .ok (.if_icmp .ge 23, 3) := by decide +kernel
theorem dX3_fill_10 : decode cX3_fill 10 = .ok (.aload_n 0, 1) := by decide +kernel
theorem dX3_fill_11 : decode cX3_fill 11 = .ok (.getfield 11, 3) := by decide +kernel
theorem dX3_fill_14 : decode cX3_fill 14 = .ok (.iload 4, 2) := by decide +kernel
theorem dX3_fill_16 : decode cX3_fill 16 = .ok (.bipush 40, 2) := by decide +kernel
theorem dX3_fill_18 : decode cX3_fill 18 = .ok (.imul, 1) := by decide +kernel
theorem dX3_fill_19 : decode cX3_fill 19 = .ok (.iload 5, 2) := by decide +kernel
theorem dX3_fill_21 : decode cX3_fill 21 = .ok (.iadd, 1) := by decide +kernel
theorem dX3_fill_22 : decode cX3_fill 22 = .ok (.iconst 0, 1) := by decide +kernel
theorem dX3_fill_23 : decode cX3_fill 23 = .ok (.iastore, 1) := by decide +kernel
theorem dX3_fill_24 : decode cX3_fill 24 = .ok (.iinc 5 1, 3) := by decide +kernel
theorem dX3_fill_27 : decode cX3_fill 27 = .ok (.goto (-24), 3) := by decide +kernel
theorem dX3_fill_30 : decode cX3_fill 30 = .ok (.iload 4, 2) := by decide +kernel
theorem dX3_fill_32 : decode cX3_fill 32 = .ok (.iconst 1, 1) := by decide +kernel
theorem dX3_fill_33 : decode cX3_fill 33 = .ok (.isub, 1) := by decide +kernel
theorem dX3_fill_34 : decode cX3_fill 34 = .ok (.istore 5, 2) := by decide +kernel
theorem dX3_fill_36 : decode cX3_fill 36 = .ok (.iload 5, 2) := by decide +kernel
theorem dX3_fill_38 : decode cX3_fill 38 = .ok (.ifCond .lt 41, 3) := by decide +kernel
theorem dX3_fill_41 : decode cX3_fill 41 = .ok (.iconst 0, 1) := by decide +kernel
theorem dX3_fill_42 : decode cX3_fill 42 = .ok (.istore 6, 2) := by decide +kernel
theorem dX3_fill_44 : decode cX3_fill 44 = .ok (.iload 6, 2) := by decide +kernel
theorem dX3_fill_46 : decode cX3_fill 46 = .ok (.aload_n 1, 1) := by decide +kernel
theorem dX3_fill_47 : decode cX3_fill 47 = .ok (.getfield 21, 3) := by decide +kernel
theorem dX3_fill_50 : decode cX3_fill 50 = .ok (.if_icmp .ge 23, 3) := by decide +kernel
theorem dX3_fill_53 : decode cX3_fill 53 = .ok (.aload_n 0, 1) := by decide +kernel
theorem dX3_fill_54 : decode cX3_fill 54 = .ok (.aload_n 1, 1) := by decide +kernel
theorem dX3_fill_55 : decode cX3_fill 55 = .ok (.aload_n 2, 1) := by decide +kernel
theorem dX3_fill_56 : decode cX3_fill 56 = .ok (.iload 6, 2) := by decide +kernel
theorem dX3_fill_58 : decode cX3_fill 58 = .ok (.iaload, 1) := by decide +kernel
theorem dX3_fill_59 : decode cX3_fill 59 = .ok (.iload_n 3, 1) := by decide +kernel
theorem dX3_fill_60 : decode cX3_fill 60 = .ok (.iload 5, 2) := by decide +kernel
theorem dX3_fill_62 : decode cX3_fill 62 = .ok (.iload 6, 2) := by decide +kernel
theorem dX3_fill_64 : decode cX3_fill 64 = .ok (.invokevirtual 27, 3) := by decide +kernel
theorem dX3_fill_67 : decode cX3_fill 67 = .ok (.iinc 6 1, 3) := by decide +kernel
theorem dX3_fill_70 : decode cX3_fill 70 = .ok (.goto (-26), 3) := by decide +kernel
theorem dX3_fill_73 : decode cX3_fill 73 = .ok (.iinc 5 (-1), 3) := by decide +kernel
theorem dX3_fill_76 : decode cX3_fill 76 = .ok (.goto (-40), 3) := by decide +kernel
theorem dX3_fill_79 : decode cX3_fill 79 = .ok (.return_, 1) := by decide +kernel
set_option maxRecDepth 20000 in
theorem ggX3_fillTown_X3_mostFrom : GoodIn wsX3_fillTown wsX3_mostFrom := goodIn_m (fun w hw => by
  revert w hw; unfold wsX3_mostFrom
  exact am_cons (am_at in_wsX3_fillTown_0 11 rfl) (am_app (am_cons (am_at in_wsX3_fillTown_0 6 rfl) am_nil) in_wsX3_fillTown_3)) gw_wsX3_mostFrom
set_option maxRecDepth 20000 in
theorem gX3_fillTown_X3_mostFrom : GoodIn wsX3_fillTown (wsV RX3 31 RX3 yX3_mostFrom wsX3_mostFrom) := goodIn_app (goodIn_m (am_cons (am_at in_wsX3_fillTown_0 7 rfl) (am_cons (am_at in_wsX3_fillTown_0 8 rfl) (am_cons (am_at in_wsX3_fillTown_0 9 rfl) (am_cons (am_at in_wsX3_fillTown_0 10 rfl) am_nil)))) (by decide +kernel)) ggX3_fillTown_X3_mostFrom
set_option maxRecDepth 20000 in
theorem ggX3_fillTown_X0_gainIn : GoodIn wsX3_fillTown wsX0_gainIn := goodIn_m (fun w hw => by
  revert w hw; unfold wsX0_gainIn
  exact am_cons (am_at in_wsX3_fillTown_0 16 rfl) (am_app (am_cons (am_at in_wsX3_fillTown_0 17 rfl) (am_cons (am_at in_wsX3_fillTown_0 18 rfl) (am_cons (am_at in_wsX3_fillTown_0 19 rfl) (am_cons (am_at in_wsX3_fillTown_0 20 rfl) (am_cons (am_at in_wsX3_fillTown_0 15 rfl) (am_cons (am_at in_wsX3_fillTown_0 21 rfl) (am_cons (am_at in_wsX3_fillTown_0 22 rfl) (am_cons (am_at in_wsX3_fillTown_0 23 rfl) (am_cons (am_at in_wsX3_fillTown_1 0 rfl) (am_cons (am_at in_wsX3_fillTown_1 1 rfl) (am_cons (am_at in_wsX3_fillTown_1 2 rfl) (am_cons (am_at in_wsX3_fillTown_1 3 rfl) (am_cons (am_at in_wsX3_fillTown_1 4 rfl) am_nil))))))))))))) in_wsX3_fillTown_2)) gw_wsX0_gainIn
set_option maxRecDepth 20000 in
theorem gX3_fillTown_X0_gainIn : GoodIn wsX3_fillTown (wsV RX3 41 RX0 yX0_gainIn wsX0_gainIn) := goodIn_app (goodIn_m (am_cons (am_at in_wsX3_fillTown_0 12 rfl) (am_cons (am_at in_wsX3_fillTown_0 13 rfl) (am_cons (am_at in_wsX3_fillTown_0 14 rfl) (am_cons (am_at in_wsX3_fillTown_0 15 rfl) am_nil)))) (by decide +kernel)) ggX3_fillTown_X0_gainIn
theorem dX3_fillTown_0 : decode cX3_fillTown 0 = .ok (.iconst (-1), 1) := by decide +kernel
theorem dX3_fillTown_1 : decode cX3_fillTown 1 = .ok (.istore 6, 2) := by decide +kernel
theorem dX3_fillTown_3 : decode cX3_fillTown 3 = .ok (.iconst 0, 1) := by decide +kernel
theorem dX3_fillTown_4 : decode cX3_fillTown 4 = .ok (.istore 7, 2) := by decide +kernel
theorem dX3_fillTown_6 : decode cX3_fillTown 6 = .ok (.iload 7, 2) := by decide +kernel
theorem dX3_fillTown_8 : decode cX3_fillTown 8 = .ok (.aload_n 1, 1) := by decide +kernel
theorem dX3_fillTown_9 : decode cX3_fillTown 9 = .ok (.getfield 21, 3) := by decide +kernel
theorem dX3_fillTown_12 : decode cX3_fillTown 12 = .ok (.if_icmp .ge 36, 3) := by decide +kernel
theorem dX3_fillTown_15 : decode cX3_fillTown 15 = .ok (.iload_n 2, 1) := by decide +kernel
theorem dX3_fillTown_16 : decode cX3_fillTown 16 = .ok (.iload 7, 2) := by decide +kernel
theorem dX3_fillTown_18 : decode cX3_fillTown 18 = .ok (.ishr, 1) := by decide +kernel
theorem dX3_fillTown_19 : decode cX3_fillTown 19 = .ok (.iconst 1, 1) := by decide +kernel
theorem dX3_fillTown_20 : decode cX3_fillTown 20 = .ok (.iand, 1) := by decide +kernel
theorem dX3_fillTown_21 : decode cX3_fillTown 21 = .ok (.ifCond .eq 21, 3) := by decide +kernel
theorem dX3_fillTown_24 : decode cX3_fillTown 24 = .ok (.iload 6, 2) := by decide +kernel
theorem dX3_fillTown_26 : decode cX3_fillTown 26 = .ok (.aload_n 0, 1) := by decide +kernel
theorem dX3_fillTown_27 : decode cX3_fillTown 27 = .ok (.iload 4, 2) := by decide +kernel
theorem dX3_fillTown_29 : decode cX3_fillTown 29 = .ok (.iconst 1, 1) := by decide +kernel
theorem dX3_fillTown_30 : decode cX3_fillTown 30 = .ok (.iadd, 1) := by decide +kernel
theorem dX3_fillTown_31 : decode cX3_fillTown 31 = .ok (.iload 7, 2) := by decide +kernel
theorem dX3_fillTown_33 : decode cX3_fillTown 33 = .ok (.iconst 0, 1) := by decide +kernel
theorem dX3_fillTown_34 : decode cX3_fillTown 34 = .ok (.invokevirtual 31, 3) := by decide +kernel
theorem dX3_fillTown_37 : decode cX3_fillTown 37 = .ok (.invokestatic 35, 3) := by decide +kernel
theorem dX3_fillTown_40 : decode cX3_fillTown 40 = .ok (.istore 6, 2) := by decide +kernel
theorem dX3_fillTown_42 : decode cX3_fillTown 42 = .ok (.iinc 7 1, 3) := by decide +kernel
theorem dX3_fillTown_45 : decode cX3_fillTown 45 = .ok (.goto (-39), 3) := by decide +kernel
theorem dX3_fillTown_48 : decode cX3_fillTown 48 = .ok (.aload_n 1, 1) := by decide +kernel
theorem dX3_fillTown_49 : decode cX3_fillTown 49 = .ok (.iload 5, 2) := by decide +kernel
theorem dX3_fillTown_51 : decode cX3_fillTown 51 = .ok (.iload_n 3, 1) := by decide +kernel
theorem dX3_fillTown_52 : decode cX3_fillTown 52 = .ok (.iload 4, 2) := by decide +kernel
theorem dX3_fillTown_54 : decode cX3_fillTown 54 = .ok (.iadd, 1) := by decide +kernel
theorem dX3_fillTown_55 : decode cX3_fillTown 55 = .ok (.invokevirtual 41, 3) := by decide +kernel
theorem dX3_fillTown_58 : decode cX3_fillTown 58 = .ok (.istore 7, 2) := by decide +kernel
theorem dX3_fillTown_60 : decode cX3_fillTown 60 = .ok (.iconst 0, 1) := by decide +kernel
theorem dX3_fillTown_61 : decode cX3_fillTown 61 = .ok (.istore 8, 2) := by decide +kernel
theorem dX3_fillTown_63 : decode cX3_fillTown 63 = .ok (.iload 8, 2) := by decide +kernel
theorem dX3_fillTown_65 : decode cX3_fillTown 65 = .ok (.aload_n 1, 1) := by decide +kernel
theorem dX3_fillTown_66 : decode cX3_fillTown 66 = .ok (.getfield 44, 3) := by decide +kernel
theorem dX3_fillTown_69 : decode cX3_fillTown 69 = .ok (.if_icmp .gt 80, 3) := by decide +kernel
theorem dX3_fillTown_72 : decode cX3_fillTown 72 = .ok (.iload 8, 2) := by decide +kernel
theorem dX3_fillTown_74 : decode cX3_fillTown 74 = .ok (.aload_n 1, 1) := by decide +kernel
theorem dX3_fillTown_75 : decode cX3_fillTown 75 = .ok (.getfield 44, 3) := by decide +kernel
theorem dX3_fillTown_78 : decode cX3_fillTown 78 = .ok (.if_icmp .ge 20, 3) := by decide +kernel
theorem dX3_fillTown_81 : decode cX3_fillTown 81 = .ok (.aload_n 0, 1) := by decide +kernel
theorem dX3_fillTown_82 : decode cX3_fillTown 82 = .ok (.iload 4, 2) := by decide +kernel
theorem dX3_fillTown_84 : decode cX3_fillTown 84 = .ok (.iconst 1, 1) := by decide +kernel
theorem dX3_fillTown_85 : decode cX3_fillTown 85 = .ok (.iadd, 1) := by decide +kernel
theorem dX3_fillTown_86 : decode cX3_fillTown 86 = .ok (.iload 5, 2) := by decide +kernel
theorem dX3_fillTown_88 : decode cX3_fillTown 88 = .ok (.iload 8, 2) := by decide +kernel
theorem dX3_fillTown_90 : decode cX3_fillTown 90 = .ok (.iconst 1, 1) := by decide +kernel
theorem dX3_fillTown_91 : decode cX3_fillTown 91 = .ok (.iadd, 1) := by decide +kernel
theorem dX3_fillTown_92 : decode cX3_fillTown 92 = .ok (.invokevirtual 31, 3) := by decide +kernel
theorem dX3_fillTown_95 : decode cX3_fillTown 95 = .ok (.goto 4, 3) := by decide +kernel
theorem dX3_fillTown_98 : decode cX3_fillTown 98 = .ok (.iconst (-1), 1) := by decide +kernel
theorem dX3_fillTown_99 : decode cX3_fillTown 99 = .ok (.istore 9, 2) := by decide +kernel
theorem dX3_fillTown_101 : decode cX3_fillTown 101 = .ok (.iload 9, 2) := by decide +kernel
theorem dX3_fillTown_103 : decode cX3_fillTown 103 = .ok (.iconst (-1), 1) := by decide +kernel
theorem dX3_fillTown_104 : decode cX3_fillTown 104 = .ok (.if_icmp .ne 7, 3) := by decide +kernel
theorem dX3_fillTown_107 : decode cX3_fillTown 107 = .ok (.iconst (-1), 1) := by decide +kernel
theorem dX3_fillTown_108 : decode cX3_fillTown 108 = .ok (.goto 8, 3) := by decide +kernel
theorem dX3_fillTown_111 : decode cX3_fillTown 111 = .ok (.iload 9, 2) := by decide +kernel
theorem dX3_fillTown_113 : decode cX3_fillTown 113 = .ok (.iload 7, 2) := by decide +kernel
theorem dX3_fillTown_115 : decode cX3_fillTown 115 = .ok (.iadd, 1) := by decide +kernel
theorem dX3_fillTown_116 : decode cX3_fillTown 116 = .ok (.istore 10, 2) := by decide +kernel
theorem dX3_fillTown_118 : decode cX3_fillTown 118 = .ok (.aload_n 0, 1) := by decide +kernel
theorem dX3_fillTown_119 : decode cX3_fillTown 119 = .ok (.getfield 11, 3) := by decide +kernel
theorem dX3_fillTown_122 : decode cX3_fillTown 122 = .ok (.iload 4, 2) := by decide +kernel
theorem dX3_fillTown_124 : decode cX3_fillTown 124 = .ok (.bipush 40, 2) := by decide +kernel
theorem dX3_fillTown_126 : decode cX3_fillTown 126 = .ok (.imul, 1) := by decide +kernel
theorem dX3_fillTown_127 : decode cX3_fillTown 127 = .ok (.iload 5, 2) := by decide +kernel
theorem dX3_fillTown_129 : decode cX3_fillTown 129 = .ok (.iconst 5, 1) := by decide +kernel
theorem dX3_fillTown_130 : decode cX3_fillTown 130 = .ok (.imul, 1) := by decide +kernel
theorem dX3_fillTown_131 : decode cX3_fillTown 131 = .ok (.iadd, 1) := by decide +kernel
theorem dX3_fillTown_132 : decode cX3_fillTown 132 = .ok (.iload 8, 2) := by decide +kernel
theorem dX3_fillTown_134 : decode cX3_fillTown 134 = .ok (.iadd, 1) := by decide +kernel
theorem dX3_fillTown_135 : decode cX3_fillTown 135 = .ok (.iload 6, 2) := by decide +kernel
theorem dX3_fillTown_137 : decode cX3_fillTown 137 = .ok (.iload 10, 2) := by decide +kernel
theorem dX3_fillTown_139 : decode cX3_fillTown 139 = .ok (.invokestatic 35, 3) := by decide +kernel
theorem dX3_fillTown_142 : decode cX3_fillTown 142 = .ok (.iastore, 1) := by decide +kernel
theorem dX3_fillTown_143 : decode cX3_fillTown 143 = .ok (.iinc 8 1, 3) := by decide +kernel
theorem dX3_fillTown_146 : decode cX3_fillTown 146 = .ok (.goto (-83), 3) := by decide +kernel
theorem dX3_fillTown_149 : decode cX3_fillTown 149 = .ok (.return_, 1) := by decide +kernel
theorem dX3_mostFrom_0 : decode cX3_mostFrom 0 = .ok (.iload_n 1, 1) := by decide +kernel
theorem dX3_mostFrom_1 : decode cX3_mostFrom 1 = .ok (.bipush 40, 2) := by decide +kernel
theorem dX3_mostFrom_3 : decode cX3_mostFrom 3 = .ok (.imul, 1) := by decide +kernel
theorem dX3_mostFrom_4 : decode cX3_mostFrom 4 = .ok (.iload_n 2, 1) := by decide +kernel
theorem dX3_mostFrom_5 : decode cX3_mostFrom 5 = .ok (.iconst 5, 1) := by decide +kernel
theorem dX3_mostFrom_6 : decode cX3_mostFrom 6 = .ok (.imul, 1) := by decide +kernel
theorem dX3_mostFrom_7 : decode cX3_mostFrom 7 = .ok (.iadd, 1) := by decide +kernel
theorem dX3_mostFrom_8 : decode cX3_mostFrom 8 = .ok (.iload_n 3, 1) := by decide +kernel
theorem dX3_mostFrom_9 : decode cX3_mostFrom 9 = .ok (.iadd, 1) := by decide +kernel
theorem dX3_mostFrom_10 : decode cX3_mostFrom 10 = .ok (.istore 4, 2) := by decide +kernel
theorem dX3_mostFrom_12 : decode cX3_mostFrom 12 = .ok (.iload 4, 2) := by decide +kernel
theorem dX3_mostFrom_14 : decode cX3_mostFrom 14 = .ok (.ifCond .lt 23, 3) := by decide +kernel
theorem dX3_mostFrom_17 : decode cX3_mostFrom 17 = .ok (.iload 4, 2) := by decide +kernel
theorem dX3_mostFrom_19 : decode cX3_mostFrom 19 = .ok (.aload_n 0, 1) := by decide +kernel
theorem dX3_mostFrom_20 : decode cX3_mostFrom 20 = .ok (.getfield 11, 3) := by decide +kernel
theorem dX3_mostFrom_23 : decode cX3_mostFrom 23 = .ok (.arraylength, 1) := by decide +kernel
theorem dX3_mostFrom_24 : decode cX3_mostFrom 24 = .ok (.if_icmp .ge 13, 3) := by decide +kernel
theorem dX3_mostFrom_27 : decode cX3_mostFrom 27 = .ok (.aload_n 0, 1) := by decide +kernel
theorem dX3_mostFrom_28 : decode cX3_mostFrom 28 = .ok (.getfield 11, 3) := by decide +kernel
theorem dX3_mostFrom_31 : decode cX3_mostFrom 31 = .ok (.iload 4, 2) := by decide +kernel
theorem dX3_mostFrom_33 : decode cX3_mostFrom 33 = .ok (.iaload, 1) := by decide +kernel
theorem dX3_mostFrom_34 : decode cX3_mostFrom 34 = .ok (.goto 4, 3) := by decide +kernel
theorem dX3_mostFrom_37 : decode cX3_mostFrom 37 = .ok (.iconst (-1), 1) := by decide +kernel
theorem dX3_mostFrom_38 : decode cX3_mostFrom 38 = .ok (.ireturn, 1) := by decide +kernel
set_option maxRecDepth 20000 in
theorem ggX3_townBehind_X3_staysFirst : GoodIn wsX3_townBehind wsX3_staysFirst := goodIn_m (fun w hw => by
  revert w hw; unfold wsX3_staysFirst
  exact am_cons (am_at in_wsX3_townBehind_0 7 rfl) (am_app (am_app (am_cons (am_at in_wsX3_townBehind_0 8 rfl) (am_cons (am_at in_wsX3_townBehind_0 9 rfl) (am_cons (am_at in_wsX3_townBehind_0 10 rfl) (am_cons (am_at in_wsX3_townBehind_0 11 rfl) (am_cons (am_at in_wsX3_townBehind_0 6 rfl) (am_cons (am_at in_wsX3_townBehind_0 12 rfl) (am_cons (am_at in_wsX3_townBehind_0 13 rfl) (am_cons (am_at in_wsX3_townBehind_0 14 rfl) (am_cons (am_at in_wsX3_townBehind_0 15 rfl) (am_cons (am_at in_wsX3_townBehind_0 16 rfl) (am_cons (am_at in_wsX3_townBehind_0 17 rfl) (am_cons (am_at in_wsX3_townBehind_0 18 rfl) (am_cons (am_at in_wsX3_townBehind_0 19 rfl) (am_cons (am_at in_wsX3_townBehind_0 20 rfl) (am_cons (am_at in_wsX3_townBehind_0 21 rfl) (am_cons (am_at in_wsX3_townBehind_0 22 rfl) (am_cons (am_at in_wsX3_townBehind_0 23 rfl) (am_cons (am_at in_wsX3_townBehind_1 0 rfl) (am_cons (am_at in_wsX3_townBehind_1 1 rfl) (am_cons (am_at in_wsX3_townBehind_1 2 rfl) (am_cons (am_at in_wsX3_townBehind_1 3 rfl) (am_cons (am_at in_wsX3_townBehind_1 4 rfl) (am_cons (am_at in_wsX3_townBehind_1 5 rfl) (am_cons (am_at in_wsX3_townBehind_1 6 rfl) am_nil)))))))))))))))))))))))) in_wsX3_townBehind_3) in_wsX3_townBehind_4)) gw_wsX3_staysFirst
set_option maxRecDepth 20000 in
theorem gX3_townBehind_X3_staysFirst : GoodIn wsX3_townBehind (wsV RX3 58 RX3 yX3_staysFirst wsX3_staysFirst) := goodIn_app (goodIn_m (am_cons (am_at in_wsX3_townBehind_0 3 rfl) (am_cons (am_at in_wsX3_townBehind_0 4 rfl) (am_cons (am_at in_wsX3_townBehind_0 5 rfl) (am_cons (am_at in_wsX3_townBehind_0 6 rfl) am_nil)))) (by decide +kernel)) ggX3_townBehind_X3_staysFirst
set_option maxRecDepth 20000 in
theorem ggX3_townBehind_X7_exitsOf : GoodIn wsX3_townBehind wsX7_exitsOf := goodIn_m (fun w hw => by
  revert w hw; unfold wsX7_exitsOf
  exact am_cons (am_at in_wsX3_townBehind_1 9 rfl) am_nil) gw_wsX7_exitsOf
set_option maxRecDepth 20000 in
theorem gX3_townBehind_X7_exitsOf_n62 : GoodIn wsX3_townBehind (wsX7_exitsOf) := ggX3_townBehind_X7_exitsOf
set_option maxRecDepth 20000 in
theorem ggX3_townBehind_X3_mostFrom : GoodIn wsX3_townBehind wsX3_mostFrom := goodIn_m (fun w hw => by
  revert w hw; unfold wsX3_mostFrom
  exact am_cons (am_at in_wsX3_townBehind_0 12 rfl) (am_app (am_cons (am_at in_wsX3_townBehind_0 13 rfl) am_nil) in_wsX3_townBehind_4)) gw_wsX3_mostFrom
set_option maxRecDepth 20000 in
theorem gX3_townBehind_X3_mostFrom : GoodIn wsX3_townBehind (wsV RX3 31 RX3 yX3_mostFrom wsX3_mostFrom) := goodIn_app (goodIn_m (am_cons (am_at in_wsX3_townBehind_0 9 rfl) (am_cons (am_at in_wsX3_townBehind_0 10 rfl) (am_cons (am_at in_wsX3_townBehind_0 11 rfl) (am_cons (am_at in_wsX3_townBehind_0 6 rfl) am_nil)))) (by decide +kernel)) ggX3_townBehind_X3_mostFrom
set_option maxRecDepth 20000 in
theorem ggX3_townBehind_X3_walksFirst : GoodIn wsX3_townBehind wsX3_walksFirst := goodIn_m (fun w hw => by
  revert w hw; unfold wsX3_walksFirst
  exact am_cons (am_at in_wsX3_townBehind_1 13 rfl) (am_app (am_app (am_cons (am_at in_wsX3_townBehind_1 14 rfl) (am_cons (am_at in_wsX3_townBehind_0 9 rfl) (am_cons (am_at in_wsX3_townBehind_0 10 rfl) (am_cons (am_at in_wsX3_townBehind_0 11 rfl) (am_cons (am_at in_wsX3_townBehind_0 6 rfl) (am_cons (am_at in_wsX3_townBehind_0 12 rfl) (am_cons (am_at in_wsX3_townBehind_0 13 rfl) am_nil))))))) in_wsX3_townBehind_3) in_wsX3_townBehind_4)) gw_wsX3_walksFirst
set_option maxRecDepth 20000 in
theorem gX3_townBehind_X3_walksFirst : GoodIn wsX3_townBehind (wsV RX3 66 RX3 yX3_walksFirst wsX3_walksFirst) := goodIn_app (goodIn_m (am_cons (am_at in_wsX3_townBehind_1 10 rfl) (am_cons (am_at in_wsX3_townBehind_1 11 rfl) (am_cons (am_at in_wsX3_townBehind_1 12 rfl) (am_cons (am_at in_wsX3_townBehind_0 6 rfl) am_nil)))) (by decide +kernel)) ggX3_townBehind_X3_walksFirst
theorem dX3_townBehind_0 : decode cX3_townBehind 0 = .ok (.aload_n 3, 1) := by decide +kernel
theorem dX3_townBehind_1 : decode cX3_townBehind 1 = .ok (.getfield 47, 3) := by decide +kernel
theorem dX3_townBehind_4 : decode cX3_townBehind 4 = .ok (.istore 5, 2) := by decide +kernel
theorem dX3_townBehind_6 : decode cX3_townBehind 6 = .ok (.aload_n 3, 1) := by decide +kernel
theorem dX3_townBehind_7 : decode cX3_townBehind 7 = .ok (.getfield 52, 3) := by decide +kernel
theorem dX3_townBehind_10 : decode cX3_townBehind 10 = .ok (.istore 6, 2) := by decide +kernel
theorem dX3_townBehind_12 : decode cX3_townBehind 12 = .ok (.iconst 0, 1) := by decide +kernel
theorem dX3_townBehind_13 : decode cX3_townBehind 13 = .ok (.istore 7, 2) := by decide +kernel
theorem dX3_townBehind_15 : decode cX3_townBehind 15 = .ok (.iload 7, 2) := by decide +kernel
theorem dX3_townBehind_17 : decode cX3_townBehind 17 = .ok (.iload 4, 2) := by decide +kernel
theorem dX3_townBehind_19 : decode cX3_townBehind 19 = .ok (.if_icmp .gt 65, 3) := by decide +kernel
theorem dX3_townBehind_22 : decode cX3_townBehind 22 = .ok (.aload_n 0, 1) := by decide +kernel
theorem dX3_townBehind_23 : decode cX3_townBehind 23 = .ok (.aload_n 1, 1) := by decide +kernel
theorem dX3_townBehind_24 : decode cX3_townBehind 24 = .ok (.aload_n 3, 1) := by decide +kernel
theorem dX3_townBehind_25 : decode cX3_townBehind 25 = .ok (.getfield 55, 3) := by decide +kernel
theorem dX3_townBehind_28 : decode cX3_townBehind 28 = .ok (.iload 7, 2) := by decide +kernel
theorem dX3_townBehind_30 : decode cX3_townBehind 30 = .ok (.iload 5, 2) := by decide +kernel
theorem dX3_townBehind_32 : decode cX3_townBehind 32 = .ok (.iload 6, 2) := by decide +kernel
theorem dX3_townBehind_34 : decode cX3_townBehind 34 = .ok (.invokevirtual 58, 3) := by decide +kernel
theorem dX3_townBehind_37 : decode cX3_townBehind 37 = .ok (.ifCond .eq 9, 3) := by decide +kernel
theorem dX3_townBehind_40 : decode cX3_townBehind 40 = .ok (.iinc 6 1, 3) := by decide +kernel
theorem dX3_townBehind_43 : decode cX3_townBehind 43 = .ok (.goto 35, 3) := by decide +kernel
theorem dX3_townBehind_46 : decode cX3_townBehind 46 = .ok (.aload_n 0, 1) := by decide +kernel
theorem dX3_townBehind_47 : decode cX3_townBehind 47 = .ok (.aload_n 1, 1) := by decide +kernel
theorem dX3_townBehind_48 : decode cX3_townBehind 48 = .ok (.iconst 1, 1) := by decide +kernel
theorem dX3_townBehind_49 : decode cX3_townBehind 49 = .ok (.iload 5, 2) := by decide +kernel
theorem dX3_townBehind_51 : decode cX3_townBehind 51 = .ok (.ishl, 1) := by decide +kernel
theorem dX3_townBehind_52 : decode cX3_townBehind 52 = .ok (.aload_n 2, 1) := by decide +kernel
theorem dX3_townBehind_53 : decode cX3_townBehind 53 = .ok (.invokestatic 62, 3) := by decide +kernel
theorem dX3_townBehind_56 : decode cX3_townBehind 56 = .ok (.iload 7, 2) := by decide +kernel
theorem dX3_townBehind_58 : decode cX3_townBehind 58 = .ok (.aload_n 0, 1) := by decide +kernel
theorem dX3_townBehind_59 : decode cX3_townBehind 59 = .ok (.iload 7, 2) := by decide +kernel
theorem dX3_townBehind_61 : decode cX3_townBehind 61 = .ok (.iload 5, 2) := by decide +kernel
theorem dX3_townBehind_63 : decode cX3_townBehind 63 = .ok (.iload 6, 2) := by decide +kernel
theorem dX3_townBehind_65 : decode cX3_townBehind 65 = .ok (.invokevirtual 31, 3) := by decide +kernel
theorem dX3_townBehind_68 : decode cX3_townBehind 68 = .ok (.iload 5, 2) := by decide +kernel
theorem dX3_townBehind_70 : decode cX3_townBehind 70 = .ok (.invokevirtual 66, 3) := by decide +kernel
theorem dX3_townBehind_73 : decode cX3_townBehind 73 = .ok (.istore 5, 2) := by decide +kernel
theorem dX3_townBehind_75 : decode cX3_townBehind 75 = .ok (.iconst 0, 1) := by decide +kernel
theorem dX3_townBehind_76 : decode cX3_townBehind 76 = .ok (.istore 6, 2) := by decide +kernel
theorem dX3_townBehind_78 : decode cX3_townBehind 78 = .ok (.iinc 7 1, 3) := by decide +kernel
theorem dX3_townBehind_81 : decode cX3_townBehind 81 = .ok (.goto (-66), 3) := by decide +kernel
theorem dX3_townBehind_84 : decode cX3_townBehind 84 = .ok (.iload 5, 2) := by decide +kernel
theorem dX3_townBehind_86 : decode cX3_townBehind 86 = .ok (.ireturn, 1) := by decide +kernel
set_option maxRecDepth 20000 in
theorem ggX3_staysFirst_X3_mostFrom : GoodIn wsX3_staysFirst wsX3_mostFrom := goodIn_m (fun w hw => by
  revert w hw; unfold wsX3_mostFrom
  exact am_cons (am_at in_wsX3_staysFirst_0 5 rfl) (am_app (am_cons (am_at in_wsX3_staysFirst_0 6 rfl) am_nil) in_wsX3_staysFirst_2)) gw_wsX3_mostFrom
set_option maxRecDepth 20000 in
theorem gX3_staysFirst_X3_mostFrom : GoodIn wsX3_staysFirst (wsV RX3 31 RX3 yX3_mostFrom wsX3_mostFrom) := goodIn_app (goodIn_m (am_cons (am_at in_wsX3_staysFirst_0 1 rfl) (am_cons (am_at in_wsX3_staysFirst_0 2 rfl) (am_cons (am_at in_wsX3_staysFirst_0 3 rfl) (am_cons (am_at in_wsX3_staysFirst_0 4 rfl) am_nil)))) (by decide +kernel)) ggX3_staysFirst_X3_mostFrom
set_option maxRecDepth 20000 in
theorem ggX3_staysFirst_X0_gainIn : GoodIn wsX3_staysFirst wsX0_gainIn := goodIn_m (fun w hw => by
  revert w hw; unfold wsX0_gainIn
  exact am_cons (am_at in_wsX3_staysFirst_0 11 rfl) (am_app (am_cons (am_at in_wsX3_staysFirst_0 12 rfl) (am_cons (am_at in_wsX3_staysFirst_0 13 rfl) (am_cons (am_at in_wsX3_staysFirst_0 14 rfl) (am_cons (am_at in_wsX3_staysFirst_0 15 rfl) (am_cons (am_at in_wsX3_staysFirst_0 10 rfl) (am_cons (am_at in_wsX3_staysFirst_0 16 rfl) (am_cons (am_at in_wsX3_staysFirst_0 17 rfl) (am_cons (am_at in_wsX3_staysFirst_0 18 rfl) (am_cons (am_at in_wsX3_staysFirst_0 19 rfl) (am_cons (am_at in_wsX3_staysFirst_0 20 rfl) (am_cons (am_at in_wsX3_staysFirst_0 21 rfl) (am_cons (am_at in_wsX3_staysFirst_0 22 rfl) (am_cons (am_at in_wsX3_staysFirst_0 23 rfl) am_nil))))))))))))) in_wsX3_staysFirst_1)) gw_wsX0_gainIn
set_option maxRecDepth 20000 in
theorem gX3_staysFirst_X0_gainIn : GoodIn wsX3_staysFirst (wsV RX3 41 RX0 yX0_gainIn wsX0_gainIn) := goodIn_app (goodIn_m (am_cons (am_at in_wsX3_staysFirst_0 7 rfl) (am_cons (am_at in_wsX3_staysFirst_0 8 rfl) (am_cons (am_at in_wsX3_staysFirst_0 9 rfl) (am_cons (am_at in_wsX3_staysFirst_0 10 rfl) am_nil)))) (by decide +kernel)) ggX3_staysFirst_X0_gainIn
theorem dX3_staysFirst_0 : decode cX3_staysFirst 0 = .ok (.iload 5, 2) := by decide +kernel
theorem dX3_staysFirst_2 : decode cX3_staysFirst 2 = .ok (.aload_n 1, 1) := by decide +kernel
theorem dX3_staysFirst_3 : decode cX3_staysFirst 3 = .ok (.getfield 44, 3) := by decide +kernel
theorem dX3_staysFirst_6 : decode cX3_staysFirst 6 = .ok (.if_icmp .lt 5, 3) := by decide +kernel
theorem dX3_staysFirst_9 : decode cX3_staysFirst 9 = .ok (.iconst 0, 1) := by decide +kernel
theorem dX3_staysFirst_10 : decode cX3_staysFirst 10 = .ok (.ireturn, 1) := by decide +kernel
theorem dX3_staysFirst_11 : decode cX3_staysFirst 11 = .ok (.aload_n 0, 1) := by decide +kernel
theorem dX3_staysFirst_12 : decode cX3_staysFirst 12 = .ok (.iload_n 3, 1) := by decide +kernel
theorem dX3_staysFirst_13 : decode cX3_staysFirst 13 = .ok (.iconst 1, 1) := by decide +kernel
theorem dX3_staysFirst_14 : decode cX3_staysFirst 14 = .ok (.iadd, 1) := by decide +kernel
theorem dX3_staysFirst_15 : decode cX3_staysFirst 15 = .ok (.iload 4, 2) := by decide +kernel
theorem dX3_staysFirst_17 : decode cX3_staysFirst 17 = .ok (.iload 5, 2) := by decide +kernel
theorem dX3_staysFirst_19 : decode cX3_staysFirst 19 = .ok (.iconst 1, 1) := by decide +kernel
theorem dX3_staysFirst_20 : decode cX3_staysFirst 20 = .ok (.iadd, 1) := by decide +kernel
theorem dX3_staysFirst_21 : decode cX3_staysFirst 21 = .ok (.invokevirtual 31, 3) := by decide +kernel
theorem dX3_staysFirst_24 : decode cX3_staysFirst 24 = .ok (.istore 6, 2) := by decide +kernel
theorem dX3_staysFirst_26 : decode cX3_staysFirst 26 = .ok (.iload 6, 2) := by decide +kernel
theorem dX3_staysFirst_28 : decode cX3_staysFirst 28 = .ok (.iconst (-1), 1) := by decide +kernel
theorem dX3_staysFirst_29 : decode cX3_staysFirst 29 = .ok (.if_icmp .eq 31, 3) := by decide +kernel
theorem dX3_staysFirst_32 : decode cX3_staysFirst 32 = .ok (.iload 6, 2) := by decide +kernel
theorem dX3_staysFirst_34 : decode cX3_staysFirst 34 = .ok (.aload_n 1, 1) := by decide +kernel
theorem dX3_staysFirst_35 : decode cX3_staysFirst 35 = .ok (.iload 4, 2) := by decide +kernel
theorem dX3_staysFirst_37 : decode cX3_staysFirst 37 = .ok (.iload_n 2, 1) := by decide +kernel
theorem dX3_staysFirst_38 : decode cX3_staysFirst 38 = .ok (.iload_n 3, 1) := by decide +kernel
theorem dX3_staysFirst_39 : decode cX3_staysFirst 39 = .ok (.iadd, 1) := by decide +kernel
theorem dX3_staysFirst_40 : decode cX3_staysFirst 40 = .ok (.invokevirtual 41, 3) := by decide +kernel
theorem dX3_staysFirst_43 : decode cX3_staysFirst 43 = .ok (.iadd, 1) := by decide +kernel
theorem dX3_staysFirst_44 : decode cX3_staysFirst 44 = .ok (.aload_n 0, 1) := by decide +kernel
theorem dX3_staysFirst_45 : decode cX3_staysFirst 45 = .ok (.iload_n 3, 1) := by decide +kernel
theorem dX3_staysFirst_46 : decode cX3_staysFirst 46 = .ok (.iload 4, 2) := by decide +kernel
theorem dX3_staysFirst_48 : decode cX3_staysFirst 48 = .ok (.iload 5, 2) := by decide +kernel
theorem dX3_staysFirst_50 : decode cX3_staysFirst 50 = .ok (.invokevirtual 31, 3) := by decide +kernel
theorem dX3_staysFirst_53 : decode cX3_staysFirst 53 = .ok (.if_icmp .ne 7, 3) := by decide +kernel
theorem dX3_staysFirst_56 : decode cX3_staysFirst 56 = .ok (.iconst 1, 1) := by decide +kernel
theorem dX3_staysFirst_57 : decode cX3_staysFirst 57 = .ok (.goto 4, 3) := by decide +kernel
theorem dX3_staysFirst_60 : decode cX3_staysFirst 60 = .ok (.iconst 0, 1) := by decide +kernel
theorem dX3_staysFirst_61 : decode cX3_staysFirst 61 = .ok (.ireturn, 1) := by decide +kernel
set_option maxRecDepth 20000 in
theorem ggX3_walksFirst_X3_mostFrom : GoodIn wsX3_walksFirst wsX3_mostFrom := goodIn_m (fun w hw => by
  revert w hw; unfold wsX3_mostFrom
  exact am_cons (am_at in_wsX3_walksFirst_0 5 rfl) (am_app (am_cons (am_at in_wsX3_walksFirst_0 6 rfl) am_nil) in_wsX3_walksFirst_2)) gw_wsX3_mostFrom
set_option maxRecDepth 20000 in
theorem gX3_walksFirst_X3_mostFrom : GoodIn wsX3_walksFirst (wsV RX3 31 RX3 yX3_mostFrom wsX3_mostFrom) := goodIn_app (goodIn_m (am_cons (am_at in_wsX3_walksFirst_0 1 rfl) (am_cons (am_at in_wsX3_walksFirst_0 2 rfl) (am_cons (am_at in_wsX3_walksFirst_0 3 rfl) (am_cons (am_at in_wsX3_walksFirst_0 4 rfl) am_nil)))) (by decide +kernel)) ggX3_walksFirst_X3_mostFrom
theorem dX3_walksFirst_0 : decode cX3_walksFirst 0 = .ok (.iconst 0, 1) := by decide +kernel
theorem dX3_walksFirst_1 : decode cX3_walksFirst 1 = .ok (.istore 6, 2) := by decide +kernel
theorem dX3_walksFirst_3 : decode cX3_walksFirst 3 = .ok (.iload 6, 2) := by decide +kernel
theorem dX3_walksFirst_5 : decode cX3_walksFirst 5 = .ok (.aload_n 1, 1) := by decide +kernel
theorem dX3_walksFirst_6 : decode cX3_walksFirst 6 = .ok (.getfield 21, 3) := by decide +kernel
theorem dX3_walksFirst_9 : decode cX3_walksFirst 9 = .ok (.if_icmp .ge 36, 3) := by decide +kernel
theorem dX3_walksFirst_12 : decode cX3_walksFirst 12 = .ok (.iload_n 2, 1) := by decide +kernel
theorem dX3_walksFirst_13 : decode cX3_walksFirst 13 = .ok (.iload 6, 2) := by decide +kernel
theorem dX3_walksFirst_15 : decode cX3_walksFirst 15 = .ok (.ishr, 1) := by decide +kernel
theorem dX3_walksFirst_16 : decode cX3_walksFirst 16 = .ok (.iconst 1, 1) := by decide +kernel
theorem dX3_walksFirst_17 : decode cX3_walksFirst 17 = .ok (.iand, 1) := by decide +kernel
theorem dX3_walksFirst_18 : decode cX3_walksFirst 18 = .ok (.ifCond .eq 21, 3) := by decide +kernel
theorem dX3_walksFirst_21 : decode cX3_walksFirst 21 = .ok (.aload_n 0, 1) := by decide +kernel
theorem dX3_walksFirst_22 : decode cX3_walksFirst 22 = .ok (.iload_n 3, 1) := by decide +kernel
theorem dX3_walksFirst_23 : decode cX3_walksFirst 23 = .ok (.iconst 1, 1) := by decide +kernel
theorem dX3_walksFirst_24 : decode cX3_walksFirst 24 = .ok (.iadd, 1) := by decide +kernel
theorem dX3_walksFirst_25 : decode cX3_walksFirst 25 = .ok (.iload 6, 2) := by decide +kernel
theorem dX3_walksFirst_27 : decode cX3_walksFirst 27 = .ok (.iconst 0, 1) := by decide +kernel
theorem dX3_walksFirst_28 : decode cX3_walksFirst 28 = .ok (.invokevirtual 31, 3) := by decide +kernel
theorem dX3_walksFirst_31 : decode cX3_walksFirst 31 = .ok (.iload 4, 2) := by decide +kernel
theorem dX3_walksFirst_33 : decode cX3_walksFirst 33 = .ok (.if_icmp .ne 6, 3) := by decide +kernel
theorem dX3_walksFirst_36 : decode cX3_walksFirst 36 = .ok (.iload 6, 2) := by decide +kernel
theorem dX3_walksFirst_38 : decode cX3_walksFirst 38 = .ok (.ireturn, 1) := by decide +kernel
theorem dX3_walksFirst_39 : decode cX3_walksFirst 39 = .ok (.iinc 6 1, 3) := by decide +kernel
theorem dX3_walksFirst_42 : decode cX3_walksFirst 42 = .ok (.goto (-39), 3) := by decide +kernel
theorem dX3_walksFirst_45 : decode cX3_walksFirst 45 = .ok (.iload 5, 2) := by decide +kernel
theorem dX3_walksFirst_47 : decode cX3_walksFirst 47 = .ok (.ireturn, 1) := by decide +kernel
set_option maxRecDepth 20000 in
theorem ggX3_monthsToMeet_X3_union : GoodIn wsX3_monthsToMeet wsX3_union := goodIn_m (fun w hw => by
  revert w hw; unfold wsX3_union
  exact am_cons (am_at in_wsX3_monthsToMeet_0 8 rfl) am_nil) gw_wsX3_union
set_option maxRecDepth 20000 in
theorem gX3_monthsToMeet_X3_union : GoodIn wsX3_monthsToMeet (va_wsS RX3 70 yX3_union wsX3_union) := goodIn_app (goodIn_m (am_cons (am_at in_wsX3_monthsToMeet_0 5 rfl) (am_cons (am_at in_wsX3_monthsToMeet_0 6 rfl) (am_cons (am_at in_wsX3_monthsToMeet_0 7 rfl) am_nil))) (by decide +kernel)) ggX3_monthsToMeet_X3_union
set_option maxRecDepth 20000 in
theorem ggX3_monthsToMeet_X3_spendMonth : GoodIn wsX3_monthsToMeet wsX3_spendMonth := goodIn_m (fun w hw => by
  revert w hw; unfold wsX3_spendMonth
  exact am_cons (am_at in_wsX3_monthsToMeet_0 11 rfl) (am_cons (am_at in_wsX3_monthsToMeet_0 5 rfl) (am_cons (am_at in_wsX3_monthsToMeet_0 6 rfl) (am_cons (am_at in_wsX3_monthsToMeet_0 7 rfl) (am_cons (am_at in_wsX3_monthsToMeet_0 8 rfl) (am_cons (am_at in_wsX3_monthsToMeet_0 12 rfl) (am_cons (am_at in_wsX3_monthsToMeet_0 13 rfl) (am_cons (am_at in_wsX3_monthsToMeet_0 14 rfl) am_nil)))))))) gw_wsX3_spendMonth
set_option maxRecDepth 20000 in
theorem gX3_monthsToMeet_X3_spendMonth : GoodIn wsX3_monthsToMeet (va_wsS RX3 74 yX3_spendMonth wsX3_spendMonth) := goodIn_app (goodIn_m (am_cons (am_at in_wsX3_monthsToMeet_0 9 rfl) (am_cons (am_at in_wsX3_monthsToMeet_0 10 rfl) (am_cons (am_at in_wsX3_monthsToMeet_0 7 rfl) am_nil))) (by decide +kernel)) ggX3_monthsToMeet_X3_spendMonth
theorem dX3_monthsToMeet_0 : decode cX3_monthsToMeet 0 = .ok (.iconst 0, 1) := by decide +kernel
theorem dX3_monthsToMeet_1 : decode cX3_monthsToMeet 1 = .ok (.istore 5, 2) := by decide +kernel
theorem dX3_monthsToMeet_3 : decode cX3_monthsToMeet 3 = .ok (.iload 5, 2) := by decide +kernel
theorem dX3_monthsToMeet_5 : decode cX3_monthsToMeet 5 = .ok (.iconst 5, 1) := by decide +kernel
theorem dX3_monthsToMeet_6 : decode cX3_monthsToMeet 6 = .ok (.if_icmp .ge 55, 3) := by decide +kernel
theorem dX3_monthsToMeet_9 : decode cX3_monthsToMeet 9 = .ok (.aload_n 0, 1) := by decide +kernel
theorem dX3_monthsToMeet_10 : decode cX3_monthsToMeet 10 = .ok (.getfield 15, 3) := by decide +kernel
theorem dX3_monthsToMeet_13 : decode cX3_monthsToMeet 13 = .ok (.iload 5, 2) := by decide +kernel
theorem dX3_monthsToMeet_15 : decode cX3_monthsToMeet 15 = .ok (.iload 5, 2) := by decide +kernel
theorem dX3_monthsToMeet_17 : decode cX3_monthsToMeet 17 = .ok (.aload_n 3, 1) := by decide +kernel
theorem dX3_monthsToMeet_18 : decode cX3_monthsToMeet 18 = .ok (.getfield 52, 3) := by decide +kernel
theorem dX3_monthsToMeet_21 : decode cX3_monthsToMeet 21 = .ok (.if_icmp .ne 12, 3) := by decide +kernel
theorem dX3_monthsToMeet_24 : decode cX3_monthsToMeet 24 = .ok (.iconst 1, 1) := by decide +kernel
theorem dX3_monthsToMeet_25 : decode cX3_monthsToMeet 25 = .ok (.aload_n 3, 1) := by decide +kernel
theorem dX3_monthsToMeet_26 : decode cX3_monthsToMeet 26 = .ok (.getfield 47, 3) := by decide +kernel
theorem dX3_monthsToMeet_29 : decode cX3_monthsToMeet 29 = .ok (.ishl, 1) := by decide +kernel
theorem dX3_monthsToMeet_30 : decode cX3_monthsToMeet 30 = .ok (.goto 4, 3) := by decide +kernel
theorem dX3_monthsToMeet_33 : decode cX3_monthsToMeet 33 = .ok (.iconst 0, 1) := by decide +kernel
theorem dX3_monthsToMeet_34 : decode cX3_monthsToMeet 34 = .ok (.iastore, 1) := by decide +kernel
theorem dX3_monthsToMeet_35 : decode cX3_monthsToMeet 35 = .ok (.aload_n 0, 1) := by decide +kernel
theorem dX3_monthsToMeet_36 : decode cX3_monthsToMeet 36 = .ok (.getfield 18, 3) := by decide +kernel
theorem dX3_monthsToMeet_39 : decode cX3_monthsToMeet 39 = .ok (.iload 5, 2) := by decide +kernel
theorem dX3_monthsToMeet_41 : decode cX3_monthsToMeet 41 = .ok (.iload 5, 2) := by decide +kernel
theorem dX3_monthsToMeet_43 : decode cX3_monthsToMeet 43 = .ok (.ifCond .ne 10, 3) := by decide +kernel
theorem dX3_monthsToMeet_46 : decode cX3_monthsToMeet 46 = .ok (.iconst 1, 1) := by decide +kernel
theorem dX3_monthsToMeet_47 : decode cX3_monthsToMeet 47 = .ok (.iload 4, 2) := by decide +kernel
theorem dX3_monthsToMeet_49 : decode cX3_monthsToMeet 49 = .ok (.ishl, 1) := by decide +kernel
theorem dX3_monthsToMeet_50 : decode cX3_monthsToMeet 50 = .ok (.goto 4, 3) := by decide +kernel
theorem dX3_monthsToMeet_53 : decode cX3_monthsToMeet 53 = .ok (.iconst 0, 1) := by decide +kernel
theorem dX3_monthsToMeet_54 : decode cX3_monthsToMeet 54 = .ok (.iastore, 1) := by decide +kernel
theorem dX3_monthsToMeet_55 : decode cX3_monthsToMeet 55 = .ok (.iinc 5 1, 3) := by decide +kernel
theorem dX3_monthsToMeet_58 : decode cX3_monthsToMeet 58 = .ok (.goto (-55), 3) := by decide +kernel
theorem dX3_monthsToMeet_61 : decode cX3_monthsToMeet 61 = .ok (.iconst 0, 1) := by decide +kernel
theorem dX3_monthsToMeet_62 : decode cX3_monthsToMeet 62 = .ok (.istore 5, 2) := by decide +kernel
theorem dX3_monthsToMeet_64 : decode cX3_monthsToMeet 64 = .ok (.iload 5, 2) := by decide +kernel
theorem dX3_monthsToMeet_66 : decode cX3_monthsToMeet 66 = .ok (.bipush 24, 2) := by decide +kernel
theorem dX3_monthsToMeet_68 : decode cX3_monthsToMeet 68 = .ok (.if_icmp .gt 54, 3) := by decide +kernel
theorem dX3_monthsToMeet_71 : decode cX3_monthsToMeet 71 = .ok (.aload_n 0, 1) := by decide +kernel
theorem dX3_monthsToMeet_72 : decode cX3_monthsToMeet 72 = .ok (.getfield 15, 3) := by decide +kernel
theorem dX3_monthsToMeet_75 : decode cX3_monthsToMeet 75 = .ok (.invokestatic 70, 3) := by decide +kernel
theorem dX3_monthsToMeet_78 : decode cX3_monthsToMeet 78 = .ok (.aload_n 0, 1) := by decide +kernel
theorem dX3_monthsToMeet_79 : decode cX3_monthsToMeet 79 = .ok (.getfield 18, 3) := by decide +kernel
theorem dX3_monthsToMeet_82 : decode cX3_monthsToMeet 82 = .ok (.invokestatic 70, 3) := by decide +kernel
theorem dX3_monthsToMeet_85 : decode cX3_monthsToMeet 85 = .ok (.iand, 1) := by decide +kernel
theorem dX3_monthsToMeet_86 : decode cX3_monthsToMeet 86 = .ok (.ifCond .eq 6, 3) := by decide +kernel
theorem dX3_monthsToMeet_89 : decode cX3_monthsToMeet 89 = .ok (.iload 5, 2) := by decide +kernel
theorem dX3_monthsToMeet_91 : decode cX3_monthsToMeet 91 = .ok (.ireturn, 1) := by decide +kernel
theorem dX3_monthsToMeet_92 : decode cX3_monthsToMeet 92 = .ok (.aload_n 0, 1) := by decide +kernel
theorem dX3_monthsToMeet_93 : decode cX3_monthsToMeet 93 = .ok (.getfield 15, 3) := by decide +kernel
theorem dX3_monthsToMeet_96 : decode cX3_monthsToMeet 96 = .ok (.aload_n 2, 1) := by decide +kernel
theorem dX3_monthsToMeet_97 : decode cX3_monthsToMeet 97 = .ok (.aload_n 1, 1) := by decide +kernel
theorem dX3_monthsToMeet_98 : decode cX3_monthsToMeet 98 = .ok (.getfield 44, 3) := by decide +kernel
theorem dX3_monthsToMeet_101 : decode cX3_monthsToMeet 101 = .ok (.invokestatic 74, 3) := by decide +kernel
theorem dX3_monthsToMeet_104 : decode cX3_monthsToMeet 104 = .ok (.aload_n 0, 1) := by decide +kernel
theorem dX3_monthsToMeet_105 : decode cX3_monthsToMeet 105 = .ok (.getfield 18, 3) := by decide +kernel
theorem dX3_monthsToMeet_108 : decode cX3_monthsToMeet 108 = .ok (.aload_n 2, 1) := by decide +kernel
theorem dX3_monthsToMeet_109 : decode cX3_monthsToMeet 109 = .ok (.aload_n 1, 1) := by decide +kernel
theorem dX3_monthsToMeet_110 : decode cX3_monthsToMeet 110 = .ok (.getfield 44, 3) := by decide +kernel
theorem dX3_monthsToMeet_113 : decode cX3_monthsToMeet 113 = .ok (.invokestatic 74, 3) := by decide +kernel
theorem dX3_monthsToMeet_116 : decode cX3_monthsToMeet 116 = .ok (.iinc 5 1, 3) := by decide +kernel
theorem dX3_monthsToMeet_119 : decode cX3_monthsToMeet 119 = .ok (.goto (-55), 3) := by decide +kernel
theorem dX3_monthsToMeet_122 : decode cX3_monthsToMeet 122 = .ok (.iconst (-1), 1) := by decide +kernel
theorem dX3_monthsToMeet_123 : decode cX3_monthsToMeet 123 = .ok (.ireturn, 1) := by decide +kernel
set_option maxRecDepth 20000 in
theorem ggX3_spendMonth_X3_union : GoodIn wsX3_spendMonth wsX3_union := goodIn_m (fun w hw => by
  revert w hw; unfold wsX3_union
  exact am_cons (am_at in_wsX3_spendMonth_0 3 rfl) am_nil) gw_wsX3_union
set_option maxRecDepth 20000 in
theorem gX3_spendMonth_X3_union : GoodIn wsX3_spendMonth (va_wsS RX3 70 yX3_union wsX3_union) := goodIn_app (goodIn_m (am_cons (am_at in_wsX3_spendMonth_0 0 rfl) (am_cons (am_at in_wsX3_spendMonth_0 1 rfl) (am_cons (am_at in_wsX3_spendMonth_0 2 rfl) am_nil))) (by decide +kernel)) ggX3_spendMonth_X3_union
set_option maxRecDepth 20000 in
theorem ggX3_spendMonth_X7_exitsOf : GoodIn wsX3_spendMonth wsX7_exitsOf := goodIn_m (fun w hw => by
  revert w hw; unfold wsX7_exitsOf
  exact am_cons (am_at in_wsX3_spendMonth_0 6 rfl) am_nil) gw_wsX7_exitsOf
set_option maxRecDepth 20000 in
theorem gX3_spendMonth_X7_exitsOf_n62 : GoodIn wsX3_spendMonth (wsX7_exitsOf) := ggX3_spendMonth_X7_exitsOf
theorem dX3_spendMonth_0 : decode cX3_spendMonth 0 = .ok (.aload_n 0, 1) := by decide +kernel
theorem dX3_spendMonth_1 : decode cX3_spendMonth 1 = .ok (.invokestatic 70, 3) := by decide +kernel
theorem dX3_spendMonth_4 : decode cX3_spendMonth 4 = .ok (.aload_n 1, 1) := by decide +kernel
theorem dX3_spendMonth_5 : decode cX3_spendMonth 5 = .ok (.invokestatic 62, 3) := by decide +kernel
theorem dX3_spendMonth_8 : decode cX3_spendMonth 8 = .ok (.istore_n 3, 1) := by decide +kernel
theorem dX3_spendMonth_9 : decode cX3_spendMonth 9 = .ok (.iconst 4, 1) := by decide +kernel
theorem dX3_spendMonth_10 : decode cX3_spendMonth 10 = .ok (.istore 4, 2) := by decide +kernel
theorem dX3_spendMonth_12 : decode cX3_spendMonth 12 = .ok (.iload 4, 2) := by decide +kernel
theorem dX3_spendMonth_14 : decode cX3_spendMonth 14 = .ok (.ifCond .le 29, 3) := by decide +kernel
theorem dX3_spendMonth_17 : decode cX3_spendMonth 17 = .ok (.aload_n 0, 1) := by decide +kernel
theorem dX3_spendMonth_18 : decode cX3_spendMonth 18 = .ok (.iload 4, 2) := by decide +kernel
theorem dX3_spendMonth_20 : decode cX3_spendMonth 20 = .ok (.iload 4, 2) := by decide +kernel
theorem dX3_spendMonth_22 : decode cX3_spendMonth 22 = .ok (.iload_n 2, 1) := by decide +kernel
theorem dX3_spendMonth_23 : decode cX3_spendMonth 23 = .ok (.if_icmp .gt 12, 3) := by decide +kernel
theorem dX3_spendMonth_26 : decode cX3_spendMonth 26 = .ok (.aload_n 0, 1) := by decide +kernel
theorem dX3_spendMonth_27 : decode cX3_spendMonth 27 = .ok (.iload 4, 2) := by decide +kernel
theorem dX3_spendMonth_29 : decode cX3_spendMonth 29 = .ok (.iconst 1, 1) := by decide +kernel
theorem dX3_spendMonth_30 : decode cX3_spendMonth 30 = .ok (.isub, 1) := by decide +kernel
theorem dX3_spendMonth_31 : decode cX3_spendMonth 31 = .ok (.iaload, 1) := by decide +kernel
theorem dX3_spendMonth_32 : decode cX3_spendMonth 32 = .ok (.goto 4, 3) := by decide +kernel
theorem dX3_spendMonth_35 : decode cX3_spendMonth 35 = .ok (.iconst 0, 1) := by decide +kernel
theorem dX3_spendMonth_36 : decode cX3_spendMonth 36 = .ok (.iastore, 1) := by decide +kernel
theorem dX3_spendMonth_37 : decode cX3_spendMonth 37 = .ok (.iinc 4 (-1), 3) := by decide +kernel
theorem dX3_spendMonth_40 : decode cX3_spendMonth 40 = .ok (.goto (-28), 3) := by decide +kernel
theorem dX3_spendMonth_43 : decode cX3_spendMonth 43 = .ok (.aload_n 0, 1) := by decide +kernel
theorem dX3_spendMonth_44 : decode cX3_spendMonth 44 = .ok (.iconst 0, 1) := by decide +kernel
theorem dX3_spendMonth_45 : decode cX3_spendMonth 45 = .ok (.iload_n 3, 1) := by decide +kernel
theorem dX3_spendMonth_46 : decode cX3_spendMonth 46 = .ok (.iastore, 1) := by decide +kernel
theorem dX3_spendMonth_47 : decode cX3_spendMonth 47 = .ok (.return_, 1) := by decide +kernel
theorem dX3_union_0 : decode cX3_union 0 = .ok (.iconst 0, 1) := by decide +kernel
theorem dX3_union_1 : decode cX3_union 1 = .ok (.istore_n 1, 1) := by decide +kernel
theorem dX3_union_2 : decode cX3_union 2 = .ok (.iconst 0, 1) := by decide +kernel
theorem dX3_union_3 : decode cX3_union 3 = .ok (.istore_n 2, 1) := by decide +kernel
theorem dX3_union_4 : decode cX3_union 4 = .ok (.iload_n 2, 1) := by decide +kernel
theorem dX3_union_5 : decode cX3_union 5 = .ok (.aload_n 0, 1) := by decide +kernel
theorem dX3_union_6 : decode cX3_union 6 = .ok (.arraylength, 1) := by decide +kernel
theorem dX3_union_7 : decode cX3_union 7 = .ok (.if_icmp .ge 15, 3) := by decide +kernel
theorem dX3_union_10 : decode cX3_union 10 = .ok (.iload_n 1, 1) := by decide +kernel
theorem dX3_union_11 : decode cX3_union 11 = .ok (.aload_n 0, 1) := by decide +kernel
theorem dX3_union_12 : decode cX3_union 12 = .ok (.iload_n 2, 1) := by decide +kernel
theorem dX3_union_13 : decode cX3_union 13 = .ok (.iaload, 1) := by decide +kernel
theorem dX3_union_14 : decode cX3_union 14 = .ok (.ior, 1) := by decide +kernel
theorem dX3_union_15 : decode cX3_union 15 = .ok (.istore_n 1, 1) := by decide +kernel
theorem dX3_union_16 : decode cX3_union 16 = .ok (.iinc 2 1, 3) := by decide +kernel
theorem dX3_union_19 : decode cX3_union 19 = .ok (.goto (-15), 3) := by decide +kernel
theorem dX3_union_22 : decode cX3_union 22 = .ok (.iload_n 1, 1) := by decide +kernel
theorem dX3_union_23 : decode cX3_union 23 = .ok (.ireturn, 1) := by decide +kernel
theorem dX4_init_0 : decode cX4_init 0 = .ok (.aload_n 0, 1) := by decide +kernel
theorem dX4_init_1 : decode cX4_init 1 = .ok (.invokespecial 5, 3) := by decide +kernel
theorem dX4_init_4 : decode cX4_init 4 = .ok (.aload_n 0, 1) := by decide +kernel
theorem dX4_init_5 : decode cX4_init 5 = .ok (.sipush 160, 3) := by decide +kernel
theorem dX4_init_8 : decode cX4_init 8 = .ok (.newarray .long, 2) := by decide +kernel
theorem dX4_init_10 : decode cX4_init 10 = .ok (.putfield 11, 3) := by decide +kernel
theorem dX4_init_13 : decode cX4_init 13 = .ok (.aload_n 0, 1) := by decide +kernel
theorem dX4_init_14 : decode cX4_init 14 = .ok (.sipush 160, 3) := by decide +kernel
theorem dX4_init_17 : decode cX4_init 17 = .ok (.newarray .long, 2) := by decide +kernel
theorem dX4_init_19 : decode cX4_init 19 = .ok (.putfield 15, 3) := by decide +kernel
theorem dX4_init_22 : decode cX4_init 22 = .ok (.return_, 1) := by decide +kernel
set_option maxRecDepth 20000 in
theorem ggX4_fewestMonths_X4_clear : GoodIn wsX4_fewestMonths wsX4_clear := goodIn_m (fun w hw => by
  revert w hw; unfold wsX4_clear
  exact am_cons (am_at in_wsX4_fewestMonths_0 8 rfl) am_nil) gw_wsX4_clear
set_option maxRecDepth 20000 in
theorem gX4_fewestMonths_X4_clear : GoodIn wsX4_fewestMonths (va_wsS RX4 18 yX4_clear wsX4_clear) := goodIn_app (goodIn_m (am_cons (am_at in_wsX4_fewestMonths_0 5 rfl) (am_cons (am_at in_wsX4_fewestMonths_0 6 rfl) (am_cons (am_at in_wsX4_fewestMonths_0 7 rfl) am_nil))) (by decide +kernel)) ggX4_fewestMonths_X4_clear
set_option maxRecDepth 20000 in
theorem ggX4_fewestMonths_X4_cell : GoodIn wsX4_fewestMonths wsX4_cell := goodIn_m (fun w hw => by
  revert w hw; unfold wsX4_cell
  exact am_cons (am_at in_wsX4_fewestMonths_0 11 rfl) am_nil) gw_wsX4_cell
set_option maxRecDepth 20000 in
theorem gX4_fewestMonths_X4_cell : GoodIn wsX4_fewestMonths (va_wsS RX4 34 yX4_cell wsX4_cell) := goodIn_app (goodIn_m (am_cons (am_at in_wsX4_fewestMonths_0 9 rfl) (am_cons (am_at in_wsX4_fewestMonths_0 10 rfl) (am_cons (am_at in_wsX4_fewestMonths_0 7 rfl) am_nil))) (by decide +kernel)) ggX4_fewestMonths_X4_cell
set_option maxRecDepth 20000 in
theorem ggX4_fewestMonths_X4_holds : GoodIn wsX4_fewestMonths wsX4_holds := goodIn_m (fun w hw => by
  revert w hw; unfold wsX4_holds
  exact am_cons (am_at in_wsX4_fewestMonths_0 15 rfl) (am_app (am_app (am_cons (am_at in_wsX4_fewestMonths_0 16 rfl) (am_cons (am_at in_wsX4_fewestMonths_0 17 rfl) (am_cons (am_at in_wsX4_fewestMonths_0 0 rfl) (am_cons (am_at in_wsX4_fewestMonths_0 9 rfl) (am_cons (am_at in_wsX4_fewestMonths_0 10 rfl) (am_cons (am_at in_wsX4_fewestMonths_0 7 rfl) (am_cons (am_at in_wsX4_fewestMonths_0 11 rfl) am_nil))))))) in_wsX4_fewestMonths_4) in_wsX4_fewestMonths_2)) gw_wsX4_holds
set_option maxRecDepth 20000 in
theorem gX4_fewestMonths_X4_holds : GoodIn wsX4_fewestMonths (wsV RX4 38 RX4 yX4_holds wsX4_holds) := goodIn_app (goodIn_m (am_cons (am_at in_wsX4_fewestMonths_0 12 rfl) (am_cons (am_at in_wsX4_fewestMonths_0 13 rfl) (am_cons (am_at in_wsX4_fewestMonths_0 14 rfl) (am_cons (am_at in_wsX4_fewestMonths_0 7 rfl) am_nil)))) (by decide +kernel)) ggX4_fewestMonths_X4_holds
set_option maxRecDepth 20000 in
theorem ggX4_fewestMonths_X4_spendMonth : GoodIn wsX4_fewestMonths wsX4_spendMonth := goodIn_m (fun w hw => by
  revert w hw; unfold wsX4_spendMonth wsX4_spendMonth_r1 wsX4_spendMonth_r2
  exact am_cons (am_at in_wsX4_fewestMonths_0 21 rfl) (am_app (am_app (am_app (am_cons (am_at in_wsX4_fewestMonths_0 22 rfl) (am_cons (am_at in_wsX4_fewestMonths_0 16 rfl) (am_cons (am_at in_wsX4_fewestMonths_0 17 rfl) (am_cons (am_at in_wsX4_fewestMonths_0 0 rfl) (am_cons (am_at in_wsX4_fewestMonths_0 5 rfl) (am_cons (am_at in_wsX4_fewestMonths_0 6 rfl) (am_cons (am_at in_wsX4_fewestMonths_0 7 rfl) (am_cons (am_at in_wsX4_fewestMonths_0 8 rfl) (am_cons (am_at in_wsX4_fewestMonths_0 23 rfl) (am_cons (am_at in_wsX4_fewestMonths_1 0 rfl) (am_cons (am_at in_wsX4_fewestMonths_1 1 rfl) (am_cons (am_at in_wsX4_fewestMonths_1 2 rfl) (am_cons (am_at in_wsX4_fewestMonths_1 3 rfl) (am_cons (am_at in_wsX4_fewestMonths_1 4 rfl) (am_cons (am_at in_wsX4_fewestMonths_1 5 rfl) (am_cons (am_at in_wsX4_fewestMonths_1 6 rfl) (am_cons (am_at in_wsX4_fewestMonths_1 7 rfl) (am_cons (am_at in_wsX4_fewestMonths_1 8 rfl) (am_cons (am_at in_wsX4_fewestMonths_1 9 rfl) (am_cons (am_at in_wsX4_fewestMonths_1 10 rfl) (am_cons (am_at in_wsX4_fewestMonths_0 9 rfl) (am_cons (am_at in_wsX4_fewestMonths_0 10 rfl) (am_cons (am_at in_wsX4_fewestMonths_0 11 rfl) (am_cons (am_at in_wsX4_fewestMonths_1 11 rfl) am_nil)))))))))))))))))))))))) (am_cons (am_at in_wsX4_fewestMonths_1 12 rfl) (am_cons (am_at in_wsX4_fewestMonths_1 13 rfl) (am_cons (am_at in_wsX4_fewestMonths_1 14 rfl) (am_cons (am_at in_wsX4_fewestMonths_1 15 rfl) (am_cons (am_at in_wsX4_fewestMonths_1 16 rfl) (am_cons (am_at in_wsX4_fewestMonths_1 17 rfl) (am_cons (am_at in_wsX4_fewestMonths_1 18 rfl) (am_cons (am_at in_wsX4_fewestMonths_1 19 rfl) (am_cons (am_at in_wsX4_fewestMonths_1 20 rfl) (am_cons (am_at in_wsX4_fewestMonths_1 21 rfl) (am_cons (am_at in_wsX4_fewestMonths_1 22 rfl) (am_cons (am_at in_wsX4_fewestMonths_1 23 rfl) am_nil))))))))))))) in_wsX4_fewestMonths_2) in_wsX4_fewestMonths_4)) gw_wsX4_spendMonth
set_option maxRecDepth 20000 in
theorem gX4_fewestMonths_X4_spendMonth : GoodIn wsX4_fewestMonths (wsV RX4 45 RX4 yX4_spendMonth wsX4_spendMonth) := goodIn_app (goodIn_m (am_cons (am_at in_wsX4_fewestMonths_0 18 rfl) (am_cons (am_at in_wsX4_fewestMonths_0 19 rfl) (am_cons (am_at in_wsX4_fewestMonths_0 20 rfl) (am_cons (am_at in_wsX4_fewestMonths_0 7 rfl) am_nil)))) (by decide +kernel)) ggX4_fewestMonths_X4_spendMonth
theorem dX4_fewestMonths_0 : decode cX4_fewestMonths 0 = .ok (.aload_n 0, 1) := by decide +kernel
theorem dX4_fewestMonths_1 : decode cX4_fewestMonths 1 = .ok (.getfield 11, 3) := by decide +kernel
theorem dX4_fewestMonths_4 : decode cX4_fewestMonths 4 = .ok (.invokestatic 18, 3) := by decide +kernel
theorem dX4_fewestMonths_7 : decode cX4_fewestMonths 7 = .ok (.aload_n 3, 1) := by decide +kernel
theorem dX4_fewestMonths_8 : decode cX4_fewestMonths 8 = .ok (.getfield 22, 3) := by decide +kernel
theorem dX4_fewestMonths_11 : decode cX4_fewestMonths 11 = .ok (.iload 4, 2) := by decide +kernel
theorem dX4_fewestMonths_13 : decode cX4_fewestMonths 13 = .ok (.iand, 1) := by decide +kernel
theorem dX4_fewestMonths_14 : decode cX4_fewestMonths 14 = .ok (.istore 5, 2) := by decide +kernel
theorem dX4_fewestMonths_16 : decode cX4_fewestMonths 16 = .ok (.aload_n 3, 1) := by decide +kernel
theorem dX4_fewestMonths_17 : decode cX4_fewestMonths 17 = .ok (.getfield 28, 3) := by decide +kernel
theorem dX4_fewestMonths_20 : decode cX4_fewestMonths 20 = .ok (.aload_n 3, 1) := by decide +kernel
theorem dX4_fewestMonths_21 : decode cX4_fewestMonths 21 = .ok (.getfield 31, 3) := by decide +kernel
theorem dX4_fewestMonths_24 : decode cX4_fewestMonths 24 = .ok (.invokestatic 34, 3) := by decide +kernel
theorem dX4_fewestMonths_27 : decode cX4_fewestMonths 27 = .ok (.iload 5, 2) := by decide +kernel
theorem dX4_fewestMonths_29 : decode cX4_fewestMonths 29 = .ok (.bipush 6, 2) := by decide +kernel
theorem dX4_fewestMonths_31 : decode cX4_fewestMonths 31 = .ok (.ishr, 1) := by decide +kernel
theorem dX4_fewestMonths_32 : decode cX4_fewestMonths 32 = .ok (.iadd, 1) := by decide +kernel
theorem dX4_fewestMonths_33 : decode cX4_fewestMonths 33 = .ok (.istore 6, 2) := by decide +kernel
theorem dX4_fewestMonths_35 : decode cX4_fewestMonths 35 = .ok (.iload 6, 2) := by decide +kernel
theorem dX4_fewestMonths_37 : decode cX4_fewestMonths 37 = .ok (.ifCond .lt 11, 3) := by decide +kernel
theorem dX4_fewestMonths_40 : decode cX4_fewestMonths 40 = .ok (.iload 6, 2) := by decide +kernel
theorem dX4_fewestMonths_42 : decode cX4_fewestMonths 42 = .ok (.sipush 160, 3) := by decide +kernel
theorem dX4_fewestMonths_45 : decode cX4_fewestMonths 45 = .ok (.if_icmp .lt 5, 3) := by decide +kernel
theorem dX4_fewestMonths_48 : decode cX4_fewestMonths 48 = .ok (.iconst (-1), 1) := by decide +kernel
theorem dX4_fewestMonths_49 : decode cX4_fewestMonths 49 = .ok (.ireturn, 1) := by decide +kernel
theorem dX4_fewestMonths_50 : decode cX4_fewestMonths 50 = .ok (.aload_n 0, 1) := by decide +kernel
theorem dX4_fewestMonths_51 : decode cX4_fewestMonths 51 = .ok (.getfield 11, 3) := by decide +kernel
theorem dX4_fewestMonths_54 : decode cX4_fewestMonths 54 = .ok (.iload 6, 2) := by decide +kernel
theorem dX4_fewestMonths_56 : decode cX4_fewestMonths 56 = .ok (.lconst 1, 1) := by decide +kernel
theorem dX4_fewestMonths_57 : decode cX4_fewestMonths 57 = .ok (.iload 5, 2) := by decide +kernel
theorem dX4_fewestMonths_59 : decode cX4_fewestMonths 59 = .ok (.bipush 63, 2) := by decide +kernel
theorem dX4_fewestMonths_61 : decode cX4_fewestMonths 61 = .ok (.iand, 1) := by decide +kernel
theorem dX4_fewestMonths_62 : decode cX4_fewestMonths 62 = .ok (.lshl, 1) := by decide +kernel
theorem dX4_fewestMonths_63 : decode cX4_fewestMonths 63 = .ok (.lastore, 1) := by decide +kernel
theorem dX4_fewestMonths_64 : decode cX4_fewestMonths 64 = .ok (.iconst 0, 1) := by decide +kernel
theorem dX4_fewestMonths_65 : decode cX4_fewestMonths 65 = .ok (.istore 7, 2) := by decide +kernel
theorem dX4_fewestMonths_67 : decode cX4_fewestMonths 67 = .ok (.iload 7, 2) := by decide +kernel
theorem dX4_fewestMonths_69 : decode cX4_fewestMonths 69 = .ok (.bipush 60, 2) := by decide +kernel
theorem dX4_fewestMonths_71 : decode cX4_fewestMonths 71 = .ok (.if_icmp .gt 37, 3) := by decide +kernel
theorem dX4_fewestMonths_74 : decode cX4_fewestMonths 74 = .ok (.aload_n 0, 1) := by decide +kernel
theorem dX4_fewestMonths_75 : decode cX4_fewestMonths 75 = .ok (.aload_n 1, 1) := by decide +kernel
theorem dX4_fewestMonths_76 : decode cX4_fewestMonths 76 = .ok (.iload 4, 2) := by decide +kernel
theorem dX4_fewestMonths_78 : decode cX4_fewestMonths 78 = .ok (.invokevirtual 38, 3) := by decide +kernel
theorem dX4_fewestMonths_81 : decode cX4_fewestMonths 81 = .ok (.ifCond .eq 6, 3) := by decide +kernel
theorem dX4_fewestMonths_84 : decode cX4_fewestMonths 84 = .ok (.iload 7, 2) := by decide +kernel
theorem dX4_fewestMonths_86 : decode cX4_fewestMonths 86 = .ok (.ireturn, 1) := by decide +kernel
theorem dX4_fewestMonths_87 : decode cX4_fewestMonths 87 = .ok (.aload_n 0, 1) := by decide +kernel
theorem dX4_fewestMonths_88 : decode cX4_fewestMonths 88 = .ok (.aload_n 1, 1) := by decide +kernel
theorem dX4_fewestMonths_89 : decode cX4_fewestMonths 89 = .ok (.aload_n 2, 1) := by decide +kernel
theorem dX4_fewestMonths_90 : decode cX4_fewestMonths 90 = .ok (.aload_n 3, 1) := by decide +kernel
theorem dX4_fewestMonths_91 : decode cX4_fewestMonths 91 = .ok (.getfield 42, 3) := by decide +kernel
theorem dX4_fewestMonths_94 : decode cX4_fewestMonths 94 = .ok (.iload 7, 2) := by decide +kernel
theorem dX4_fewestMonths_96 : decode cX4_fewestMonths 96 = .ok (.iadd, 1) := by decide +kernel
theorem dX4_fewestMonths_97 : decode cX4_fewestMonths 97 = .ok (.iload 4, 2) := by decide +kernel
theorem dX4_fewestMonths_99 : decode cX4_fewestMonths 99 = .ok (.invokevirtual 45, 3) := by decide +kernel
theorem dX4_fewestMonths_102 : decode cX4_fewestMonths 102 = .ok (.iinc 7 1, 3) := by decide +kernel
theorem dX4_fewestMonths_105 : decode cX4_fewestMonths 105 = .ok (.goto (-38), 3) := by decide +kernel
theorem dX4_fewestMonths_108 : decode cX4_fewestMonths 108 = .ok (.iconst (-1), 1) := by decide +kernel
theorem dX4_fewestMonths_109 : decode cX4_fewestMonths 109 = .ok (.ireturn, 1) := by decide +kernel
theorem dX4_clear_0 : decode cX4_clear 0 = .ok (.iconst 0, 1) := by decide +kernel
theorem dX4_clear_1 : decode cX4_clear 1 = .ok (.istore_n 1, 1) := by decide +kernel
theorem dX4_clear_2 : decode cX4_clear 2 = .ok (.iload_n 1, 1) := by decide +kernel
theorem dX4_clear_3 : decode cX4_clear 3 = .ok (.aload_n 0, 1) := by decide +kernel
theorem dX4_clear_4 : decode cX4_clear 4 = .ok (.arraylength, 1) := by decide +kernel
theorem dX4_clear_5 : decode cX4_clear 5 = .ok (.if_icmp .ge 13, 3) := by decide +kernel
theorem dX4_clear_8 : decode cX4_clear 8 = .ok (.aload_n 0, 1) := by decide +kernel
theorem dX4_clear_9 : decode cX4_clear 9 = .ok (.iload_n 1, 1) := by decide +kernel
theorem dX4_clear_10 : decode cX4_clear 10 = .ok (.lconst 0, 1) := by decide +kernel
theorem dX4_clear_11 : decode cX4_clear 11 = .ok (.lastore, 1) := by decide +kernel
theorem dX4_clear_12 : decode cX4_clear 12 = .ok (.iinc 1 1, 3) := by decide +kernel
theorem dX4_clear_15 : decode cX4_clear 15 = .ok (.goto (-13), 3) := by decide +kernel
theorem dX4_clear_18 : decode cX4_clear 18 = .ok (.return_, 1) := by decide +kernel
theorem dX4_cell_0 : decode cX4_cell 0 = .ok (.iload_n 0, 1) := by decide +kernel
theorem dX4_cell_1 : decode cX4_cell 1 = .ok (.iconst 5, 1) := by decide +kernel
theorem dX4_cell_2 : decode cX4_cell 2 = .ok (.imul, 1) := by decide +kernel
theorem dX4_cell_3 : decode cX4_cell 3 = .ok (.iload_n 1, 1) := by decide +kernel
theorem dX4_cell_4 : decode cX4_cell 4 = .ok (.iadd, 1) := by decide +kernel
theorem dX4_cell_5 : decode cX4_cell 5 = .ok (.iconst 4, 1) := by decide +kernel
theorem dX4_cell_6 : decode cX4_cell 6 = .ok (.imul, 1) := by decide +kernel
theorem dX4_cell_7 : decode cX4_cell 7 = .ok (.ireturn, 1) := by decide +kernel
set_option maxRecDepth 20000 in
theorem ggX4_holds_X4_cell : GoodIn wsX4_holds wsX4_cell := goodIn_m (fun w hw => by
  revert w hw; unfold wsX4_cell
  exact am_cons (am_at in_wsX4_holds_0 6 rfl) am_nil) gw_wsX4_cell
set_option maxRecDepth 20000 in
theorem gX4_holds_X4_cell : GoodIn wsX4_holds (va_wsS RX4 34 yX4_cell wsX4_cell) := goodIn_app (goodIn_m (am_cons (am_at in_wsX4_holds_0 3 rfl) (am_cons (am_at in_wsX4_holds_0 4 rfl) (am_cons (am_at in_wsX4_holds_0 5 rfl) am_nil))) (by decide +kernel)) ggX4_holds_X4_cell
theorem dX4_holds_0 : decode cX4_holds 0 = .ok (.iconst 0, 1) := by decide +kernel
theorem dX4_holds_1 : decode cX4_holds 1 = .ok (.istore_n 3, 1) := by decide +kernel
theorem dX4_holds_2 : decode cX4_holds 2 = .ok (.iload_n 3, 1) := by decide +kernel
theorem dX4_holds_3 : decode cX4_holds 3 = .ok (.aload_n 1, 1) := by decide +kernel
theorem dX4_holds_4 : decode cX4_holds 4 = .ok (.getfield 49, 3) := by decide +kernel
theorem dX4_holds_7 : decode cX4_holds 7 = .ok (.if_icmp .ge 57, 3) := by decide +kernel
theorem dX4_holds_10 : decode cX4_holds 10 = .ok (.iconst 0, 1) := by decide +kernel
theorem dX4_holds_11 : decode cX4_holds 11 = .ok (.istore 4, 2) := by decide +kernel
theorem dX4_holds_13 : decode cX4_holds 13 = .ok (.iload 4, 2) := by decide +kernel
theorem dX4_holds_15 : decode cX4_holds 15 = .ok (.aload_n 1, 1) := by decide +kernel
theorem dX4_holds_16 : decode cX4_holds 16 = .ok (.getfield 54, 3) := by decide +kernel
theorem dX4_holds_19 : decode cX4_holds 19 = .ok (.if_icmp .gt 39, 3) := by decide +kernel
theorem dX4_holds_22 : decode cX4_holds 22 = .ok (.aload_n 0, 1) := by decide +kernel
theorem dX4_holds_23 : decode cX4_holds 23 = .ok (.getfield 11, 3) := by decide +kernel
theorem dX4_holds_26 : decode cX4_holds 26 = .ok (.iload_n 3, 1) := by decide +kernel
theorem dX4_holds_27 : decode cX4_holds 27 = .ok (.iload 4, 2) := by decide +kernel
theorem dX4_holds_29 : decode cX4_holds 29 = .ok (.invokestatic 34, 3) := by decide +kernel
theorem dX4_holds_32 : decode cX4_holds 32 = .ok (.iload_n 2, 1) := by decide +kernel
theorem dX4_holds_33 : decode cX4_holds 33 = .ok (.bipush 6, 2) := by decide +kernel
theorem dX4_holds_35 : decode cX4_holds 35 = .ok (.ishr, 1) := by decide +kernel
theorem dX4_holds_36 : decode cX4_holds 36 = .ok (.iadd, 1) := by decide +kernel
theorem dX4_holds_37 : decode cX4_holds 37 = .ok (.laload, 1) := by decide +kernel
theorem dX4_holds_38 : decode cX4_holds 38 = .ok (.iload_n 2, 1) := by decide +kernel
theorem dX4_holds_39 : decode cX4_holds 39 = .ok (.bipush 63, 2) := by decide +kernel
theorem dX4_holds_41 : decode cX4_holds 41 = .ok (.iand, 1) := by decide +kernel
theorem dX4_holds_42 : decode cX4_holds 42 = .ok (.lushr, 1) := by decide +kernel
theorem dX4_holds_43 : decode cX4_holds 43 = .ok (.lconst 1, 1) := by decide +kernel
theorem dX4_holds_44 : decode cX4_holds 44 = .ok (.land, 1) := by decide +kernel
theorem dX4_holds_45 : decode cX4_holds 45 = .ok (.lconst 0, 1) := by decide +kernel
theorem dX4_holds_46 : decode cX4_holds 46 = .ok (.lcmp, 1) := by decide +kernel
theorem dX4_holds_47 : decode cX4_holds 47 = .ok (.ifCond .eq 5, 3) := by decide +kernel
theorem dX4_holds_50 : decode cX4_holds 50 = .ok (.iconst 1, 1) := by decide +kernel
theorem dX4_holds_51 : decode cX4_holds 51 = .ok (.ireturn, 1) := by decide +kernel
theorem dX4_holds_52 : decode cX4_holds 52 = .ok (.iinc 4 1, 3) := by decide +kernel
theorem dX4_holds_55 : decode cX4_holds 55 = .ok (.goto (-42), 3) := by decide +kernel
theorem dX4_holds_58 : decode cX4_holds 58 = .ok (.iinc 3 1, 3) := by decide +kernel
theorem dX4_holds_61 : decode cX4_holds 61 = .ok (.goto (-59), 3) := by decide +kernel
theorem dX4_holds_64 : decode cX4_holds 64 = .ok (.iconst 0, 1) := by decide +kernel
theorem dX4_holds_65 : decode cX4_holds 65 = .ok (.ireturn, 1) := by decide +kernel
set_option maxRecDepth 20000 in
theorem ggX4_spendMonth_X4_clear : GoodIn wsX4_spendMonth wsX4_clear := goodIn_m (fun w hw => by
  revert w hw; unfold wsX4_clear
  exact am_cons (am_at in_wsX4_spendMonth_0 7 rfl) am_nil) gw_wsX4_clear
set_option maxRecDepth 20000 in
theorem gX4_spendMonth_X4_clear : GoodIn wsX4_spendMonth (va_wsS RX4 18 yX4_clear wsX4_clear) := goodIn_app (goodIn_m (am_cons (am_at in_wsX4_spendMonth_0 4 rfl) (am_cons (am_at in_wsX4_spendMonth_0 5 rfl) (am_cons (am_at in_wsX4_spendMonth_0 6 rfl) am_nil))) (by decide +kernel)) ggX4_spendMonth_X4_clear
set_option maxRecDepth 20000 in
theorem ggX4_spendMonth_X0_worksIn : GoodIn wsX4_spendMonth wsX0_worksIn := goodIn_m (fun w hw => by
  revert w hw; unfold wsX0_worksIn
  exact am_cons (am_at in_wsX4_spendMonth_0 12 rfl) (am_app (am_cons (am_at in_wsX4_spendMonth_0 13 rfl) (am_cons (am_at in_wsX4_spendMonth_0 14 rfl) (am_cons (am_at in_wsX4_spendMonth_0 15 rfl) (am_cons (am_at in_wsX4_spendMonth_0 16 rfl) (am_cons (am_at in_wsX4_spendMonth_0 17 rfl) (am_cons (am_at in_wsX4_spendMonth_0 11 rfl) (am_cons (am_at in_wsX4_spendMonth_0 18 rfl) (am_cons (am_at in_wsX4_spendMonth_0 19 rfl) am_nil)))))))) in_wsX4_spendMonth_3)) gw_wsX0_worksIn
set_option maxRecDepth 20000 in
theorem gX4_spendMonth_X0_worksIn : GoodIn wsX4_spendMonth (wsV RX4 57 RX0 yX0_worksIn wsX0_worksIn) := goodIn_app (goodIn_m (am_cons (am_at in_wsX4_spendMonth_0 8 rfl) (am_cons (am_at in_wsX4_spendMonth_0 9 rfl) (am_cons (am_at in_wsX4_spendMonth_0 10 rfl) (am_cons (am_at in_wsX4_spendMonth_0 11 rfl) am_nil)))) (by decide +kernel)) ggX4_spendMonth_X0_worksIn
set_option maxRecDepth 20000 in
theorem ggX4_spendMonth_X4_cell : GoodIn wsX4_spendMonth wsX4_cell := goodIn_m (fun w hw => by
  revert w hw; unfold wsX4_cell
  exact am_cons (am_at in_wsX4_spendMonth_0 22 rfl) am_nil) gw_wsX4_cell
set_option maxRecDepth 20000 in
theorem gX4_spendMonth_X4_cell : GoodIn wsX4_spendMonth (va_wsS RX4 34 yX4_cell wsX4_cell) := goodIn_app (goodIn_m (am_cons (am_at in_wsX4_spendMonth_0 20 rfl) (am_cons (am_at in_wsX4_spendMonth_0 21 rfl) (am_cons (am_at in_wsX4_spendMonth_0 6 rfl) am_nil))) (by decide +kernel)) ggX4_spendMonth_X4_cell
set_option maxRecDepth 20000 in
theorem ggX4_spendMonth_X4_isEmpty : GoodIn wsX4_spendMonth wsX4_isEmpty := goodIn_m (fun w hw => by
  revert w hw; unfold wsX4_isEmpty
  exact am_cons (am_at in_wsX4_spendMonth_1 2 rfl) (am_app (am_cons (am_at in_wsX4_spendMonth_0 3 rfl) am_nil) in_wsX4_spendMonth_2)) gw_wsX4_isEmpty
set_option maxRecDepth 20000 in
theorem gX4_spendMonth_X4_isEmpty : GoodIn wsX4_spendMonth (wsV RX4 61 RX4 yX4_isEmpty wsX4_isEmpty) := goodIn_app (goodIn_m (am_cons (am_at in_wsX4_spendMonth_0 23 rfl) (am_cons (am_at in_wsX4_spendMonth_1 0 rfl) (am_cons (am_at in_wsX4_spendMonth_1 1 rfl) (am_cons (am_at in_wsX4_spendMonth_0 6 rfl) am_nil)))) (by decide +kernel)) ggX4_spendMonth_X4_isEmpty
set_option maxRecDepth 20000 in
theorem ggX4_spendMonth_X4_walkAll : GoodIn wsX4_spendMonth wsX4_walkAll := goodIn_m (fun w hw => by
  revert w hw; unfold wsX4_walkAll
  exact am_cons (am_at in_wsX4_spendMonth_1 6 rfl) (am_app (am_app (am_cons (am_at in_wsX4_spendMonth_0 1 rfl) (am_cons (am_at in_wsX4_spendMonth_0 20 rfl) (am_cons (am_at in_wsX4_spendMonth_0 21 rfl) (am_cons (am_at in_wsX4_spendMonth_0 6 rfl) (am_cons (am_at in_wsX4_spendMonth_0 22 rfl) (am_cons (am_at in_wsX4_spendMonth_1 7 rfl) (am_cons (am_at in_wsX4_spendMonth_1 8 rfl) (am_cons (am_at in_wsX4_spendMonth_1 9 rfl) (am_cons (am_at in_wsX4_spendMonth_1 10 rfl) (am_cons (am_at in_wsX4_spendMonth_0 3 rfl) (am_cons (am_at in_wsX4_spendMonth_0 0 rfl) (am_cons (am_at in_wsX4_spendMonth_1 11 rfl) am_nil)))))))))))) in_wsX4_spendMonth_3) in_wsX4_spendMonth_2)) gw_wsX4_walkAll
set_option maxRecDepth 20000 in
theorem gX4_spendMonth_X4_walkAll : GoodIn wsX4_spendMonth (wsV RX4 65 RX4 yX4_walkAll wsX4_walkAll) := goodIn_app (goodIn_m (am_cons (am_at in_wsX4_spendMonth_1 3 rfl) (am_cons (am_at in_wsX4_spendMonth_1 4 rfl) (am_cons (am_at in_wsX4_spendMonth_1 5 rfl) (am_cons (am_at in_wsX4_spendMonth_0 6 rfl) am_nil)))) (by decide +kernel)) ggX4_spendMonth_X4_walkAll
set_option maxRecDepth 20000 in
theorem ggX4_spendMonth_X4_moveAll : GoodIn wsX4_spendMonth wsX4_moveAll := goodIn_m (fun w hw => by
  revert w hw; unfold wsX4_moveAll
  exact am_cons (am_at in_wsX4_spendMonth_1 10 rfl) (am_app (am_cons (am_at in_wsX4_spendMonth_0 3 rfl) (am_cons (am_at in_wsX4_spendMonth_0 0 rfl) (am_cons (am_at in_wsX4_spendMonth_1 11 rfl) am_nil))) in_wsX4_spendMonth_2)) gw_wsX4_moveAll
set_option maxRecDepth 20000 in
theorem gX4_spendMonth_X4_moveAll : GoodIn wsX4_spendMonth (wsV RX4 69 RX4 yX4_moveAll wsX4_moveAll) := goodIn_app (goodIn_m (am_cons (am_at in_wsX4_spendMonth_1 7 rfl) (am_cons (am_at in_wsX4_spendMonth_1 8 rfl) (am_cons (am_at in_wsX4_spendMonth_1 9 rfl) (am_cons (am_at in_wsX4_spendMonth_0 6 rfl) am_nil)))) (by decide +kernel)) ggX4_spendMonth_X4_moveAll
theorem dX4_spendMonth_0 : decode cX4_spendMonth 0 = .ok (.aload_n 0, 1) := by decide +kernel
theorem dX4_spendMonth_1 : decode cX4_spendMonth 1 = .ok (.getfield 15, 3) := by decide +kernel
theorem dX4_spendMonth_4 : decode cX4_spendMonth 4 = .ok (.invokestatic 18, 3) := by decide +kernel
theorem dX4_spendMonth_7 : decode cX4_spendMonth 7 = .ok (.iconst 0, 1) := by decide +kernel
theorem dX4_spendMonth_8 : decode cX4_spendMonth 8 = .ok (.istore 5, 2) := by decide +kernel
theorem dX4_spendMonth_10 : decode cX4_spendMonth 10 = .ok (.iload 5, 2) := by decide +kernel
theorem dX4_spendMonth_12 : decode cX4_spendMonth 12 = .ok (.aload_n 1, 1) := by decide +kernel
theorem dX4_spendMonth_13 : decode cX4_spendMonth 13 = .ok (.getfield 49, 3) := by decide +kernel
theorem dX4_spendMonth_16 : decode cX4_spendMonth 16 = .ok (.if_icmp .ge 127, 3) := by decide +kernel
theorem dX4_spendMonth_19 : decode cX4_spendMonth 19 = .ok (.iload 4, 2) := by decide +kernel
theorem dX4_spendMonth_21 : decode cX4_spendMonth 21 = .ok (.iload 5, 2) := by decide +kernel
theorem dX4_spendMonth_23 : decode cX4_spendMonth 23 = .ok (.ishr, 1) := by decide +kernel
theorem dX4_spendMonth_24 : decode cX4_spendMonth 24 = .ok (.iconst 1, 1) := by decide +kernel
theorem dX4_spendMonth_25 : decode cX4_spendMonth 25 = .ok (.iand, 1) := by decide +kernel
theorem dX4_spendMonth_26 : decode cX4_spendMonth 26 = .ok (.ifCond .eq 17, 3) := by decide +kernel
theorem dX4_spendMonth_29 : decode cX4_spendMonth 29 = .ok (.aload_n 1, 1) := by decide +kernel
theorem dX4_spendMonth_30 : decode cX4_spendMonth 30 = .ok (.iload 5, 2) := by decide +kernel
theorem dX4_spendMonth_32 : decode cX4_spendMonth 32 = .ok (.iload_n 3, 1) := by decide +kernel
theorem dX4_spendMonth_33 : decode cX4_spendMonth 33 = .ok (.invokevirtual 57, 3) := by decide +kernel
theorem dX4_spendMonth_36 : decode cX4_spendMonth 36 = .ok (.ifCond .eq 7, 3) := by decide +kernel
theorem dX4_spendMonth_39 : decode cX4_spendMonth 39 = .ok (.iconst 1, 1) := by decide +kernel
theorem dX4_spendMonth_40 : decode cX4_spendMonth 40 = .ok (.goto 4, 3) := by decide +kernel
theorem dX4_spendMonth_43 : decode cX4_spendMonth 43 = .ok (.iconst 0, 1) := by decide +kernel
theorem dX4_spendMonth_44 : decode cX4_spendMonth 44 = .ok (.istore 6, 2) := by decide +kernel
theorem dX4_spendMonth_46 : decode cX4_spendMonth 46 = .ok (.iconst 0, 1) := by decide +kernel
theorem dX4_spendMonth_47 : decode cX4_spendMonth 47 = .ok (.istore 7, 2) := by decide +kernel
theorem dX4_spendMonth_49 : decode cX4_spendMonth 49 = .ok (.iload 7, 2) := by decide +kernel
theorem dX4_spendMonth_51 : decode cX4_spendMonth 51 = .ok (.aload_n 1, 1) := by decide +kernel
theorem dX4_spendMonth_52 : decode cX4_spendMonth 52 = .ok (.getfield 54, 3) := by decide +kernel
theorem dX4_spendMonth_55 : decode cX4_spendMonth 55 = .ok (.if_icmp .gt 82, 3) := by decide +kernel
theorem dX4_spendMonth_58 : decode cX4_spendMonth 58 = .ok (.aload_n 0, 1) := by decide +kernel
theorem dX4_spendMonth_59 : decode cX4_spendMonth 59 = .ok (.iload 5, 2) := by decide +kernel
theorem dX4_spendMonth_61 : decode cX4_spendMonth 61 = .ok (.iload 7, 2) := by decide +kernel
theorem dX4_spendMonth_63 : decode cX4_spendMonth 63 = .ok (.invokestatic 34, 3) := by decide +kernel
theorem dX4_spendMonth_66 : decode cX4_spendMonth 66 = .ok (.invokevirtual 61, 3) := by decide +kernel
theorem dX4_spendMonth_69 : decode cX4_spendMonth 69 = .ok (.ifCond .eq 6, 3) := by decide +kernel
theorem dX4_spendMonth_72 : decode cX4_spendMonth 72 = .ok (.goto 59, 3) := by decide +kernel
theorem dX4_spendMonth_75 : decode cX4_spendMonth 75 = .ok (.aload_n 0, 1) := by decide +kernel
theorem dX4_spendMonth_76 : decode cX4_spendMonth 76 = .ok (.aload_n 1, 1) := by decide +kernel
theorem dX4_spendMonth_77 : decode cX4_spendMonth 77 = .ok (.iload 5, 2) := by decide +kernel
theorem dX4_spendMonth_79 : decode cX4_spendMonth 79 = .ok (.iload 7, 2) := by decide +kernel
theorem dX4_spendMonth_81 : decode cX4_spendMonth 81 = .ok (.invokestatic 34, 3) := by decide +kernel
theorem dX4_spendMonth_84 : decode cX4_spendMonth 84 = .ok (.aload_n 2, 1) := by decide +kernel
theorem dX4_spendMonth_85 : decode cX4_spendMonth 85 = .ok (.iload 5, 2) := by decide +kernel
theorem dX4_spendMonth_87 : decode cX4_spendMonth 87 = .ok (.iaload, 1) := by decide +kernel
theorem dX4_spendMonth_88 : decode cX4_spendMonth 88 = .ok (.invokevirtual 65, 3) := by decide +kernel
theorem dX4_spendMonth_91 : decode cX4_spendMonth 91 = .ok (.iload 7, 2) := by decide +kernel
theorem dX4_spendMonth_93 : decode cX4_spendMonth 93 = .ok (.aload_n 1, 1) := by decide +kernel
theorem dX4_spendMonth_94 : decode cX4_spendMonth 94 = .ok (.getfield 54, 3) := by decide +kernel
theorem dX4_spendMonth_97 : decode cX4_spendMonth 97 = .ok (.if_icmp .ge 34, 3) := by decide +kernel
theorem dX4_spendMonth_100 : decode cX4_spendMonth 100 = .ok (.aload_n 0, 1) := by decide +kernel
theorem dX4_spendMonth_101 : decode cX4_spendMonth 101 = .ok (.iload 5, 2) := by decide +kernel
theorem dX4_spendMonth_103 : decode cX4_spendMonth 103 = .ok (.iload 7, 2) := by decide +kernel
theorem dX4_spendMonth_105 : decode cX4_spendMonth 105 = .ok (.invokestatic 34, 3) := by decide +kernel
theorem dX4_spendMonth_108 : decode cX4_spendMonth 108 = .ok (.iload 5, 2) := by decide +kernel
theorem dX4_spendMonth_110 : decode cX4_spendMonth 110 = .ok (.iload 7, 2) := by decide +kernel
theorem dX4_spendMonth_112 : decode cX4_spendMonth 112 = .ok (.iconst 1, 1) := by decide +kernel
theorem dX4_spendMonth_113 : decode cX4_spendMonth 113 = .ok (.iadd, 1) := by decide +kernel
theorem dX4_spendMonth_114 : decode cX4_spendMonth 114 = .ok (.invokestatic 34, 3) := by decide +kernel
theorem dX4_spendMonth_117 : decode cX4_spendMonth 117 = .ok (.iload 6, 2) := by decide +kernel
theorem dX4_spendMonth_119 : decode cX4_spendMonth 119 = .ok (.ifCond .eq 8, 3) := by decide +kernel
theorem dX4_spendMonth_122 : decode cX4_spendMonth 122 = .ok (.iload 5, 2) := by decide +kernel
theorem dX4_spendMonth_124 : decode cX4_spendMonth 124 = .ok (.goto 4, 3) := by decide +kernel
theorem dX4_spendMonth_127 : decode cX4_spendMonth 127 = .ok (.iconst (-1), 1) := by decide +kernel
theorem dX4_spendMonth_128 : decode cX4_spendMonth 128 = .ok (.invokevirtual 69, 3) := by decide +kernel
theorem dX4_spendMonth_131 : decode cX4_spendMonth 131 = .ok (.iinc 7 1, 3) := by decide +kernel
theorem dX4_spendMonth_134 : decode cX4_spendMonth 134 = .ok (.goto (-85), 3) := by decide +kernel
theorem dX4_spendMonth_137 : decode cX4_spendMonth 137 = .ok (.iinc 5 1, 3) := by decide +kernel
theorem dX4_spendMonth_140 : decode cX4_spendMonth 140 = .ok (.goto (-130), 3) := by decide +kernel
theorem dX4_spendMonth_143 : decode cX4_spendMonth 143 = .ok (.aload_n 0, 1) := by decide +kernel
theorem dX4_spendMonth_144 : decode cX4_spendMonth 144 = .ok (.getfield 11, 3) := by decide +kernel
theorem dX4_spendMonth_147 : decode cX4_spendMonth 147 = .ok (.astore 5, 2) := by decide +kernel
theorem dX4_spendMonth_149 : decode cX4_spendMonth 149 = .ok (.aload_n 0, 1) := by decide +kernel
theorem dX4_spendMonth_150 : decode cX4_spendMonth 150 = .ok (.aload_n 0, 1) := by decide +kernel
theorem dX4_spendMonth_151 : decode cX4_spendMonth 151 = .ok (.getfield 15, 3) := by decide +kernel
theorem dX4_spendMonth_154 : decode cX4_spendMonth 154 = .ok (.putfield 11, 3) := by decide +kernel
theorem dX4_spendMonth_157 : decode cX4_spendMonth 157 = .ok (.aload_n 0, 1) := by decide +kernel
theorem dX4_spendMonth_158 : decode cX4_spendMonth 158 = .ok (.aload 5, 2) := by decide +kernel
theorem dX4_spendMonth_160 : decode cX4_spendMonth 160 = .ok (.putfield 15, 3) := by decide +kernel
theorem dX4_spendMonth_163 : decode cX4_spendMonth 163 = .ok (.return_, 1) := by decide +kernel
theorem dX4_isEmpty_0 : decode cX4_isEmpty 0 = .ok (.lconst 0, 1) := by decide +kernel
theorem dX4_isEmpty_1 : decode cX4_isEmpty 1 = .ok (.lstore_n 2, 1) := by decide +kernel
theorem dX4_isEmpty_2 : decode cX4_isEmpty 2 = .ok (.iconst 0, 1) := by decide +kernel
theorem dX4_isEmpty_3 : decode cX4_isEmpty 3 = .ok (.istore 4, 2) := by decide +kernel
theorem dX4_isEmpty_5 : decode cX4_isEmpty 5 = .ok (.iload 4, 2) := by decide +kernel
theorem dX4_isEmpty_7 : decode cX4_isEmpty 7 = .ok (.iconst 4, 1) := by decide +kernel
theorem dX4_isEmpty_8 : decode cX4_isEmpty 8 = .ok (.if_icmp .ge 21, 3) := by decide +kernel
theorem dX4_isEmpty_11 : decode cX4_isEmpty 11 = .ok (.lload_n 2, 1) := by decide +kernel
theorem dX4_isEmpty_12 : decode cX4_isEmpty 12 = .ok (.aload_n 0, 1) := by decide +kernel
theorem dX4_isEmpty_13 : decode cX4_isEmpty 13 = .ok (.getfield 11, 3) := by decide +kernel
theorem dX4_isEmpty_16 : decode cX4_isEmpty 16 = .ok (.iload_n 1, 1) := by decide +kernel
theorem dX4_isEmpty_17 : decode cX4_isEmpty 17 = .ok (.iload 4, 2) := by decide +kernel
theorem dX4_isEmpty_19 : decode cX4_isEmpty 19 = .ok (.iadd, 1) := by decide +kernel
theorem dX4_isEmpty_20 : decode cX4_isEmpty 20 = .ok (.laload, 1) := by decide +kernel
theorem dX4_isEmpty_21 : decode cX4_isEmpty 21 = .ok (.lor, 1) := by decide +kernel
theorem dX4_isEmpty_22 : decode cX4_isEmpty 22 = .ok (.lstore_n 2, 1) := by decide +kernel
theorem dX4_isEmpty_23 : decode cX4_isEmpty 23 = .ok (.iinc 4 1, 3) := by decide +kernel
theorem dX4_isEmpty_26 : decode cX4_isEmpty 26 = .ok (.goto (-21), 3) := by decide +kernel
theorem dX4_isEmpty_29 : decode cX4_isEmpty 29 = .ok (.lload_n 2, 1) := by decide +kernel
theorem dX4_isEmpty_30 : decode cX4_isEmpty 30 = .ok (.lconst 0, 1) := by decide +kernel
theorem dX4_isEmpty_31 : decode cX4_isEmpty 31 = .ok (.lcmp, 1) := by decide +kernel
theorem dX4_isEmpty_32 : decode cX4_isEmpty 32 = .ok (.ifCond .ne 7, 3) := by decide +kernel
theorem dX4_isEmpty_35 : decode cX4_isEmpty 35 = .ok (.iconst 1, 1) := by decide +kernel
theorem dX4_isEmpty_36 : decode cX4_isEmpty 36 = .ok (.goto 4, 3) := by decide +kernel
theorem dX4_isEmpty_39 : decode cX4_isEmpty 39 = .ok (.iconst 0, 1) := by decide +kernel
theorem dX4_isEmpty_40 : decode cX4_isEmpty 40 = .ok (.ireturn, 1) := by decide +kernel
set_option maxRecDepth 20000 in
theorem ggX4_walkAll_X4_cell : GoodIn wsX4_walkAll wsX4_cell := goodIn_m (fun w hw => by
  revert w hw; unfold wsX4_cell
  exact am_cons (am_at in_wsX4_walkAll_0 4 rfl) am_nil) gw_wsX4_cell
set_option maxRecDepth 20000 in
theorem gX4_walkAll_X4_cell : GoodIn wsX4_walkAll (va_wsS RX4 34 yX4_cell wsX4_cell) := goodIn_app (goodIn_m (am_cons (am_at in_wsX4_walkAll_0 1 rfl) (am_cons (am_at in_wsX4_walkAll_0 2 rfl) (am_cons (am_at in_wsX4_walkAll_0 3 rfl) am_nil))) (by decide +kernel)) ggX4_walkAll_X4_cell
set_option maxRecDepth 20000 in
theorem ggX4_walkAll_X4_moveAll : GoodIn wsX4_walkAll wsX4_moveAll := goodIn_m (fun w hw => by
  revert w hw; unfold wsX4_moveAll
  exact am_cons (am_at in_wsX4_walkAll_0 8 rfl) (am_app (am_cons (am_at in_wsX4_walkAll_0 9 rfl) (am_cons (am_at in_wsX4_walkAll_0 10 rfl) (am_cons (am_at in_wsX4_walkAll_0 11 rfl) am_nil))) in_wsX4_walkAll_2)) gw_wsX4_moveAll
set_option maxRecDepth 20000 in
theorem gX4_walkAll_X4_moveAll : GoodIn wsX4_walkAll (wsV RX4 69 RX4 yX4_moveAll wsX4_moveAll) := goodIn_app (goodIn_m (am_cons (am_at in_wsX4_walkAll_0 5 rfl) (am_cons (am_at in_wsX4_walkAll_0 6 rfl) (am_cons (am_at in_wsX4_walkAll_0 7 rfl) (am_cons (am_at in_wsX4_walkAll_0 3 rfl) am_nil)))) (by decide +kernel)) ggX4_walkAll_X4_moveAll
theorem dX4_walkAll_0 : decode cX4_walkAll 0 = .ok (.iconst 0, 1) := by decide +kernel
theorem dX4_walkAll_1 : decode cX4_walkAll 1 = .ok (.istore 4, 2) := by decide +kernel
theorem dX4_walkAll_3 : decode cX4_walkAll 3 = .ok (.iload 4, 2) := by decide +kernel
theorem dX4_walkAll_5 : decode cX4_walkAll 5 = .ok (.aload_n 1, 1) := by decide +kernel
theorem dX4_walkAll_6 : decode cX4_walkAll 6 = .ok (.getfield 49, 3) := by decide +kernel
theorem dX4_walkAll_9 : decode cX4_walkAll 9 = .ok (.if_icmp .ge 30, 3) := by decide +kernel
theorem dX4_walkAll_12 : decode cX4_walkAll 12 = .ok (.iload_n 3, 1) := by decide +kernel
theorem dX4_walkAll_13 : decode cX4_walkAll 13 = .ok (.iload 4, 2) := by decide +kernel
theorem dX4_walkAll_15 : decode cX4_walkAll 15 = .ok (.ishr, 1) := by decide +kernel
theorem dX4_walkAll_16 : decode cX4_walkAll 16 = .ok (.iconst 1, 1) := by decide +kernel
theorem dX4_walkAll_17 : decode cX4_walkAll 17 = .ok (.iand, 1) := by decide +kernel
theorem dX4_walkAll_18 : decode cX4_walkAll 18 = .ok (.ifCond .eq 15, 3) := by decide +kernel
theorem dX4_walkAll_21 : decode cX4_walkAll 21 = .ok (.aload_n 0, 1) := by decide +kernel
theorem dX4_walkAll_22 : decode cX4_walkAll 22 = .ok (.iload_n 2, 1) := by decide +kernel
theorem dX4_walkAll_23 : decode cX4_walkAll 23 = .ok (.iload 4, 2) := by decide +kernel
theorem dX4_walkAll_25 : decode cX4_walkAll 25 = .ok (.iconst 0, 1) := by decide +kernel
theorem dX4_walkAll_26 : decode cX4_walkAll 26 = .ok (.invokestatic 34, 3) := by decide +kernel
theorem dX4_walkAll_29 : decode cX4_walkAll 29 = .ok (.iconst (-1), 1) := by decide +kernel
theorem dX4_walkAll_30 : decode cX4_walkAll 30 = .ok (.invokevirtual 69, 3) := by decide +kernel
theorem dX4_walkAll_33 : decode cX4_walkAll 33 = .ok (.iinc 4 1, 3) := by decide +kernel
theorem dX4_walkAll_36 : decode cX4_walkAll 36 = .ok (.goto (-33), 3) := by decide +kernel
theorem dX4_walkAll_39 : decode cX4_walkAll 39 = .ok (.return_, 1) := by decide +kernel
theorem dX4_moveAll_0 : decode cX4_moveAll 0 = .ok (.iconst 0, 1) := by decide +kernel
theorem dX4_moveAll_1 : decode cX4_moveAll 1 = .ok (.istore 4, 2) := by decide +kernel
theorem dX4_moveAll_3 : decode cX4_moveAll 3 = .ok (.iload 4, 2) := by decide +kernel
theorem dX4_moveAll_5 : decode cX4_moveAll 5 = .ok (.iconst 4, 1) := by decide +kernel
theorem dX4_moveAll_6 : decode cX4_moveAll 6 = .ok (.if_icmp .ge 106, 3) := by decide +kernel
theorem dX4_moveAll_9 : decode cX4_moveAll 9 = .ok (.aload_n 0, 1) := by decide +kernel
theorem dX4_moveAll_10 : decode cX4_moveAll 10 = .ok (.getfield 11, 3) := by decide +kernel
theorem dX4_moveAll_13 : decode cX4_moveAll 13 = .ok (.iload_n 1, 1) := by decide +kernel
theorem dX4_moveAll_14 : decode cX4_moveAll 14 = .ok (.iload 4, 2) := by decide +kernel
theorem dX4_moveAll_16 : decode cX4_moveAll 16 = .ok (.iadd, 1) := by decide +kernel
theorem dX4_moveAll_17 : decode cX4_moveAll 17 = .ok (.laload, 1) := by decide +kernel
theorem dX4_moveAll_18 : decode cX4_moveAll 18 = .ok (.lstore 5, 2) := by decide +kernel
theorem dX4_moveAll_20 : decode cX4_moveAll 20 = .ok (.iload_n 3, 1) := by decide +kernel
theorem dX4_moveAll_21 : decode cX4_moveAll 21 = .ok (.iconst (-1), 1) := by decide +kernel
theorem dX4_moveAll_22 : decode cX4_moveAll 22 = .ok (.if_icmp .ne 20, 3) := by decide +kernel
theorem dX4_moveAll_25 : decode cX4_moveAll 25 = .ok (.aload_n 0, 1) := by decide +kernel
theorem dX4_moveAll_26 : decode cX4_moveAll 26 = .ok (.getfield 15, 3) := by decide +kernel
theorem dX4_moveAll_29 : decode cX4_moveAll 29 = .ok (.iload_n 2, 1) := by decide +kernel
theorem dX4_moveAll_30 : decode cX4_moveAll 30 = .ok (.iload 4, 2) := by decide +kernel
theorem dX4_moveAll_32 : decode cX4_moveAll 32 = .ok (.iadd, 1) := by decide +kernel
theorem dX4_moveAll_33 : decode cX4_moveAll 33 = .ok (.dup2, 1) := by decide +kernel
theorem dX4_moveAll_34 : decode cX4_moveAll 34 = .ok (.laload, 1) := by decide +kernel
theorem dX4_moveAll_35 : decode cX4_moveAll 35 = .ok (.lload 5, 2) := by decide +kernel
theorem dX4_moveAll_37 : decode cX4_moveAll 37 = .ok (.lor, 1) := by decide +kernel
theorem dX4_moveAll_38 : decode cX4_moveAll 38 = .ok (.lastore, 1) := by decide +kernel
theorem dX4_moveAll_39 : decode cX4_moveAll 39 = .ok (.goto 67, 3) := by decide +kernel
theorem dX4_moveAll_42 : decode cX4_moveAll 42 = .ok (.iload_n 3, 1) := by decide +kernel
theorem dX4_moveAll_43 : decode cX4_moveAll 43 = .ok (.bipush 6, 2) := by decide +kernel
theorem dX4_moveAll_45 : decode cX4_moveAll 45 = .ok (.if_icmp .ge 40, 3) := by decide +kernel
theorem dX4_moveAll_48 : decode cX4_moveAll 48 = .ok (.lload 5, 2) := by decide +kernel
theorem dX4_moveAll_50 : decode cX4_moveAll 50 = .ok (.getstatic 73, 3) := by decide +kernel
theorem dX4_moveAll_53 : decode cX4_moveAll 53 = .ok (.iload_n 3, 1) := by decide +kernel
theorem dX4_moveAll_54 : decode cX4_moveAll 54 = .ok (.laload, 1) := by decide +kernel
theorem dX4_moveAll_55 : decode cX4_moveAll 55 = .ok (.land, 1) := by decide +kernel
theorem dX4_moveAll_56 : decode cX4_moveAll 56 = .ok (.lstore 7, 2) := by decide +kernel
theorem dX4_moveAll_58 : decode cX4_moveAll 58 = .ok (.aload_n 0, 1) := by decide +kernel
theorem dX4_moveAll_59 : decode cX4_moveAll 59 = .ok (.getfield 15, 3) := by decide +kernel
theorem dX4_moveAll_62 : decode cX4_moveAll 62 = .ok (.iload_n 2, 1) := by decide +kernel
theorem dX4_moveAll_63 : decode cX4_moveAll 63 = .ok (.iload 4, 2) := by decide +kernel
theorem dX4_moveAll_65 : decode cX4_moveAll 65 = .ok (.iadd, 1) := by decide +kernel
theorem dX4_moveAll_66 : decode cX4_moveAll 66 = .ok (.dup2, 1) := by decide +kernel
theorem dX4_moveAll_67 : decode cX4_moveAll 67 = .ok (.laload, 1) := by decide +kernel
theorem dX4_moveAll_68 : decode cX4_moveAll 68 = .ok (.lload 5, 2) := by decide +kernel
theorem dX4_moveAll_70 : decode cX4_moveAll 70 = .ok (.lload 7, 2) := by decide +kernel
theorem dX4_moveAll_72 : decode cX4_moveAll 72 = .ok (.lxor, 1) := by decide +kernel
theorem dX4_moveAll_73 : decode cX4_moveAll 73 = .ok (.lload 7, 2) := by decide +kernel
theorem dX4_moveAll_75 : decode cX4_moveAll 75 = .ok (.iconst 1, 1) := by decide +kernel
theorem dX4_moveAll_76 : decode cX4_moveAll 76 = .ok (.iload_n 3, 1) := by decide +kernel
theorem dX4_moveAll_77 : decode cX4_moveAll 77 = .ok (.ishl, 1) := by decide +kernel
theorem dX4_moveAll_78 : decode cX4_moveAll 78 = .ok (.lshl, 1) := by decide +kernel
theorem dX4_moveAll_79 : decode cX4_moveAll 79 = .ok (.lor, 1) := by decide +kernel
theorem dX4_moveAll_80 : decode cX4_moveAll 80 = .ok (.lor, 1) := by decide +kernel
theorem dX4_moveAll_81 : decode cX4_moveAll 81 = .ok (.lastore, 1) := by decide +kernel
theorem dX4_moveAll_82 : decode cX4_moveAll 82 = .ok (.goto 24, 3) := by decide +kernel
theorem dX4_moveAll_85 : decode cX4_moveAll 85 = .ok (.aload_n 0, 1) := by decide +kernel
theorem dX4_moveAll_86 : decode cX4_moveAll 86 = .ok (.getfield 15, 3) := by decide +kernel
theorem dX4_moveAll_89 : decode cX4_moveAll 89 = .ok (.iload_n 2, 1) := by decide +kernel
theorem dX4_moveAll_90 : decode cX4_moveAll 90 = .ok (.iload 4, 2) := by decide +kernel
theorem dX4_moveAll_92 : decode cX4_moveAll 92 = .ok (.iconst 1, 1) := by decide +kernel
theorem dX4_moveAll_93 : decode cX4_moveAll 93 = .ok (.iload_n 3, 1) := by decide +kernel
theorem dX4_moveAll_94 : decode cX4_moveAll 94 = .ok (.bipush 6, 2) := by decide +kernel
theorem dX4_moveAll_96 : decode cX4_moveAll 96 = .ok (.isub, 1) := by decide +kernel
theorem dX4_moveAll_97 : decode cX4_moveAll 97 = .ok (.ishl, 1) := by decide +kernel
theorem dX4_moveAll_98 : decode cX4_moveAll 98 = .ok (.ior, 1) := by decide +kernel
theorem dX4_moveAll_99 : decode cX4_moveAll 99 = .ok (.iadd, 1) := by decide +kernel
theorem dX4_moveAll_100 : decode cX4_moveAll 100 = .ok (.dup2, 1) := by decide +kernel
theorem dX4_moveAll_101 : decode cX4_moveAll 101 = .ok (.laload, 1) := by decide +kernel
theorem dX4_moveAll_102 : decode cX4_moveAll 102 = .ok (.lload 5, 2) := by decide +kernel
theorem dX4_moveAll_104 : decode cX4_moveAll 104 = .ok (.lor, 1) := by decide +kernel
theorem dX4_moveAll_105 : decode cX4_moveAll 105 = .ok (.lastore, 1) := by decide +kernel
theorem dX4_moveAll_106 : decode cX4_moveAll 106 = .ok (.iinc 4 1, 3) := by decide +kernel
theorem dX4_moveAll_109 : decode cX4_moveAll 109 = .ok (.goto (-106), 3) := by decide +kernel
theorem dX4_moveAll_112 : decode cX4_moveAll 112 = .ok (.return_, 1) := by decide +kernel
theorem dX5_init_0 : decode cX5_init 0 = .ok (.aload_n 0, 1) := by decide +kernel
theorem dX5_init_1 : decode cX5_init 1 = .ok (.invokespecial 3, 3) := by decide +kernel
theorem dX5_init_4 : decode cX5_init 4 = .ok (.aload_n 0, 1) := by decide +kernel
theorem dX5_init_5 : decode cX5_init 5 = .ok (.sipush 240, 3) := by decide +kernel
theorem dX5_init_8 : decode cX5_init 8 = .ok (.newarray .char, 2) := by decide +kernel
theorem dX5_init_10 : decode cX5_init 10 = .ok (.putfield 9, 3) := by decide +kernel
theorem dX5_init_13 : decode cX5_init 13 = .ok (.aload_n 0, 1) := by decide +kernel
theorem dX5_init_14 : decode cX5_init 14 = .ok (.iconst (-1), 1) := by decide +kernel
theorem dX5_init_15 : decode cX5_init 15 = .ok (.putfield 15, 3) := by decide +kernel
theorem dX5_init_18 : decode cX5_init 18 = .ok (.return_, 1) := by decide +kernel
set_option maxRecDepth 20000 in
theorem ggX5_readInto_X0_clear : GoodIn wsX5_readInto wsX0_clear := goodIn_m (fun w hw => by
  revert w hw; unfold wsX0_clear
  exact am_cons (am_at in_wsX5_readInto_0 8 rfl) (am_app (am_cons (am_at in_wsX5_readInto_0 9 rfl) (am_cons (am_at in_wsX5_readInto_0 10 rfl) (am_cons (am_at in_wsX5_readInto_0 11 rfl) (am_cons (am_at in_wsX5_readInto_0 12 rfl) (am_cons (am_at in_wsX5_readInto_0 13 rfl) am_nil))))) in_wsX5_readInto_5)) gw_wsX0_clear
set_option maxRecDepth 20000 in
theorem gX5_readInto_X0_clear : GoodIn wsX5_readInto (wsV RX5 19 RX0 yX0_clear wsX0_clear) := goodIn_app (goodIn_m (am_cons (am_at in_wsX5_readInto_0 4 rfl) (am_cons (am_at in_wsX5_readInto_0 5 rfl) (am_cons (am_at in_wsX5_readInto_0 6 rfl) (am_cons (am_at in_wsX5_readInto_0 7 rfl) am_nil)))) (by decide +kernel)) ggX5_readInto_X0_clear
set_option maxRecDepth 20000 in
theorem ggX5_readInto_X5_skipBlanks : GoodIn wsX5_readInto wsX5_skipBlanks := goodIn_m (fun w hw => by
  revert w hw; unfold wsX5_skipBlanks
  exact am_cons (am_at in_wsX5_readInto_0 18 rfl) (am_app (am_cons (am_at in_wsX5_readInto_0 0 rfl) (am_cons (am_at in_wsX5_readInto_0 3 rfl) (am_cons (am_at in_wsX5_readInto_0 19 rfl) am_nil))) in_wsX5_readInto_4)) gw_wsX5_skipBlanks
set_option maxRecDepth 20000 in
theorem gX5_readInto_X5_skipBlanks : GoodIn wsX5_readInto (wsV RX5 30 RX5 yX5_skipBlanks wsX5_skipBlanks) := goodIn_app (goodIn_m (am_cons (am_at in_wsX5_readInto_0 14 rfl) (am_cons (am_at in_wsX5_readInto_0 15 rfl) (am_cons (am_at in_wsX5_readInto_0 16 rfl) (am_cons (am_at in_wsX5_readInto_0 17 rfl) am_nil)))) (by decide +kernel)) ggX5_readInto_X5_skipBlanks
set_option maxRecDepth 20000 in
theorem ggX5_readInto_X5_readClause : GoodIn wsX5_readInto wsX5_readClause := goodIn_m (fun w hw => by
  revert w hw; unfold wsX5_readClause wsX5_readClause_r1 wsX5_readClause_r2 wsX5_readClause_r3
  exact am_cons (am_at in_wsX5_readInto_0 23 rfl) (am_app (am_app (am_app (am_cons (am_at in_wsX5_readInto_0 19 rfl) (am_cons (am_at in_wsX5_readInto_0 0 rfl) (am_cons (am_at in_wsX5_readInto_1 0 rfl) (am_cons (am_at in_wsX5_readInto_1 1 rfl) (am_cons (am_at in_wsX5_readInto_1 2 rfl) (am_cons (am_at in_wsX5_readInto_0 17 rfl) (am_cons (am_at in_wsX5_readInto_1 3 rfl) (am_cons (am_at in_wsX5_readInto_1 4 rfl) (am_cons (am_at in_wsX5_readInto_1 5 rfl) (am_cons (am_at in_wsX5_readInto_1 6 rfl) (am_cons (am_at in_wsX5_readInto_1 7 rfl) (am_cons (am_at in_wsX5_readInto_1 8 rfl) (am_cons (am_at in_wsX5_readInto_1 9 rfl) (am_cons (am_at in_wsX5_readInto_1 10 rfl) (am_cons (am_at in_wsX5_readInto_0 1 rfl) (am_cons (am_at in_wsX5_readInto_0 2 rfl) (am_cons (am_at in_wsX5_readInto_1 11 rfl) (am_cons (am_at in_wsX5_readInto_1 12 rfl) (am_cons (am_at in_wsX5_readInto_1 13 rfl) (am_cons (am_at in_wsX5_readInto_1 14 rfl) (am_cons (am_at in_wsX5_readInto_1 15 rfl) (am_cons (am_at in_wsX5_readInto_1 16 rfl) (am_cons (am_at in_wsX5_readInto_1 17 rfl) (am_cons (am_at in_wsX5_readInto_1 18 rfl) am_nil)))))))))))))))))))))))) (am_app (am_cons (am_at in_wsX5_readInto_1 19 rfl) (am_cons (am_at in_wsX5_readInto_1 20 rfl) (am_cons (am_at in_wsX5_readInto_0 3 rfl) (am_cons (am_at in_wsX5_readInto_0 14 rfl) (am_cons (am_at in_wsX5_readInto_0 15 rfl) (am_cons (am_at in_wsX5_readInto_0 16 rfl) (am_cons (am_at in_wsX5_readInto_0 18 rfl) (am_cons (am_at in_wsX5_readInto_1 21 rfl) (am_cons (am_at in_wsX5_readInto_1 22 rfl) (am_cons (am_at in_wsX5_readInto_1 23 rfl) (am_cons (am_at in_wsX5_readInto_2 0 rfl) (am_cons (am_at in_wsX5_readInto_2 1 rfl) (am_cons (am_at in_wsX5_readInto_2 2 rfl) (am_cons (am_at in_wsX5_readInto_2 3 rfl) (am_cons (am_at in_wsX5_readInto_2 4 rfl) (am_cons (am_at in_wsX5_readInto_2 5 rfl) (am_cons (am_at in_wsX5_readInto_2 6 rfl) (am_cons (am_at in_wsX5_readInto_2 7 rfl) (am_cons (am_at in_wsX5_readInto_2 8 rfl) (am_cons (am_at in_wsX5_readInto_2 9 rfl) (am_cons (am_at in_wsX5_readInto_2 10 rfl) (am_cons (am_at in_wsX5_readInto_0 7 rfl) (am_cons (am_at in_wsX5_readInto_2 11 rfl) (am_cons (am_at in_wsX5_readInto_0 11 rfl) am_nil)))))))))))))))))))))))) (am_cons (am_at in_wsX5_readInto_2 12 rfl) (am_cons (am_at in_wsX5_readInto_2 13 rfl) (am_cons (am_at in_wsX5_readInto_2 14 rfl) (am_cons (am_at in_wsX5_readInto_0 13 rfl) (am_cons (am_at in_wsX5_readInto_2 15 rfl) (am_cons (am_at in_wsX5_readInto_2 16 rfl) (am_cons (am_at in_wsX5_readInto_2 17 rfl) (am_cons (am_at in_wsX5_readInto_2 18 rfl) (am_cons (am_at in_wsX5_readInto_2 19 rfl) (am_cons (am_at in_wsX5_readInto_2 20 rfl) (am_cons (am_at in_wsX5_readInto_2 21 rfl) (am_cons (am_at in_wsX5_readInto_2 22 rfl) (am_cons (am_at in_wsX5_readInto_0 12 rfl) (am_cons (am_at in_wsX5_readInto_2 23 rfl) (am_cons (am_at in_wsX5_readInto_3 0 rfl) (am_cons (am_at in_wsX5_readInto_3 1 rfl) (am_cons (am_at in_wsX5_readInto_3 2 rfl) (am_cons (am_at in_wsX5_readInto_3 3 rfl) (am_cons (am_at in_wsX5_readInto_3 4 rfl) am_nil))))))))))))))))))))) in_wsX5_readInto_4) in_wsX5_readInto_5)) gw_wsX5_readClause
set_option maxRecDepth 20000 in
theorem gX5_readInto_X5_readClause : GoodIn wsX5_readInto (wsV RX5 34 RX5 yX5_readClause wsX5_readClause) := goodIn_app (goodIn_m (am_cons (am_at in_wsX5_readInto_0 20 rfl) (am_cons (am_at in_wsX5_readInto_0 21 rfl) (am_cons (am_at in_wsX5_readInto_0 22 rfl) (am_cons (am_at in_wsX5_readInto_0 17 rfl) am_nil)))) (by decide +kernel)) ggX5_readInto_X5_readClause
theorem dX5_readInto_0 : decode cX5_readInto 0 = .ok (.aload_n 1, 1) := by decide +kernel
theorem dX5_readInto_1 : decode cX5_readInto 1 = .ok (.invokevirtual 19, 3) := by decide +kernel
theorem dX5_readInto_4 : decode cX5_readInto 4 = .ok (.aload_n 0, 1) := by decide +kernel
theorem dX5_readInto_5 : decode cX5_readInto 5 = .ok (.iconst 0, 1) := by decide +kernel
theorem dX5_readInto_6 : decode cX5_readInto 6 = .ok (.putfield 24, 3) := by decide +kernel
theorem dX5_readInto_9 : decode cX5_readInto 9 = .ok (.aload_n 0, 1) := by decide +kernel
theorem dX5_readInto_10 : decode cX5_readInto 10 = .ok (.iconst 0, 1) := by decide +kernel
theorem dX5_readInto_11 : decode cX5_readInto 11 = .ok (.putfield 27, 3) := by decide +kernel
theorem dX5_readInto_14 : decode cX5_readInto 14 = .ok (.aload_n 0, 1) := by decide +kernel
theorem dX5_readInto_15 : decode cX5_readInto 15 = .ok (.iconst (-1), 1) := by decide +kernel
theorem dX5_readInto_16 : decode cX5_readInto 16 = .ok (.putfield 15, 3) := by decide +kernel
theorem dX5_readInto_19 : decode cX5_readInto 19 = .ok (.iconst 0, 1) := by decide +kernel
theorem dX5_readInto_20 : decode cX5_readInto 20 = .ok (.istore_n 2, 1) := by decide +kernel
theorem dX5_readInto_21 : decode cX5_readInto 21 = .ok (.iload_n 2, 1) := by decide +kernel
theorem dX5_readInto_22 : decode cX5_readInto 22 = .ok (.sipush 240, 3) := by decide +kernel
theorem dX5_readInto_25 : decode cX5_readInto 25 = .ok (.if_icmp .ge 28, 3) := by decide +kernel
theorem dX5_readInto_28 : decode cX5_readInto 28 = .ok (.aload_n 0, 1) := by decide +kernel
theorem dX5_readInto_29 : decode cX5_readInto 29 = .ok (.getfield 27, 3) := by decide +kernel
theorem dX5_readInto_32 : decode cX5_readInto 32 = .ok (.ifCond .ne 21, 3) := by decide +kernel
theorem dX5_readInto_35 : decode cX5_readInto 35 = .ok (.aload_n 0, 1) := by decide +kernel
theorem dX5_readInto_36 : decode cX5_readInto 36 = .ok (.invokevirtual 30, 3) := by decide +kernel
theorem dX5_readInto_39 : decode cX5_readInto 39 = .ok (.ifCond .eq 14, 3) := by decide +kernel
theorem dX5_readInto_42 : decode cX5_readInto 42 = .ok (.aload_n 0, 1) := by decide +kernel
theorem dX5_readInto_43 : decode cX5_readInto 43 = .ok (.aload_n 1, 1) := by decide +kernel
theorem dX5_readInto_44 : decode cX5_readInto 44 = .ok (.invokevirtual 34, 3) := by decide +kernel
theorem dX5_readInto_47 : decode cX5_readInto 47 = .ok (.iinc 2 1, 3) := by decide +kernel
theorem dX5_readInto_50 : decode cX5_readInto 50 = .ok (.goto (-29), 3) := by decide +kernel
theorem dX5_readInto_53 : decode cX5_readInto 53 = .ok (.aload_n 0, 1) := by decide +kernel
theorem dX5_readInto_54 : decode cX5_readInto 54 = .ok (.iconst 0, 1) := by decide +kernel
theorem dX5_readInto_55 : decode cX5_readInto 55 = .ok (.putfield 38, 3) := by decide +kernel
theorem dX5_readInto_58 : decode cX5_readInto 58 = .ok (.return_, 1) := by decide +kernel
set_option maxRecDepth 20000 in
theorem ggX5_readClause_X5_faultOfWord : GoodIn wsX5_readClause wsX5_faultOfWord := goodIn_m (fun w hw => by
  revert w hw; unfold wsX5_faultOfWord
  exact am_cons (am_at in_wsX5_readClause_0 6 rfl) (am_app (am_cons (am_at in_wsX5_readClause_0 7 rfl) (am_cons (am_at in_wsX5_readClause_0 8 rfl) (am_cons (am_at in_wsX5_readClause_0 9 rfl) am_nil))) in_wsX5_readClause_4)) gw_wsX5_faultOfWord
set_option maxRecDepth 20000 in
theorem gX5_readClause_X5_faultOfWord : GoodIn wsX5_readClause (wsV RX5 41 RX5 yX5_faultOfWord wsX5_faultOfWord) := goodIn_app (goodIn_m (am_cons (am_at in_wsX5_readClause_0 2 rfl) (am_cons (am_at in_wsX5_readClause_0 3 rfl) (am_cons (am_at in_wsX5_readClause_0 4 rfl) (am_cons (am_at in_wsX5_readClause_0 5 rfl) am_nil)))) (by decide +kernel)) ggX5_readClause_X5_faultOfWord
set_option maxRecDepth 20000 in
theorem ggX5_readClause_X5_blame : GoodIn wsX5_readClause wsX5_blame := goodIn_m (fun w hw => by
  revert w hw; unfold wsX5_blame
  exact am_cons (am_at in_wsX5_readClause_0 13 rfl) (am_app (am_cons (am_at in_wsX5_readClause_0 14 rfl) (am_cons (am_at in_wsX5_readClause_0 15 rfl) am_nil)) in_wsX5_readClause_3)) gw_wsX5_blame
set_option maxRecDepth 20000 in
theorem gX5_readClause_X5_blame : GoodIn wsX5_readClause (wsV RX5 45 RX5 yX5_blame wsX5_blame) := goodIn_app (goodIn_m (am_cons (am_at in_wsX5_readClause_0 10 rfl) (am_cons (am_at in_wsX5_readClause_0 11 rfl) (am_cons (am_at in_wsX5_readClause_0 12 rfl) (am_cons (am_at in_wsX5_readClause_0 5 rfl) am_nil)))) (by decide +kernel)) ggX5_readClause_X5_blame
set_option maxRecDepth 20000 in
theorem ggX5_readClause_X5_readLimits : GoodIn wsX5_readClause wsX5_readLimits := goodIn_m (fun w hw => by
  revert w hw; unfold wsX5_readLimits wsX5_readLimits_r1 wsX5_readLimits_r2
  exact am_cons (am_at in_wsX5_readClause_0 19 rfl) (am_app (am_app (am_app (am_cons (am_at in_wsX5_readClause_0 7 rfl) (am_cons (am_at in_wsX5_readClause_0 20 rfl) (am_cons (am_at in_wsX5_readClause_0 21 rfl) (am_cons (am_at in_wsX5_readClause_0 22 rfl) (am_cons (am_at in_wsX5_readClause_0 23 rfl) (am_cons (am_at in_wsX5_readClause_0 5 rfl) (am_cons (am_at in_wsX5_readClause_1 0 rfl) (am_cons (am_at in_wsX5_readClause_0 14 rfl) (am_cons (am_at in_wsX5_readClause_0 0 rfl) (am_cons (am_at in_wsX5_readClause_0 1 rfl) (am_cons (am_at in_wsX5_readClause_1 1 rfl) (am_cons (am_at in_wsX5_readClause_1 2 rfl) (am_cons (am_at in_wsX5_readClause_1 3 rfl) (am_cons (am_at in_wsX5_readClause_1 4 rfl) (am_cons (am_at in_wsX5_readClause_1 5 rfl) (am_cons (am_at in_wsX5_readClause_1 6 rfl) (am_cons (am_at in_wsX5_readClause_1 7 rfl) (am_cons (am_at in_wsX5_readClause_1 8 rfl) (am_cons (am_at in_wsX5_readClause_1 9 rfl) (am_cons (am_at in_wsX5_readClause_0 10 rfl) (am_cons (am_at in_wsX5_readClause_0 11 rfl) (am_cons (am_at in_wsX5_readClause_0 12 rfl) (am_cons (am_at in_wsX5_readClause_0 13 rfl) (am_cons (am_at in_wsX5_readClause_0 15 rfl) am_nil)))))))))))))))))))))))) (am_cons (am_at in_wsX5_readClause_1 10 rfl) (am_cons (am_at in_wsX5_readClause_1 11 rfl) (am_cons (am_at in_wsX5_readClause_1 12 rfl) (am_cons (am_at in_wsX5_readClause_1 13 rfl) am_nil))))) in_wsX5_readClause_4) in_wsX5_readClause_3)) gw_wsX5_readLimits
set_option maxRecDepth 20000 in
theorem gX5_readClause_X5_readLimits : GoodIn wsX5_readClause (wsV RX5 49 RX5 yX5_readLimits wsX5_readLimits) := goodIn_app (goodIn_m (am_cons (am_at in_wsX5_readClause_0 16 rfl) (am_cons (am_at in_wsX5_readClause_0 17 rfl) (am_cons (am_at in_wsX5_readClause_0 18 rfl) (am_cons (am_at in_wsX5_readClause_0 5 rfl) am_nil)))) (by decide +kernel)) ggX5_readClause_X5_readLimits
set_option maxRecDepth 20000 in
theorem ggX5_readClause_X5_readTown : GoodIn wsX5_readClause wsX5_readTown := goodIn_m (fun w hw => by
  revert w hw; unfold wsX5_readTown wsX5_readTown_r1 wsX5_readTown_r2
  exact am_cons (am_at in_wsX5_readClause_1 17 rfl) (am_app (am_app (am_app (am_cons (am_at in_wsX5_readClause_0 21 rfl) (am_cons (am_at in_wsX5_readClause_0 22 rfl) (am_cons (am_at in_wsX5_readClause_0 23 rfl) (am_cons (am_at in_wsX5_readClause_0 5 rfl) (am_cons (am_at in_wsX5_readClause_1 0 rfl) (am_cons (am_at in_wsX5_readClause_0 14 rfl) (am_cons (am_at in_wsX5_readClause_0 0 rfl) (am_cons (am_at in_wsX5_readClause_0 1 rfl) (am_cons (am_at in_wsX5_readClause_1 1 rfl) (am_cons (am_at in_wsX5_readClause_1 2 rfl) (am_cons (am_at in_wsX5_readClause_1 3 rfl) (am_cons (am_at in_wsX5_readClause_1 4 rfl) (am_cons (am_at in_wsX5_readClause_1 5 rfl) (am_cons (am_at in_wsX5_readClause_1 6 rfl) (am_cons (am_at in_wsX5_readClause_1 7 rfl) (am_cons (am_at in_wsX5_readClause_1 8 rfl) (am_cons (am_at in_wsX5_readClause_1 9 rfl) (am_cons (am_at in_wsX5_readClause_0 10 rfl) (am_cons (am_at in_wsX5_readClause_0 11 rfl) (am_cons (am_at in_wsX5_readClause_0 12 rfl) (am_cons (am_at in_wsX5_readClause_0 13 rfl) (am_cons (am_at in_wsX5_readClause_0 15 rfl) (am_cons (am_at in_wsX5_readClause_1 10 rfl) (am_cons (am_at in_wsX5_readClause_1 11 rfl) am_nil)))))))))))))))))))))))) (am_cons (am_at in_wsX5_readClause_1 12 rfl) (am_cons (am_at in_wsX5_readClause_1 13 rfl) (am_cons (am_at in_wsX5_readClause_1 18 rfl) (am_cons (am_at in_wsX5_readClause_1 19 rfl) (am_cons (am_at in_wsX5_readClause_1 20 rfl) (am_cons (am_at in_wsX5_readClause_1 21 rfl) (am_cons (am_at in_wsX5_readClause_1 22 rfl) (am_cons (am_at in_wsX5_readClause_1 23 rfl) (am_cons (am_at in_wsX5_readClause_2 0 rfl) (am_cons (am_at in_wsX5_readClause_2 1 rfl) (am_cons (am_at in_wsX5_readClause_2 2 rfl) (am_cons (am_at in_wsX5_readClause_2 3 rfl) am_nil))))))))))))) in_wsX5_readClause_3) in_wsX5_readClause_4)) gw_wsX5_readTown
set_option maxRecDepth 20000 in
theorem gX5_readClause_X5_readTown : GoodIn wsX5_readClause (wsV RX5 52 RX5 yX5_readTown wsX5_readTown) := goodIn_app (goodIn_m (am_cons (am_at in_wsX5_readClause_1 14 rfl) (am_cons (am_at in_wsX5_readClause_1 15 rfl) (am_cons (am_at in_wsX5_readClause_1 16 rfl) (am_cons (am_at in_wsX5_readClause_0 5 rfl) am_nil)))) (by decide +kernel)) ggX5_readClause_X5_readTown
set_option maxRecDepth 20000 in
theorem ggX5_readClause_X5_readRoad : GoodIn wsX5_readClause wsX5_readRoad := goodIn_m (fun w hw => by
  revert w hw; unfold wsX5_readRoad wsX5_readRoad_r1 wsX5_readRoad_r2
  exact am_cons (am_at in_wsX5_readClause_2 7 rfl) (am_app (am_app (am_app (am_cons (am_at in_wsX5_readClause_0 8 rfl) (am_cons (am_at in_wsX5_readClause_1 1 rfl) (am_cons (am_at in_wsX5_readClause_0 21 rfl) (am_cons (am_at in_wsX5_readClause_0 22 rfl) (am_cons (am_at in_wsX5_readClause_0 23 rfl) (am_cons (am_at in_wsX5_readClause_0 5 rfl) (am_cons (am_at in_wsX5_readClause_1 0 rfl) (am_cons (am_at in_wsX5_readClause_0 14 rfl) (am_cons (am_at in_wsX5_readClause_0 0 rfl) (am_cons (am_at in_wsX5_readClause_0 1 rfl) (am_cons (am_at in_wsX5_readClause_1 2 rfl) (am_cons (am_at in_wsX5_readClause_1 3 rfl) (am_cons (am_at in_wsX5_readClause_1 4 rfl) (am_cons (am_at in_wsX5_readClause_1 5 rfl) (am_cons (am_at in_wsX5_readClause_1 6 rfl) (am_cons (am_at in_wsX5_readClause_1 7 rfl) (am_cons (am_at in_wsX5_readClause_1 8 rfl) (am_cons (am_at in_wsX5_readClause_1 9 rfl) (am_cons (am_at in_wsX5_readClause_0 10 rfl) (am_cons (am_at in_wsX5_readClause_0 11 rfl) (am_cons (am_at in_wsX5_readClause_0 12 rfl) (am_cons (am_at in_wsX5_readClause_0 13 rfl) (am_cons (am_at in_wsX5_readClause_0 15 rfl) (am_cons (am_at in_wsX5_readClause_2 8 rfl) am_nil)))))))))))))))))))))))) (am_cons (am_at in_wsX5_readClause_2 9 rfl) (am_cons (am_at in_wsX5_readClause_2 10 rfl) (am_cons (am_at in_wsX5_readClause_1 21 rfl) (am_cons (am_at in_wsX5_readClause_2 11 rfl) (am_cons (am_at in_wsX5_readClause_2 12 rfl) (am_cons (am_at in_wsX5_readClause_2 13 rfl) (am_cons (am_at in_wsX5_readClause_2 14 rfl) (am_cons (am_at in_wsX5_readClause_1 10 rfl) (am_cons (am_at in_wsX5_readClause_1 11 rfl) (am_cons (am_at in_wsX5_readClause_1 12 rfl) (am_cons (am_at in_wsX5_readClause_1 13 rfl) (am_cons (am_at in_wsX5_readClause_2 15 rfl) (am_cons (am_at in_wsX5_readClause_2 16 rfl) (am_cons (am_at in_wsX5_readClause_2 17 rfl) (am_cons (am_at in_wsX5_readClause_2 18 rfl) am_nil)))))))))))))))) in_wsX5_readClause_4) in_wsX5_readClause_3)) gw_wsX5_readRoad
set_option maxRecDepth 20000 in
theorem gX5_readClause_X5_readRoad : GoodIn wsX5_readClause (wsV RX5 55 RX5 yX5_readRoad wsX5_readRoad) := goodIn_app (goodIn_m (am_cons (am_at in_wsX5_readClause_2 4 rfl) (am_cons (am_at in_wsX5_readClause_2 5 rfl) (am_cons (am_at in_wsX5_readClause_2 6 rfl) (am_cons (am_at in_wsX5_readClause_0 5 rfl) am_nil)))) (by decide +kernel)) ggX5_readClause_X5_readRoad
theorem dX5_readClause_0 : decode cX5_readClause 0 = .ok (.aload_n 0, 1) := by decide +kernel
theorem dX5_readClause_1 : decode cX5_readClause 1 = .ok (.getfield 9, 3) := by decide +kernel
theorem dX5_readClause_4 : decode cX5_readClause 4 = .ok (.aload_n 0, 1) := by decide +kernel
theorem dX5_readClause_5 : decode cX5_readClause 5 = .ok (.getfield 24, 3) := by decide +kernel
theorem dX5_readClause_8 : decode cX5_readClause 8 = .ok (.caload, 1) := by decide +kernel
theorem dX5_readClause_9 : decode cX5_readClause 9 = .ok (.istore_n 2, 1) := by decide +kernel
theorem dX5_readClause_10 : decode cX5_readClause 10 = .ok (.aload_n 0, 1) := by decide +kernel
theorem dX5_readClause_11 : decode cX5_readClause 11 = .ok (.aload_n 1, 1) := by decide +kernel
theorem dX5_readClause_12 : decode cX5_readClause 12 = .ok (.iload_n 2, 1) := by decide +kernel
theorem dX5_readClause_13 : decode cX5_readClause 13 = .ok (.invokevirtual 41, 3) := by decide +kernel
theorem dX5_readClause_16 : decode cX5_readClause 16 = .ok (.istore_n 3, 1) := by decide +kernel
theorem dX5_readClause_17 : decode cX5_readClause 17 = .ok (.iload_n 3, 1) := by decide +kernel
theorem dX5_readClause_18 : decode cX5_readClause 18 = .ok (.ifCond .eq 13, 3) := by decide +kernel
theorem dX5_readClause_21 : decode cX5_readClause 21 = .ok (.aload_n 0, 1) := by decide +kernel
theorem dX5_readClause_22 : decode cX5_readClause 22 = .ok (.iload_n 3, 1) := by decide +kernel
theorem dX5_readClause_23 : decode cX5_readClause 23 = .ok (.aload_n 0, 1) := by decide +kernel
theorem dX5_readClause_24 : decode cX5_readClause 24 = .ok (.getfield 24, 3) := by decide +kernel
theorem dX5_readClause_27 : decode cX5_readClause 27 = .ok (.invokevirtual 45, 3) := by decide +kernel
theorem dX5_readClause_30 : decode cX5_readClause 30 = .ok (.return_, 1) := by decide +kernel
theorem dX5_readClause_31 : decode cX5_readClause 31 = .ok (.aload_n 0, 1) := by decide +kernel
theorem dX5_readClause_32 : decode cX5_readClause 32 = .ok (.dup, 1) := by decide +kernel
theorem dX5_readClause_33 : decode cX5_readClause 33 = .ok (.getfield 24, 3) := by decide +kernel
theorem dX5_readClause_36 : decode cX5_readClause 36 = .ok (.iconst 1, 1) := by decide +kernel
theorem dX5_readClause_37 : decode cX5_readClause 37 = .ok (.iadd, 1) := by decide +kernel
theorem dX5_readClause_38 : decode cX5_readClause 38 = .ok (.putfield 24, 3) := by decide +kernel
theorem dX5_readClause_41 : decode cX5_readClause 41 = .ok (.iload_n 2, 1) := by decide +kernel
theorem dX5_readClause_42 : decode cX5_readClause 42 = .ok (.bipush 108, 2) := by decide +kernel
theorem dX5_readClause_44 : decode cX5_readClause 44 = .ok (.if_icmp .ne 11, 3) := by decide +kernel
theorem dX5_readClause_47 : decode cX5_readClause 47 = .ok (.aload_n 0, 1) := by decide +kernel
theorem dX5_readClause_48 : decode cX5_readClause 48 = .ok (.aload_n 1, 1) := by decide +kernel
theorem dX5_readClause_49 : decode cX5_readClause 49 = .ok (.invokevirtual 49, 3) := by decide +kernel
theorem dX5_readClause_52 : decode cX5_readClause 52 = .ok (.goto 22, 3) := by decide +kernel
theorem dX5_readClause_55 : decode cX5_readClause 55 = .ok (.iload_n 2, 1) := by decide +kernel
theorem dX5_readClause_56 : decode cX5_readClause 56 = .ok (.bipush 116, 2) := by decide +kernel
theorem dX5_readClause_58 : decode cX5_readClause 58 = .ok (.if_icmp .ne 11, 3) := by decide +kernel
theorem dX5_readClause_61 : decode cX5_readClause 61 = .ok (.aload_n 0, 1) := by decide +kernel
theorem dX5_readClause_62 : decode cX5_readClause 62 = .ok (.aload_n 1, 1) := by decide +kernel
theorem dX5_readClause_63 : decode cX5_readClause 63 = .ok (.invokevirtual 52, 3) := by decide +kernel
theorem dX5_readClause_66 : decode cX5_readClause 66 = .ok (.goto 8, 3) := by decide +kernel
theorem dX5_readClause_69 : decode cX5_readClause 69 = .ok (.aload_n 0, 1) := by decide +kernel
theorem dX5_readClause_70 : decode cX5_readClause 70 = .ok (.aload_n 1, 1) := by decide +kernel
theorem dX5_readClause_71 : decode cX5_readClause 71 = .ok (.invokevirtual 55, 3) := by decide +kernel
theorem dX5_readClause_74 : decode cX5_readClause 74 = .ok (.return_, 1) := by decide +kernel
theorem dX5_faultOfWord_0 : decode cX5_faultOfWord 0 = .ok (.aload_n 1, 1) := by decide +kernel
theorem dX5_faultOfWord_1 : decode cX5_faultOfWord 1 = .ok (.getfield 58, 3) := by decide +kernel
theorem dX5_faultOfWord_4 : decode cX5_faultOfWord 4 = .ok (.ifCond .ne 7, 3) := by decide +kernel
theorem dX5_faultOfWord_7 : decode cX5_faultOfWord 7 = .ok (.iconst 1, 1) := by decide +kernel
theorem dX5_faultOfWord_8 : decode cX5_faultOfWord 8 = .ok (.goto 4, 3) := by decide +kernel
theorem dX5_faultOfWord_11 : decode cX5_faultOfWord 11 = .ok (.iconst 0, 1) := by decide +kernel
theorem dX5_faultOfWord_12 : decode cX5_faultOfWord 12 = .ok (.istore_n 3, 1) := by decide +kernel
theorem dX5_faultOfWord_13 : decode cX5_faultOfWord 13 = .ok (.iload_n 2, 1) := by decide +kernel
theorem dX5_faultOfWord_14 : decode cX5_faultOfWord 14 = .ok (.bipush 108, 2) := by decide +kernel
theorem dX5_faultOfWord_16 : decode cX5_faultOfWord 16 = .ok (.if_icmp .ne 13, 3) := by decide +kernel
theorem dX5_faultOfWord_19 : decode cX5_faultOfWord 19 = .ok (.iload_n 3, 1) := by decide +kernel
theorem dX5_faultOfWord_20 : decode cX5_faultOfWord 20 = .ok (.ifCond .eq 7, 3) := by decide +kernel
theorem dX5_faultOfWord_23 : decode cX5_faultOfWord 23 = .ok (.iconst 0, 1) := by decide +kernel
theorem dX5_faultOfWord_24 : decode cX5_faultOfWord 24 = .ok (.goto 4, 3) := by decide +kernel
theorem dX5_faultOfWord_27 : decode cX5_faultOfWord 27 = .ok (.iconst 3, 1) := by decide +kernel
theorem dX5_faultOfWord_28 : decode cX5_faultOfWord 28 = .ok (.ireturn, 1) := by decide +kernel
theorem dX5_faultOfWord_29 : decode cX5_faultOfWord 29 = .ok (.iload_n 3, 1) := by decide +kernel
theorem dX5_faultOfWord_30 : decode cX5_faultOfWord 30 = .ok (.ifCond .eq 5, 3) := by decide +kernel
theorem dX5_faultOfWord_33 : decode cX5_faultOfWord 33 = .ok (.iconst 1, 1) := by decide +kernel
theorem dX5_faultOfWord_34 : decode cX5_faultOfWord 34 = .ok (.ireturn, 1) := by decide +kernel
theorem dX5_faultOfWord_35 : decode cX5_faultOfWord 35 = .ok (.iload_n 2, 1) := by decide +kernel
theorem dX5_faultOfWord_36 : decode cX5_faultOfWord 36 = .ok (.bipush 116, 2) := by decide +kernel
theorem dX5_faultOfWord_38 : decode cX5_faultOfWord 38 = .ok (.if_icmp .ne 18, 3) := by decide +kernel
theorem dX5_faultOfWord_41 : decode cX5_faultOfWord 41 = .ok (.aload_n 1, 1) := by decide +kernel
theorem dX5_faultOfWord_42 : decode cX5_faultOfWord 42 = .ok (.getfield 61, 3) := by decide +kernel
theorem dX5_faultOfWord_45 : decode cX5_faultOfWord 45 = .ok (.bipush 8, 2) := by decide +kernel
theorem dX5_faultOfWord_47 : decode cX5_faultOfWord 47 = .ok (.if_icmp .ge 7, 3) := by decide +kernel
theorem dX5_faultOfWord_50 : decode cX5_faultOfWord 50 = .ok (.iconst 0, 1) := by decide +kernel
theorem dX5_faultOfWord_51 : decode cX5_faultOfWord 51 = .ok (.goto 4, 3) := by decide +kernel
theorem dX5_faultOfWord_54 : decode cX5_faultOfWord 54 = .ok (.iconst 3, 1) := by decide +kernel
theorem dX5_faultOfWord_55 : decode cX5_faultOfWord 55 = .ok (.ireturn, 1) := by decide +kernel
theorem dX5_faultOfWord_56 : decode cX5_faultOfWord 56 = .ok (.iload_n 2, 1) := by decide +kernel
theorem dX5_faultOfWord_57 : decode cX5_faultOfWord 57 = .ok (.bipush 114, 2) := by decide +kernel
theorem dX5_faultOfWord_59 : decode cX5_faultOfWord 59 = .ok (.if_icmp .ne 18, 3) := by decide +kernel
theorem dX5_faultOfWord_62 : decode cX5_faultOfWord 62 = .ok (.aload_n 1, 1) := by decide +kernel
theorem dX5_faultOfWord_63 : decode cX5_faultOfWord 63 = .ok (.getfield 64, 3) := by decide +kernel
theorem dX5_faultOfWord_66 : decode cX5_faultOfWord 66 = .ok (.bipush 12, 2) := by decide +kernel
theorem dX5_faultOfWord_68 : decode cX5_faultOfWord 68 = .ok (.if_icmp .ge 7, 3) := by decide +kernel
theorem dX5_faultOfWord_71 : decode cX5_faultOfWord 71 = .ok (.iconst 0, 1) := by decide +kernel
theorem dX5_faultOfWord_72 : decode cX5_faultOfWord 72 = .ok (.goto 4, 3) := by decide +kernel
theorem dX5_faultOfWord_75 : decode cX5_faultOfWord 75 = .ok (.iconst 3, 1) := by decide +kernel
theorem dX5_faultOfWord_76 : decode cX5_faultOfWord 76 = .ok (.ireturn, 1) := by decide +kernel
theorem dX5_faultOfWord_77 : decode cX5_faultOfWord 77 = .ok (.iconst 1, 1) := by decide +kernel
theorem dX5_faultOfWord_78 : decode cX5_faultOfWord 78 = .ok (.ireturn, 1) := by decide +kernel
set_option maxRecDepth 20000 in
theorem ggX5_readLimits_X5_readNumber : GoodIn wsX5_readLimits wsX5_readNumber := goodIn_m (fun w hw => by
  revert w hw; unfold wsX5_readNumber
  exact am_cons (am_at in_wsX5_readLimits_0 6 rfl) (am_app (am_cons (am_at in_wsX5_readLimits_0 7 rfl) (am_cons (am_at in_wsX5_readLimits_0 8 rfl) (am_cons (am_at in_wsX5_readLimits_0 9 rfl) (am_cons (am_at in_wsX5_readLimits_0 10 rfl) (am_cons (am_at in_wsX5_readLimits_0 11 rfl) (am_cons (am_at in_wsX5_readLimits_0 12 rfl) (am_cons (am_at in_wsX5_readLimits_0 13 rfl) (am_cons (am_at in_wsX5_readLimits_0 14 rfl) (am_cons (am_at in_wsX5_readLimits_0 5 rfl) (am_cons (am_at in_wsX5_readLimits_0 15 rfl) (am_cons (am_at in_wsX5_readLimits_0 16 rfl) (am_cons (am_at in_wsX5_readLimits_0 17 rfl) (am_cons (am_at in_wsX5_readLimits_0 18 rfl) (am_cons (am_at in_wsX5_readLimits_0 19 rfl) (am_cons (am_at in_wsX5_readLimits_0 20 rfl) (am_cons (am_at in_wsX5_readLimits_0 21 rfl) (am_cons (am_at in_wsX5_readLimits_0 22 rfl) (am_cons (am_at in_wsX5_readLimits_0 23 rfl) am_nil)))))))))))))))))) in_wsX5_readLimits_3)) gw_wsX5_readNumber
set_option maxRecDepth 20000 in
theorem gX5_readLimits_X5_readNumber : GoodIn wsX5_readLimits (wsV RX5 67 RX5 yX5_readNumber wsX5_readNumber) := goodIn_app (goodIn_m (am_cons (am_at in_wsX5_readLimits_0 2 rfl) (am_cons (am_at in_wsX5_readLimits_0 3 rfl) (am_cons (am_at in_wsX5_readLimits_0 4 rfl) (am_cons (am_at in_wsX5_readLimits_0 5 rfl) am_nil)))) (by decide +kernel)) ggX5_readLimits_X5_readNumber
set_option maxRecDepth 20000 in
theorem ggX5_readLimits_X5_readEnd : GoodIn wsX5_readLimits wsX5_readEnd := goodIn_m (fun w hw => by
  revert w hw; unfold wsX5_readEnd
  exact am_cons (am_at in_wsX5_readLimits_1 3 rfl) (am_app (am_cons (am_at in_wsX5_readLimits_0 7 rfl) (am_cons (am_at in_wsX5_readLimits_0 8 rfl) (am_cons (am_at in_wsX5_readLimits_0 9 rfl) (am_cons (am_at in_wsX5_readLimits_0 12 rfl) (am_cons (am_at in_wsX5_readLimits_0 13 rfl) (am_cons (am_at in_wsX5_readLimits_0 14 rfl) (am_cons (am_at in_wsX5_readLimits_0 5 rfl) (am_cons (am_at in_wsX5_readLimits_0 15 rfl) (am_cons (am_at in_wsX5_readLimits_0 11 rfl) (am_cons (am_at in_wsX5_readLimits_0 19 rfl) (am_cons (am_at in_wsX5_readLimits_0 20 rfl) (am_cons (am_at in_wsX5_readLimits_0 21 rfl) (am_cons (am_at in_wsX5_readLimits_0 22 rfl) (am_cons (am_at in_wsX5_readLimits_0 23 rfl) am_nil)))))))))))))) in_wsX5_readLimits_3)) gw_wsX5_readEnd
set_option maxRecDepth 20000 in
theorem gX5_readLimits_X5_readEnd : GoodIn wsX5_readLimits (wsV RX5 71 RX5 yX5_readEnd wsX5_readEnd) := goodIn_app (goodIn_m (am_cons (am_at in_wsX5_readLimits_1 0 rfl) (am_cons (am_at in_wsX5_readLimits_1 1 rfl) (am_cons (am_at in_wsX5_readLimits_1 2 rfl) (am_cons (am_at in_wsX5_readLimits_0 5 rfl) am_nil)))) (by decide +kernel)) ggX5_readLimits_X5_readEnd
theorem dX5_readLimits_0 : decode cX5_readLimits 0 = .ok (.aload_n 0, 1) := by decide +kernel
theorem dX5_readLimits_1 : decode cX5_readLimits 1 = .ok (.iconst 1, 1) := by decide +kernel
theorem dX5_readLimits_2 : decode cX5_readLimits 2 = .ok (.iconst 4, 1) := by decide +kernel
theorem dX5_readLimits_3 : decode cX5_readLimits 3 = .ok (.invokevirtual 67, 3) := by decide +kernel
theorem dX5_readLimits_6 : decode cX5_readLimits 6 = .ok (.istore_n 2, 1) := by decide +kernel
theorem dX5_readLimits_7 : decode cX5_readLimits 7 = .ok (.aload_n 0, 1) := by decide +kernel
theorem dX5_readLimits_8 : decode cX5_readLimits 8 = .ok (.iconst 0, 1) := by decide +kernel
theorem dX5_readLimits_9 : decode cX5_readLimits 9 = .ok (.bipush 11, 2) := by decide +kernel
theorem dX5_readLimits_11 : decode cX5_readLimits 11 = .ok (.invokevirtual 67, 3) := by decide +kernel
theorem dX5_readLimits_14 : decode cX5_readLimits 14 = .ok (.istore_n 3, 1) := by decide +kernel
theorem dX5_readLimits_15 : decode cX5_readLimits 15 = .ok (.aload_n 0, 1) := by decide +kernel
theorem dX5_readLimits_16 : decode cX5_readLimits 16 = .ok (.invokevirtual 71, 3) := by decide +kernel
theorem dX5_readLimits_19 : decode cX5_readLimits 19 = .ok (.aload_n 1, 1) := by decide +kernel
theorem dX5_readLimits_20 : decode cX5_readLimits 20 = .ok (.iload_n 2, 1) := by decide +kernel
theorem dX5_readLimits_21 : decode cX5_readLimits 21 = .ok (.putfield 58, 3) := by decide +kernel
theorem dX5_readLimits_24 : decode cX5_readLimits 24 = .ok (.aload_n 1, 1) := by decide +kernel
theorem dX5_readLimits_25 : decode cX5_readLimits 25 = .ok (.iload_n 3, 1) := by decide +kernel
theorem dX5_readLimits_26 : decode cX5_readLimits 26 = .ok (.putfield 74, 3) := by decide +kernel
theorem dX5_readLimits_29 : decode cX5_readLimits 29 = .ok (.return_, 1) := by decide +kernel
set_option maxRecDepth 20000 in
theorem ggX5_readTown_X5_readNumber : GoodIn wsX5_readTown wsX5_readNumber := goodIn_m (fun w hw => by
  revert w hw; unfold wsX5_readNumber
  exact am_cons (am_at in_wsX5_readTown_0 4 rfl) (am_app (am_cons (am_at in_wsX5_readTown_0 5 rfl) (am_cons (am_at in_wsX5_readTown_0 6 rfl) (am_cons (am_at in_wsX5_readTown_0 7 rfl) (am_cons (am_at in_wsX5_readTown_0 8 rfl) (am_cons (am_at in_wsX5_readTown_0 9 rfl) (am_cons (am_at in_wsX5_readTown_0 10 rfl) (am_cons (am_at in_wsX5_readTown_0 11 rfl) (am_cons (am_at in_wsX5_readTown_0 12 rfl) (am_cons (am_at in_wsX5_readTown_0 3 rfl) (am_cons (am_at in_wsX5_readTown_0 13 rfl) (am_cons (am_at in_wsX5_readTown_0 14 rfl) (am_cons (am_at in_wsX5_readTown_0 15 rfl) (am_cons (am_at in_wsX5_readTown_0 16 rfl) (am_cons (am_at in_wsX5_readTown_0 17 rfl) (am_cons (am_at in_wsX5_readTown_0 18 rfl) (am_cons (am_at in_wsX5_readTown_0 19 rfl) (am_cons (am_at in_wsX5_readTown_0 20 rfl) (am_cons (am_at in_wsX5_readTown_0 21 rfl) am_nil)))))))))))))))))) in_wsX5_readTown_2)) gw_wsX5_readNumber
set_option maxRecDepth 20000 in
theorem gX5_readTown_X5_readNumber : GoodIn wsX5_readTown (wsV RX5 67 RX5 yX5_readNumber wsX5_readNumber) := goodIn_app (goodIn_m (am_cons (am_at in_wsX5_readTown_0 0 rfl) (am_cons (am_at in_wsX5_readTown_0 1 rfl) (am_cons (am_at in_wsX5_readTown_0 2 rfl) (am_cons (am_at in_wsX5_readTown_0 3 rfl) am_nil)))) (by decide +kernel)) ggX5_readTown_X5_readNumber
set_option maxRecDepth 20000 in
theorem ggX5_readTown_X5_readEnd : GoodIn wsX5_readTown wsX5_readEnd := goodIn_m (fun w hw => by
  revert w hw; unfold wsX5_readEnd
  exact am_cons (am_at in_wsX5_readTown_1 1 rfl) (am_app (am_cons (am_at in_wsX5_readTown_0 5 rfl) (am_cons (am_at in_wsX5_readTown_0 6 rfl) (am_cons (am_at in_wsX5_readTown_0 7 rfl) (am_cons (am_at in_wsX5_readTown_0 10 rfl) (am_cons (am_at in_wsX5_readTown_0 11 rfl) (am_cons (am_at in_wsX5_readTown_0 12 rfl) (am_cons (am_at in_wsX5_readTown_0 3 rfl) (am_cons (am_at in_wsX5_readTown_0 13 rfl) (am_cons (am_at in_wsX5_readTown_0 9 rfl) (am_cons (am_at in_wsX5_readTown_0 17 rfl) (am_cons (am_at in_wsX5_readTown_0 18 rfl) (am_cons (am_at in_wsX5_readTown_0 19 rfl) (am_cons (am_at in_wsX5_readTown_0 20 rfl) (am_cons (am_at in_wsX5_readTown_0 21 rfl) am_nil)))))))))))))) in_wsX5_readTown_2)) gw_wsX5_readEnd
set_option maxRecDepth 20000 in
theorem gX5_readTown_X5_readEnd : GoodIn wsX5_readTown (wsV RX5 71 RX5 yX5_readEnd wsX5_readEnd) := goodIn_app (goodIn_m (am_cons (am_at in_wsX5_readTown_0 22 rfl) (am_cons (am_at in_wsX5_readTown_0 23 rfl) (am_cons (am_at in_wsX5_readTown_1 0 rfl) (am_cons (am_at in_wsX5_readTown_0 3 rfl) am_nil)))) (by decide +kernel)) ggX5_readTown_X5_readEnd
set_option maxRecDepth 20000 in
theorem ggX5_readTown_X0_addTown : GoodIn wsX5_readTown wsX0_addTown := goodIn_m (fun w hw => by
  revert w hw; unfold wsX0_addTown
  exact am_cons (am_at in_wsX5_readTown_1 6 rfl) (am_app (am_cons (am_at in_wsX5_readTown_1 7 rfl) (am_cons (am_at in_wsX5_readTown_1 8 rfl) (am_cons (am_at in_wsX5_readTown_1 9 rfl) (am_cons (am_at in_wsX5_readTown_1 10 rfl) (am_cons (am_at in_wsX5_readTown_1 11 rfl) am_nil))))) in_wsX5_readTown_3)) gw_wsX0_addTown
set_option maxRecDepth 20000 in
theorem gX5_readTown_X0_addTown : GoodIn wsX5_readTown (wsV RX5 77 RX0 yX0_addTown wsX0_addTown) := goodIn_app (goodIn_m (am_cons (am_at in_wsX5_readTown_1 2 rfl) (am_cons (am_at in_wsX5_readTown_1 3 rfl) (am_cons (am_at in_wsX5_readTown_1 4 rfl) (am_cons (am_at in_wsX5_readTown_1 5 rfl) am_nil)))) (by decide +kernel)) ggX5_readTown_X0_addTown
theorem dX5_readTown_0 : decode cX5_readTown 0 = .ok (.aload_n 0, 1) := by decide +kernel
theorem dX5_readTown_1 : decode cX5_readTown 1 = .ok (.iconst 0, 1) := by decide +kernel
theorem dX5_readTown_2 : decode cX5_readTown 2 = .ok (.sipush 999, 3) := by decide +kernel
theorem dX5_readTown_5 : decode cX5_readTown 5 = .ok (.invokevirtual 67, 3) := by decide +kernel
theorem dX5_readTown_8 : decode cX5_readTown 8 = .ok (.istore_n 2, 1) := by decide +kernel
theorem dX5_readTown_9 : decode cX5_readTown 9 = .ok (.aload_n 0, 1) := by decide +kernel
theorem dX5_readTown_10 : decode cX5_readTown 10 = .ok (.iconst 0, 1) := by decide +kernel
theorem dX5_readTown_11 : decode cX5_readTown 11 = .ok (.sipush 4095, 3) := by decide +kernel
theorem dX5_readTown_14 : decode cX5_readTown 14 = .ok (.invokevirtual 67, 3) := by decide +kernel
theorem dX5_readTown_17 : decode cX5_readTown 17 = .ok (.istore_n 3, 1) := by decide +kernel
theorem dX5_readTown_18 : decode cX5_readTown 18 = .ok (.aload_n 0, 1) := by decide +kernel
theorem dX5_readTown_19 : decode cX5_readTown 19 = .ok (.iconst 0, 1) := by decide +kernel
theorem dX5_readTown_20 : decode cX5_readTown 20 = .ok (.bipush 20, 2) := by decide +kernel
theorem dX5_readTown_22 : decode cX5_readTown 22 = .ok (.invokevirtual 67, 3) := by decide +kernel
theorem dX5_readTown_25 : decode cX5_readTown 25 = .ok (.istore 4, 2) := by decide +kernel
theorem dX5_readTown_27 : decode cX5_readTown 27 = .ok (.aload_n 0, 1) := by decide +kernel
theorem dX5_readTown_28 : decode cX5_readTown 28 = .ok (.invokevirtual 71, 3) := by decide +kernel
theorem dX5_readTown_31 : decode cX5_readTown 31 = .ok (.aload_n 1, 1) := by decide +kernel
theorem dX5_readTown_32 : decode cX5_readTown 32 = .ok (.iload_n 2, 1) := by decide +kernel
theorem dX5_readTown_33 : decode cX5_readTown 33 = .ok (.iload_n 3, 1) := by decide +kernel
theorem dX5_readTown_34 : decode cX5_readTown 34 = .ok (.iload 4, 2) := by decide +kernel
theorem dX5_readTown_36 : decode cX5_readTown 36 = .ok (.invokevirtual 77, 3) := by decide +kernel
theorem dX5_readTown_39 : decode cX5_readTown 39 = .ok (.return_, 1) := by decide +kernel
set_option maxRecDepth 20000 in
theorem ggX5_readRoad_X5_readNumber : GoodIn wsX5_readRoad wsX5_readNumber := goodIn_m (fun w hw => by
  revert w hw; unfold wsX5_readNumber
  exact am_cons (am_at in_wsX5_readRoad_0 6 rfl) (am_app (am_cons (am_at in_wsX5_readRoad_0 7 rfl) (am_cons (am_at in_wsX5_readRoad_0 8 rfl) (am_cons (am_at in_wsX5_readRoad_0 9 rfl) (am_cons (am_at in_wsX5_readRoad_0 1 rfl) (am_cons (am_at in_wsX5_readRoad_0 10 rfl) (am_cons (am_at in_wsX5_readRoad_0 11 rfl) (am_cons (am_at in_wsX5_readRoad_0 12 rfl) (am_cons (am_at in_wsX5_readRoad_0 13 rfl) (am_cons (am_at in_wsX5_readRoad_0 5 rfl) (am_cons (am_at in_wsX5_readRoad_0 14 rfl) (am_cons (am_at in_wsX5_readRoad_0 15 rfl) (am_cons (am_at in_wsX5_readRoad_0 16 rfl) (am_cons (am_at in_wsX5_readRoad_0 17 rfl) (am_cons (am_at in_wsX5_readRoad_0 18 rfl) (am_cons (am_at in_wsX5_readRoad_0 19 rfl) (am_cons (am_at in_wsX5_readRoad_0 20 rfl) (am_cons (am_at in_wsX5_readRoad_0 21 rfl) (am_cons (am_at in_wsX5_readRoad_0 22 rfl) am_nil)))))))))))))))))) in_wsX5_readRoad_3)) gw_wsX5_readNumber
set_option maxRecDepth 20000 in
theorem gX5_readRoad_X5_readNumber : GoodIn wsX5_readRoad (wsV RX5 67 RX5 yX5_readNumber wsX5_readNumber) := goodIn_app (goodIn_m (am_cons (am_at in_wsX5_readRoad_0 2 rfl) (am_cons (am_at in_wsX5_readRoad_0 3 rfl) (am_cons (am_at in_wsX5_readRoad_0 4 rfl) (am_cons (am_at in_wsX5_readRoad_0 5 rfl) am_nil)))) (by decide +kernel)) ggX5_readRoad_X5_readNumber
set_option maxRecDepth 20000 in
theorem ggX5_readRoad_X0_neighbours : GoodIn wsX5_readRoad wsX0_neighbours := goodIn_m (fun w hw => by
  revert w hw; unfold wsX0_neighbours
  exact am_cons (am_at in_wsX5_readRoad_1 3 rfl) (am_app (am_cons (am_at in_wsX5_readRoad_1 4 rfl) (am_cons (am_at in_wsX5_readRoad_1 5 rfl) (am_cons (am_at in_wsX5_readRoad_1 6 rfl) am_nil))) in_wsX5_readRoad_2)) gw_wsX0_neighbours
set_option maxRecDepth 20000 in
theorem gX5_readRoad_X0_neighbours : GoodIn wsX5_readRoad (wsV RX5 81 RX0 yX0_neighbours wsX0_neighbours) := goodIn_app (goodIn_m (am_cons (am_at in_wsX5_readRoad_0 23 rfl) (am_cons (am_at in_wsX5_readRoad_1 0 rfl) (am_cons (am_at in_wsX5_readRoad_1 1 rfl) (am_cons (am_at in_wsX5_readRoad_1 2 rfl) am_nil)))) (by decide +kernel)) ggX5_readRoad_X0_neighbours
set_option maxRecDepth 20000 in
theorem ggX5_readRoad_X5_blame : GoodIn wsX5_readRoad wsX5_blame := goodIn_m (fun w hw => by
  revert w hw; unfold wsX5_blame
  exact am_cons (am_at in_wsX5_readRoad_0 21 rfl) (am_app (am_cons (am_at in_wsX5_readRoad_0 7 rfl) (am_cons (am_at in_wsX5_readRoad_0 22 rfl) am_nil)) in_wsX5_readRoad_3)) gw_wsX5_blame
set_option maxRecDepth 20000 in
theorem gX5_readRoad_X5_blame : GoodIn wsX5_readRoad (wsV RX5 45 RX5 yX5_blame wsX5_blame) := goodIn_app (goodIn_m (am_cons (am_at in_wsX5_readRoad_0 18 rfl) (am_cons (am_at in_wsX5_readRoad_0 19 rfl) (am_cons (am_at in_wsX5_readRoad_0 20 rfl) (am_cons (am_at in_wsX5_readRoad_0 5 rfl) am_nil)))) (by decide +kernel)) ggX5_readRoad_X5_blame
set_option maxRecDepth 20000 in
theorem ggX5_readRoad_X5_readEnd : GoodIn wsX5_readRoad wsX5_readEnd := goodIn_m (fun w hw => by
  revert w hw; unfold wsX5_readEnd
  exact am_cons (am_at in_wsX5_readRoad_1 10 rfl) (am_app (am_cons (am_at in_wsX5_readRoad_0 7 rfl) (am_cons (am_at in_wsX5_readRoad_0 8 rfl) (am_cons (am_at in_wsX5_readRoad_0 9 rfl) (am_cons (am_at in_wsX5_readRoad_0 11 rfl) (am_cons (am_at in_wsX5_readRoad_0 12 rfl) (am_cons (am_at in_wsX5_readRoad_0 13 rfl) (am_cons (am_at in_wsX5_readRoad_0 5 rfl) (am_cons (am_at in_wsX5_readRoad_0 14 rfl) (am_cons (am_at in_wsX5_readRoad_0 10 rfl) (am_cons (am_at in_wsX5_readRoad_0 18 rfl) (am_cons (am_at in_wsX5_readRoad_0 19 rfl) (am_cons (am_at in_wsX5_readRoad_0 20 rfl) (am_cons (am_at in_wsX5_readRoad_0 21 rfl) (am_cons (am_at in_wsX5_readRoad_0 22 rfl) am_nil)))))))))))))) in_wsX5_readRoad_3)) gw_wsX5_readEnd
set_option maxRecDepth 20000 in
theorem gX5_readRoad_X5_readEnd : GoodIn wsX5_readRoad (wsV RX5 71 RX5 yX5_readEnd wsX5_readEnd) := goodIn_app (goodIn_m (am_cons (am_at in_wsX5_readRoad_1 7 rfl) (am_cons (am_at in_wsX5_readRoad_1 8 rfl) (am_cons (am_at in_wsX5_readRoad_1 9 rfl) (am_cons (am_at in_wsX5_readRoad_0 5 rfl) am_nil)))) (by decide +kernel)) ggX5_readRoad_X5_readEnd
set_option maxRecDepth 20000 in
theorem ggX5_readRoad_X0_addRoad : GoodIn wsX5_readRoad wsX0_addRoad := goodIn_m (fun w hw => by
  revert w hw; unfold wsX0_addRoad
  exact am_cons (am_at in_wsX5_readRoad_1 14 rfl) (am_app (am_cons (am_at in_wsX5_readRoad_1 4 rfl) (am_cons (am_at in_wsX5_readRoad_1 5 rfl) (am_cons (am_at in_wsX5_readRoad_1 6 rfl) am_nil))) in_wsX5_readRoad_2)) gw_wsX0_addRoad
set_option maxRecDepth 20000 in
theorem gX5_readRoad_X0_addRoad : GoodIn wsX5_readRoad (wsV RX5 87 RX0 yX0_addRoad wsX0_addRoad) := goodIn_app (goodIn_m (am_cons (am_at in_wsX5_readRoad_1 11 rfl) (am_cons (am_at in_wsX5_readRoad_1 12 rfl) (am_cons (am_at in_wsX5_readRoad_1 13 rfl) (am_cons (am_at in_wsX5_readRoad_1 2 rfl) am_nil)))) (by decide +kernel)) ggX5_readRoad_X0_addRoad
theorem dX5_readRoad_0 : decode cX5_readRoad 0 = .ok (.aload_n 0, 1) := by decide +kernel
theorem dX5_readRoad_1 : decode cX5_readRoad 1 = .ok (.iconst 0, 1) := by decide +kernel
theorem dX5_readRoad_2 : decode cX5_readRoad 2 = .ok (.aload_n 1, 1) := by decide +kernel
theorem dX5_readRoad_3 : decode cX5_readRoad 3 = .ok (.getfield 61, 3) := by decide +kernel
theorem dX5_readRoad_6 : decode cX5_readRoad 6 = .ok (.iconst 1, 1) := by decide +kernel
theorem dX5_readRoad_7 : decode cX5_readRoad 7 = .ok (.isub, 1) := by decide +kernel
theorem dX5_readRoad_8 : decode cX5_readRoad 8 = .ok (.invokevirtual 67, 3) := by decide +kernel
theorem dX5_readRoad_11 : decode cX5_readRoad 11 = .ok (.istore_n 2, 1) := by decide +kernel
theorem dX5_readRoad_12 : decode cX5_readRoad 12 = .ok (.aload_n 0, 1) := by decide +kernel
theorem dX5_readRoad_13 : decode cX5_readRoad 13 = .ok (.iconst 0, 1) := by decide +kernel
theorem dX5_readRoad_14 : decode cX5_readRoad 14 = .ok (.aload_n 1, 1) := by decide +kernel
theorem dX5_readRoad_15 : decode cX5_readRoad 15 = .ok (.getfield 61, 3) := by decide +kernel
theorem dX5_readRoad_18 : decode cX5_readRoad 18 = .ok (.iconst 1, 1) := by decide +kernel
theorem dX5_readRoad_19 : decode cX5_readRoad 19 = .ok (.isub, 1) := by decide +kernel
theorem dX5_readRoad_20 : decode cX5_readRoad 20 = .ok (.invokevirtual 67, 3) := by decide +kernel
theorem dX5_readRoad_23 : decode cX5_readRoad 23 = .ok (.istore_n 3, 1) := by decide +kernel
theorem dX5_readRoad_24 : decode cX5_readRoad 24 = .ok (.iload_n 2, 1) := by decide +kernel
theorem dX5_readRoad_25 : decode cX5_readRoad 25 = .ok (.iload_n 3, 1) := by decide +kernel
theorem dX5_readRoad_26 : decode cX5_readRoad 26 = .ok (.if_icmp .eq 16, 3) := by decide +kernel
theorem dX5_readRoad_29 : decode cX5_readRoad 29 = .ok (.aload_n 1, 1) := by decide +kernel
