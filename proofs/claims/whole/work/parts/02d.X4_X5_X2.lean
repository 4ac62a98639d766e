set_option maxRecDepth 20000 in
theorem ggX4_init_X6_init : GoodIn wsX4_init wsX6_init := goodIn_r _ [12, 13, 2, 3, 14, 15, 16] (by decide +kernel) (by decide +kernel)
set_option maxRecDepth 20000 in
theorem gX4_init_X6_init : GoodIn wsX4_init (wsX6_init) := ggX4_init_X6_init
theorem dX4_init_0 : decode cX4_init 0 = .ok (.aload_n 0, 1) := by decide +kernel
theorem dX4_init_1 : decode cX4_init 1 = .ok (.invokespecial 3, 3) := by decide +kernel
theorem dX4_init_4 : decode cX4_init 4 = .ok (.aload_n 0, 1) := by decide +kernel
theorem dX4_init_5 : decode cX4_init 5 = .ok (.new 9, 3) := by decide +kernel
theorem dX4_init_8 : decode cX4_init 8 = .ok (.dup, 1) := by decide +kernel
theorem dX4_init_9 : decode cX4_init 9 = .ok (.bipush 8, 2) := by decide +kernel
theorem dX4_init_11 : decode cX4_init 11 = .ok (.invokespecial 11, 3) := by decide +kernel
theorem dX4_init_14 : decode cX4_init 14 = .ok (.putfield 14, 3) := by decide +kernel
theorem dX4_init_17 : decode cX4_init 17 = .ok (.aload_n 0, 1) := by decide +kernel
theorem dX4_init_18 : decode cX4_init 18 = .ok (.new 9, 3) := by decide +kernel
theorem dX4_init_21 : decode cX4_init 21 = .ok (.dup, 1) := by decide +kernel
theorem dX4_init_22 : decode cX4_init 22 = .ok (.bipush 8, 2) := by decide +kernel
theorem dX4_init_24 : decode cX4_init 24 = .ok (.invokespecial 11, 3) := by decide +kernel
theorem dX4_init_27 : decode cX4_init 27 = .ok (.putfield 20, 3) := by decide +kernel
theorem dX4_init_30 : decode cX4_init 30 = .ok (.aload_n 0, 1) := by decide +kernel
theorem dX4_init_31 : decode cX4_init 31 = .ok (.new 9, 3) := by decide +kernel
theorem dX4_init_34 : decode cX4_init 34 = .ok (.dup, 1) := by decide +kernel
theorem dX4_init_35 : decode cX4_init 35 = .ok (.bipush 8, 2) := by decide +kernel
theorem dX4_init_37 : decode cX4_init 37 = .ok (.invokespecial 11, 3) := by decide +kernel
theorem dX4_init_40 : decode cX4_init 40 = .ok (.putfield 23, 3) := by decide +kernel
theorem dX4_init_43 : decode cX4_init 43 = .ok (.return_, 1) := by decide +kernel
set_option maxRecDepth 20000 in
theorem ggX4_clear_X6_fill : GoodIn wsX4_clear wsX6_fill := goodIn_r _ [8, 9, 14] (by decide +kernel) (by decide +kernel)
set_option maxRecDepth 20000 in
theorem gX4_clear_X6_fill : GoodIn wsX4_clear (wsV RX4 26 RX6 yX6_fill wsX6_fill) := goodIn_app (goodIn_of _ (by decide +kernel)) ggX4_clear_X6_fill
theorem dX4_clear_0 : decode cX4_clear 0 = .ok (.aload_n 0, 1) := by decide +kernel
theorem dX4_clear_1 : decode cX4_clear 1 = .ok (.getfield 14, 3) := by decide +kernel
theorem dX4_clear_4 : decode cX4_clear 4 = .ok (.bipush 100, 2) := by decide +kernel
theorem dX4_clear_6 : decode cX4_clear 6 = .ok (.invokevirtual 26, 3) := by decide +kernel
theorem dX4_clear_9 : decode cX4_clear 9 = .ok (.aload_n 0, 1) := by decide +kernel
theorem dX4_clear_10 : decode cX4_clear 10 = .ok (.getfield 23, 3) := by decide +kernel
theorem dX4_clear_13 : decode cX4_clear 13 = .ok (.iconst 0, 1) := by decide +kernel
theorem dX4_clear_14 : decode cX4_clear 14 = .ok (.invokevirtual 26, 3) := by decide +kernel
theorem dX4_clear_17 : decode cX4_clear 17 = .ok (.aload_n 0, 1) := by decide +kernel
theorem dX4_clear_18 : decode cX4_clear 18 = .ok (.iconst 0, 1) := by decide +kernel
theorem dX4_clear_19 : decode cX4_clear 19 = .ok (.putfield 29, 3) := by decide +kernel
theorem dX4_clear_22 : decode cX4_clear 22 = .ok (.return_, 1) := by decide +kernel
theorem dX4_today_0 : decode cX4_today 0 = .ok (.aload_n 0, 1) := by decide +kernel
theorem dX4_today_1 : decode cX4_today 1 = .ok (.getfield 29, 3) := by decide +kernel
theorem dX4_today_4 : decode cX4_today 4 = .ok (.ireturn, 1) := by decide +kernel
theorem dX4_addDays_0 : decode cX4_addDays 0 = .ok (.aload_n 0, 1) := by decide +kernel
theorem dX4_addDays_1 : decode cX4_addDays 1 = .ok (.dup, 1) := by decide +kernel
theorem dX4_addDays_2 : decode cX4_addDays 2 = .ok (.getfield 29, 3) := by decide +kernel
theorem dX4_addDays_5 : decode cX4_addDays 5 = .ok (.iload_n 1, 1) := by decide +kernel
theorem dX4_addDays_6 : decode cX4_addDays 6 = .ok (.iadd, 1) := by decide +kernel
theorem dX4_addDays_7 : decode cX4_addDays 7 = .ok (.putfield 29, 3) := by decide +kernel
theorem dX4_addDays_10 : decode cX4_addDays 10 = .ok (.aload_n 0, 1) := by decide +kernel
theorem dX4_addDays_11 : decode cX4_addDays 11 = .ok (.getfield 29, 3) := by decide +kernel
theorem dX4_addDays_14 : decode cX4_addDays 14 = .ok (.ireturn, 1) := by decide +kernel
set_option maxRecDepth 20000 in
theorem ggX4_changeLimit_X6_at : GoodIn wsX4_changeLimit wsX6_at := goodIn_r _ [6, 7, 16] (by decide +kernel) (by decide +kernel)
set_option maxRecDepth 20000 in
theorem gX4_changeLimit_X6_at : GoodIn wsX4_changeLimit (wsV RX4 33 RX6 yX6_at wsX6_at) := goodIn_app (goodIn_of _ (by decide +kernel)) ggX4_changeLimit_X6_at
set_option maxRecDepth 20000 in
theorem ggX4_changeLimit_X6_put : GoodIn wsX4_changeLimit wsX6_put := goodIn_r _ [11, 7, 16] (by decide +kernel) (by decide +kernel)
set_option maxRecDepth 20000 in
theorem gX4_changeLimit_X6_put : GoodIn wsX4_changeLimit (wsV RX4 37 RX6 yX6_put wsX6_put) := goodIn_app (goodIn_of _ (by decide +kernel)) ggX4_changeLimit_X6_put
theorem dX4_changeLimit_0 : decode cX4_changeLimit 0 = .ok (.aload_n 0, 1) := by decide +kernel
theorem dX4_changeLimit_1 : decode cX4_changeLimit 1 = .ok (.getfield 14, 3) := by decide +kernel
theorem dX4_changeLimit_4 : decode cX4_changeLimit 4 = .ok (.iload_n 1, 1) := by decide +kernel
theorem dX4_changeLimit_5 : decode cX4_changeLimit 5 = .ok (.invokevirtual 33, 3) := by decide +kernel
theorem dX4_changeLimit_8 : decode cX4_changeLimit 8 = .ok (.istore_n 3, 1) := by decide +kernel
theorem dX4_changeLimit_9 : decode cX4_changeLimit 9 = .ok (.aload_n 0, 1) := by decide +kernel
theorem dX4_changeLimit_10 : decode cX4_changeLimit 10 = .ok (.getfield 14, 3) := by decide +kernel
theorem dX4_changeLimit_13 : decode cX4_changeLimit 13 = .ok (.iload_n 1, 1) := by decide +kernel
theorem dX4_changeLimit_14 : decode cX4_changeLimit 14 = .ok (.iload_n 2, 1) := by decide +kernel
theorem dX4_changeLimit_15 : decode cX4_changeLimit 15 = .ok (.invokevirtual 37, 3) := by decide +kernel
theorem dX4_changeLimit_18 : decode cX4_changeLimit 18 = .ok (.iload_n 3, 1) := by decide +kernel
theorem dX4_changeLimit_19 : decode cX4_changeLimit 19 = .ok (.ireturn, 1) := by decide +kernel
set_option maxRecDepth 20000 in
theorem ggX4_sendOnLeave_X6_put : GoodIn wsX4_sendOnLeave wsX6_put := goodIn_r _ [8, 9, 18] (by decide +kernel) (by decide +kernel)
set_option maxRecDepth 20000 in
theorem gX4_sendOnLeave_X6_put : GoodIn wsX4_sendOnLeave (wsV RX4 37 RX6 yX6_put wsX6_put) := goodIn_app (goodIn_of _ (by decide +kernel)) ggX4_sendOnLeave_X6_put
set_option maxRecDepth 20000 in
theorem ggX4_sendOnLeave_X6_at : GoodIn wsX4_sendOnLeave wsX6_at := goodIn_r _ [13, 9, 18] (by decide +kernel) (by decide +kernel)
set_option maxRecDepth 20000 in
theorem gX4_sendOnLeave_X6_at : GoodIn wsX4_sendOnLeave (wsV RX4 33 RX6 yX6_at wsX6_at) := goodIn_app (goodIn_of _ (by decide +kernel)) ggX4_sendOnLeave_X6_at
theorem dX4_sendOnLeave_0 : decode cX4_sendOnLeave 0 = .ok (.aload_n 0, 1) := by decide +kernel
theorem dX4_sendOnLeave_1 : decode cX4_sendOnLeave 1 = .ok (.getfield 20, 3) := by decide +kernel
theorem dX4_sendOnLeave_4 : decode cX4_sendOnLeave 4 = .ok (.iload_n 1, 1) := by decide +kernel
theorem dX4_sendOnLeave_5 : decode cX4_sendOnLeave 5 = .ok (.iload_n 2, 1) := by decide +kernel
theorem dX4_sendOnLeave_6 : decode cX4_sendOnLeave 6 = .ok (.invokevirtual 37, 3) := by decide +kernel
theorem dX4_sendOnLeave_9 : decode cX4_sendOnLeave 9 = .ok (.aload_n 0, 1) := by decide +kernel
theorem dX4_sendOnLeave_10 : decode cX4_sendOnLeave 10 = .ok (.getfield 23, 3) := by decide +kernel
theorem dX4_sendOnLeave_13 : decode cX4_sendOnLeave 13 = .ok (.iload_n 1, 1) := by decide +kernel
theorem dX4_sendOnLeave_14 : decode cX4_sendOnLeave 14 = .ok (.aload_n 0, 1) := by decide +kernel
theorem dX4_sendOnLeave_15 : decode cX4_sendOnLeave 15 = .ok (.getfield 29, 3) := by decide +kernel
theorem dX4_sendOnLeave_18 : decode cX4_sendOnLeave 18 = .ok (.iload_n 3, 1) := by decide +kernel
theorem dX4_sendOnLeave_19 : decode cX4_sendOnLeave 19 = .ok (.iadd, 1) := by decide +kernel
theorem dX4_sendOnLeave_20 : decode cX4_sendOnLeave 20 = .ok (.invokevirtual 37, 3) := by decide +kernel
theorem dX4_sendOnLeave_23 : decode cX4_sendOnLeave 23 = .ok (.aload_n 0, 1) := by decide +kernel
theorem dX4_sendOnLeave_24 : decode cX4_sendOnLeave 24 = .ok (.getfield 23, 3) := by decide +kernel
theorem dX4_sendOnLeave_27 : decode cX4_sendOnLeave 27 = .ok (.iload_n 1, 1) := by decide +kernel
theorem dX4_sendOnLeave_28 : decode cX4_sendOnLeave 28 = .ok (.invokevirtual 33, 3) := by decide +kernel
theorem dX4_sendOnLeave_31 : decode cX4_sendOnLeave 31 = .ok (.ireturn, 1) := by decide +kernel
set_option maxRecDepth 20000 in
theorem ggX4_backOf_X6_at : GoodIn wsX4_backOf wsX6_at := goodIn_r _ [6, 7, 12] (by decide +kernel) (by decide +kernel)
set_option maxRecDepth 20000 in
theorem gX4_backOf_X6_at : GoodIn wsX4_backOf (wsV RX4 33 RX6 yX6_at wsX6_at) := goodIn_app (goodIn_of _ (by decide +kernel)) ggX4_backOf_X6_at
theorem dX4_backOf_0 : decode cX4_backOf 0 = .ok (.aload_n 0, 1) := by decide +kernel
theorem dX4_backOf_1 : decode cX4_backOf 1 = .ok (.getfield 23, 3) := by decide +kernel
theorem dX4_backOf_4 : decode cX4_backOf 4 = .ok (.iload_n 1, 1) := by decide +kernel
theorem dX4_backOf_5 : decode cX4_backOf 5 = .ok (.invokevirtual 33, 3) := by decide +kernel
theorem dX4_backOf_8 : decode cX4_backOf 8 = .ok (.ireturn, 1) := by decide +kernel
set_option maxRecDepth 20000 in
theorem ggX4_isAway_X6_at : GoodIn wsX4_isAway wsX6_at := goodIn_r _ [7, 8, 13] (by decide +kernel) (by decide +kernel)
set_option maxRecDepth 20000 in
theorem gX4_isAway_X6_at : GoodIn wsX4_isAway (wsV RX4 33 RX6 yX6_at wsX6_at) := goodIn_app (goodIn_of _ (by decide +kernel)) ggX4_isAway_X6_at
theorem dX4_isAway_0 : decode cX4_isAway 0 = .ok (.aload_n 0, 1) := by decide +kernel
theorem dX4_isAway_1 : decode cX4_isAway 1 = .ok (.getfield 29, 3) := by decide +kernel
theorem dX4_isAway_4 : decode cX4_isAway 4 = .ok (.aload_n 0, 1) := by decide +kernel
theorem dX4_isAway_5 : decode cX4_isAway 5 = .ok (.getfield 23, 3) := by decide +kernel
theorem dX4_isAway_8 : decode cX4_isAway 8 = .ok (.iload_n 1, 1) := by decide +kernel
theorem dX4_isAway_9 : decode cX4_isAway 9 = .ok (.invokevirtual 33, 3) := by decide +kernel
theorem dX4_isAway_12 : decode cX4_isAway 12 = .ok (.if_icmp .ge 7, 3) := by decide +kernel
theorem dX4_isAway_15 : decode cX4_isAway 15 = .ok (.iconst 1, 1) := by decide +kernel
theorem dX4_isAway_16 : decode cX4_isAway 16 = .ok (.goto 4, 3) := by decide +kernel
theorem dX4_isAway_19 : decode cX4_isAway 19 = .ok (.iconst 0, 1) := by decide +kernel
theorem dX4_isAway_20 : decode cX4_isAway 20 = .ok (.ireturn, 1) := by decide +kernel
set_option maxRecDepth 20000 in
theorem ggX4_principalOf_X4_isAway : GoodIn wsX4_principalOf wsX4_isAway := goodIn_r _ [7, 8, 9, 10, 11, 12, 13, 14, 15, 16, 17, 18, 19, 20] (by decide +kernel) (by decide +kernel)
set_option maxRecDepth 20000 in
theorem gX4_principalOf_X4_isAway : GoodIn wsX4_principalOf (wsV RX4 41 RX4 yX4_isAway wsX4_isAway) := goodIn_app (goodIn_of _ (by decide +kernel)) ggX4_principalOf_X4_isAway
set_option maxRecDepth 20000 in
theorem ggX4_principalOf_X6_at : GoodIn wsX4_principalOf wsX6_at := goodIn_r _ [14, 15, 20] (by decide +kernel) (by decide +kernel)
set_option maxRecDepth 20000 in
theorem gX4_principalOf_X6_at : GoodIn wsX4_principalOf (wsV RX4 33 RX6 yX6_at wsX6_at) := goodIn_app (goodIn_of _ (by decide +kernel)) ggX4_principalOf_X6_at
theorem dX4_principalOf_0 : decode cX4_principalOf 0 = .ok (.aload_n 0, 1) := by decide +kernel
theorem dX4_principalOf_1 : decode cX4_principalOf 1 = .ok (.iload_n 1, 1) := by decide +kernel
theorem dX4_principalOf_2 : decode cX4_principalOf 2 = .ok (.invokevirtual 41, 3) := by decide +kernel
theorem dX4_principalOf_5 : decode cX4_principalOf 5 = .ok (.ifCond .eq 5, 3) := by decide +kernel
theorem dX4_principalOf_8 : decode cX4_principalOf 8 = .ok (.iconst (-1), 1) := by decide +kernel
theorem dX4_principalOf_9 : decode cX4_principalOf 9 = .ok (.ireturn, 1) := by decide +kernel
theorem dX4_principalOf_10 : decode cX4_principalOf 10 = .ok (.aload_n 0, 1) := by decide +kernel
theorem dX4_principalOf_11 : decode cX4_principalOf 11 = .ok (.getfield 14, 3) := by decide +kernel
theorem dX4_principalOf_14 : decode cX4_principalOf 14 = .ok (.iload_n 1, 1) := by decide +kernel
theorem dX4_principalOf_15 : decode cX4_principalOf 15 = .ok (.invokevirtual 33, 3) := by decide +kernel
theorem dX4_principalOf_18 : decode cX4_principalOf 18 = .ok (.iload_n 2, 1) := by decide +kernel
theorem dX4_principalOf_19 : decode cX4_principalOf 19 = .ok (.if_icmp .lt 5, 3) := by decide +kernel
theorem dX4_principalOf_22 : decode cX4_principalOf 22 = .ok (.iload_n 1, 1) := by decide +kernel
theorem dX4_principalOf_23 : decode cX4_principalOf 23 = .ok (.ireturn, 1) := by decide +kernel
theorem dX4_principalOf_24 : decode cX4_principalOf 24 = .ok (.iload_n 2, 1) := by decide +kernel
theorem dX4_principalOf_25 : decode cX4_principalOf 25 = .ok (.iconst 2, 1) := by decide +kernel
theorem dX4_principalOf_26 : decode cX4_principalOf 26 = .ok (.aload_n 0, 1) := by decide +kernel
theorem dX4_principalOf_27 : decode cX4_principalOf 27 = .ok (.getfield 14, 3) := by decide +kernel
theorem dX4_principalOf_30 : decode cX4_principalOf 30 = .ok (.iload_n 1, 1) := by decide +kernel
theorem dX4_principalOf_31 : decode cX4_principalOf 31 = .ok (.invokevirtual 33, 3) := by decide +kernel
theorem dX4_principalOf_34 : decode cX4_principalOf 34 = .ok (.imul, 1) := by decide +kernel
theorem dX4_principalOf_35 : decode cX4_principalOf 35 = .ok (.if_icmp .le 5, 3) := by decide +kernel
theorem dX4_principalOf_38 : decode cX4_principalOf 38 = .ok (.iconst (-1), 1) := by decide +kernel
theorem dX4_principalOf_39 : decode cX4_principalOf 39 = .ok (.ireturn, 1) := by decide +kernel
theorem dX4_principalOf_40 : decode cX4_principalOf 40 = .ok (.iconst 0, 1) := by decide +kernel
theorem dX4_principalOf_41 : decode cX4_principalOf 41 = .ok (.istore_n 3, 1) := by decide +kernel
theorem dX4_principalOf_42 : decode cX4_principalOf 42 = .ok (.iload_n 3, 1) := by decide +kernel
theorem dX4_principalOf_43 : decode cX4_principalOf 43 = .ok (.bipush 8, 2) := by decide +kernel
theorem dX4_principalOf_45 : decode cX4_principalOf 45 = .ok (.if_icmp .ge 43, 3) := by decide +kernel
theorem dX4_principalOf_48 : decode cX4_principalOf 48 = .ok (.aload_n 0, 1) := by decide +kernel
theorem dX4_principalOf_49 : decode cX4_principalOf 49 = .ok (.iload_n 3, 1) := by decide +kernel
theorem dX4_principalOf_50 : decode cX4_principalOf 50 = .ok (.invokevirtual 41, 3) := by decide +kernel
theorem dX4_principalOf_53 : decode cX4_principalOf 53 = .ok (.ifCond .eq 29, 3) := by decide +kernel
theorem dX4_principalOf_56 : decode cX4_principalOf 56 = .ok (.aload_n 0, 1) := by decide +kernel
theorem dX4_principalOf_57 : decode cX4_principalOf 57 = .ok (.getfield 20, 3) := by decide +kernel
theorem dX4_principalOf_60 : decode cX4_principalOf 60 = .ok (.iload_n 3, 1) := by decide +kernel
theorem dX4_principalOf_61 : decode cX4_principalOf 61 = .ok (.invokevirtual 33, 3) := by decide +kernel
theorem dX4_principalOf_64 : decode cX4_principalOf 64 = .ok (.iload_n 1, 1) := by decide +kernel
theorem dX4_principalOf_65 : decode cX4_principalOf 65 = .ok (.if_icmp .ne 17, 3) := by decide +kernel
theorem dX4_principalOf_68 : decode cX4_principalOf 68 = .ok (.aload_n 0, 1) := by decide +kernel
theorem dX4_principalOf_69 : decode cX4_principalOf 69 = .ok (.getfield 14, 3) := by decide +kernel
theorem dX4_principalOf_72 : decode cX4_principalOf 72 = .ok (.iload_n 3, 1) := by decide +kernel
theorem dX4_principalOf_73 : decode cX4_principalOf 73 = .ok (.invokevirtual 33, 3) := by decide +kernel
theorem dX4_principalOf_76 : decode cX4_principalOf 76 = .ok (.iload_n 2, 1) := by decide +kernel
theorem dX4_principalOf_77 : decode cX4_principalOf 77 = .ok (.if_icmp .lt 5, 3) := by decide +kernel
theorem dX4_principalOf_80 : decode cX4_principalOf 80 = .ok (.iload_n 3, 1) := by decide +kernel
theorem dX4_principalOf_81 : decode cX4_principalOf 81 = .ok (.ireturn, 1) := by decide +kernel
theorem dX4_principalOf_82 : decode cX4_principalOf 82 = .ok (.iinc 3 1, 3) := by decide +kernel
theorem dX4_principalOf_85 : decode cX4_principalOf 85 = .ok (.goto (-43), 3) := by decide +kernel
theorem dX4_principalOf_88 : decode cX4_principalOf 88 = .ok (.iconst (-1), 1) := by decide +kernel
theorem dX4_principalOf_89 : decode cX4_principalOf 89 = .ok (.ireturn, 1) := by decide +kernel
set_option maxRecDepth 20000 in
theorem ggX4_greatestLimit_X6_at : GoodIn wsX4_greatestLimit wsX6_at := goodIn_r _ [6, 7, 19] (by decide +kernel) (by decide +kernel)
set_option maxRecDepth 20000 in
theorem gX4_greatestLimit_X6_at : GoodIn wsX4_greatestLimit (wsV RX4 33 RX6 yX6_at wsX6_at) := goodIn_app (goodIn_of _ (by decide +kernel)) ggX4_greatestLimit_X6_at
set_option maxRecDepth 20000 in
theorem ggX4_greatestLimit_X4_isAway : GoodIn wsX4_greatestLimit wsX4_isAway := goodIn_r _ [12, 13, 14, 2, 3, 4, 5, 6, 7, 15, 16, 17, 18, 19] (by decide +kernel) (by decide +kernel)
set_option maxRecDepth 20000 in
theorem gX4_greatestLimit_X4_isAway : GoodIn wsX4_greatestLimit (wsV RX4 41 RX4 yX4_isAway wsX4_isAway) := goodIn_app (goodIn_of _ (by decide +kernel)) ggX4_greatestLimit_X4_isAway
theorem dX4_greatestLimit_0 : decode cX4_greatestLimit 0 = .ok (.iconst (-1), 1) := by decide +kernel
theorem dX4_greatestLimit_1 : decode cX4_greatestLimit 1 = .ok (.istore_n 3, 1) := by decide +kernel
theorem dX4_greatestLimit_2 : decode cX4_greatestLimit 2 = .ok (.iconst 0, 1) := by decide +kernel
theorem dX4_greatestLimit_3 : decode cX4_greatestLimit 3 = .ok (.istore 4, 2) := by decide +kernel
theorem dX4_greatestLimit_5 : decode cX4_greatestLimit 5 = .ok (.iload 4, 2) := by decide +kernel
theorem dX4_greatestLimit_7 : decode cX4_greatestLimit 7 = .ok (.bipush 8, 2) := by decide +kernel
theorem dX4_greatestLimit_9 : decode cX4_greatestLimit 9 = .ok (.if_icmp .ge 50, 3) := by decide +kernel
theorem dX4_greatestLimit_12 : decode cX4_greatestLimit 12 = .ok (.aload_n 0, 1) := by decide +kernel
theorem dX4_greatestLimit_13 : decode cX4_greatestLimit 13 = .ok (.getfield 14, 3) := by decide +kernel
theorem dX4_greatestLimit_16 : decode cX4_greatestLimit 16 = .ok (.iload 4, 2) := by decide +kernel
theorem dX4_greatestLimit_18 : decode cX4_greatestLimit 18 = .ok (.invokevirtual 33, 3) := by decide +kernel
theorem dX4_greatestLimit_21 : decode cX4_greatestLimit 21 = .ok (.istore 5, 2) := by decide +kernel
theorem dX4_greatestLimit_23 : decode cX4_greatestLimit 23 = .ok (.iload 4, 2) := by decide +kernel
theorem dX4_greatestLimit_25 : decode cX4_greatestLimit 25 = .ok (.iload_n 1, 1) := by decide +kernel
theorem dX4_greatestLimit_26 : decode cX4_greatestLimit 26 = .ok (.if_icmp .eq 27, 3) := by decide +kernel
theorem dX4_greatestLimit_29 : decode cX4_greatestLimit 29 = .ok (.aload_n 0, 1) := by decide +kernel
theorem dX4_greatestLimit_30 : decode cX4_greatestLimit 30 = .ok (.iload 4, 2) := by decide +kernel
theorem dX4_greatestLimit_32 : decode cX4_greatestLimit 32 = .ok (.invokevirtual 41, 3) := by decide +kernel
theorem dX4_greatestLimit_35 : decode cX4_greatestLimit 35 = .ok (.ifCond .ne 18, 3) := by decide +kernel
theorem dX4_greatestLimit_38 : decode cX4_greatestLimit 38 = .ok (.iload 5, 2) := by decide +kernel
theorem dX4_greatestLimit_40 : decode cX4_greatestLimit 40 = .ok (.iload_n 2, 1) := by decide +kernel
theorem dX4_greatestLimit_41 : decode cX4_greatestLimit 41 = .ok (.if_icmp .lt 12, 3) := by decide +kernel
theorem dX4_greatestLimit_44 : decode cX4_greatestLimit 44 = .ok (.iload 5, 2) := by decide +kernel
theorem dX4_greatestLimit_46 : decode cX4_greatestLimit 46 = .ok (.iload_n 3, 1) := by decide +kernel
theorem dX4_greatestLimit_47 : decode cX4_greatestLimit 47 = .ok (.if_icmp .le 6, 3) := by decide +kernel
theorem dX4_greatestLimit_50 : decode cX4_greatestLimit 50 = .ok (.iload 5, 2) := by decide +kernel
theorem dX4_greatestLimit_52 : decode cX4_greatestLimit 52 = .ok (.istore_n 3, 1) := by decide +kernel
theorem dX4_greatestLimit_53 : decode cX4_greatestLimit 53 = .ok (.iinc 4 1, 3) := by decide +kernel
theorem dX4_greatestLimit_56 : decode cX4_greatestLimit 56 = .ok (.goto (-51), 3) := by decide +kernel
theorem dX4_greatestLimit_59 : decode cX4_greatestLimit 59 = .ok (.iload_n 3, 1) := by decide +kernel
theorem dX4_greatestLimit_60 : decode cX4_greatestLimit 60 = .ok (.ireturn, 1) := by decide +kernel
set_option maxRecDepth 20000 in
theorem ggX5_init_X6_init : GoodIn wsX5_init wsX6_init := goodIn_r _ [16, 17, 2, 3, 18, 19, 20] (by decide +kernel) (by decide +kernel)
set_option maxRecDepth 20000 in
theorem gX5_init_X6_init : GoodIn wsX5_init (wsX6_init) := ggX5_init_X6_init
theorem dX5_init_0 : decode cX5_init 0 = .ok (.aload_n 0, 1) := by decide +kernel
theorem dX5_init_1 : decode cX5_init 1 = .ok (.invokespecial 3, 3) := by decide +kernel
theorem dX5_init_4 : decode cX5_init 4 = .ok (.aload_n 0, 1) := by decide +kernel
theorem dX5_init_5 : decode cX5_init 5 = .ok (.new 9, 3) := by decide +kernel
theorem dX5_init_8 : decode cX5_init 8 = .ok (.dup, 1) := by decide +kernel
theorem dX5_init_9 : decode cX5_init 9 = .ok (.bipush 30, 2) := by decide +kernel
theorem dX5_init_11 : decode cX5_init 11 = .ok (.invokespecial 11, 3) := by decide +kernel
theorem dX5_init_14 : decode cX5_init 14 = .ok (.putfield 14, 3) := by decide +kernel
theorem dX5_init_17 : decode cX5_init 17 = .ok (.aload_n 0, 1) := by decide +kernel
theorem dX5_init_18 : decode cX5_init 18 = .ok (.new 9, 3) := by decide +kernel
theorem dX5_init_21 : decode cX5_init 21 = .ok (.dup, 1) := by decide +kernel
theorem dX5_init_22 : decode cX5_init 22 = .ok (.bipush 30, 2) := by decide +kernel
theorem dX5_init_24 : decode cX5_init 24 = .ok (.invokespecial 11, 3) := by decide +kernel
theorem dX5_init_27 : decode cX5_init 27 = .ok (.putfield 20, 3) := by decide +kernel
theorem dX5_init_30 : decode cX5_init 30 = .ok (.aload_n 0, 1) := by decide +kernel
theorem dX5_init_31 : decode cX5_init 31 = .ok (.new 9, 3) := by decide +kernel
theorem dX5_init_34 : decode cX5_init 34 = .ok (.dup, 1) := by decide +kernel
theorem dX5_init_35 : decode cX5_init 35 = .ok (.bipush 30, 2) := by decide +kernel
theorem dX5_init_37 : decode cX5_init 37 = .ok (.invokespecial 11, 3) := by decide +kernel
theorem dX5_init_40 : decode cX5_init 40 = .ok (.putfield 23, 3) := by decide +kernel
theorem dX5_init_43 : decode cX5_init 43 = .ok (.aload_n 0, 1) := by decide +kernel
theorem dX5_init_44 : decode cX5_init 44 = .ok (.new 9, 3) := by decide +kernel
theorem dX5_init_47 : decode cX5_init 47 = .ok (.dup, 1) := by decide +kernel
theorem dX5_init_48 : decode cX5_init 48 = .ok (.bipush 30, 2) := by decide +kernel
theorem dX5_init_50 : decode cX5_init 50 = .ok (.invokespecial 11, 3) := by decide +kernel
theorem dX5_init_53 : decode cX5_init 53 = .ok (.putfield 26, 3) := by decide +kernel
theorem dX5_init_56 : decode cX5_init 56 = .ok (.aload_n 0, 1) := by decide +kernel
theorem dX5_init_57 : decode cX5_init 57 = .ok (.new 9, 3) := by decide +kernel
theorem dX5_init_60 : decode cX5_init 60 = .ok (.dup, 1) := by decide +kernel
theorem dX5_init_61 : decode cX5_init 61 = .ok (.bipush 30, 2) := by decide +kernel
theorem dX5_init_63 : decode cX5_init 63 = .ok (.invokespecial 11, 3) := by decide +kernel
theorem dX5_init_66 : decode cX5_init 66 = .ok (.putfield 29, 3) := by decide +kernel
theorem dX5_init_69 : decode cX5_init 69 = .ok (.aload_n 0, 1) := by decide +kernel
theorem dX5_init_70 : decode cX5_init 70 = .ok (.new 9, 3) := by decide +kernel
theorem dX5_init_73 : decode cX5_init 73 = .ok (.dup, 1) := by decide +kernel
theorem dX5_init_74 : decode cX5_init 74 = .ok (.bipush 30, 2) := by decide +kernel
theorem dX5_init_76 : decode cX5_init 76 = .ok (.invokespecial 11, 3) := by decide +kernel
theorem dX5_init_79 : decode cX5_init 79 = .ok (.putfield 32, 3) := by decide +kernel
theorem dX5_init_82 : decode cX5_init 82 = .ok (.aload_n 0, 1) := by decide +kernel
theorem dX5_init_83 : decode cX5_init 83 = .ok (.new 9, 3) := by decide +kernel
theorem dX5_init_86 : decode cX5_init 86 = .ok (.dup, 1) := by decide +kernel
theorem dX5_init_87 : decode cX5_init 87 = .ok (.sipush 240, 3) := by decide +kernel
theorem dX5_init_90 : decode cX5_init 90 = .ok (.invokespecial 11, 3) := by decide +kernel
theorem dX5_init_93 : decode cX5_init 93 = .ok (.putfield 35, 3) := by decide +kernel
theorem dX5_init_96 : decode cX5_init 96 = .ok (.return_, 1) := by decide +kernel
theorem dX5_clear_0 : decode cX5_clear 0 = .ok (.aload_n 0, 1) := by decide +kernel
theorem dX5_clear_1 : decode cX5_clear 1 = .ok (.iconst 0, 1) := by decide +kernel
theorem dX5_clear_2 : decode cX5_clear 2 = .ok (.putfield 38, 3) := by decide +kernel
theorem dX5_clear_5 : decode cX5_clear 5 = .ok (.return_, 1) := by decide +kernel
theorem dX5_count_0 : decode cX5_count 0 = .ok (.aload_n 0, 1) := by decide +kernel
theorem dX5_count_1 : decode cX5_count 1 = .ok (.getfield 38, 3) := by decide +kernel
theorem dX5_count_4 : decode cX5_count 4 = .ok (.ireturn, 1) := by decide +kernel
set_option maxRecDepth 20000 in
theorem ggX5_add_X6_put : GoodIn wsX5_add wsX6_put := goodIn_r _ [9, 10, 32] (by decide +kernel) (by decide +kernel)
set_option maxRecDepth 20000 in
theorem gX5_add_X6_put : GoodIn wsX5_add (wsV RX5 42 RX6 yX6_put wsX6_put) := goodIn_app (goodIn_of _ (by decide +kernel)) ggX5_add_X6_put
set_option maxRecDepth 20000 in
theorem ggX5_add_X5_reopen : GoodIn wsX5_add wsX5_reopen := goodIn_r _ [15, 16, 17, 18, 5, 6, 7, 8, 9, 10, 24, 25, 26, 27, 28, 29, 30, 31, 32] (by decide +kernel) (by decide +kernel)
set_option maxRecDepth 20000 in
theorem gX5_add_X5_reopen : GoodIn wsX5_add (wsV RX5 46 RX5 yX5_reopen wsX5_reopen) := goodIn_app (goodIn_of _ (by decide +kernel)) ggX5_add_X5_reopen
set_option maxRecDepth 20000 in
theorem ggX5_add_X5_endApprovals : GoodIn wsX5_add wsX5_endApprovals := goodIn_r _ [22, 23, 5, 6, 7, 8, 9, 10, 24, 25, 26, 27, 28, 29, 30, 31, 32] (by decide +kernel) (by decide +kernel)
set_option maxRecDepth 20000 in
theorem gX5_add_X5_endApprovals : GoodIn wsX5_add (wsV RX5 49 RX5 yX5_endApprovals wsX5_endApprovals) := goodIn_app (goodIn_of _ (by decide +kernel)) ggX5_add_X5_endApprovals
theorem dX5_add_0 : decode cX5_add 0 = .ok (.aload_n 0, 1) := by decide +kernel
theorem dX5_add_1 : decode cX5_add 1 = .ok (.getfield 38, 3) := by decide +kernel
theorem dX5_add_4 : decode cX5_add 4 = .ok (.istore 4, 2) := by decide +kernel
theorem dX5_add_6 : decode cX5_add 6 = .ok (.aload_n 0, 1) := by decide +kernel
theorem dX5_add_7 : decode cX5_add 7 = .ok (.dup, 1) := by decide +kernel
theorem dX5_add_8 : decode cX5_add 8 = .ok (.getfield 38, 3) := by decide +kernel
theorem dX5_add_11 : decode cX5_add 11 = .ok (.iconst 1, 1) := by decide +kernel
theorem dX5_add_12 : decode cX5_add 12 = .ok (.iadd, 1) := by decide +kernel
theorem dX5_add_13 : decode cX5_add 13 = .ok (.putfield 38, 3) := by decide +kernel
theorem dX5_add_16 : decode cX5_add 16 = .ok (.aload_n 0, 1) := by decide +kernel
theorem dX5_add_17 : decode cX5_add 17 = .ok (.getfield 14, 3) := by decide +kernel
theorem dX5_add_20 : decode cX5_add 20 = .ok (.iload 4, 2) := by decide +kernel
theorem dX5_add_22 : decode cX5_add 22 = .ok (.iload_n 1, 1) := by decide +kernel
theorem dX5_add_23 : decode cX5_add 23 = .ok (.invokevirtual 42, 3) := by decide +kernel
theorem dX5_add_26 : decode cX5_add 26 = .ok (.aload_n 0, 1) := by decide +kernel
theorem dX5_add_27 : decode cX5_add 27 = .ok (.getfield 20, 3) := by decide +kernel
theorem dX5_add_30 : decode cX5_add 30 = .ok (.iload 4, 2) := by decide +kernel
theorem dX5_add_32 : decode cX5_add 32 = .ok (.iload_n 2, 1) := by decide +kernel
theorem dX5_add_33 : decode cX5_add 33 = .ok (.invokevirtual 42, 3) := by decide +kernel
theorem dX5_add_36 : decode cX5_add 36 = .ok (.aload_n 0, 1) := by decide +kernel
theorem dX5_add_37 : decode cX5_add 37 = .ok (.getfield 23, 3) := by decide +kernel
theorem dX5_add_40 : decode cX5_add 40 = .ok (.iload 4, 2) := by decide +kernel
theorem dX5_add_42 : decode cX5_add 42 = .ok (.iload_n 3, 1) := by decide +kernel
theorem dX5_add_43 : decode cX5_add 43 = .ok (.invokevirtual 42, 3) := by decide +kernel
theorem dX5_add_46 : decode cX5_add 46 = .ok (.aload_n 0, 1) := by decide +kernel
theorem dX5_add_47 : decode cX5_add 47 = .ok (.iload 4, 2) := by decide +kernel
theorem dX5_add_49 : decode cX5_add 49 = .ok (.invokevirtual 46, 3) := by decide +kernel
theorem dX5_add_52 : decode cX5_add 52 = .ok (.aload_n 0, 1) := by decide +kernel
theorem dX5_add_53 : decode cX5_add 53 = .ok (.iload 4, 2) := by decide +kernel
theorem dX5_add_55 : decode cX5_add 55 = .ok (.invokevirtual 49, 3) := by decide +kernel
theorem dX5_add_58 : decode cX5_add 58 = .ok (.iload 4, 2) := by decide +kernel
theorem dX5_add_60 : decode cX5_add 60 = .ok (.ireturn, 1) := by decide +kernel
set_option maxRecDepth 20000 in
theorem ggX5_personOf_X6_at : GoodIn wsX5_personOf wsX6_at := goodIn_r _ [6, 7, 16] (by decide +kernel) (by decide +kernel)
set_option maxRecDepth 20000 in
theorem gX5_personOf_X6_at : GoodIn wsX5_personOf (wsV RX5 52 RX6 yX6_at wsX6_at) := goodIn_app (goodIn_of _ (by decide +kernel)) ggX5_personOf_X6_at
theorem dX5_personOf_0 : decode cX5_personOf 0 = .ok (.aload_n 0, 1) := by decide +kernel
theorem dX5_personOf_1 : decode cX5_personOf 1 = .ok (.getfield 14, 3) := by decide +kernel
theorem dX5_personOf_4 : decode cX5_personOf 4 = .ok (.iload_n 1, 1) := by decide +kernel
theorem dX5_personOf_5 : decode cX5_personOf 5 = .ok (.invokevirtual 52, 3) := by decide +kernel
theorem dX5_personOf_8 : decode cX5_personOf 8 = .ok (.ireturn, 1) := by decide +kernel
set_option maxRecDepth 20000 in
theorem ggX5_partOf_X6_at : GoodIn wsX5_partOf wsX6_at := goodIn_r _ [6, 7, 16] (by decide +kernel) (by decide +kernel)
set_option maxRecDepth 20000 in
theorem gX5_partOf_X6_at : GoodIn wsX5_partOf (wsV RX5 52 RX6 yX6_at wsX6_at) := goodIn_app (goodIn_of _ (by decide +kernel)) ggX5_partOf_X6_at
theorem dX5_partOf_0 : decode cX5_partOf 0 = .ok (.aload_n 0, 1) := by decide +kernel
theorem dX5_partOf_1 : decode cX5_partOf 1 = .ok (.getfield 20, 3) := by decide +kernel
theorem dX5_partOf_4 : decode cX5_partOf 4 = .ok (.iload_n 1, 1) := by decide +kernel
theorem dX5_partOf_5 : decode cX5_partOf 5 = .ok (.invokevirtual 52, 3) := by decide +kernel
theorem dX5_partOf_8 : decode cX5_partOf 8 = .ok (.ireturn, 1) := by decide +kernel
set_option maxRecDepth 20000 in
theorem ggX5_leastOf_X6_at : GoodIn wsX5_leastOf wsX6_at := goodIn_r _ [6, 7, 16] (by decide +kernel) (by decide +kernel)
set_option maxRecDepth 20000 in
theorem gX5_leastOf_X6_at : GoodIn wsX5_leastOf (wsV RX5 52 RX6 yX6_at wsX6_at) := goodIn_app (goodIn_of _ (by decide +kernel)) ggX5_leastOf_X6_at
theorem dX5_leastOf_0 : decode cX5_leastOf 0 = .ok (.aload_n 0, 1) := by decide +kernel
theorem dX5_leastOf_1 : decode cX5_leastOf 1 = .ok (.getfield 23, 3) := by decide +kernel
theorem dX5_leastOf_4 : decode cX5_leastOf 4 = .ok (.iload_n 1, 1) := by decide +kernel
theorem dX5_leastOf_5 : decode cX5_leastOf 5 = .ok (.invokevirtual 52, 3) := by decide +kernel
theorem dX5_leastOf_8 : decode cX5_leastOf 8 = .ok (.ireturn, 1) := by decide +kernel
set_option maxRecDepth 20000 in
theorem ggX5_stateOf_X6_at : GoodIn wsX5_stateOf wsX6_at := goodIn_r _ [6, 7, 16] (by decide +kernel) (by decide +kernel)
set_option maxRecDepth 20000 in
theorem gX5_stateOf_X6_at : GoodIn wsX5_stateOf (wsV RX5 52 RX6 yX6_at wsX6_at) := goodIn_app (goodIn_of _ (by decide +kernel)) ggX5_stateOf_X6_at
theorem dX5_stateOf_0 : decode cX5_stateOf 0 = .ok (.aload_n 0, 1) := by decide +kernel
theorem dX5_stateOf_1 : decode cX5_stateOf 1 = .ok (.getfield 26, 3) := by decide +kernel
theorem dX5_stateOf_4 : decode cX5_stateOf 4 = .ok (.iload_n 1, 1) := by decide +kernel
theorem dX5_stateOf_5 : decode cX5_stateOf 5 = .ok (.invokevirtual 52, 3) := by decide +kernel
theorem dX5_stateOf_8 : decode cX5_stateOf 8 = .ok (.ireturn, 1) := by decide +kernel
set_option maxRecDepth 20000 in
theorem ggX5_choiceOf_X6_at : GoodIn wsX5_choiceOf wsX6_at := goodIn_r _ [6, 7, 16] (by decide +kernel) (by decide +kernel)
set_option maxRecDepth 20000 in
theorem gX5_choiceOf_X6_at : GoodIn wsX5_choiceOf (wsV RX5 52 RX6 yX6_at wsX6_at) := goodIn_app (goodIn_of _ (by decide +kernel)) ggX5_choiceOf_X6_at
theorem dX5_choiceOf_0 : decode cX5_choiceOf 0 = .ok (.aload_n 0, 1) := by decide +kernel
theorem dX5_choiceOf_1 : decode cX5_choiceOf 1 = .ok (.getfield 29, 3) := by decide +kernel
theorem dX5_choiceOf_4 : decode cX5_choiceOf 4 = .ok (.iload_n 1, 1) := by decide +kernel
theorem dX5_choiceOf_5 : decode cX5_choiceOf 5 = .ok (.invokevirtual 52, 3) := by decide +kernel
theorem dX5_choiceOf_8 : decode cX5_choiceOf 8 = .ok (.ireturn, 1) := by decide +kernel
set_option maxRecDepth 20000 in
theorem ggX5_costOf_X6_at : GoodIn wsX5_costOf wsX6_at := goodIn_r _ [6, 7, 16] (by decide +kernel) (by decide +kernel)
set_option maxRecDepth 20000 in
theorem gX5_costOf_X6_at : GoodIn wsX5_costOf (wsV RX5 52 RX6 yX6_at wsX6_at) := goodIn_app (goodIn_of _ (by decide +kernel)) ggX5_costOf_X6_at
theorem dX5_costOf_0 : decode cX5_costOf 0 = .ok (.aload_n 0, 1) := by decide +kernel
theorem dX5_costOf_1 : decode cX5_costOf 1 = .ok (.getfield 32, 3) := by decide +kernel
theorem dX5_costOf_4 : decode cX5_costOf 4 = .ok (.iload_n 1, 1) := by decide +kernel
theorem dX5_costOf_5 : decode cX5_costOf 5 = .ok (.invokevirtual 52, 3) := by decide +kernel
theorem dX5_costOf_8 : decode cX5_costOf 8 = .ok (.ireturn, 1) := by decide +kernel
set_option maxRecDepth 20000 in
theorem ggX5_settle_X6_put : GoodIn wsX5_settle wsX6_put := goodIn_r _ [8, 9, 24] (by decide +kernel) (by decide +kernel)
set_option maxRecDepth 20000 in
theorem gX5_settle_X6_put : GoodIn wsX5_settle (wsV RX5 42 RX6 yX6_put wsX6_put) := goodIn_app (goodIn_of _ (by decide +kernel)) ggX5_settle_X6_put
set_option maxRecDepth 20000 in
theorem ggX5_settle_X5_endApprovals : GoodIn wsX5_settle wsX5_endApprovals := goodIn_r _ [14, 15, 4, 5, 6, 7, 8, 9, 16, 17, 18, 19, 20, 21, 22, 23, 24] (by decide +kernel) (by decide +kernel)
set_option maxRecDepth 20000 in
theorem gX5_settle_X5_endApprovals : GoodIn wsX5_settle (wsV RX5 49 RX5 yX5_endApprovals wsX5_endApprovals) := goodIn_app (goodIn_of _ (by decide +kernel)) ggX5_settle_X5_endApprovals
theorem dX5_settle_0 : decode cX5_settle 0 = .ok (.aload_n 0, 1) := by decide +kernel
theorem dX5_settle_1 : decode cX5_settle 1 = .ok (.getfield 26, 3) := by decide +kernel
theorem dX5_settle_4 : decode cX5_settle 4 = .ok (.iload_n 1, 1) := by decide +kernel
theorem dX5_settle_5 : decode cX5_settle 5 = .ok (.iconst 1, 1) := by decide +kernel
theorem dX5_settle_6 : decode cX5_settle 6 = .ok (.invokevirtual 42, 3) := by decide +kernel
theorem dX5_settle_9 : decode cX5_settle 9 = .ok (.aload_n 0, 1) := by decide +kernel
theorem dX5_settle_10 : decode cX5_settle 10 = .ok (.getfield 29, 3) := by decide +kernel
theorem dX5_settle_13 : decode cX5_settle 13 = .ok (.iload_n 1, 1) := by decide +kernel
theorem dX5_settle_14 : decode cX5_settle 14 = .ok (.iload_n 2, 1) := by decide +kernel
theorem dX5_settle_15 : decode cX5_settle 15 = .ok (.invokevirtual 42, 3) := by decide +kernel
theorem dX5_settle_18 : decode cX5_settle 18 = .ok (.aload_n 0, 1) := by decide +kernel
theorem dX5_settle_19 : decode cX5_settle 19 = .ok (.getfield 32, 3) := by decide +kernel
theorem dX5_settle_22 : decode cX5_settle 22 = .ok (.iload_n 1, 1) := by decide +kernel
theorem dX5_settle_23 : decode cX5_settle 23 = .ok (.iload_n 3, 1) := by decide +kernel
theorem dX5_settle_24 : decode cX5_settle 24 = .ok (.invokevirtual 42, 3) := by decide +kernel
theorem dX5_settle_27 : decode cX5_settle 27 = .ok (.aload_n 0, 1) := by decide +kernel
theorem dX5_settle_28 : decode cX5_settle 28 = .ok (.iload_n 1, 1) := by decide +kernel
theorem dX5_settle_29 : decode cX5_settle 29 = .ok (.invokevirtual 49, 3) := by decide +kernel
theorem dX5_settle_32 : decode cX5_settle 32 = .ok (.iload_n 3, 1) := by decide +kernel
theorem dX5_settle_33 : decode cX5_settle 33 = .ok (.ireturn, 1) := by decide +kernel
set_option maxRecDepth 20000 in
theorem ggX5_markReleased_X6_put : GoodIn wsX5_markReleased wsX6_put := goodIn_r _ [6, 7, 16] (by decide +kernel) (by decide +kernel)
set_option maxRecDepth 20000 in
theorem gX5_markReleased_X6_put : GoodIn wsX5_markReleased (wsV RX5 42 RX6 yX6_put wsX6_put) := goodIn_app (goodIn_of _ (by decide +kernel)) ggX5_markReleased_X6_put
theorem dX5_markReleased_0 : decode cX5_markReleased 0 = .ok (.aload_n 0, 1) := by decide +kernel
theorem dX5_markReleased_1 : decode cX5_markReleased 1 = .ok (.getfield 26, 3) := by decide +kernel
theorem dX5_markReleased_4 : decode cX5_markReleased 4 = .ok (.iload_n 1, 1) := by decide +kernel
theorem dX5_markReleased_5 : decode cX5_markReleased 5 = .ok (.iconst 2, 1) := by decide +kernel
theorem dX5_markReleased_6 : decode cX5_markReleased 6 = .ok (.invokevirtual 42, 3) := by decide +kernel
theorem dX5_markReleased_9 : decode cX5_markReleased 9 = .ok (.iconst 2, 1) := by decide +kernel
theorem dX5_markReleased_10 : decode cX5_markReleased 10 = .ok (.ireturn, 1) := by decide +kernel
set_option maxRecDepth 20000 in
theorem ggX5_addApproval_X6_put : GoodIn wsX5_addApproval wsX6_put := goodIn_r _ [6, 7, 16] (by decide +kernel) (by decide +kernel)
set_option maxRecDepth 20000 in
theorem gX5_addApproval_X6_put : GoodIn wsX5_addApproval (wsV RX5 42 RX6 yX6_put wsX6_put) := goodIn_app (goodIn_of _ (by decide +kernel)) ggX5_addApproval_X6_put
theorem dX5_addApproval_0 : decode cX5_addApproval 0 = .ok (.aload_n 0, 1) := by decide +kernel
theorem dX5_addApproval_1 : decode cX5_addApproval 1 = .ok (.getfield 35, 3) := by decide +kernel
theorem dX5_addApproval_4 : decode cX5_addApproval 4 = .ok (.iload_n 1, 1) := by decide +kernel
theorem dX5_addApproval_5 : decode cX5_addApproval 5 = .ok (.bipush 8, 2) := by decide +kernel
theorem dX5_addApproval_7 : decode cX5_addApproval 7 = .ok (.imul, 1) := by decide +kernel
theorem dX5_addApproval_8 : decode cX5_addApproval 8 = .ok (.iload_n 2, 1) := by decide +kernel
theorem dX5_addApproval_9 : decode cX5_addApproval 9 = .ok (.iadd, 1) := by decide +kernel
theorem dX5_addApproval_10 : decode cX5_addApproval 10 = .ok (.iload_n 3, 1) := by decide +kernel
theorem dX5_addApproval_11 : decode cX5_addApproval 11 = .ok (.invokevirtual 42, 3) := by decide +kernel
theorem dX5_addApproval_14 : decode cX5_addApproval 14 = .ok (.return_, 1) := by decide +kernel
set_option maxRecDepth 20000 in
theorem ggX5_hasApproval_X6_at : GoodIn wsX5_hasApproval wsX6_at := goodIn_r _ [6, 7, 16] (by decide +kernel) (by decide +kernel)
set_option maxRecDepth 20000 in
theorem gX5_hasApproval_X6_at : GoodIn wsX5_hasApproval (wsV RX5 52 RX6 yX6_at wsX6_at) := goodIn_app (goodIn_of _ (by decide +kernel)) ggX5_hasApproval_X6_at
theorem dX5_hasApproval_0 : decode cX5_hasApproval 0 = .ok (.iload_n 3, 1) := by decide +kernel
theorem dX5_hasApproval_1 : decode cX5_hasApproval 1 = .ok (.aload_n 0, 1) := by decide +kernel
theorem dX5_hasApproval_2 : decode cX5_hasApproval 2 = .ok (.getfield 35, 3) := by decide +kernel
theorem dX5_hasApproval_5 : decode cX5_hasApproval 5 = .ok (.iload_n 1, 1) := by decide +kernel
theorem dX5_hasApproval_6 : decode cX5_hasApproval 6 = .ok (.bipush 8, 2) := by decide +kernel
theorem dX5_hasApproval_8 : decode cX5_hasApproval 8 = .ok (.imul, 1) := by decide +kernel
theorem dX5_hasApproval_9 : decode cX5_hasApproval 9 = .ok (.iload_n 2, 1) := by decide +kernel
theorem dX5_hasApproval_10 : decode cX5_hasApproval 10 = .ok (.iadd, 1) := by decide +kernel
theorem dX5_hasApproval_11 : decode cX5_hasApproval 11 = .ok (.invokevirtual 52, 3) := by decide +kernel
theorem dX5_hasApproval_14 : decode cX5_hasApproval 14 = .ok (.if_icmp .ge 7, 3) := by decide +kernel
theorem dX5_hasApproval_17 : decode cX5_hasApproval 17 = .ok (.iconst 1, 1) := by decide +kernel
theorem dX5_hasApproval_18 : decode cX5_hasApproval 18 = .ok (.goto 4, 3) := by decide +kernel
theorem dX5_hasApproval_21 : decode cX5_hasApproval 21 = .ok (.iconst 0, 1) := by decide +kernel
theorem dX5_hasApproval_22 : decode cX5_hasApproval 22 = .ok (.ireturn, 1) := by decide +kernel
set_option maxRecDepth 20000 in
theorem ggX5_approvalsOf_X5_hasApproval : GoodIn wsX5_approvalsOf wsX5_hasApproval := goodIn_r _ [5, 6, 7, 8, 9, 10, 11, 12, 13, 14, 15, 16, 17, 18, 19, 20, 21] (by decide +kernel) (by decide +kernel)
set_option maxRecDepth 20000 in
theorem gX5_approvalsOf_X5_hasApproval : GoodIn wsX5_approvalsOf (wsV RX5 56 RX5 yX5_hasApproval wsX5_hasApproval) := goodIn_app (goodIn_of _ (by decide +kernel)) ggX5_approvalsOf_X5_hasApproval
theorem dX5_approvalsOf_0 : decode cX5_approvalsOf 0 = .ok (.iconst 0, 1) := by decide +kernel
theorem dX5_approvalsOf_1 : decode cX5_approvalsOf 1 = .ok (.istore_n 3, 1) := by decide +kernel
theorem dX5_approvalsOf_2 : decode cX5_approvalsOf 2 = .ok (.iconst 0, 1) := by decide +kernel
theorem dX5_approvalsOf_3 : decode cX5_approvalsOf 3 = .ok (.istore 4, 2) := by decide +kernel
theorem dX5_approvalsOf_5 : decode cX5_approvalsOf 5 = .ok (.iload 4, 2) := by decide +kernel
theorem dX5_approvalsOf_7 : decode cX5_approvalsOf 7 = .ok (.bipush 8, 2) := by decide +kernel
theorem dX5_approvalsOf_9 : decode cX5_approvalsOf 9 = .ok (.if_icmp .ge 23, 3) := by decide +kernel
theorem dX5_approvalsOf_12 : decode cX5_approvalsOf 12 = .ok (.aload_n 0, 1) := by decide +kernel
theorem dX5_approvalsOf_13 : decode cX5_approvalsOf 13 = .ok (.iload_n 1, 1) := by decide +kernel
theorem dX5_approvalsOf_14 : decode cX5_approvalsOf 14 = .ok (.iload 4, 2) := by decide +kernel
theorem dX5_approvalsOf_16 : decode cX5_approvalsOf 16 = .ok (.iload_n 2, 1) := by decide +kernel
theorem dX5_approvalsOf_17 : decode cX5_approvalsOf 17 = .ok (.invokevirtual 56, 3) := by decide +kernel
theorem dX5_approvalsOf_20 : decode cX5_approvalsOf 20 = .ok (.ifCond .eq 6, 3) := by decide +kernel
theorem dX5_approvalsOf_23 : decode cX5_approvalsOf 23 = .ok (.iinc 3 1, 3) := by decide +kernel
theorem dX5_approvalsOf_26 : decode cX5_approvalsOf 26 = .ok (.iinc 4 1, 3) := by decide +kernel
theorem dX5_approvalsOf_29 : decode cX5_approvalsOf 29 = .ok (.goto (-24), 3) := by decide +kernel
theorem dX5_approvalsOf_32 : decode cX5_approvalsOf 32 = .ok (.iload_n 3, 1) := by decide +kernel
theorem dX5_approvalsOf_33 : decode cX5_approvalsOf 33 = .ok (.ireturn, 1) := by decide +kernel
set_option maxRecDepth 20000 in
theorem ggX5_loseVersion_X6_at : GoodIn wsX5_loseVersion wsX6_at := goodIn_r _ [8, 9, 45] (by decide +kernel) (by decide +kernel)
set_option maxRecDepth 20000 in
theorem gX5_loseVersion_X6_at : GoodIn wsX5_loseVersion (wsV RX5 52 RX6 yX6_at wsX6_at) := goodIn_app (goodIn_of _ (by decide +kernel)) ggX5_loseVersion_X6_at
set_option maxRecDepth 20000 in
theorem ggX5_loseVersion_X1_versionOf : GoodIn wsX5_loseVersion wsX1_versionOf := goodIn_r _ [13] (by decide +kernel) (by decide +kernel)
set_option maxRecDepth 20000 in
theorem gX5_loseVersion_X1_versionOf : GoodIn wsX5_loseVersion (va_wsS RX5 60 yX1_versionOf wsX1_versionOf) := goodIn_app (goodIn_of _ (by decide +kernel)) ggX5_loseVersion_X1_versionOf
set_option maxRecDepth 20000 in
theorem ggX5_loseVersion_X5_approvalsOf : GoodIn wsX5_loseVersion wsX5_approvalsOf := goodIn_r _ [18, 19, 20, 21, 17, 22, 23, 4, 5, 6, 7, 8, 9, 37, 38, 39, 40, 41, 42, 43, 44, 45] (by decide +kernel) (by decide +kernel)
set_option maxRecDepth 20000 in
theorem gX5_loseVersion_X5_approvalsOf : GoodIn wsX5_loseVersion (wsV RX5 66 RX5 yX5_approvalsOf wsX5_approvalsOf) := goodIn_app (goodIn_of _ (by decide +kernel)) ggX5_loseVersion_X5_approvalsOf
set_option maxRecDepth 20000 in
theorem ggX5_loseVersion_X5_endApprovals : GoodIn wsX5_loseVersion wsX5_endApprovals := goodIn_r _ [27, 23, 28, 29, 30, 7, 31, 9, 37, 38, 39, 40, 41, 42, 43, 44, 45] (by decide +kernel) (by decide +kernel)
set_option maxRecDepth 20000 in
theorem gX5_loseVersion_X5_endApprovals : GoodIn wsX5_loseVersion (wsV RX5 49 RX5 yX5_endApprovals wsX5_endApprovals) := goodIn_app (goodIn_of _ (by decide +kernel)) ggX5_loseVersion_X5_endApprovals
set_option maxRecDepth 20000 in
theorem ggX5_loseVersion_X5_reopen : GoodIn wsX5_loseVersion wsX5_reopen := goodIn_r _ [35, 3, 2, 36, 28, 29, 30, 7, 31, 9, 37, 38, 39, 40, 41, 42, 43, 44, 45] (by decide +kernel) (by decide +kernel)
set_option maxRecDepth 20000 in
theorem gX5_loseVersion_X5_reopen : GoodIn wsX5_loseVersion (wsV RX5 46 RX5 yX5_reopen wsX5_reopen) := goodIn_app (goodIn_of _ (by decide +kernel)) ggX5_loseVersion_X5_reopen
theorem dX5_loseVersion_0 : decode cX5_loseVersion 0 = .ok (.iconst 0, 1) := by decide +kernel
theorem dX5_loseVersion_1 : decode cX5_loseVersion 1 = .ok (.istore 4, 2) := by decide +kernel
theorem dX5_loseVersion_3 : decode cX5_loseVersion 3 = .ok (.iconst 0, 1) := by decide +kernel
theorem dX5_loseVersion_4 : decode cX5_loseVersion 4 = .ok (.istore 5, 2) := by decide +kernel
theorem dX5_loseVersion_6 : decode cX5_loseVersion 6 = .ok (.iload 5, 2) := by decide +kernel
theorem dX5_loseVersion_8 : decode cX5_loseVersion 8 = .ok (.aload_n 0, 1) := by decide +kernel
theorem dX5_loseVersion_9 : decode cX5_loseVersion 9 = .ok (.getfield 38, 3) := by decide +kernel
theorem dX5_loseVersion_12 : decode cX5_loseVersion 12 = .ok (.if_icmp .ge 63, 3) := by decide +kernel
theorem dX5_loseVersion_15 : decode cX5_loseVersion 15 = .ok (.aload_n 0, 1) := by decide +kernel
theorem dX5_loseVersion_16 : decode cX5_loseVersion 16 = .ok (.getfield 29, 3) := by decide +kernel
theorem dX5_loseVersion_19 : decode cX5_loseVersion 19 = .ok (.iload 5, 2) := by decide +kernel
theorem dX5_loseVersion_21 : decode cX5_loseVersion 21 = .ok (.invokevirtual 52, 3) := by decide +kernel
theorem dX5_loseVersion_24 : decode cX5_loseVersion 24 = .ok (.iload_n 1, 1) := by decide +kernel
theorem dX5_loseVersion_25 : decode cX5_loseVersion 25 = .ok (.invokestatic 60, 3) := by decide +kernel
theorem dX5_loseVersion_28 : decode cX5_loseVersion 28 = .ok (.iload_n 2, 1) := by decide +kernel
theorem dX5_loseVersion_29 : decode cX5_loseVersion 29 = .ok (.if_icmp .ne 40, 3) := by decide +kernel
theorem dX5_loseVersion_32 : decode cX5_loseVersion 32 = .ok (.iload 4, 2) := by decide +kernel
theorem dX5_loseVersion_34 : decode cX5_loseVersion 34 = .ok (.aload_n 0, 1) := by decide +kernel
theorem dX5_loseVersion_35 : decode cX5_loseVersion 35 = .ok (.iload 5, 2) := by decide +kernel
theorem dX5_loseVersion_37 : decode cX5_loseVersion 37 = .ok (.iload_n 3, 1) := by decide +kernel
theorem dX5_loseVersion_38 : decode cX5_loseVersion 38 = .ok (.invokevirtual 66, 3) := by decide +kernel
theorem dX5_loseVersion_41 : decode cX5_loseVersion 41 = .ok (.iadd, 1) := by decide +kernel
theorem dX5_loseVersion_42 : decode cX5_loseVersion 42 = .ok (.istore 4, 2) := by decide +kernel
theorem dX5_loseVersion_44 : decode cX5_loseVersion 44 = .ok (.aload_n 0, 1) := by decide +kernel
theorem dX5_loseVersion_45 : decode cX5_loseVersion 45 = .ok (.iload 5, 2) := by decide +kernel
theorem dX5_loseVersion_47 : decode cX5_loseVersion 47 = .ok (.invokevirtual 49, 3) := by decide +kernel
theorem dX5_loseVersion_50 : decode cX5_loseVersion 50 = .ok (.aload_n 0, 1) := by decide +kernel
theorem dX5_loseVersion_51 : decode cX5_loseVersion 51 = .ok (.getfield 26, 3) := by decide +kernel
theorem dX5_loseVersion_54 : decode cX5_loseVersion 54 = .ok (.iload 5, 2) := by decide +kernel
theorem dX5_loseVersion_56 : decode cX5_loseVersion 56 = .ok (.invokevirtual 52, 3) := by decide +kernel
theorem dX5_loseVersion_59 : decode cX5_loseVersion 59 = .ok (.iconst 1, 1) := by decide +kernel
theorem dX5_loseVersion_60 : decode cX5_loseVersion 60 = .ok (.if_icmp .ne 9, 3) := by decide +kernel
theorem dX5_loseVersion_63 : decode cX5_loseVersion 63 = .ok (.aload_n 0, 1) := by decide +kernel
theorem dX5_loseVersion_64 : decode cX5_loseVersion 64 = .ok (.iload 5, 2) := by decide +kernel
theorem dX5_loseVersion_66 : decode cX5_loseVersion 66 = .ok (.invokevirtual 46, 3) := by decide +kernel
theorem dX5_loseVersion_69 : decode cX5_loseVersion 69 = .ok (.iinc 5 1, 3) := by decide +kernel
theorem dX5_loseVersion_72 : decode cX5_loseVersion 72 = .ok (.goto (-66), 3) := by decide +kernel
theorem dX5_loseVersion_75 : decode cX5_loseVersion 75 = .ok (.iload 4, 2) := by decide +kernel
theorem dX5_loseVersion_77 : decode cX5_loseVersion 77 = .ok (.ireturn, 1) := by decide +kernel
set_option maxRecDepth 20000 in
theorem ggX5_reopen_X6_put : GoodIn wsX5_reopen wsX6_put := goodIn_r _ [8, 9, 18] (by decide +kernel) (by decide +kernel)
set_option maxRecDepth 20000 in
theorem gX5_reopen_X6_put : GoodIn wsX5_reopen (wsV RX5 42 RX6 yX6_put wsX6_put) := goodIn_app (goodIn_of _ (by decide +kernel)) ggX5_reopen_X6_put
theorem dX5_reopen_0 : decode cX5_reopen 0 = .ok (.aload_n 0, 1) := by decide +kernel
theorem dX5_reopen_1 : decode cX5_reopen 1 = .ok (.getfield 26, 3) := by decide +kernel
theorem dX5_reopen_4 : decode cX5_reopen 4 = .ok (.iload_n 1, 1) := by decide +kernel
theorem dX5_reopen_5 : decode cX5_reopen 5 = .ok (.iconst 0, 1) := by decide +kernel
theorem dX5_reopen_6 : decode cX5_reopen 6 = .ok (.invokevirtual 42, 3) := by decide +kernel
theorem dX5_reopen_9 : decode cX5_reopen 9 = .ok (.aload_n 0, 1) := by decide +kernel
theorem dX5_reopen_10 : decode cX5_reopen 10 = .ok (.getfield 29, 3) := by decide +kernel
theorem dX5_reopen_13 : decode cX5_reopen 13 = .ok (.iload_n 1, 1) := by decide +kernel
theorem dX5_reopen_14 : decode cX5_reopen 14 = .ok (.iconst 0, 1) := by decide +kernel
theorem dX5_reopen_15 : decode cX5_reopen 15 = .ok (.invokevirtual 42, 3) := by decide +kernel
theorem dX5_reopen_18 : decode cX5_reopen 18 = .ok (.aload_n 0, 1) := by decide +kernel
theorem dX5_reopen_19 : decode cX5_reopen 19 = .ok (.getfield 32, 3) := by decide +kernel
theorem dX5_reopen_22 : decode cX5_reopen 22 = .ok (.iload_n 1, 1) := by decide +kernel
theorem dX5_reopen_23 : decode cX5_reopen 23 = .ok (.iconst 0, 1) := by decide +kernel
theorem dX5_reopen_24 : decode cX5_reopen 24 = .ok (.invokevirtual 42, 3) := by decide +kernel
theorem dX5_reopen_27 : decode cX5_reopen 27 = .ok (.return_, 1) := by decide +kernel
set_option maxRecDepth 20000 in
theorem ggX5_endApprovals_X6_put : GoodIn wsX5_endApprovals wsX6_put := goodIn_r _ [6, 7, 16] (by decide +kernel) (by decide +kernel)
set_option maxRecDepth 20000 in
theorem gX5_endApprovals_X6_put : GoodIn wsX5_endApprovals (wsV RX5 42 RX6 yX6_put wsX6_put) := goodIn_app (goodIn_of _ (by decide +kernel)) ggX5_endApprovals_X6_put
theorem dX5_endApprovals_0 : decode cX5_endApprovals 0 = .ok (.iconst 0, 1) := by decide +kernel
theorem dX5_endApprovals_1 : decode cX5_endApprovals 1 = .ok (.istore_n 2, 1) := by decide +kernel
theorem dX5_endApprovals_2 : decode cX5_endApprovals 2 = .ok (.iload_n 2, 1) := by decide +kernel
theorem dX5_endApprovals_3 : decode cX5_endApprovals 3 = .ok (.bipush 8, 2) := by decide +kernel
theorem dX5_endApprovals_5 : decode cX5_endApprovals 5 = .ok (.if_icmp .ge 23, 3) := by decide +kernel
theorem dX5_endApprovals_8 : decode cX5_endApprovals 8 = .ok (.aload_n 0, 1) := by decide +kernel
theorem dX5_endApprovals_9 : decode cX5_endApprovals 9 = .ok (.getfield 35, 3) := by decide +kernel
theorem dX5_endApprovals_12 : decode cX5_endApprovals 12 = .ok (.iload_n 1, 1) := by decide +kernel
theorem dX5_endApprovals_13 : decode cX5_endApprovals 13 = .ok (.bipush 8, 2) := by decide +kernel
theorem dX5_endApprovals_15 : decode cX5_endApprovals 15 = .ok (.imul, 1) := by decide +kernel
theorem dX5_endApprovals_16 : decode cX5_endApprovals 16 = .ok (.iload_n 2, 1) := by decide +kernel
theorem dX5_endApprovals_17 : decode cX5_endApprovals 17 = .ok (.iadd, 1) := by decide +kernel
theorem dX5_endApprovals_18 : decode cX5_endApprovals 18 = .ok (.iconst 0, 1) := by decide +kernel
theorem dX5_endApprovals_19 : decode cX5_endApprovals 19 = .ok (.invokevirtual 42, 3) := by decide +kernel
theorem dX5_endApprovals_22 : decode cX5_endApprovals 22 = .ok (.iinc 2 1, 3) := by decide +kernel
theorem dX5_endApprovals_25 : decode cX5_endApprovals 25 = .ok (.goto (-23), 3) := by decide +kernel
theorem dX5_endApprovals_28 : decode cX5_endApprovals 28 = .ok (.return_, 1) := by decide +kernel
set_option maxRecDepth 20000 in
theorem ggX2_init_X3_init : GoodIn wsX2_init wsX3_init := goodIn_r _ [17, 18, 2, 3, 19, 20, 21, 22, 23, 24, 25, 26, 27, 28, 29, 30, 31, 32, 33, 99, 78, 79, 80, 81, 82, 83] (by decide +kernel) (by decide +kernel)
set_option maxRecDepth 20000 in
theorem gX2_init_X3_init_n11 : GoodIn wsX2_init (wsX3_init) := ggX2_init_X3_init
set_option maxRecDepth 20000 in
theorem ggX2_init_X4_init : GoodIn wsX2_init wsX4_init := goodIn_r _ [35, 36, 2, 3, 37, 20, 21, 38, 39, 40, 41, 29, 30, 31, 32, 33, 99, 87, 88, 89, 90] (by decide +kernel) (by decide +kernel)
set_option maxRecDepth 20000 in
theorem gX2_init_X4_init_n20 : GoodIn wsX2_init (wsX4_init) := ggX2_init_X4_init
set_option maxRecDepth 20000 in
theorem ggX2_init_X5_init : GoodIn wsX2_init wsX5_init := goodIn_r _ [43, 44, 2, 3, 45, 20, 21, 46, 47, 48, 49, 50, 51, 52, 53, 29, 30, 31, 32, 33, 99, 91, 92, 93, 94, 95, 96, 97, 98] (by decide +kernel) (by decide +kernel)
set_option maxRecDepth 20000 in
theorem gX2_init_X5_init_n27 : GoodIn wsX2_init (wsX5_init) := ggX2_init_X5_init
set_option maxRecDepth 20000 in
theorem ggX2_init_X2_clear : GoodIn wsX2_init wsX2_clear := goodIn_r _ [58, 7, 11, 15, 59, 60, 61, 6, 62, 22, 63, 64, 65, 21, 66, 33, 67, 68, 69, 10, 70, 38, 40, 71, 72, 73, 74, 75, 14, 76, 77, 84, 85, 86, 78, 79, 80, 81, 82, 83, 99, 87, 88, 89, 90, 91, 92, 93, 94, 95, 96, 97, 98] (by decide +kernel) (by decide +kernel)
set_option maxRecDepth 20000 in
theorem gX2_init_X2_clear : GoodIn wsX2_init (wsV RX2 32 RX2 yX2_clear wsX2_clear) := goodIn_app (goodIn_of _ (by decide +kernel)) ggX2_init_X2_clear
theorem dX2_init_0 : decode cX2_init 0 = .ok (.aload_n 0, 1) := by decide +kernel
theorem dX2_init_1 : decode cX2_init 1 = .ok (.invokespecial 3, 3) := by decide +kernel
theorem dX2_init_4 : decode cX2_init 4 = .ok (.aload_n 0, 1) := by decide +kernel
theorem dX2_init_5 : decode cX2_init 5 = .ok (.new 9, 3) := by decide +kernel
theorem dX2_init_8 : decode cX2_init 8 = .ok (.dup, 1) := by decide +kernel
theorem dX2_init_9 : decode cX2_init 9 = .ok (.invokespecial 11, 3) := by decide +kernel
theorem dX2_init_12 : decode cX2_init 12 = .ok (.putfield 12, 3) := by decide +kernel
theorem dX2_init_15 : decode cX2_init 15 = .ok (.aload_n 0, 1) := by decide +kernel
theorem dX2_init_16 : decode cX2_init 16 = .ok (.new 18, 3) := by decide +kernel
theorem dX2_init_19 : decode cX2_init 19 = .ok (.dup, 1) := by decide +kernel
theorem dX2_init_20 : decode cX2_init 20 = .ok (.invokespecial 20, 3) := by decide +kernel
theorem dX2_init_23 : decode cX2_init 23 = .ok (.putfield 21, 3) := by decide +kernel
theorem dX2_init_26 : decode cX2_init 26 = .ok (.aload_n 0, 1) := by decide +kernel
theorem dX2_init_27 : decode cX2_init 27 = .ok (.new 25, 3) := by decide +kernel
theorem dX2_init_30 : decode cX2_init 30 = .ok (.dup, 1) := by decide +kernel
theorem dX2_init_31 : decode cX2_init 31 = .ok (.invokespecial 27, 3) := by decide +kernel
theorem dX2_init_34 : decode cX2_init 34 = .ok (.putfield 28, 3) := by decide +kernel
theorem dX2_init_37 : decode cX2_init 37 = .ok (.aload_n 0, 1) := by decide +kernel
theorem dX2_init_38 : decode cX2_init 38 = .ok (.invokevirtual 32, 3) := by decide +kernel
theorem dX2_init_41 : decode cX2_init 41 = .ok (.return_, 1) := by decide +kernel
set_option maxRecDepth 20000 in
theorem ggX2_clear_X3_clear : GoodIn wsX2_clear wsX3_clear := goodIn_r _ [8, 9, 10, 11, 12, 13, 14, 15, 34, 35, 36, 37, 38, 39, 40] (by decide +kernel) (by decide +kernel)
set_option maxRecDepth 20000 in
theorem gX2_clear_X3_clear : GoodIn wsX2_clear (wsV RX2 35 RX3 yX3_clear wsX3_clear) := goodIn_app (goodIn_of _ (by decide +kernel)) ggX2_clear_X3_clear
set_option maxRecDepth 20000 in
theorem ggX2_clear_X4_clear : GoodIn wsX2_clear wsX4_clear := goodIn_r _ [20, 21, 22, 23, 24, 11, 12, 13, 14, 15, 41, 42, 43, 44, 40] (by decide +kernel) (by decide +kernel)
set_option maxRecDepth 20000 in
theorem gX2_clear_X4_clear : GoodIn wsX2_clear (wsV RX2 36 RX4 yX4_clear wsX4_clear) := goodIn_app (goodIn_of _ (by decide +kernel)) ggX2_clear_X4_clear
set_option maxRecDepth 20000 in
theorem ggX2_clear_X5_clear : GoodIn wsX2_clear wsX5_clear := goodIn_r _ [29, 30, 45, 46, 47, 48, 49, 50, 51, 52] (by decide +kernel) (by decide +kernel)
set_option maxRecDepth 20000 in
theorem gX2_clear_X5_clear : GoodIn wsX2_clear (wsV RX2 37 RX5 yX5_clear wsX5_clear) := goodIn_app (goodIn_of _ (by decide +kernel)) ggX2_clear_X5_clear
theorem dX2_clear_0 : decode cX2_clear 0 = .ok (.aload_n 0, 1) := by decide +kernel
theorem dX2_clear_1 : decode cX2_clear 1 = .ok (.getfield 12, 3) := by decide +kernel
theorem dX2_clear_4 : decode cX2_clear 4 = .ok (.invokevirtual 35, 3) := by decide +kernel
theorem dX2_clear_7 : decode cX2_clear 7 = .ok (.aload_n 0, 1) := by decide +kernel
theorem dX2_clear_8 : decode cX2_clear 8 = .ok (.getfield 21, 3) := by decide +kernel
theorem dX2_clear_11 : decode cX2_clear 11 = .ok (.invokevirtual 36, 3) := by decide +kernel
theorem dX2_clear_14 : decode cX2_clear 14 = .ok (.aload_n 0, 1) := by decide +kernel
theorem dX2_clear_15 : decode cX2_clear 15 = .ok (.getfield 28, 3) := by decide +kernel
theorem dX2_clear_18 : decode cX2_clear 18 = .ok (.invokevirtual 37, 3) := by decide +kernel
theorem dX2_clear_21 : decode cX2_clear 21 = .ok (.return_, 1) := by decide +kernel
set_option maxRecDepth 20000 in
theorem ggX2_apply_X0_wordOf : GoodIn wsX2_apply wsX0_wordOf := goodIn_r _ [8, 9, 10, 11, 12, 13, 14, 15, 150, 151, 152] (by decide +kernel) (by decide +kernel)
set_option maxRecDepth 20000 in
theorem gX2_apply_X0_wordOf : GoodIn wsX2_apply (wsV RX2 38 RX0 yX0_wordOf wsX0_wordOf) := goodIn_app (goodIn_of _ (by decide +kernel)) ggX2_apply_X0_wordOf
set_option maxRecDepth 20000 in
theorem ggX2_apply_X3_addVersion : GoodIn wsX2_apply wsX3_addVersion := goodIn_r _ [20, 21, 22, 23, 24, 25, 11, 12, 13, 14, 15, 26, 27, 19, 28, 29, 30, 31, 32, 153, 154, 155, 156, 157, 158, 152] (by decide +kernel) (by decide +kernel)
set_option maxRecDepth 20000 in
theorem gX2_apply_X3_addVersion : GoodIn wsX2_apply (wsV RX2 44 RX3 yX3_addVersion wsX3_addVersion) := goodIn_app (goodIn_of _ (by decide +kernel)) ggX2_apply_X3_addVersion
set_option maxRecDepth 20000 in
theorem ggX2_apply_X3_addNeed : GoodIn wsX2_apply wsX3_addNeed := goodIn_r _ [36, 24, 37, 38, 26, 27, 19, 28, 25, 11, 12, 13, 14, 15, 29, 30, 31, 32, 39, 40, 41, 153, 154, 155, 156, 157, 158, 152] (by decide +kernel) (by decide +kernel)
set_option maxRecDepth 20000 in
theorem gX2_apply_X3_addNeed : GoodIn wsX2_apply (wsV RX2 47 RX3 yX3_addNeed wsX3_addNeed) := goodIn_app (goodIn_of _ (by decide +kernel)) ggX2_apply_X3_addNeed
set_option maxRecDepth 20000 in
theorem ggX2_apply_X3_markReplaced : GoodIn wsX2_apply wsX3_markReplaced := goodIn_r _ [45, 23, 26, 27, 19, 28, 29, 30, 31, 13, 32, 15, 153, 154, 155, 156, 157, 158, 152] (by decide +kernel) (by decide +kernel)
set_option maxRecDepth 20000 in
theorem gX2_apply_X3_markReplaced : GoodIn wsX2_apply (wsV RX2 51 RX3 yX3_markReplaced wsX3_markReplaced) := goodIn_app (goodIn_of _ (by decide +kernel)) ggX2_apply_X3_markReplaced
set_option maxRecDepth 20000 in
theorem ggX2_apply_X4_today : GoodIn wsX2_apply wsX4_today := goodIn_r _ [50, 51, 159, 160, 161, 162] (by decide +kernel) (by decide +kernel)
set_option maxRecDepth 20000 in
theorem gX2_apply_X4_today : GoodIn wsX2_apply (wsV RX2 55 RX4 yX4_today wsX4_today) := goodIn_app (goodIn_of _ (by decide +kernel)) ggX2_apply_X4_today
set_option maxRecDepth 20000 in
theorem ggX2_apply_X5_loseVersion : GoodIn wsX2_apply wsX5_loseVersion := goodIn_r _ [56, 57, 58, 59, 60, 11, 12, 13, 14, 15, 61, 62, 63, 64, 65, 66, 67, 55, 68, 69, 70, 71, 72, 73, 74, 75, 76, 77, 78, 30, 31, 32, 79, 80, 81, 82, 83, 163, 164, 165, 166, 167, 168, 169, 170, 152] (by decide +kernel) (by decide +kernel)
set_option maxRecDepth 20000 in
theorem gX2_apply_X5_loseVersion : GoodIn wsX2_apply (wsV RX2 59 RX5 yX5_loseVersion wsX5_loseVersion) := goodIn_app (goodIn_of _ (by decide +kernel)) ggX2_apply_X5_loseVersion
set_option maxRecDepth 20000 in
theorem ggX2_apply_X5_add : GoodIn wsX2_apply wsX5_add := goodIn_r _ [87, 57, 88, 89, 90, 78, 30, 31, 13, 32, 15, 79, 80, 81, 55, 82, 59, 58, 83, 74, 75, 76, 77, 73, 163, 164, 165, 166, 167, 168, 169, 170, 152] (by decide +kernel) (by decide +kernel)
set_option maxRecDepth 20000 in
theorem gX2_apply_X5_add : GoodIn wsX2_apply (wsV RX2 63 RX5 yX5_add wsX5_add) := goodIn_app (goodIn_of _ (by decide +kernel)) ggX2_apply_X5_add
set_option maxRecDepth 20000 in
theorem ggX2_apply_X3_costOf : GoodIn wsX2_apply wsX3_costOf := goodIn_r _ [94, 22, 95, 62, 63, 64, 26, 27, 19, 28, 25, 11, 12, 13, 14, 15, 153, 154, 155, 156, 157, 158, 152] (by decide +kernel) (by decide +kernel)
set_option maxRecDepth 20000 in
theorem gX2_apply_X3_costOf : GoodIn wsX2_apply (wsV RX2 66 RX3 yX3_costOf wsX3_costOf) := goodIn_app (goodIn_of _ (by decide +kernel)) ggX2_apply_X3_costOf
set_option maxRecDepth 20000 in
theorem ggX2_apply_X5_settle : GoodIn wsX2_apply wsX5_settle := goodIn_r _ [99, 59, 58, 83, 78, 30, 31, 13, 32, 15, 74, 75, 76, 55, 77, 73, 163, 164, 165, 166, 167, 168, 169, 170, 152] (by decide +kernel) (by decide +kernel)
set_option maxRecDepth 20000 in
theorem gX2_apply_X5_settle : GoodIn wsX2_apply (wsV RX2 70 RX5 yX5_settle wsX5_settle) := goodIn_app (goodIn_of _ (by decide +kernel)) ggX2_apply_X5_settle
set_option maxRecDepth 20000 in
theorem ggX2_apply_X4_changeLimit : GoodIn wsX2_apply wsX4_changeLimit := goodIn_r _ [103, 104, 105, 11, 12, 13, 14, 15, 106, 30, 31, 32, 159, 160, 161, 162, 152] (by decide +kernel) (by decide +kernel)
set_option maxRecDepth 20000 in
theorem gX2_apply_X4_changeLimit : GoodIn wsX2_apply (wsV RX2 73 RX4 yX4_changeLimit wsX4_changeLimit) := goodIn_app (goodIn_of _ (by decide +kernel)) ggX2_apply_X4_changeLimit
set_option maxRecDepth 20000 in
theorem ggX2_apply_X4_sendOnLeave : GoodIn wsX2_apply wsX4_sendOnLeave := goodIn_r _ [110, 111, 112, 51, 106, 30, 31, 13, 32, 15, 105, 11, 12, 14, 159, 160, 161, 162, 152] (by decide +kernel) (by decide +kernel)
set_option maxRecDepth 20000 in
theorem gX2_apply_X4_sendOnLeave : GoodIn wsX2_apply (wsV RX2 76 RX4 yX4_sendOnLeave wsX4_sendOnLeave) := goodIn_app (goodIn_of _ (by decide +kernel)) ggX2_apply_X4_sendOnLeave
set_option maxRecDepth 20000 in
theorem ggX2_apply_X2_takeApproval : GoodIn wsX2_apply wsX2_takeApproval := goodIn_r _ [117, 3, 2, 118, 119, 120, 121, 55, 122, 83, 60, 11, 12, 13, 14, 15, 123, 124, 125, 49, 126, 104, 111, 127, 128, 129, 130, 51, 112, 105, 131, 132, 133, 134, 135, 136, 137, 138, 73, 78, 30, 31, 32, 147, 148, 149, 163, 164, 165, 166, 167, 168, 169, 170, 152, 159, 160, 161, 162] (by decide +kernel) (by decide +kernel)
set_option maxRecDepth 20000 in
theorem gX2_apply_X2_takeApproval : GoodIn wsX2_apply (wsV RX2 79 RX2 yX2_takeApproval wsX2_takeApproval) := goodIn_app (goodIn_of _ (by decide +kernel)) ggX2_apply_X2_takeApproval
set_option maxRecDepth 20000 in
theorem ggX2_apply_X5_markReleased : GoodIn wsX2_apply wsX5_markReleased := goodIn_r _ [142, 59, 78, 30, 31, 13, 32, 15, 163, 164, 165, 166, 167, 168, 169, 170, 152] (by decide +kernel) (by decide +kernel)
set_option maxRecDepth 20000 in
theorem gX2_apply_X5_markReleased : GoodIn wsX2_apply (wsV RX2 82 RX5 yX5_markReleased wsX5_markReleased) := goodIn_app (goodIn_of _ (by decide +kernel)) ggX2_apply_X5_markReleased
set_option maxRecDepth 20000 in
theorem ggX2_apply_X4_addDays : GoodIn wsX2_apply wsX4_addDays := goodIn_r _ [146, 51, 159, 160, 161, 162] (by decide +kernel) (by decide +kernel)
set_option maxRecDepth 20000 in
theorem gX2_apply_X4_addDays : GoodIn wsX2_apply (wsV RX2 85 RX4 yX4_addDays wsX4_addDays) := goodIn_app (goodIn_of _ (by decide +kernel)) ggX2_apply_X4_addDays
theorem dX2_apply_0 : decode cX2_apply 0 = .ok (.iload_n 2, 1) := by decide +kernel
theorem dX2_apply_1 : decode cX2_apply 1 = .ok (.iconst (-1), 1) := by decide +kernel
theorem dX2_apply_2 : decode cX2_apply 2 = .ok (.if_icmp .ne 5, 3) := by decide +kernel
theorem dX2_apply_5 : decode cX2_apply 5 = .ok (.iconst (-1), 1) := by decide +kernel
theorem dX2_apply_6 : decode cX2_apply 6 = .ok (.ireturn, 1) := by decide +kernel
theorem dX2_apply_7 : decode cX2_apply 7 = .ok (.aload_n 1, 1) := by decide +kernel
theorem dX2_apply_8 : decode cX2_apply 8 = .ok (.iload_n 2, 1) := by decide +kernel
theorem dX2_apply_9 : decode cX2_apply 9 = .ok (.iconst 1, 1) := by decide +kernel
theorem dX2_apply_10 : decode cX2_apply 10 = .ok (.invokevirtual 38, 3) := by decide +kernel
theorem dX2_apply_13 : decode cX2_apply 13 = .ok (.istore_n 3, 1) := by decide +kernel
theorem dX2_apply_14 : decode cX2_apply 14 = .ok (.aload_n 1, 1) := by decide +kernel
theorem dX2_apply_15 : decode cX2_apply 15 = .ok (.iload_n 2, 1) := by decide +kernel
theorem dX2_apply_16 : decode cX2_apply 16 = .ok (.iconst 2, 1) := by decide +kernel
theorem dX2_apply_17 : decode cX2_apply 17 = .ok (.invokevirtual 38, 3) := by decide +kernel
theorem dX2_apply_20 : decode cX2_apply 20 = .ok (.istore 4, 2) := by decide +kernel
theorem dX2_apply_22 : decode cX2_apply 22 = .ok (.aload_n 1, 1) := by decide +kernel
theorem dX2_apply_23 : decode cX2_apply 23 = .ok (.iload_n 2, 1) := by decide +kernel
theorem dX2_apply_24 : decode cX2_apply 24 = .ok (.iconst 3, 1) := by decide +kernel
theorem dX2_apply_25 : decode cX2_apply 25 = .ok (.invokevirtual 38, 3) := by decide +kernel
theorem dX2_apply_28 : decode cX2_apply 28 = .ok (.istore 5, 2) := by decide +kernel
theorem dX2_apply_30 : decode cX2_apply 30 = .ok (.aload_n 1, 1) := by decide +kernel
theorem dX2_apply_31 : decode cX2_apply 31 = .ok (.iload_n 2, 1) := by decide +kernel
theorem dX2_apply_32 : decode cX2_apply 32 = .ok (.iconst 0, 1) := by decide +kernel
theorem dX2_apply_33 : decode cX2_apply 33 = .ok (.invokevirtual 38, 3) := by decide +kernel
theorem dX2_apply_36 : decode cX2_apply 36 = .ok (.tableswitch 203 1 10 #[56, 67, 92, 120, 133, 153, 164, 177, 185, 194], 56) := by decide +kernel
theorem dX2_apply_92 : decode cX2_apply 92 = .ok (.aload_n 0, 1) := by decide +kernel
theorem dX2_apply_93 : decode cX2_apply 93 = .ok (.getfield 12, 3) := by decide +kernel
theorem dX2_apply_96 : decode cX2_apply 96 = .ok (.iload_n 3, 1) := by decide +kernel
theorem dX2_apply_97 : decode cX2_apply 97 = .ok (.iload 4, 2) := by decide +kernel
theorem dX2_apply_99 : decode cX2_apply 99 = .ok (.invokevirtual 44, 3) := by decide +kernel
theorem dX2_apply_102 : decode cX2_apply 102 = .ok (.ireturn, 1) := by decide +kernel
theorem dX2_apply_103 : decode cX2_apply 103 = .ok (.aload_n 0, 1) := by decide +kernel
theorem dX2_apply_104 : decode cX2_apply 104 = .ok (.getfield 12, 3) := by decide +kernel
theorem dX2_apply_107 : decode cX2_apply 107 = .ok (.iload_n 3, 1) := by decide +kernel
theorem dX2_apply_108 : decode cX2_apply 108 = .ok (.iload 4, 2) := by decide +kernel
theorem dX2_apply_110 : decode cX2_apply 110 = .ok (.iload 5, 2) := by decide +kernel
theorem dX2_apply_112 : decode cX2_apply 112 = .ok (.aload_n 1, 1) := by decide +kernel
theorem dX2_apply_113 : decode cX2_apply 113 = .ok (.iload_n 2, 1) := by decide +kernel
theorem dX2_apply_114 : decode cX2_apply 114 = .ok (.iconst 4, 1) := by decide +kernel
theorem dX2_apply_115 : decode cX2_apply 115 = .ok (.invokevirtual 38, 3) := by decide +kernel
theorem dX2_apply_118 : decode cX2_apply 118 = .ok (.aload_n 1, 1) := by decide +kernel
theorem dX2_apply_119 : decode cX2_apply 119 = .ok (.iload_n 2, 1) := by decide +kernel
theorem dX2_apply_120 : decode cX2_apply 120 = .ok (.iconst 5, 1) := by decide +kernel
theorem dX2_apply_121 : decode cX2_apply 121 = .ok (.invokevirtual 38, 3) := by decide +kernel
theorem dX2_apply_124 : decode cX2_apply 124 = .ok (.invokevirtual 47, 3) := by decide +kernel
theorem dX2_apply_127 : decode cX2_apply 127 = .ok (.ireturn, 1) := by decide +kernel
theorem dX2_apply_128 : decode cX2_apply 128 = .ok (.aload_n 0, 1) := by decide +kernel
theorem dX2_apply_129 : decode cX2_apply 129 = .ok (.getfield 12, 3) := by decide +kernel
theorem dX2_apply_132 : decode cX2_apply 132 = .ok (.iload_n 3, 1) := by decide +kernel
theorem dX2_apply_133 : decode cX2_apply 133 = .ok (.iload 4, 2) := by decide +kernel
theorem dX2_apply_135 : decode cX2_apply 135 = .ok (.invokevirtual 51, 3) := by decide +kernel
theorem dX2_apply_138 : decode cX2_apply 138 = .ok (.aload_n 0, 1) := by decide +kernel
theorem dX2_apply_139 : decode cX2_apply 139 = .ok (.getfield 28, 3) := by decide +kernel
theorem dX2_apply_142 : decode cX2_apply 142 = .ok (.iload_n 3, 1) := by decide +kernel
theorem dX2_apply_143 : decode cX2_apply 143 = .ok (.iload 4, 2) := by decide +kernel
theorem dX2_apply_145 : decode cX2_apply 145 = .ok (.aload_n 0, 1) := by decide +kernel
theorem dX2_apply_146 : decode cX2_apply 146 = .ok (.getfield 21, 3) := by decide +kernel
theorem dX2_apply_149 : decode cX2_apply 149 = .ok (.invokevirtual 55, 3) := by decide +kernel
theorem dX2_apply_152 : decode cX2_apply 152 = .ok (.invokevirtual 59, 3) := by decide +kernel
theorem dX2_apply_155 : decode cX2_apply 155 = .ok (.ireturn, 1) := by decide +kernel
theorem dX2_apply_156 : decode cX2_apply 156 = .ok (.aload_n 0, 1) := by decide +kernel
theorem dX2_apply_157 : decode cX2_apply 157 = .ok (.getfield 28, 3) := by decide +kernel
theorem dX2_apply_160 : decode cX2_apply 160 = .ok (.iload_n 3, 1) := by decide +kernel
theorem dX2_apply_161 : decode cX2_apply 161 = .ok (.iload 4, 2) := by decide +kernel
theorem dX2_apply_163 : decode cX2_apply 163 = .ok (.iload 5, 2) := by decide +kernel
theorem dX2_apply_165 : decode cX2_apply 165 = .ok (.invokevirtual 63, 3) := by decide +kernel
theorem dX2_apply_168 : decode cX2_apply 168 = .ok (.ireturn, 1) := by decide +kernel
theorem dX2_apply_169 : decode cX2_apply 169 = .ok (.aload_n 0, 1) := by decide +kernel
theorem dX2_apply_170 : decode cX2_apply 170 = .ok (.getfield 28, 3) := by decide +kernel
theorem dX2_apply_173 : decode cX2_apply 173 = .ok (.iload_n 3, 1) := by decide +kernel
theorem dX2_apply_174 : decode cX2_apply 174 = .ok (.iload 4, 2) := by decide +kernel
theorem dX2_apply_176 : decode cX2_apply 176 = .ok (.aload_n 0, 1) := by decide +kernel
theorem dX2_apply_177 : decode cX2_apply 177 = .ok (.getfield 12, 3) := by decide +kernel
theorem dX2_apply_180 : decode cX2_apply 180 = .ok (.iload 4, 2) := by decide +kernel
theorem dX2_apply_182 : decode cX2_apply 182 = .ok (.invokevirtual 66, 3) := by decide +kernel
theorem dX2_apply_185 : decode cX2_apply 185 = .ok (.invokevirtual 70, 3) := by decide +kernel
theorem dX2_apply_188 : decode cX2_apply 188 = .ok (.ireturn, 1) := by decide +kernel
theorem dX2_apply_189 : decode cX2_apply 189 = .ok (.aload_n 0, 1) := by decide +kernel
theorem dX2_apply_190 : decode cX2_apply 190 = .ok (.getfield 21, 3) := by decide +kernel
theorem dX2_apply_193 : decode cX2_apply 193 = .ok (.iload_n 3, 1) := by decide +kernel
theorem dX2_apply_194 : decode cX2_apply 194 = .ok (.iload 4, 2) := by decide +kernel
theorem dX2_apply_196 : decode cX2_apply 196 = .ok (.invokevirtual 73, 3) := by decide +kernel
theorem dX2_apply_199 : decode cX2_apply 199 = .ok (.ireturn, 1) := by decide +kernel
theorem dX2_apply_200 : decode cX2_apply 200 = .ok (.aload_n 0, 1) := by decide +kernel
theorem dX2_apply_201 : decode cX2_apply 201 = .ok (.getfield 21, 3) := by decide +kernel
theorem dX2_apply_204 : decode cX2_apply 204 = .ok (.iload_n 3, 1) := by decide +kernel
theorem dX2_apply_205 : decode cX2_apply 205 = .ok (.iload 4, 2) := by decide +kernel
theorem dX2_apply_207 : decode cX2_apply 207 = .ok (.iload 5, 2) := by decide +kernel
theorem dX2_apply_209 : decode cX2_apply 209 = .ok (.invokevirtual 76, 3) := by decide +kernel
theorem dX2_apply_212 : decode cX2_apply 212 = .ok (.ireturn, 1) := by decide +kernel
theorem dX2_apply_213 : decode cX2_apply 213 = .ok (.aload_n 0, 1) := by decide +kernel
theorem dX2_apply_214 : decode cX2_apply 214 = .ok (.iload_n 3, 1) := by decide +kernel
theorem dX2_apply_215 : decode cX2_apply 215 = .ok (.iload 4, 2) := by decide +kernel
theorem dX2_apply_217 : decode cX2_apply 217 = .ok (.invokevirtual 79, 3) := by decide +kernel
theorem dX2_apply_220 : decode cX2_apply 220 = .ok (.ireturn, 1) := by decide +kernel
theorem dX2_apply_221 : decode cX2_apply 221 = .ok (.aload_n 0, 1) := by decide +kernel
theorem dX2_apply_222 : decode cX2_apply 222 = .ok (.getfield 28, 3) := by decide +kernel
theorem dX2_apply_225 : decode cX2_apply 225 = .ok (.iload_n 3, 1) := by decide +kernel
theorem dX2_apply_226 : decode cX2_apply 226 = .ok (.invokevirtual 82, 3) := by decide +kernel
theorem dX2_apply_229 : decode cX2_apply 229 = .ok (.ireturn, 1) := by decide +kernel
theorem dX2_apply_230 : decode cX2_apply 230 = .ok (.aload_n 0, 1) := by decide +kernel
theorem dX2_apply_231 : decode cX2_apply 231 = .ok (.getfield 21, 3) := by decide +kernel
theorem dX2_apply_234 : decode cX2_apply 234 = .ok (.iload_n 3, 1) := by decide +kernel
theorem dX2_apply_235 : decode cX2_apply 235 = .ok (.invokevirtual 85, 3) := by decide +kernel
theorem dX2_apply_238 : decode cX2_apply 238 = .ok (.ireturn, 1) := by decide +kernel
theorem dX2_apply_239 : decode cX2_apply 239 = .ok (.iconst (-1), 1) := by decide +kernel
theorem dX2_apply_240 : decode cX2_apply 240 = .ok (.ireturn, 1) := by decide +kernel
set_option maxRecDepth 20000 in
theorem ggX2_principalFor_X5_stateOf : GoodIn wsX2_principalFor wsX5_stateOf := goodIn_r _ [7, 8, 9, 10, 11, 12, 13, 14, 51, 52, 53, 54, 55, 56, 57, 58, 59] (by decide +kernel) (by decide +kernel)
set_option maxRecDepth 20000 in
theorem gX2_principalFor_X5_stateOf : GoodIn wsX2_principalFor (wsV RX2 88 RX5 yX5_stateOf wsX5_stateOf) := goodIn_app (goodIn_of _ (by decide +kernel)) ggX2_principalFor_X5_stateOf
set_option maxRecDepth 20000 in
theorem ggX2_principalFor_X5_personOf : GoodIn wsX2_principalFor wsX5_personOf := goodIn_r _ [18, 19, 9, 10, 11, 12, 13, 14, 51, 52, 53, 54, 55, 56, 57, 58, 59] (by decide +kernel) (by decide +kernel)
set_option maxRecDepth 20000 in
theorem gX2_principalFor_X5_personOf : GoodIn wsX2_principalFor (wsV RX2 91 RX5 yX5_personOf wsX5_personOf) := goodIn_app (goodIn_of _ (by decide +kernel)) ggX2_principalFor_X5_personOf
set_option maxRecDepth 20000 in
theorem ggX2_principalFor_X4_today : GoodIn wsX2_principalFor wsX4_today := goodIn_r _ [24, 25, 60, 61, 62, 63] (by decide +kernel) (by decide +kernel)
set_option maxRecDepth 20000 in
theorem gX2_principalFor_X4_today : GoodIn wsX2_principalFor (wsV RX2 55 RX4 yX4_today wsX4_today) := goodIn_app (goodIn_of _ (by decide +kernel)) ggX2_principalFor_X4_today
set_option maxRecDepth 20000 in
theorem ggX2_principalFor_X5_hasApproval : GoodIn wsX2_principalFor wsX5_hasApproval := goodIn_r _ [29, 30, 9, 10, 11, 12, 13, 14, 51, 52, 53, 54, 55, 56, 57, 58, 59] (by decide +kernel) (by decide +kernel)
set_option maxRecDepth 20000 in
theorem gX2_principalFor_X5_hasApproval : GoodIn wsX2_principalFor (wsV RX2 94 RX5 yX5_hasApproval wsX5_hasApproval) := goodIn_app (goodIn_of _ (by decide +kernel)) ggX2_principalFor_X5_hasApproval
set_option maxRecDepth 20000 in
theorem ggX2_principalFor_X5_costOf : GoodIn wsX2_principalFor wsX5_costOf := goodIn_r _ [34, 35, 9, 10, 11, 12, 13, 14, 51, 52, 53, 54, 55, 56, 57, 58, 59] (by decide +kernel) (by decide +kernel)
set_option maxRecDepth 20000 in
theorem gX2_principalFor_X5_costOf : GoodIn wsX2_principalFor (wsV RX2 98 RX5 yX5_costOf wsX5_costOf) := goodIn_app (goodIn_of _ (by decide +kernel)) ggX2_principalFor_X5_costOf
set_option maxRecDepth 20000 in
theorem ggX2_principalFor_X4_principalOf : GoodIn wsX2_principalFor wsX4_principalOf := goodIn_r _ [39, 40, 41, 42, 43, 44, 23, 45, 25, 46, 47, 10, 11, 12, 13, 14, 60, 61, 62, 63, 59] (by decide +kernel) (by decide +kernel)
set_option maxRecDepth 20000 in
theorem gX2_principalFor_X4_principalOf : GoodIn wsX2_principalFor (wsV RX2 99 RX4 yX4_principalOf wsX4_principalOf) := goodIn_app (goodIn_of _ (by decide +kernel)) ggX2_principalFor_X4_principalOf
theorem dX2_principalFor_0 : decode cX2_principalFor 0 = .ok (.aload_n 0, 1) := by decide +kernel
theorem dX2_principalFor_1 : decode cX2_principalFor 1 = .ok (.getfield 28, 3) := by decide +kernel
theorem dX2_principalFor_4 : decode cX2_principalFor 4 = .ok (.iload_n 1, 1) := by decide +kernel
theorem dX2_principalFor_5 : decode cX2_principalFor 5 = .ok (.invokevirtual 88, 3) := by decide +kernel
theorem dX2_principalFor_8 : decode cX2_principalFor 8 = .ok (.iconst 1, 1) := by decide +kernel
theorem dX2_principalFor_9 : decode cX2_principalFor 9 = .ok (.if_icmp .ne 38, 3) := by decide +kernel
theorem dX2_principalFor_12 : decode cX2_principalFor 12 = .ok (.iload_n 2, 1) := by decide +kernel
theorem dX2_principalFor_13 : decode cX2_principalFor 13 = .ok (.aload_n 0, 1) := by decide +kernel
theorem dX2_principalFor_14 : decode cX2_principalFor 14 = .ok (.getfield 28, 3) := by decide +kernel
theorem dX2_principalFor_17 : decode cX2_principalFor 17 = .ok (.iload_n 1, 1) := by decide +kernel
theorem dX2_principalFor_18 : decode cX2_principalFor 18 = .ok (.invokevirtual 91, 3) := by decide +kernel
theorem dX2_principalFor_21 : decode cX2_principalFor 21 = .ok (.if_icmp .eq 26, 3) := by decide +kernel
theorem dX2_principalFor_24 : decode cX2_principalFor 24 = .ok (.aload_n 0, 1) := by decide +kernel
theorem dX2_principalFor_25 : decode cX2_principalFor 25 = .ok (.getfield 28, 3) := by decide +kernel
theorem dX2_principalFor_28 : decode cX2_principalFor 28 = .ok (.iload_n 1, 1) := by decide +kernel
theorem dX2_principalFor_29 : decode cX2_principalFor 29 = .ok (.iload_n 2, 1) := by decide +kernel
theorem dX2_principalFor_30 : decode cX2_principalFor 30 = .ok (.aload_n 0, 1) := by decide +kernel
theorem dX2_principalFor_31 : decode cX2_principalFor 31 = .ok (.getfield 21, 3) := by decide +kernel
theorem dX2_principalFor_34 : decode cX2_principalFor 34 = .ok (.invokevirtual 55, 3) := by decide +kernel
theorem dX2_principalFor_37 : decode cX2_principalFor 37 = .ok (.invokevirtual 94, 3) := by decide +kernel
theorem dX2_principalFor_40 : decode cX2_principalFor 40 = .ok (.ifCond .ne 7, 3) := by decide +kernel
theorem dX2_principalFor_43 : decode cX2_principalFor 43 = .ok (.iconst 1, 1) := by decide +kernel
theorem dX2_principalFor_44 : decode cX2_principalFor 44 = .ok (.goto 4, 3) := by decide +kernel
theorem dX2_principalFor_47 : decode cX2_principalFor 47 = .ok (.iconst 0, 1) := by decide +kernel
theorem dX2_principalFor_48 : decode cX2_principalFor 48 = .ok (.istore_n 3, 1) := by decide +kernel
theorem dX2_principalFor_49 : decode cX2_principalFor 49 = .ok (.iload_n 3, 1) := by decide +kernel
theorem dX2_principalFor_50 : decode cX2_principalFor 50 = .ok (.ifCond .eq 22, 3) := by decide +kernel
theorem dX2_principalFor_53 : decode cX2_principalFor 53 = .ok (.aload_n 0, 1) := by decide +kernel
theorem dX2_principalFor_54 : decode cX2_principalFor 54 = .ok (.getfield 21, 3) := by decide +kernel
theorem dX2_principalFor_57 : decode cX2_principalFor 57 = .ok (.iload_n 2, 1) := by decide +kernel
theorem dX2_principalFor_58 : decode cX2_principalFor 58 = .ok (.aload_n 0, 1) := by decide +kernel
theorem dX2_principalFor_59 : decode cX2_principalFor 59 = .ok (.getfield 28, 3) := by decide +kernel
theorem dX2_principalFor_62 : decode cX2_principalFor 62 = .ok (.iload_n 1, 1) := by decide +kernel
theorem dX2_principalFor_63 : decode cX2_principalFor 63 = .ok (.invokevirtual 98, 3) := by decide +kernel
theorem dX2_principalFor_66 : decode cX2_principalFor 66 = .ok (.invokevirtual 99, 3) := by decide +kernel
theorem dX2_principalFor_69 : decode cX2_principalFor 69 = .ok (.goto 4, 3) := by decide +kernel
theorem dX2_principalFor_72 : decode cX2_principalFor 72 = .ok (.iconst (-1), 1) := by decide +kernel
theorem dX2_principalFor_73 : decode cX2_principalFor 73 = .ok (.ireturn, 1) := by decide +kernel
set_option maxRecDepth 20000 in
theorem ggX2_approvalsOf_X4_today : GoodIn wsX2_approvalsOf wsX4_today := goodIn_r _ [7, 8, 28, 29, 30, 31] (by decide +kernel) (by decide +kernel)
set_option maxRecDepth 20000 in
theorem gX2_approvalsOf_X4_today : GoodIn wsX2_approvalsOf (wsV RX2 55 RX4 yX4_today wsX4_today) := goodIn_app (goodIn_of _ (by decide +kernel)) ggX2_approvalsOf_X4_today
set_option maxRecDepth 20000 in
theorem ggX2_approvalsOf_X5_approvalsOf : GoodIn wsX2_approvalsOf wsX5_approvalsOf := goodIn_r _ [13, 14, 15, 16, 12, 17, 18, 19, 20, 21, 22, 23, 24, 32, 33, 34, 35, 36, 37, 38, 39, 40] (by decide +kernel) (by decide +kernel)
set_option maxRecDepth 20000 in
theorem gX2_approvalsOf_X5_approvalsOf : GoodIn wsX2_approvalsOf (wsV RX2 102 RX5 yX5_approvalsOf wsX5_approvalsOf) := goodIn_app (goodIn_of _ (by decide +kernel)) ggX2_approvalsOf_X5_approvalsOf
theorem dX2_approvalsOf_0 : decode cX2_approvalsOf 0 = .ok (.aload_n 0, 1) := by decide +kernel
theorem dX2_approvalsOf_1 : decode cX2_approvalsOf 1 = .ok (.getfield 28, 3) := by decide +kernel
theorem dX2_approvalsOf_4 : decode cX2_approvalsOf 4 = .ok (.iload_n 1, 1) := by decide +kernel
theorem dX2_approvalsOf_5 : decode cX2_approvalsOf 5 = .ok (.aload_n 0, 1) := by decide +kernel
theorem dX2_approvalsOf_6 : decode cX2_approvalsOf 6 = .ok (.getfield 21, 3) := by decide +kernel
theorem dX2_approvalsOf_9 : decode cX2_approvalsOf 9 = .ok (.invokevirtual 55, 3) := by decide +kernel
theorem dX2_approvalsOf_12 : decode cX2_approvalsOf 12 = .ok (.invokevirtual 102, 3) := by decide +kernel
theorem dX2_approvalsOf_15 : decode cX2_approvalsOf 15 = .ok (.ireturn, 1) := by decide +kernel
set_option maxRecDepth 20000 in
theorem ggX2_isCovered_X5_costOf : GoodIn wsX2_isCovered wsX5_costOf := goodIn_r _ [6, 7, 8, 9, 10, 11, 12, 13, 38, 39, 40, 41, 42, 43, 44, 45, 46] (by decide +kernel) (by decide +kernel)
set_option maxRecDepth 20000 in
theorem gX2_isCovered_X5_costOf : GoodIn wsX2_isCovered (wsV RX2 98 RX5 yX5_costOf wsX5_costOf) := goodIn_app (goodIn_of _ (by decide +kernel)) ggX2_isCovered_X5_costOf
set_option maxRecDepth 20000 in
theorem ggX2_isCovered_X2_approvalsOf : GoodIn wsX2_isCovered wsX2_approvalsOf := goodIn_r _ [18, 1, 19, 20, 21, 22, 23, 24, 25, 26, 27, 28, 5, 29, 30, 31, 32, 33, 34, 8, 9, 10, 11, 12, 13, 35, 36, 37, 47, 48, 49, 50, 38, 39, 40, 41, 42, 43, 44, 45, 46] (by decide +kernel) (by decide +kernel)
set_option maxRecDepth 20000 in
theorem gX2_isCovered_X2_approvalsOf : GoodIn wsX2_isCovered (wsV RX2 105 RX2 yX2_approvalsOf wsX2_approvalsOf) := goodIn_app (goodIn_of _ (by decide +kernel)) ggX2_isCovered_X2_approvalsOf
theorem dX2_isCovered_0 : decode cX2_isCovered 0 = .ok (.aload_n 0, 1) := by decide +kernel
theorem dX2_isCovered_1 : decode cX2_isCovered 1 = .ok (.getfield 28, 3) := by decide +kernel
theorem dX2_isCovered_4 : decode cX2_isCovered 4 = .ok (.iload_n 1, 1) := by decide +kernel
theorem dX2_isCovered_5 : decode cX2_isCovered 5 = .ok (.invokevirtual 98, 3) := by decide +kernel
theorem dX2_isCovered_8 : decode cX2_isCovered 8 = .ok (.sipush 500, 3) := by decide +kernel
theorem dX2_isCovered_11 : decode cX2_isCovered 11 = .ok (.if_icmp .le 7, 3) := by decide +kernel
theorem dX2_isCovered_14 : decode cX2_isCovered 14 = .ok (.iconst 2, 1) := by decide +kernel
theorem dX2_isCovered_15 : decode cX2_isCovered 15 = .ok (.goto 4, 3) := by decide +kernel
theorem dX2_isCovered_18 : decode cX2_isCovered 18 = .ok (.iconst 1, 1) := by decide +kernel
theorem dX2_isCovered_19 : decode cX2_isCovered 19 = .ok (.istore_n 2, 1) := by decide +kernel
theorem dX2_isCovered_20 : decode cX2_isCovered 20 = .ok (.aload_n 0, 1) := by decide +kernel
theorem dX2_isCovered_21 : decode cX2_isCovered 21 = .ok (.iload_n 1, 1) := by decide +kernel
theorem dX2_isCovered_22 : decode cX2_isCovered 22 = .ok (.invokevirtual 105, 3) := by decide +kernel
theorem dX2_isCovered_25 : decode cX2_isCovered 25 = .ok (.iload_n 2, 1) := by decide +kernel
theorem dX2_isCovered_26 : decode cX2_isCovered 26 = .ok (.if_icmp .lt 7, 3) := by decide +kernel
theorem dX2_isCovered_29 : decode cX2_isCovered 29 = .ok (.iconst 1, 1) := by decide +kernel
theorem dX2_isCovered_30 : decode cX2_isCovered 30 = .ok (.goto 4, 3) := by decide +kernel
theorem dX2_isCovered_33 : decode cX2_isCovered 33 = .ok (.iconst 0, 1) := by decide +kernel
theorem dX2_isCovered_34 : decode cX2_isCovered 34 = .ok (.ireturn, 1) := by decide +kernel
set_option maxRecDepth 20000 in
theorem ggX2_takeApproval_X5_costOf : GoodIn wsX2_takeApproval wsX5_costOf := goodIn_r _ [8, 9, 10, 11, 12, 13, 14, 15, 46, 47, 48, 49, 50, 51, 52, 53, 54] (by decide +kernel) (by decide +kernel)
set_option maxRecDepth 20000 in
theorem gX2_takeApproval_X5_costOf : GoodIn wsX2_takeApproval (wsV RX2 98 RX5 yX5_costOf wsX5_costOf) := goodIn_app (goodIn_of _ (by decide +kernel)) ggX2_takeApproval_X5_costOf
set_option maxRecDepth 20000 in
theorem ggX2_takeApproval_X4_principalOf : GoodIn wsX2_takeApproval wsX4_principalOf := goodIn_r _ [20, 21, 22, 23, 24, 25, 19, 26, 27, 28, 29, 11, 12, 13, 14, 15, 55, 56, 57, 58, 54] (by decide +kernel) (by decide +kernel)
set_option maxRecDepth 20000 in
theorem gX2_takeApproval_X4_principalOf : GoodIn wsX2_takeApproval (wsV RX2 99 RX4 yX4_principalOf wsX4_principalOf) := goodIn_app (goodIn_of _ (by decide +kernel)) ggX2_takeApproval_X4_principalOf
set_option maxRecDepth 20000 in
theorem ggX2_takeApproval_X4_backOf : GoodIn wsX2_takeApproval wsX4_backOf := goodIn_r _ [33, 28, 29, 11, 12, 13, 14, 15, 55, 56, 57, 58, 54] (by decide +kernel) (by decide +kernel)
set_option maxRecDepth 20000 in
theorem gX2_takeApproval_X4_backOf : GoodIn wsX2_takeApproval (wsV RX2 108 RX4 yX4_backOf wsX4_backOf) := goodIn_app (goodIn_of _ (by decide +kernel)) ggX2_takeApproval_X4_backOf
set_option maxRecDepth 20000 in
theorem ggX2_takeApproval_X5_addApproval : GoodIn wsX2_takeApproval wsX5_addApproval := goodIn_r _ [37, 38, 39, 40, 41, 13, 42, 15, 46, 47, 48, 49, 50, 51, 52, 53, 54] (by decide +kernel) (by decide +kernel)
set_option maxRecDepth 20000 in
theorem gX2_takeApproval_X5_addApproval : GoodIn wsX2_takeApproval (wsV RX2 111 RX5 yX5_addApproval wsX5_addApproval) := goodIn_app (goodIn_of _ (by decide +kernel)) ggX2_takeApproval_X5_addApproval
theorem dX2_takeApproval_0 : decode cX2_takeApproval 0 = .ok (.aload_n 0, 1) := by decide +kernel
theorem dX2_takeApproval_1 : decode cX2_takeApproval 1 = .ok (.getfield 21, 3) := by decide +kernel
theorem dX2_takeApproval_4 : decode cX2_takeApproval 4 = .ok (.iload_n 2, 1) := by decide +kernel
theorem dX2_takeApproval_5 : decode cX2_takeApproval 5 = .ok (.aload_n 0, 1) := by decide +kernel
theorem dX2_takeApproval_6 : decode cX2_takeApproval 6 = .ok (.getfield 28, 3) := by decide +kernel
theorem dX2_takeApproval_9 : decode cX2_takeApproval 9 = .ok (.iload_n 1, 1) := by decide +kernel
theorem dX2_takeApproval_10 : decode cX2_takeApproval 10 = .ok (.invokevirtual 98, 3) := by decide +kernel
theorem dX2_takeApproval_13 : decode cX2_takeApproval 13 = .ok (.invokevirtual 99, 3) := by decide +kernel
theorem dX2_takeApproval_16 : decode cX2_takeApproval 16 = .ok (.istore_n 3, 1) := by decide +kernel
theorem dX2_takeApproval_17 : decode cX2_takeApproval 17 = .ok (.iload_n 3, 1) := by decide +kernel
theorem dX2_takeApproval_18 : decode cX2_takeApproval 18 = .ok (.iload_n 2, 1) := by decide +kernel
theorem dX2_takeApproval_19 : decode cX2_takeApproval 19 = .ok (.if_icmp .ne 8, 3) := by decide +kernel
theorem dX2_takeApproval_22 : decode cX2_takeApproval 22 = .ok (.ldc 107, 2) := by decide +kernel
theorem dX2_takeApproval_24 : decode cX2_takeApproval 24 = .ok (.goto 11, 3) := by decide +kernel
theorem dX2_takeApproval_27 : decode cX2_takeApproval 27 = .ok (.aload_n 0, 1) := by decide +kernel
theorem dX2_takeApproval_28 : decode cX2_takeApproval 28 = .ok (.getfield 21, 3) := by decide +kernel
theorem dX2_takeApproval_31 : decode cX2_takeApproval 31 = .ok (.iload_n 3, 1) := by decide +kernel
theorem dX2_takeApproval_32 : decode cX2_takeApproval 32 = .ok (.invokevirtual 108, 3) := by decide +kernel
theorem dX2_takeApproval_35 : decode cX2_takeApproval 35 = .ok (.istore 4, 2) := by decide +kernel
theorem dX2_takeApproval_37 : decode cX2_takeApproval 37 = .ok (.aload_n 0, 1) := by decide +kernel
theorem dX2_takeApproval_38 : decode cX2_takeApproval 38 = .ok (.getfield 28, 3) := by decide +kernel
theorem dX2_takeApproval_41 : decode cX2_takeApproval 41 = .ok (.iload_n 1, 1) := by decide +kernel
theorem dX2_takeApproval_42 : decode cX2_takeApproval 42 = .ok (.iload_n 2, 1) := by decide +kernel
theorem dX2_takeApproval_43 : decode cX2_takeApproval 43 = .ok (.iload 4, 2) := by decide +kernel
theorem dX2_takeApproval_45 : decode cX2_takeApproval 45 = .ok (.invokevirtual 111, 3) := by decide +kernel
theorem dX2_takeApproval_48 : decode cX2_takeApproval 48 = .ok (.iload_n 3, 1) := by decide +kernel
theorem dX2_takeApproval_49 : decode cX2_takeApproval 49 = .ok (.ireturn, 1) := by decide +kernel
