theorem dX6_init_0 : decode cX6_init 0 = .ok (.aload_n 0, 1) := by decide +kernel
theorem dX6_init_1 : decode cX6_init 1 = .ok (.invokespecial 1, 3) := by decide +kernel
theorem dX6_init_4 : decode cX6_init 4 = .ok (.aload_n 0, 1) := by decide +kernel
theorem dX6_init_5 : decode cX6_init 5 = .ok (.iload_n 1, 1) := by decide +kernel
theorem dX6_init_6 : decode cX6_init 6 = .ok (.ifCond .ge 7, 3) := by decide +kernel
theorem dX6_init_9 : decode cX6_init 9 = .ok (.iconst 0, 1) := by decide +kernel
theorem dX6_init_10 : decode cX6_init 10 = .ok (.goto 4, 3) := by decide +kernel
theorem dX6_init_13 : decode cX6_init 13 = .ok (.iload_n 1, 1) := by decide +kernel
theorem dX6_init_14 : decode cX6_init 14 = .ok (.newarray .int, 2) := by decide +kernel
theorem dX6_init_16 : decode cX6_init 16 = .ok (.putfield 7, 3) := by decide +kernel
theorem dX6_init_19 : decode cX6_init 19 = .ok (.return_, 1) := by decide +kernel
theorem dX6_at_0 : decode cX6_at 0 = .ok (.iload_n 1, 1) := by decide +kernel
theorem dX6_at_1 : decode cX6_at 1 = .ok (.ifCond .lt 21, 3) := by decide +kernel
theorem dX6_at_4 : decode cX6_at 4 = .ok (.iload_n 1, 1) := by decide +kernel
theorem dX6_at_5 : decode cX6_at 5 = .ok (.aload_n 0, 1) := by decide +kernel
theorem dX6_at_6 : decode cX6_at 6 = .ok (.getfield 7, 3) := by decide +kernel
theorem dX6_at_9 : decode cX6_at 9 = .ok (.arraylength, 1) := by decide +kernel
theorem dX6_at_10 : decode cX6_at 10 = .ok (.if_icmp .ge 12, 3) := by decide +kernel
theorem dX6_at_13 : decode cX6_at 13 = .ok (.aload_n 0, 1) := by decide +kernel
theorem dX6_at_14 : decode cX6_at 14 = .ok (.getfield 7, 3) := by decide +kernel
theorem dX6_at_17 : decode cX6_at 17 = .ok (.iload_n 1, 1) := by decide +kernel
theorem dX6_at_18 : decode cX6_at 18 = .ok (.iaload, 1) := by decide +kernel
theorem dX6_at_19 : decode cX6_at 19 = .ok (.goto 4, 3) := by decide +kernel
theorem dX6_at_22 : decode cX6_at 22 = .ok (.iconst 0, 1) := by decide +kernel
theorem dX6_at_23 : decode cX6_at 23 = .ok (.ireturn, 1) := by decide +kernel
theorem dX6_put_0 : decode cX6_put 0 = .ok (.iload_n 1, 1) := by decide +kernel
theorem dX6_put_1 : decode cX6_put 1 = .ok (.ifCond .lt 19, 3) := by decide +kernel
theorem dX6_put_4 : decode cX6_put 4 = .ok (.iload_n 1, 1) := by decide +kernel
theorem dX6_put_5 : decode cX6_put 5 = .ok (.aload_n 0, 1) := by decide +kernel
theorem dX6_put_6 : decode cX6_put 6 = .ok (.getfield 7, 3) := by decide +kernel
theorem dX6_put_9 : decode cX6_put 9 = .ok (.arraylength, 1) := by decide +kernel
theorem dX6_put_10 : decode cX6_put 10 = .ok (.if_icmp .ge 10, 3) := by decide +kernel
theorem dX6_put_13 : decode cX6_put 13 = .ok (.aload_n 0, 1) := by decide +kernel
theorem dX6_put_14 : decode cX6_put 14 = .ok (.getfield 7, 3) := by decide +kernel
theorem dX6_put_17 : decode cX6_put 17 = .ok (.iload_n 1, 1) := by decide +kernel
theorem dX6_put_18 : decode cX6_put 18 = .ok (.iload_n 2, 1) := by decide +kernel
theorem dX6_put_19 : decode cX6_put 19 = .ok (.iastore, 1) := by decide +kernel
theorem dX6_put_20 : decode cX6_put 20 = .ok (.return_, 1) := by decide +kernel
theorem dX6_fill_0 : decode cX6_fill 0 = .ok (.iconst 0, 1) := by decide +kernel
theorem dX6_fill_1 : decode cX6_fill 1 = .ok (.istore_n 2, 1) := by decide +kernel
theorem dX6_fill_2 : decode cX6_fill 2 = .ok (.iload_n 2, 1) := by decide +kernel
theorem dX6_fill_3 : decode cX6_fill 3 = .ok (.aload_n 0, 1) := by decide +kernel
theorem dX6_fill_4 : decode cX6_fill 4 = .ok (.getfield 7, 3) := by decide +kernel
theorem dX6_fill_7 : decode cX6_fill 7 = .ok (.arraylength, 1) := by decide +kernel
theorem dX6_fill_8 : decode cX6_fill 8 = .ok (.if_icmp .ge 16, 3) := by decide +kernel
theorem dX6_fill_11 : decode cX6_fill 11 = .ok (.aload_n 0, 1) := by decide +kernel
theorem dX6_fill_12 : decode cX6_fill 12 = .ok (.getfield 7, 3) := by decide +kernel
theorem dX6_fill_15 : decode cX6_fill 15 = .ok (.iload_n 2, 1) := by decide +kernel
theorem dX6_fill_16 : decode cX6_fill 16 = .ok (.iload_n 1, 1) := by decide +kernel
theorem dX6_fill_17 : decode cX6_fill 17 = .ok (.iastore, 1) := by decide +kernel
theorem dX6_fill_18 : decode cX6_fill 18 = .ok (.iinc 2 1, 3) := by decide +kernel
theorem dX6_fill_21 : decode cX6_fill 21 = .ok (.goto (-19), 3) := by decide +kernel
theorem dX6_fill_24 : decode cX6_fill 24 = .ok (.return_, 1) := by decide +kernel
set_option maxRecDepth 20000 in
theorem ggX0_init_X6_init : GoodIn wsX0_init wsX6_init := goodIn_r _ [10, 11, 2, 3, 12, 13, 14] (by decide +kernel) (by decide +kernel)
set_option maxRecDepth 20000 in
theorem gX0_init_X6_init : GoodIn wsX0_init (wsX6_init) := ggX0_init_X6_init
theorem dX0_init_0 : decode cX0_init 0 = .ok (.aload_n 0, 1) := by decide +kernel
theorem dX0_init_1 : decode cX0_init 1 = .ok (.invokespecial 3, 3) := by decide +kernel
theorem dX0_init_4 : decode cX0_init 4 = .ok (.aload_n 0, 1) := by decide +kernel
theorem dX0_init_5 : decode cX0_init 5 = .ok (.new 9, 3) := by decide +kernel
theorem dX0_init_8 : decode cX0_init 8 = .ok (.dup, 1) := by decide +kernel
theorem dX0_init_9 : decode cX0_init 9 = .ok (.sipush 3072, 3) := by decide +kernel
theorem dX0_init_12 : decode cX0_init 12 = .ok (.invokespecial 13, 3) := by decide +kernel
theorem dX0_init_15 : decode cX0_init 15 = .ok (.putfield 16, 3) := by decide +kernel
theorem dX0_init_18 : decode cX0_init 18 = .ok (.return_, 1) := by decide +kernel
theorem dX0_count_0 : decode cX0_count 0 = .ok (.aload_n 0, 1) := by decide +kernel
theorem dX0_count_1 : decode cX0_count 1 = .ok (.getfield 20, 3) := by decide +kernel
theorem dX0_count_4 : decode cX0_count 4 = .ok (.ireturn, 1) := by decide +kernel
set_option maxRecDepth 20000 in
theorem ggX0_write_X6_put : GoodIn wsX0_write wsX6_put := goodIn_r _ [7, 8, 11] (by decide +kernel) (by decide +kernel)
set_option maxRecDepth 20000 in
theorem gX0_write_X6_put : GoodIn wsX0_write (wsV RX0 24 RX6 yX6_put wsX6_put) := goodIn_app (goodIn_of _ (by decide +kernel)) ggX0_write_X6_put
theorem dX0_write_0 : decode cX0_write 0 = .ok (.aload_n 0, 1) := by decide +kernel
theorem dX0_write_1 : decode cX0_write 1 = .ok (.getfield 20, 3) := by decide +kernel
theorem dX0_write_4 : decode cX0_write 4 = .ok (.sipush 512, 3) := by decide +kernel
theorem dX0_write_7 : decode cX0_write 7 = .ok (.if_icmp .lt 5, 3) := by decide +kernel
theorem dX0_write_10 : decode cX0_write 10 = .ok (.iconst (-1), 1) := by decide +kernel
theorem dX0_write_11 : decode cX0_write 11 = .ok (.ireturn, 1) := by decide +kernel
theorem dX0_write_12 : decode cX0_write 12 = .ok (.aload_n 0, 1) := by decide +kernel
theorem dX0_write_13 : decode cX0_write 13 = .ok (.getfield 20, 3) := by decide +kernel
theorem dX0_write_16 : decode cX0_write 16 = .ok (.bipush 6, 2) := by decide +kernel
theorem dX0_write_18 : decode cX0_write 18 = .ok (.imul, 1) := by decide +kernel
theorem dX0_write_19 : decode cX0_write 19 = .ok (.istore 7, 2) := by decide +kernel
theorem dX0_write_21 : decode cX0_write 21 = .ok (.aload_n 0, 1) := by decide +kernel
theorem dX0_write_22 : decode cX0_write 22 = .ok (.getfield 16, 3) := by decide +kernel
theorem dX0_write_25 : decode cX0_write 25 = .ok (.iload 7, 2) := by decide +kernel
theorem dX0_write_27 : decode cX0_write 27 = .ok (.iload_n 1, 1) := by decide +kernel
theorem dX0_write_28 : decode cX0_write 28 = .ok (.invokevirtual 24, 3) := by decide +kernel
theorem dX0_write_31 : decode cX0_write 31 = .ok (.aload_n 0, 1) := by decide +kernel
theorem dX0_write_32 : decode cX0_write 32 = .ok (.getfield 16, 3) := by decide +kernel
theorem dX0_write_35 : decode cX0_write 35 = .ok (.iload 7, 2) := by decide +kernel
theorem dX0_write_37 : decode cX0_write 37 = .ok (.iconst 1, 1) := by decide +kernel
theorem dX0_write_38 : decode cX0_write 38 = .ok (.iadd, 1) := by decide +kernel
theorem dX0_write_39 : decode cX0_write 39 = .ok (.iload_n 2, 1) := by decide +kernel
theorem dX0_write_40 : decode cX0_write 40 = .ok (.invokevirtual 24, 3) := by decide +kernel
theorem dX0_write_43 : decode cX0_write 43 = .ok (.aload_n 0, 1) := by decide +kernel
theorem dX0_write_44 : decode cX0_write 44 = .ok (.getfield 16, 3) := by decide +kernel
theorem dX0_write_47 : decode cX0_write 47 = .ok (.iload 7, 2) := by decide +kernel
theorem dX0_write_49 : decode cX0_write 49 = .ok (.iconst 2, 1) := by decide +kernel
theorem dX0_write_50 : decode cX0_write 50 = .ok (.iadd, 1) := by decide +kernel
theorem dX0_write_51 : decode cX0_write 51 = .ok (.iload_n 3, 1) := by decide +kernel
theorem dX0_write_52 : decode cX0_write 52 = .ok (.invokevirtual 24, 3) := by decide +kernel
theorem dX0_write_55 : decode cX0_write 55 = .ok (.aload_n 0, 1) := by decide +kernel
theorem dX0_write_56 : decode cX0_write 56 = .ok (.getfield 16, 3) := by decide +kernel
theorem dX0_write_59 : decode cX0_write 59 = .ok (.iload 7, 2) := by decide +kernel
theorem dX0_write_61 : decode cX0_write 61 = .ok (.iconst 3, 1) := by decide +kernel
theorem dX0_write_62 : decode cX0_write 62 = .ok (.iadd, 1) := by decide +kernel
theorem dX0_write_63 : decode cX0_write 63 = .ok (.iload 4, 2) := by decide +kernel
theorem dX0_write_65 : decode cX0_write 65 = .ok (.invokevirtual 24, 3) := by decide +kernel
theorem dX0_write_68 : decode cX0_write 68 = .ok (.aload_n 0, 1) := by decide +kernel
theorem dX0_write_69 : decode cX0_write 69 = .ok (.getfield 16, 3) := by decide +kernel
theorem dX0_write_72 : decode cX0_write 72 = .ok (.iload 7, 2) := by decide +kernel
theorem dX0_write_74 : decode cX0_write 74 = .ok (.iconst 4, 1) := by decide +kernel
theorem dX0_write_75 : decode cX0_write 75 = .ok (.iadd, 1) := by decide +kernel
theorem dX0_write_76 : decode cX0_write 76 = .ok (.iload 5, 2) := by decide +kernel
theorem dX0_write_78 : decode cX0_write 78 = .ok (.invokevirtual 24, 3) := by decide +kernel
theorem dX0_write_81 : decode cX0_write 81 = .ok (.aload_n 0, 1) := by decide +kernel
theorem dX0_write_82 : decode cX0_write 82 = .ok (.getfield 16, 3) := by decide +kernel
theorem dX0_write_85 : decode cX0_write 85 = .ok (.iload 7, 2) := by decide +kernel
theorem dX0_write_87 : decode cX0_write 87 = .ok (.iconst 5, 1) := by decide +kernel
theorem dX0_write_88 : decode cX0_write 88 = .ok (.iadd, 1) := by decide +kernel
theorem dX0_write_89 : decode cX0_write 89 = .ok (.iload 6, 2) := by decide +kernel
theorem dX0_write_91 : decode cX0_write 91 = .ok (.invokevirtual 24, 3) := by decide +kernel
theorem dX0_write_94 : decode cX0_write 94 = .ok (.aload_n 0, 1) := by decide +kernel
theorem dX0_write_95 : decode cX0_write 95 = .ok (.dup, 1) := by decide +kernel
theorem dX0_write_96 : decode cX0_write 96 = .ok (.getfield 20, 3) := by decide +kernel
theorem dX0_write_99 : decode cX0_write 99 = .ok (.iconst 1, 1) := by decide +kernel
theorem dX0_write_100 : decode cX0_write 100 = .ok (.iadd, 1) := by decide +kernel
theorem dX0_write_101 : decode cX0_write 101 = .ok (.putfield 20, 3) := by decide +kernel
theorem dX0_write_104 : decode cX0_write 104 = .ok (.aload_n 0, 1) := by decide +kernel
theorem dX0_write_105 : decode cX0_write 105 = .ok (.getfield 20, 3) := by decide +kernel
theorem dX0_write_108 : decode cX0_write 108 = .ok (.iconst 1, 1) := by decide +kernel
theorem dX0_write_109 : decode cX0_write 109 = .ok (.isub, 1) := by decide +kernel
theorem dX0_write_110 : decode cX0_write 110 = .ok (.ireturn, 1) := by decide +kernel
set_option maxRecDepth 20000 in
theorem ggX0_wordOf_X6_at : GoodIn wsX0_wordOf wsX6_at := goodIn_r _ [6, 7, 10] (by decide +kernel) (by decide +kernel)
set_option maxRecDepth 20000 in
theorem gX0_wordOf_X6_at : GoodIn wsX0_wordOf (wsV RX0 28 RX6 yX6_at wsX6_at) := goodIn_app (goodIn_of _ (by decide +kernel)) ggX0_wordOf_X6_at
theorem dX0_wordOf_0 : decode cX0_wordOf 0 = .ok (.aload_n 0, 1) := by decide +kernel
theorem dX0_wordOf_1 : decode cX0_wordOf 1 = .ok (.getfield 16, 3) := by decide +kernel
theorem dX0_wordOf_4 : decode cX0_wordOf 4 = .ok (.iload_n 1, 1) := by decide +kernel
theorem dX0_wordOf_5 : decode cX0_wordOf 5 = .ok (.bipush 6, 2) := by decide +kernel
theorem dX0_wordOf_7 : decode cX0_wordOf 7 = .ok (.imul, 1) := by decide +kernel
theorem dX0_wordOf_8 : decode cX0_wordOf 8 = .ok (.iload_n 2, 1) := by decide +kernel
theorem dX0_wordOf_9 : decode cX0_wordOf 9 = .ok (.iadd, 1) := by decide +kernel
theorem dX0_wordOf_10 : decode cX0_wordOf 10 = .ok (.invokevirtual 28, 3) := by decide +kernel
theorem dX0_wordOf_13 : decode cX0_wordOf 13 = .ok (.ireturn, 1) := by decide +kernel
theorem dX1_versionOf_0 : decode cX1_versionOf 0 = .ok (.iload_n 0, 1) := by decide +kernel
theorem dX1_versionOf_1 : decode cX1_versionOf 1 = .ok (.iconst 2, 1) := by decide +kernel
theorem dX1_versionOf_2 : decode cX1_versionOf 2 = .ok (.iload_n 1, 1) := by decide +kernel
theorem dX1_versionOf_3 : decode cX1_versionOf 3 = .ok (.imul, 1) := by decide +kernel
theorem dX1_versionOf_4 : decode cX1_versionOf 4 = .ok (.ishr, 1) := by decide +kernel
theorem dX1_versionOf_5 : decode cX1_versionOf 5 = .ok (.iconst 3, 1) := by decide +kernel
theorem dX1_versionOf_6 : decode cX1_versionOf 6 = .ok (.iand, 1) := by decide +kernel
theorem dX1_versionOf_7 : decode cX1_versionOf 7 = .ok (.ireturn, 1) := by decide +kernel
theorem dX1_with_0 : decode cX1_with 0 = .ok (.iload_n 0, 1) := by decide +kernel
theorem dX1_with_1 : decode cX1_with 1 = .ok (.iload_n 2, 1) := by decide +kernel
theorem dX1_with_2 : decode cX1_with 2 = .ok (.iconst 2, 1) := by decide +kernel
theorem dX1_with_3 : decode cX1_with 3 = .ok (.iload_n 1, 1) := by decide +kernel
theorem dX1_with_4 : decode cX1_with 4 = .ok (.imul, 1) := by decide +kernel
theorem dX1_with_5 : decode cX1_with 5 = .ok (.ishl, 1) := by decide +kernel
theorem dX1_with_6 : decode cX1_with 6 = .ok (.ior, 1) := by decide +kernel
theorem dX1_with_7 : decode cX1_with 7 = .ok (.ireturn, 1) := by decide +kernel
set_option maxRecDepth 20000 in
theorem ggX3_init_X6_init : GoodIn wsX3_init wsX6_init := goodIn_r _ [15, 16, 2, 3, 17, 18, 19] (by decide +kernel) (by decide +kernel)
set_option maxRecDepth 20000 in
theorem gX3_init_X6_init : GoodIn wsX3_init (wsX6_init) := ggX3_init_X6_init
theorem dX3_init_0 : decode cX3_init 0 = .ok (.aload_n 0, 1) := by decide +kernel
theorem dX3_init_1 : decode cX3_init 1 = .ok (.invokespecial 3, 3) := by decide +kernel
theorem dX3_init_4 : decode cX3_init 4 = .ok (.aload_n 0, 1) := by decide +kernel
theorem dX3_init_5 : decode cX3_init 5 = .ok (.new 9, 3) := by decide +kernel
theorem dX3_init_8 : decode cX3_init 8 = .ok (.dup, 1) := by decide +kernel
theorem dX3_init_9 : decode cX3_init 9 = .ok (.bipush 8, 2) := by decide +kernel
theorem dX3_init_11 : decode cX3_init 11 = .ok (.invokespecial 11, 3) := by decide +kernel
theorem dX3_init_14 : decode cX3_init 14 = .ok (.putfield 14, 3) := by decide +kernel
theorem dX3_init_17 : decode cX3_init 17 = .ok (.aload_n 0, 1) := by decide +kernel
theorem dX3_init_18 : decode cX3_init 18 = .ok (.new 9, 3) := by decide +kernel
theorem dX3_init_21 : decode cX3_init 21 = .ok (.dup, 1) := by decide +kernel
theorem dX3_init_22 : decode cX3_init 22 = .ok (.bipush 24, 2) := by decide +kernel
theorem dX3_init_24 : decode cX3_init 24 = .ok (.invokespecial 11, 3) := by decide +kernel
theorem dX3_init_27 : decode cX3_init 27 = .ok (.putfield 20, 3) := by decide +kernel
theorem dX3_init_30 : decode cX3_init 30 = .ok (.aload_n 0, 1) := by decide +kernel
theorem dX3_init_31 : decode cX3_init 31 = .ok (.new 9, 3) := by decide +kernel
theorem dX3_init_34 : decode cX3_init 34 = .ok (.dup, 1) := by decide +kernel
theorem dX3_init_35 : decode cX3_init 35 = .ok (.bipush 24, 2) := by decide +kernel
theorem dX3_init_37 : decode cX3_init 37 = .ok (.invokespecial 11, 3) := by decide +kernel
theorem dX3_init_40 : decode cX3_init 40 = .ok (.putfield 23, 3) := by decide +kernel
theorem dX3_init_43 : decode cX3_init 43 = .ok (.aload_n 0, 1) := by decide +kernel
theorem dX3_init_44 : decode cX3_init 44 = .ok (.new 9, 3) := by decide +kernel
theorem dX3_init_47 : decode cX3_init 47 = .ok (.dup, 1) := by decide +kernel
theorem dX3_init_48 : decode cX3_init 48 = .ok (.bipush 24, 2) := by decide +kernel
theorem dX3_init_50 : decode cX3_init 50 = .ok (.invokespecial 11, 3) := by decide +kernel
theorem dX3_init_53 : decode cX3_init 53 = .ok (.putfield 26, 3) := by decide +kernel
theorem dX3_init_56 : decode cX3_init 56 = .ok (.aload_n 0, 1) := by decide +kernel
theorem dX3_init_57 : decode cX3_init 57 = .ok (.new 9, 3) := by decide +kernel
theorem dX3_init_60 : decode cX3_init 60 = .ok (.dup, 1) := by decide +kernel
theorem dX3_init_61 : decode cX3_init 61 = .ok (.bipush 96, 2) := by decide +kernel
theorem dX3_init_63 : decode cX3_init 63 = .ok (.invokespecial 11, 3) := by decide +kernel
theorem dX3_init_66 : decode cX3_init 66 = .ok (.putfield 29, 3) := by decide +kernel
theorem dX3_init_69 : decode cX3_init 69 = .ok (.aload_n 0, 1) := by decide +kernel
theorem dX3_init_70 : decode cX3_init 70 = .ok (.new 9, 3) := by decide +kernel
theorem dX3_init_73 : decode cX3_init 73 = .ok (.dup, 1) := by decide +kernel
theorem dX3_init_74 : decode cX3_init 74 = .ok (.bipush 96, 2) := by decide +kernel
theorem dX3_init_76 : decode cX3_init 76 = .ok (.invokespecial 11, 3) := by decide +kernel
theorem dX3_init_79 : decode cX3_init 79 = .ok (.putfield 32, 3) := by decide +kernel
theorem dX3_init_82 : decode cX3_init 82 = .ok (.return_, 1) := by decide +kernel
set_option maxRecDepth 20000 in
theorem ggX3_clear_X6_fill : GoodIn wsX3_clear wsX6_fill := goodIn_r _ [6, 7, 14] (by decide +kernel) (by decide +kernel)
set_option maxRecDepth 20000 in
theorem gX3_clear_X6_fill : GoodIn wsX3_clear (wsV RX3 35 RX6 yX6_fill wsX6_fill) := goodIn_app (goodIn_of _ (by decide +kernel)) ggX3_clear_X6_fill
theorem dX3_clear_0 : decode cX3_clear 0 = .ok (.aload_n 0, 1) := by decide +kernel
theorem dX3_clear_1 : decode cX3_clear 1 = .ok (.getfield 14, 3) := by decide +kernel
theorem dX3_clear_4 : decode cX3_clear 4 = .ok (.iconst 0, 1) := by decide +kernel
theorem dX3_clear_5 : decode cX3_clear 5 = .ok (.invokevirtual 35, 3) := by decide +kernel
theorem dX3_clear_8 : decode cX3_clear 8 = .ok (.return_, 1) := by decide +kernel
set_option maxRecDepth 20000 in
theorem ggX3_countOf_X6_at : GoodIn wsX3_countOf wsX6_at := goodIn_r _ [6, 7, 14] (by decide +kernel) (by decide +kernel)
set_option maxRecDepth 20000 in
theorem gX3_countOf_X6_at : GoodIn wsX3_countOf (wsV RX3 38 RX6 yX6_at wsX6_at) := goodIn_app (goodIn_of _ (by decide +kernel)) ggX3_countOf_X6_at
theorem dX3_countOf_0 : decode cX3_countOf 0 = .ok (.aload_n 0, 1) := by decide +kernel
theorem dX3_countOf_1 : decode cX3_countOf 1 = .ok (.getfield 14, 3) := by decide +kernel
theorem dX3_countOf_4 : decode cX3_countOf 4 = .ok (.iload_n 1, 1) := by decide +kernel
theorem dX3_countOf_5 : decode cX3_countOf 5 = .ok (.invokevirtual 38, 3) := by decide +kernel
theorem dX3_countOf_8 : decode cX3_countOf 8 = .ok (.ireturn, 1) := by decide +kernel
set_option maxRecDepth 20000 in
theorem ggX3_addVersion_X6_at : GoodIn wsX3_addVersion wsX6_at := goodIn_r _ [9, 10, 25] (by decide +kernel) (by decide +kernel)
set_option maxRecDepth 20000 in
theorem gX3_addVersion_X6_at : GoodIn wsX3_addVersion (wsV RX3 38 RX6 yX6_at wsX6_at) := goodIn_app (goodIn_of _ (by decide +kernel)) ggX3_addVersion_X6_at
set_option maxRecDepth 20000 in
theorem ggX3_addVersion_X3_placeOf : GoodIn wsX3_addVersion wsX3_placeOf := goodIn_r _ [14] (by decide +kernel) (by decide +kernel)
set_option maxRecDepth 20000 in
theorem gX3_addVersion_X3_placeOf : GoodIn wsX3_addVersion (va_wsS RX3 42 yX3_placeOf wsX3_placeOf) := goodIn_app (goodIn_of _ (by decide +kernel)) ggX3_addVersion_X3_placeOf
set_option maxRecDepth 20000 in
theorem ggX3_addVersion_X6_put : GoodIn wsX3_addVersion wsX6_put := goodIn_r _ [18, 10, 25] (by decide +kernel) (by decide +kernel)
set_option maxRecDepth 20000 in
theorem gX3_addVersion_X6_put : GoodIn wsX3_addVersion (wsV RX3 46 RX6 yX6_put wsX6_put) := goodIn_app (goodIn_of _ (by decide +kernel)) ggX3_addVersion_X6_put
theorem dX3_addVersion_0 : decode cX3_addVersion 0 = .ok (.aload_n 0, 1) := by decide +kernel
theorem dX3_addVersion_1 : decode cX3_addVersion 1 = .ok (.getfield 14, 3) := by decide +kernel
theorem dX3_addVersion_4 : decode cX3_addVersion 4 = .ok (.iload_n 1, 1) := by decide +kernel
theorem dX3_addVersion_5 : decode cX3_addVersion 5 = .ok (.invokevirtual 38, 3) := by decide +kernel
theorem dX3_addVersion_8 : decode cX3_addVersion 8 = .ok (.iconst 1, 1) := by decide +kernel
theorem dX3_addVersion_9 : decode cX3_addVersion 9 = .ok (.iadd, 1) := by decide +kernel
theorem dX3_addVersion_10 : decode cX3_addVersion 10 = .ok (.istore_n 3, 1) := by decide +kernel
theorem dX3_addVersion_11 : decode cX3_addVersion 11 = .ok (.iload_n 1, 1) := by decide +kernel
theorem dX3_addVersion_12 : decode cX3_addVersion 12 = .ok (.iload_n 3, 1) := by decide +kernel
theorem dX3_addVersion_13 : decode cX3_addVersion 13 = .ok (.invokestatic 42, 3) := by decide +kernel
theorem dX3_addVersion_16 : decode cX3_addVersion 16 = .ok (.istore 4, 2) := by decide +kernel
theorem dX3_addVersion_18 : decode cX3_addVersion 18 = .ok (.aload_n 0, 1) := by decide +kernel
theorem dX3_addVersion_19 : decode cX3_addVersion 19 = .ok (.getfield 14, 3) := by decide +kernel
theorem dX3_addVersion_22 : decode cX3_addVersion 22 = .ok (.iload_n 1, 1) := by decide +kernel
theorem dX3_addVersion_23 : decode cX3_addVersion 23 = .ok (.iload_n 3, 1) := by decide +kernel
theorem dX3_addVersion_24 : decode cX3_addVersion 24 = .ok (.invokevirtual 46, 3) := by decide +kernel
theorem dX3_addVersion_27 : decode cX3_addVersion 27 = .ok (.aload_n 0, 1) := by decide +kernel
theorem dX3_addVersion_28 : decode cX3_addVersion 28 = .ok (.getfield 20, 3) := by decide +kernel
theorem dX3_addVersion_31 : decode cX3_addVersion 31 = .ok (.iload 4, 2) := by decide +kernel
theorem dX3_addVersion_33 : decode cX3_addVersion 33 = .ok (.iload_n 2, 1) := by decide +kernel
theorem dX3_addVersion_34 : decode cX3_addVersion 34 = .ok (.invokevirtual 46, 3) := by decide +kernel
theorem dX3_addVersion_37 : decode cX3_addVersion 37 = .ok (.aload_n 0, 1) := by decide +kernel
theorem dX3_addVersion_38 : decode cX3_addVersion 38 = .ok (.getfield 23, 3) := by decide +kernel
theorem dX3_addVersion_41 : decode cX3_addVersion 41 = .ok (.iload 4, 2) := by decide +kernel
theorem dX3_addVersion_43 : decode cX3_addVersion 43 = .ok (.iconst 0, 1) := by decide +kernel
theorem dX3_addVersion_44 : decode cX3_addVersion 44 = .ok (.invokevirtual 46, 3) := by decide +kernel
theorem dX3_addVersion_47 : decode cX3_addVersion 47 = .ok (.aload_n 0, 1) := by decide +kernel
theorem dX3_addVersion_48 : decode cX3_addVersion 48 = .ok (.getfield 26, 3) := by decide +kernel
theorem dX3_addVersion_51 : decode cX3_addVersion 51 = .ok (.iload 4, 2) := by decide +kernel
theorem dX3_addVersion_53 : decode cX3_addVersion 53 = .ok (.iconst 0, 1) := by decide +kernel
theorem dX3_addVersion_54 : decode cX3_addVersion 54 = .ok (.invokevirtual 46, 3) := by decide +kernel
theorem dX3_addVersion_57 : decode cX3_addVersion 57 = .ok (.iload_n 3, 1) := by decide +kernel
theorem dX3_addVersion_58 : decode cX3_addVersion 58 = .ok (.ireturn, 1) := by decide +kernel
set_option maxRecDepth 20000 in
theorem ggX3_needsOf_X3_placeOf : GoodIn wsX3_needsOf wsX3_placeOf := goodIn_r _ [5] (by decide +kernel) (by decide +kernel)
set_option maxRecDepth 20000 in
theorem gX3_needsOf_X3_placeOf : GoodIn wsX3_needsOf (va_wsS RX3 42 yX3_placeOf wsX3_placeOf) := goodIn_app (goodIn_of _ (by decide +kernel)) ggX3_needsOf_X3_placeOf
set_option maxRecDepth 20000 in
theorem ggX3_needsOf_X6_at : GoodIn wsX3_needsOf wsX6_at := goodIn_r _ [10, 11, 18] (by decide +kernel) (by decide +kernel)
set_option maxRecDepth 20000 in
theorem gX3_needsOf_X6_at : GoodIn wsX3_needsOf (wsV RX3 38 RX6 yX6_at wsX6_at) := goodIn_app (goodIn_of _ (by decide +kernel)) ggX3_needsOf_X6_at
theorem dX3_needsOf_0 : decode cX3_needsOf 0 = .ok (.aload_n 0, 1) := by decide +kernel
theorem dX3_needsOf_1 : decode cX3_needsOf 1 = .ok (.getfield 26, 3) := by decide +kernel
theorem dX3_needsOf_4 : decode cX3_needsOf 4 = .ok (.iload_n 1, 1) := by decide +kernel
theorem dX3_needsOf_5 : decode cX3_needsOf 5 = .ok (.iload_n 2, 1) := by decide +kernel
theorem dX3_needsOf_6 : decode cX3_needsOf 6 = .ok (.invokestatic 42, 3) := by decide +kernel
theorem dX3_needsOf_9 : decode cX3_needsOf 9 = .ok (.invokevirtual 38, 3) := by decide +kernel
theorem dX3_needsOf_12 : decode cX3_needsOf 12 = .ok (.ireturn, 1) := by decide +kernel
set_option maxRecDepth 20000 in
theorem ggX3_addNeed_X3_placeOf : GoodIn wsX3_addNeed wsX3_placeOf := goodIn_r _ [7] (by decide +kernel) (by decide +kernel)
set_option maxRecDepth 20000 in
theorem gX3_addNeed_X3_placeOf : GoodIn wsX3_addNeed (va_wsS RX3 42 yX3_placeOf wsX3_placeOf) := goodIn_app (goodIn_of _ (by decide +kernel)) ggX3_addNeed_X3_placeOf
set_option maxRecDepth 20000 in
theorem ggX3_addNeed_X6_at : GoodIn wsX3_addNeed wsX6_at := goodIn_r _ [12, 13, 27] (by decide +kernel) (by decide +kernel)
set_option maxRecDepth 20000 in
theorem gX3_addNeed_X6_at : GoodIn wsX3_addNeed (wsV RX3 38 RX6 yX6_at wsX6_at) := goodIn_app (goodIn_of _ (by decide +kernel)) ggX3_addNeed_X6_at
set_option maxRecDepth 20000 in
theorem ggX3_addNeed_X6_put : GoodIn wsX3_addNeed wsX6_put := goodIn_r _ [17, 13, 27] (by decide +kernel) (by decide +kernel)
set_option maxRecDepth 20000 in
theorem gX3_addNeed_X6_put : GoodIn wsX3_addNeed (wsV RX3 46 RX6 yX6_put wsX6_put) := goodIn_app (goodIn_of _ (by decide +kernel)) ggX3_addNeed_X6_put
set_option maxRecDepth 20000 in
theorem ggX3_addNeed_X3_versionSet : GoodIn wsX3_addNeed wsX3_versionSet := goodIn_r _ [20] (by decide +kernel) (by decide +kernel)
set_option maxRecDepth 20000 in
theorem gX3_addNeed_X3_versionSet : GoodIn wsX3_addNeed (va_wsS RX3 50 yX3_versionSet wsX3_versionSet) := goodIn_app (goodIn_of _ (by decide +kernel)) ggX3_addNeed_X3_versionSet
theorem dX3_addNeed_0 : decode cX3_addNeed 0 = .ok (.iload_n 1, 1) := by decide +kernel
theorem dX3_addNeed_1 : decode cX3_addNeed 1 = .ok (.iload_n 2, 1) := by decide +kernel
theorem dX3_addNeed_2 : decode cX3_addNeed 2 = .ok (.invokestatic 42, 3) := by decide +kernel
theorem dX3_addNeed_5 : decode cX3_addNeed 5 = .ok (.istore 6, 2) := by decide +kernel
theorem dX3_addNeed_7 : decode cX3_addNeed 7 = .ok (.aload_n 0, 1) := by decide +kernel
theorem dX3_addNeed_8 : decode cX3_addNeed 8 = .ok (.getfield 26, 3) := by decide +kernel
theorem dX3_addNeed_11 : decode cX3_addNeed 11 = .ok (.iload 6, 2) := by decide +kernel
theorem dX3_addNeed_13 : decode cX3_addNeed 13 = .ok (.invokevirtual 38, 3) := by decide +kernel
theorem dX3_addNeed_16 : decode cX3_addNeed 16 = .ok (.istore 7, 2) := by decide +kernel
theorem dX3_addNeed_18 : decode cX3_addNeed 18 = .ok (.aload_n 0, 1) := by decide +kernel
theorem dX3_addNeed_19 : decode cX3_addNeed 19 = .ok (.getfield 29, 3) := by decide +kernel
theorem dX3_addNeed_22 : decode cX3_addNeed 22 = .ok (.iload 6, 2) := by decide +kernel
theorem dX3_addNeed_24 : decode cX3_addNeed 24 = .ok (.iconst 4, 1) := by decide +kernel
theorem dX3_addNeed_25 : decode cX3_addNeed 25 = .ok (.imul, 1) := by decide +kernel
theorem dX3_addNeed_26 : decode cX3_addNeed 26 = .ok (.iload 7, 2) := by decide +kernel
theorem dX3_addNeed_28 : decode cX3_addNeed 28 = .ok (.iadd, 1) := by decide +kernel
theorem dX3_addNeed_29 : decode cX3_addNeed 29 = .ok (.iload_n 3, 1) := by decide +kernel
theorem dX3_addNeed_30 : decode cX3_addNeed 30 = .ok (.invokevirtual 46, 3) := by decide +kernel
theorem dX3_addNeed_33 : decode cX3_addNeed 33 = .ok (.aload_n 0, 1) := by decide +kernel
theorem dX3_addNeed_34 : decode cX3_addNeed 34 = .ok (.getfield 32, 3) := by decide +kernel
theorem dX3_addNeed_37 : decode cX3_addNeed 37 = .ok (.iload 6, 2) := by decide +kernel
theorem dX3_addNeed_39 : decode cX3_addNeed 39 = .ok (.iconst 4, 1) := by decide +kernel
theorem dX3_addNeed_40 : decode cX3_addNeed 40 = .ok (.imul, 1) := by decide +kernel
theorem dX3_addNeed_41 : decode cX3_addNeed 41 = .ok (.iload 7, 2) := by decide +kernel
theorem dX3_addNeed_43 : decode cX3_addNeed 43 = .ok (.iadd, 1) := by decide +kernel
theorem dX3_addNeed_44 : decode cX3_addNeed 44 = .ok (.iload 4, 2) := by decide +kernel
theorem dX3_addNeed_46 : decode cX3_addNeed 46 = .ok (.iload 5, 2) := by decide +kernel
theorem dX3_addNeed_48 : decode cX3_addNeed 48 = .ok (.invokestatic 50, 3) := by decide +kernel
theorem dX3_addNeed_51 : decode cX3_addNeed 51 = .ok (.invokevirtual 46, 3) := by decide +kernel
theorem dX3_addNeed_54 : decode cX3_addNeed 54 = .ok (.aload_n 0, 1) := by decide +kernel
theorem dX3_addNeed_55 : decode cX3_addNeed 55 = .ok (.getfield 26, 3) := by decide +kernel
theorem dX3_addNeed_58 : decode cX3_addNeed 58 = .ok (.iload 6, 2) := by decide +kernel
theorem dX3_addNeed_60 : decode cX3_addNeed 60 = .ok (.iload 7, 2) := by decide +kernel
theorem dX3_addNeed_62 : decode cX3_addNeed 62 = .ok (.iconst 1, 1) := by decide +kernel
theorem dX3_addNeed_63 : decode cX3_addNeed 63 = .ok (.iadd, 1) := by decide +kernel
theorem dX3_addNeed_64 : decode cX3_addNeed 64 = .ok (.invokevirtual 46, 3) := by decide +kernel
theorem dX3_addNeed_67 : decode cX3_addNeed 67 = .ok (.iload 7, 2) := by decide +kernel
theorem dX3_addNeed_69 : decode cX3_addNeed 69 = .ok (.iconst 1, 1) := by decide +kernel
theorem dX3_addNeed_70 : decode cX3_addNeed 70 = .ok (.iadd, 1) := by decide +kernel
theorem dX3_addNeed_71 : decode cX3_addNeed 71 = .ok (.ireturn, 1) := by decide +kernel
set_option maxRecDepth 20000 in
theorem ggX3_neededPart_X3_placeOf : GoodIn wsX3_neededPart wsX3_placeOf := goodIn_r _ [5] (by decide +kernel) (by decide +kernel)
set_option maxRecDepth 20000 in
theorem gX3_neededPart_X3_placeOf : GoodIn wsX3_neededPart (va_wsS RX3 42 yX3_placeOf wsX3_placeOf) := goodIn_app (goodIn_of _ (by decide +kernel)) ggX3_neededPart_X3_placeOf
set_option maxRecDepth 20000 in
theorem ggX3_neededPart_X6_at : GoodIn wsX3_neededPart wsX6_at := goodIn_r _ [10, 11, 18] (by decide +kernel) (by decide +kernel)
set_option maxRecDepth 20000 in
theorem gX3_neededPart_X6_at : GoodIn wsX3_neededPart (wsV RX3 38 RX6 yX6_at wsX6_at) := goodIn_app (goodIn_of _ (by decide +kernel)) ggX3_neededPart_X6_at
theorem dX3_neededPart_0 : decode cX3_neededPart 0 = .ok (.aload_n 0, 1) := by decide +kernel
theorem dX3_neededPart_1 : decode cX3_neededPart 1 = .ok (.getfield 29, 3) := by decide +kernel
theorem dX3_neededPart_4 : decode cX3_neededPart 4 = .ok (.iload_n 1, 1) := by decide +kernel
theorem dX3_neededPart_5 : decode cX3_neededPart 5 = .ok (.iload_n 2, 1) := by decide +kernel
theorem dX3_neededPart_6 : decode cX3_neededPart 6 = .ok (.invokestatic 42, 3) := by decide +kernel
theorem dX3_neededPart_9 : decode cX3_neededPart 9 = .ok (.iconst 4, 1) := by decide +kernel
theorem dX3_neededPart_10 : decode cX3_neededPart 10 = .ok (.imul, 1) := by decide +kernel
theorem dX3_neededPart_11 : decode cX3_neededPart 11 = .ok (.iload_n 3, 1) := by decide +kernel
theorem dX3_neededPart_12 : decode cX3_neededPart 12 = .ok (.iadd, 1) := by decide +kernel
theorem dX3_neededPart_13 : decode cX3_neededPart 13 = .ok (.invokevirtual 38, 3) := by decide +kernel
theorem dX3_neededPart_16 : decode cX3_neededPart 16 = .ok (.ireturn, 1) := by decide +kernel
set_option maxRecDepth 20000 in
theorem ggX3_neededVersions_X3_placeOf : GoodIn wsX3_neededVersions wsX3_placeOf := goodIn_r _ [5] (by decide +kernel) (by decide +kernel)
set_option maxRecDepth 20000 in
theorem gX3_neededVersions_X3_placeOf : GoodIn wsX3_neededVersions (va_wsS RX3 42 yX3_placeOf wsX3_placeOf) := goodIn_app (goodIn_of _ (by decide +kernel)) ggX3_neededVersions_X3_placeOf
set_option maxRecDepth 20000 in
theorem ggX3_neededVersions_X6_at : GoodIn wsX3_neededVersions wsX6_at := goodIn_r _ [10, 11, 18] (by decide +kernel) (by decide +kernel)
set_option maxRecDepth 20000 in
theorem gX3_neededVersions_X6_at : GoodIn wsX3_neededVersions (wsV RX3 38 RX6 yX6_at wsX6_at) := goodIn_app (goodIn_of _ (by decide +kernel)) ggX3_neededVersions_X6_at
theorem dX3_neededVersions_0 : decode cX3_neededVersions 0 = .ok (.aload_n 0, 1) := by decide +kernel
theorem dX3_neededVersions_1 : decode cX3_neededVersions 1 = .ok (.getfield 32, 3) := by decide +kernel
theorem dX3_neededVersions_4 : decode cX3_neededVersions 4 = .ok (.iload_n 1, 1) := by decide +kernel
theorem dX3_neededVersions_5 : decode cX3_neededVersions 5 = .ok (.iload_n 2, 1) := by decide +kernel
theorem dX3_neededVersions_6 : decode cX3_neededVersions 6 = .ok (.invokestatic 42, 3) := by decide +kernel
theorem dX3_neededVersions_9 : decode cX3_neededVersions 9 = .ok (.iconst 4, 1) := by decide +kernel
theorem dX3_neededVersions_10 : decode cX3_neededVersions 10 = .ok (.imul, 1) := by decide +kernel
theorem dX3_neededVersions_11 : decode cX3_neededVersions 11 = .ok (.iload_n 3, 1) := by decide +kernel
theorem dX3_neededVersions_12 : decode cX3_neededVersions 12 = .ok (.iadd, 1) := by decide +kernel
theorem dX3_neededVersions_13 : decode cX3_neededVersions 13 = .ok (.invokevirtual 38, 3) := by decide +kernel
theorem dX3_neededVersions_16 : decode cX3_neededVersions 16 = .ok (.ireturn, 1) := by decide +kernel
set_option maxRecDepth 20000 in
theorem ggX3_markReplaced_X3_placeOf : GoodIn wsX3_markReplaced wsX3_placeOf := goodIn_r _ [5] (by decide +kernel) (by decide +kernel)
set_option maxRecDepth 20000 in
theorem gX3_markReplaced_X3_placeOf : GoodIn wsX3_markReplaced (va_wsS RX3 42 yX3_placeOf wsX3_placeOf) := goodIn_app (goodIn_of _ (by decide +kernel)) ggX3_markReplaced_X3_placeOf
set_option maxRecDepth 20000 in
theorem ggX3_markReplaced_X6_put : GoodIn wsX3_markReplaced wsX6_put := goodIn_r _ [10, 11, 18] (by decide +kernel) (by decide +kernel)
set_option maxRecDepth 20000 in
theorem gX3_markReplaced_X6_put : GoodIn wsX3_markReplaced (wsV RX3 46 RX6 yX6_put wsX6_put) := goodIn_app (goodIn_of _ (by decide +kernel)) ggX3_markReplaced_X6_put
theorem dX3_markReplaced_0 : decode cX3_markReplaced 0 = .ok (.aload_n 0, 1) := by decide +kernel
theorem dX3_markReplaced_1 : decode cX3_markReplaced 1 = .ok (.getfield 23, 3) := by decide +kernel
theorem dX3_markReplaced_4 : decode cX3_markReplaced 4 = .ok (.iload_n 1, 1) := by decide +kernel
theorem dX3_markReplaced_5 : decode cX3_markReplaced 5 = .ok (.iload_n 2, 1) := by decide +kernel
theorem dX3_markReplaced_6 : decode cX3_markReplaced 6 = .ok (.invokestatic 42, 3) := by decide +kernel
theorem dX3_markReplaced_9 : decode cX3_markReplaced 9 = .ok (.iconst 1, 1) := by decide +kernel
theorem dX3_markReplaced_10 : decode cX3_markReplaced 10 = .ok (.invokevirtual 46, 3) := by decide +kernel
theorem dX3_markReplaced_13 : decode cX3_markReplaced 13 = .ok (.return_, 1) := by decide +kernel
set_option maxRecDepth 20000 in
theorem ggX3_isReplaced_X3_placeOf : GoodIn wsX3_isReplaced wsX3_placeOf := goodIn_r _ [5] (by decide +kernel) (by decide +kernel)
set_option maxRecDepth 20000 in
theorem gX3_isReplaced_X3_placeOf : GoodIn wsX3_isReplaced (va_wsS RX3 42 yX3_placeOf wsX3_placeOf) := goodIn_app (goodIn_of _ (by decide +kernel)) ggX3_isReplaced_X3_placeOf
set_option maxRecDepth 20000 in
theorem ggX3_isReplaced_X6_at : GoodIn wsX3_isReplaced wsX6_at := goodIn_r _ [10, 11, 18] (by decide +kernel) (by decide +kernel)
set_option maxRecDepth 20000 in
theorem gX3_isReplaced_X6_at : GoodIn wsX3_isReplaced (wsV RX3 38 RX6 yX6_at wsX6_at) := goodIn_app (goodIn_of _ (by decide +kernel)) ggX3_isReplaced_X6_at
theorem dX3_isReplaced_0 : decode cX3_isReplaced 0 = .ok (.aload_n 0, 1) := by decide +kernel
theorem dX3_isReplaced_1 : decode cX3_isReplaced 1 = .ok (.getfield 23, 3) := by decide +kernel
theorem dX3_isReplaced_4 : decode cX3_isReplaced 4 = .ok (.iload_n 1, 1) := by decide +kernel
theorem dX3_isReplaced_5 : decode cX3_isReplaced 5 = .ok (.iload_n 2, 1) := by decide +kernel
theorem dX3_isReplaced_6 : decode cX3_isReplaced 6 = .ok (.invokestatic 42, 3) := by decide +kernel
theorem dX3_isReplaced_9 : decode cX3_isReplaced 9 = .ok (.invokevirtual 38, 3) := by decide +kernel
theorem dX3_isReplaced_12 : decode cX3_isReplaced 12 = .ok (.ifCond .eq 7, 3) := by decide +kernel
theorem dX3_isReplaced_15 : decode cX3_isReplaced 15 = .ok (.iconst 1, 1) := by decide +kernel
theorem dX3_isReplaced_16 : decode cX3_isReplaced 16 = .ok (.goto 4, 3) := by decide +kernel
theorem dX3_isReplaced_19 : decode cX3_isReplaced 19 = .ok (.iconst 0, 1) := by decide +kernel
theorem dX3_isReplaced_20 : decode cX3_isReplaced 20 = .ok (.ireturn, 1) := by decide +kernel
set_option maxRecDepth 20000 in
theorem ggX3_current_X6_at : GoodIn wsX3_current wsX6_at := goodIn_r _ [6, 7, 26] (by decide +kernel) (by decide +kernel)
set_option maxRecDepth 20000 in
theorem gX3_current_X6_at : GoodIn wsX3_current (wsV RX3 38 RX6 yX6_at wsX6_at) := goodIn_app (goodIn_of _ (by decide +kernel)) ggX3_current_X6_at
set_option maxRecDepth 20000 in
theorem ggX3_current_X3_isReplaced : GoodIn wsX3_current wsX3_isReplaced := goodIn_r _ [12, 13, 14, 15, 11, 16, 2, 3, 4, 5, 6, 7, 20, 21, 22, 23, 24, 25, 26] (by decide +kernel) (by decide +kernel)
set_option maxRecDepth 20000 in
theorem gX3_current_X3_isReplaced : GoodIn wsX3_current (wsV RX3 53 RX3 yX3_isReplaced wsX3_isReplaced) := goodIn_app (goodIn_of _ (by decide +kernel)) ggX3_current_X3_isReplaced
set_option maxRecDepth 20000 in
theorem ggX3_current_X3_versionSet : GoodIn wsX3_current wsX3_versionSet := goodIn_r _ [19] (by decide +kernel) (by decide +kernel)
set_option maxRecDepth 20000 in
theorem gX3_current_X3_versionSet : GoodIn wsX3_current (va_wsS RX3 50 yX3_versionSet wsX3_versionSet) := goodIn_app (goodIn_of _ (by decide +kernel)) ggX3_current_X3_versionSet
theorem dX3_current_0 : decode cX3_current 0 = .ok (.iconst 0, 1) := by decide +kernel
theorem dX3_current_1 : decode cX3_current 1 = .ok (.istore_n 2, 1) := by decide +kernel
theorem dX3_current_2 : decode cX3_current 2 = .ok (.iconst 1, 1) := by decide +kernel
theorem dX3_current_3 : decode cX3_current 3 = .ok (.istore_n 3, 1) := by decide +kernel
theorem dX3_current_4 : decode cX3_current 4 = .ok (.iload_n 3, 1) := by decide +kernel
theorem dX3_current_5 : decode cX3_current 5 = .ok (.aload_n 0, 1) := by decide +kernel
theorem dX3_current_6 : decode cX3_current 6 = .ok (.getfield 14, 3) := by decide +kernel
theorem dX3_current_9 : decode cX3_current 9 = .ok (.iload_n 1, 1) := by decide +kernel
theorem dX3_current_10 : decode cX3_current 10 = .ok (.invokevirtual 38, 3) := by decide +kernel
theorem dX3_current_13 : decode cX3_current 13 = .ok (.if_icmp .gt 31, 3) := by decide +kernel
theorem dX3_current_16 : decode cX3_current 16 = .ok (.iload_n 3, 1) := by decide +kernel
theorem dX3_current_17 : decode cX3_current 17 = .ok (.iconst 3, 1) := by decide +kernel
theorem dX3_current_18 : decode cX3_current 18 = .ok (.if_icmp .gt 26, 3) := by decide +kernel
theorem dX3_current_21 : decode cX3_current 21 = .ok (.aload_n 0, 1) := by decide +kernel
theorem dX3_current_22 : decode cX3_current 22 = .ok (.iload_n 1, 1) := by decide +kernel
theorem dX3_current_23 : decode cX3_current 23 = .ok (.iload_n 3, 1) := by decide +kernel
theorem dX3_current_24 : decode cX3_current 24 = .ok (.invokevirtual 53, 3) := by decide +kernel
theorem dX3_current_27 : decode cX3_current 27 = .ok (.ifCond .ne 11, 3) := by decide +kernel
theorem dX3_current_30 : decode cX3_current 30 = .ok (.iload_n 2, 1) := by decide +kernel
theorem dX3_current_31 : decode cX3_current 31 = .ok (.iload_n 3, 1) := by decide +kernel
theorem dX3_current_32 : decode cX3_current 32 = .ok (.iload_n 3, 1) := by decide +kernel
theorem dX3_current_33 : decode cX3_current 33 = .ok (.invokestatic 50, 3) := by decide +kernel
theorem dX3_current_36 : decode cX3_current 36 = .ok (.ior, 1) := by decide +kernel
theorem dX3_current_37 : decode cX3_current 37 = .ok (.istore_n 2, 1) := by decide +kernel
theorem dX3_current_38 : decode cX3_current 38 = .ok (.iinc 3 1, 3) := by decide +kernel
theorem dX3_current_41 : decode cX3_current 41 = .ok (.goto (-37), 3) := by decide +kernel
theorem dX3_current_44 : decode cX3_current 44 = .ok (.iload_n 2, 1) := by decide +kernel
theorem dX3_current_45 : decode cX3_current 45 = .ok (.ireturn, 1) := by decide +kernel
set_option maxRecDepth 20000 in
theorem ggX3_costOf_X1_versionOf : GoodIn wsX3_costOf wsX1_versionOf := goodIn_r _ [5] (by decide +kernel) (by decide +kernel)
set_option maxRecDepth 20000 in
theorem gX3_costOf_X1_versionOf : GoodIn wsX3_costOf (va_wsS RX3 57 yX1_versionOf wsX1_versionOf) := goodIn_app (goodIn_of _ (by decide +kernel)) ggX3_costOf_X1_versionOf
set_option maxRecDepth 20000 in
theorem ggX3_costOf_X3_placeOf : GoodIn wsX3_costOf wsX3_placeOf := goodIn_r _ [9] (by decide +kernel) (by decide +kernel)
set_option maxRecDepth 20000 in
theorem gX3_costOf_X3_placeOf : GoodIn wsX3_costOf (va_wsS RX3 42 yX3_placeOf wsX3_placeOf) := goodIn_app (goodIn_of _ (by decide +kernel)) ggX3_costOf_X3_placeOf
set_option maxRecDepth 20000 in
theorem ggX3_costOf_X6_at : GoodIn wsX3_costOf wsX6_at := goodIn_r _ [14, 15, 22] (by decide +kernel) (by decide +kernel)
set_option maxRecDepth 20000 in
theorem gX3_costOf_X6_at : GoodIn wsX3_costOf (wsV RX3 38 RX6 yX6_at wsX6_at) := goodIn_app (goodIn_of _ (by decide +kernel)) ggX3_costOf_X6_at
theorem dX3_costOf_0 : decode cX3_costOf 0 = .ok (.iconst 0, 1) := by decide +kernel
theorem dX3_costOf_1 : decode cX3_costOf 1 = .ok (.istore_n 2, 1) := by decide +kernel
theorem dX3_costOf_2 : decode cX3_costOf 2 = .ok (.iconst 0, 1) := by decide +kernel
theorem dX3_costOf_3 : decode cX3_costOf 3 = .ok (.istore_n 3, 1) := by decide +kernel
theorem dX3_costOf_4 : decode cX3_costOf 4 = .ok (.iload_n 3, 1) := by decide +kernel
theorem dX3_costOf_5 : decode cX3_costOf 5 = .ok (.bipush 8, 2) := by decide +kernel
theorem dX3_costOf_7 : decode cX3_costOf 7 = .ok (.if_icmp .ge 37, 3) := by decide +kernel
theorem dX3_costOf_10 : decode cX3_costOf 10 = .ok (.iload_n 1, 1) := by decide +kernel
theorem dX3_costOf_11 : decode cX3_costOf 11 = .ok (.iload_n 3, 1) := by decide +kernel
theorem dX3_costOf_12 : decode cX3_costOf 12 = .ok (.invokestatic 57, 3) := by decide +kernel
theorem dX3_costOf_15 : decode cX3_costOf 15 = .ok (.istore 4, 2) := by decide +kernel
theorem dX3_costOf_17 : decode cX3_costOf 17 = .ok (.iload 4, 2) := by decide +kernel
theorem dX3_costOf_19 : decode cX3_costOf 19 = .ok (.ifCond .eq 19, 3) := by decide +kernel
theorem dX3_costOf_22 : decode cX3_costOf 22 = .ok (.iload_n 2, 1) := by decide +kernel
theorem dX3_costOf_23 : decode cX3_costOf 23 = .ok (.aload_n 0, 1) := by decide +kernel
theorem dX3_costOf_24 : decode cX3_costOf 24 = .ok (.getfield 20, 3) := by decide +kernel
theorem dX3_costOf_27 : decode cX3_costOf 27 = .ok (.iload_n 3, 1) := by decide +kernel
theorem dX3_costOf_28 : decode cX3_costOf 28 = .ok (.iload 4, 2) := by decide +kernel
theorem dX3_costOf_30 : decode cX3_costOf 30 = .ok (.invokestatic 42, 3) := by decide +kernel
theorem dX3_costOf_33 : decode cX3_costOf 33 = .ok (.invokevirtual 38, 3) := by decide +kernel
theorem dX3_costOf_36 : decode cX3_costOf 36 = .ok (.iadd, 1) := by decide +kernel
theorem dX3_costOf_37 : decode cX3_costOf 37 = .ok (.istore_n 2, 1) := by decide +kernel
theorem dX3_costOf_38 : decode cX3_costOf 38 = .ok (.iinc 3 1, 3) := by decide +kernel
theorem dX3_costOf_41 : decode cX3_costOf 41 = .ok (.goto (-37), 3) := by decide +kernel
theorem dX3_costOf_44 : decode cX3_costOf 44 = .ok (.iload_n 2, 1) := by decide +kernel
theorem dX3_costOf_45 : decode cX3_costOf 45 = .ok (.ireturn, 1) := by decide +kernel
theorem dX3_versionSet_0 : decode cX3_versionSet 0 = .ok (.iconst 2, 1) := by decide +kernel
theorem dX3_versionSet_1 : decode cX3_versionSet 1 = .ok (.iload_n 1, 1) := by decide +kernel
theorem dX3_versionSet_2 : decode cX3_versionSet 2 = .ok (.ishl, 1) := by decide +kernel
theorem dX3_versionSet_3 : decode cX3_versionSet 3 = .ok (.iconst 1, 1) := by decide +kernel
theorem dX3_versionSet_4 : decode cX3_versionSet 4 = .ok (.iload_n 0, 1) := by decide +kernel
theorem dX3_versionSet_5 : decode cX3_versionSet 5 = .ok (.ishl, 1) := by decide +kernel
theorem dX3_versionSet_6 : decode cX3_versionSet 6 = .ok (.isub, 1) := by decide +kernel
theorem dX3_versionSet_7 : decode cX3_versionSet 7 = .ok (.ireturn, 1) := by decide +kernel
theorem dX3_placeOf_0 : decode cX3_placeOf 0 = .ok (.iload_n 0, 1) := by decide +kernel
theorem dX3_placeOf_1 : decode cX3_placeOf 1 = .ok (.iconst 3, 1) := by decide +kernel
theorem dX3_placeOf_2 : decode cX3_placeOf 2 = .ok (.imul, 1) := by decide +kernel
theorem dX3_placeOf_3 : decode cX3_placeOf 3 = .ok (.iload_n 1, 1) := by decide +kernel
theorem dX3_placeOf_4 : decode cX3_placeOf 4 = .ok (.iadd, 1) := by decide +kernel
theorem dX3_placeOf_5 : decode cX3_placeOf 5 = .ok (.iconst 1, 1) := by decide +kernel
theorem dX3_placeOf_6 : decode cX3_placeOf 6 = .ok (.isub, 1) := by decide +kernel
theorem dX3_placeOf_7 : decode cX3_placeOf 7 = .ok (.ireturn, 1) := by decide +kernel
