set_option maxRecDepth 20000 in
theorem ggX7_init_X6_init : GoodIn wsX7_init wsX6_init := goodIn_r _ [11, 12, 2, 3, 13, 14, 15] (by decide +kernel) (by decide +kernel)
set_option maxRecDepth 20000 in
theorem gX7_init_X6_init : GoodIn wsX7_init (wsX6_init) := ggX7_init_X6_init
theorem dX7_init_0 : decode cX7_init 0 = .ok (.aload_n 0, 1) := by decide +kernel
theorem dX7_init_1 : decode cX7_init 1 = .ok (.invokespecial 3, 3) := by decide +kernel
theorem dX7_init_4 : decode cX7_init 4 = .ok (.aload_n 0, 1) := by decide +kernel
theorem dX7_init_5 : decode cX7_init 5 = .ok (.new 9, 3) := by decide +kernel
theorem dX7_init_8 : decode cX7_init 8 = .ok (.dup, 1) := by decide +kernel
theorem dX7_init_9 : decode cX7_init 9 = .ok (.bipush 8, 2) := by decide +kernel
theorem dX7_init_11 : decode cX7_init 11 = .ok (.invokespecial 11, 3) := by decide +kernel
theorem dX7_init_14 : decode cX7_init 14 = .ok (.putfield 14, 3) := by decide +kernel
theorem dX7_init_17 : decode cX7_init 17 = .ok (.aload_n 0, 1) := by decide +kernel
theorem dX7_init_18 : decode cX7_init 18 = .ok (.new 9, 3) := by decide +kernel
theorem dX7_init_21 : decode cX7_init 21 = .ok (.dup, 1) := by decide +kernel
theorem dX7_init_22 : decode cX7_init 22 = .ok (.bipush 72, 2) := by decide +kernel
theorem dX7_init_24 : decode cX7_init 24 = .ok (.invokespecial 11, 3) := by decide +kernel
theorem dX7_init_27 : decode cX7_init 27 = .ok (.putfield 20, 3) := by decide +kernel
theorem dX7_init_30 : decode cX7_init 30 = .ok (.return_, 1) := by decide +kernel
set_option maxRecDepth 20000 in
theorem ggX7_find_X3_current : GoodIn wsX7_find wsX3_current := goodIn_r _ [9, 10, 11, 12, 13, 14, 15, 16, 17, 18, 19, 8, 20, 21, 22, 23, 24, 25, 26, 27, 70, 71, 72, 73, 74, 75, 76] (by decide +kernel) (by decide +kernel)
set_option maxRecDepth 20000 in
theorem gX7_find_X3_current : GoodIn wsX7_find (wsV RX7 23 RX3 yX3_current wsX3_current) := goodIn_app (goodIn_of _ (by decide +kernel)) ggX7_find_X3_current
set_option maxRecDepth 20000 in
theorem ggX7_find_X6_put : GoodIn wsX7_find wsX6_put := goodIn_r _ [31, 16, 76] (by decide +kernel) (by decide +kernel)
set_option maxRecDepth 20000 in
theorem gX7_find_X6_put : GoodIn wsX7_find (wsV RX7 29 RX6 yX6_put wsX6_put) := goodIn_app (goodIn_of _ (by decide +kernel)) ggX7_find_X6_put
set_option maxRecDepth 20000 in
theorem ggX7_find_X6_at : GoodIn wsX7_find wsX6_at := goodIn_r _ [15, 16, 76] (by decide +kernel) (by decide +kernel)
set_option maxRecDepth 20000 in
theorem gX7_find_X6_at : GoodIn wsX7_find (wsV RX7 33 RX6 yX6_at wsX6_at) := goodIn_app (goodIn_of _ (by decide +kernel)) ggX7_find_X6_at
set_option maxRecDepth 20000 in
theorem ggX7_find_X3_versionSet : GoodIn wsX7_find wsX3_versionSet := goodIn_r _ [27] (by decide +kernel) (by decide +kernel)
set_option maxRecDepth 20000 in
theorem gX7_find_X3_versionSet : GoodIn wsX7_find (va_wsS RX7 36 yX3_versionSet wsX3_versionSet) := goodIn_app (goodIn_of _ (by decide +kernel)) ggX7_find_X3_versionSet
set_option maxRecDepth 20000 in
theorem ggX7_find_X7_fill : GoodIn wsX7_find wsX7_fill := goodIn_r _ [38, 3, 2, 1, 4, 32, 12, 13, 14, 15, 16, 33, 26, 8, 27, 39, 40, 41, 37, 42, 28, 29, 30, 31, 43, 44, 45, 46, 47, 22, 23, 24, 11, 48, 49, 50, 51, 52, 53, 54, 55, 56, 57, 58, 59, 60, 61, 34, 35, 36, 62, 63, 64, 65, 66, 67, 68, 69, 76, 70, 71, 72, 73, 74, 75] (by decide +kernel) (by decide +kernel)
set_option maxRecDepth 20000 in
theorem gX7_find_X7_fill : GoodIn wsX7_find (wsV RX7 49 RX7 yX7_fill wsX7_fill) := goodIn_app (goodIn_of _ (by decide +kernel)) ggX7_find_X7_fill
theorem dX7_find_0 : decode cX7_find 0 = .ok (.iconst 0, 1) := by decide +kernel
theorem dX7_find_1 : decode cX7_find 1 = .ok (.istore 4, 2) := by decide +kernel
theorem dX7_find_3 : decode cX7_find 3 = .ok (.iload 4, 2) := by decide +kernel
theorem dX7_find_5 : decode cX7_find 5 = .ok (.bipush 8, 2) := by decide +kernel
theorem dX7_find_7 : decode cX7_find 7 = .ok (.if_icmp .ge 24, 3) := by decide +kernel
theorem dX7_find_10 : decode cX7_find 10 = .ok (.aload_n 0, 1) := by decide +kernel
theorem dX7_find_11 : decode cX7_find 11 = .ok (.getfield 20, 3) := by decide +kernel
theorem dX7_find_14 : decode cX7_find 14 = .ok (.iload 4, 2) := by decide +kernel
theorem dX7_find_16 : decode cX7_find 16 = .ok (.aload_n 1, 1) := by decide +kernel
theorem dX7_find_17 : decode cX7_find 17 = .ok (.iload 4, 2) := by decide +kernel
theorem dX7_find_19 : decode cX7_find 19 = .ok (.invokevirtual 23, 3) := by decide +kernel
theorem dX7_find_22 : decode cX7_find 22 = .ok (.invokevirtual 29, 3) := by decide +kernel
theorem dX7_find_25 : decode cX7_find 25 = .ok (.iinc 4 1, 3) := by decide +kernel
theorem dX7_find_28 : decode cX7_find 28 = .ok (.goto (-25), 3) := by decide +kernel
theorem dX7_find_31 : decode cX7_find 31 = .ok (.aload_n 0, 1) := by decide +kernel
theorem dX7_find_32 : decode cX7_find 32 = .ok (.getfield 20, 3) := by decide +kernel
theorem dX7_find_35 : decode cX7_find 35 = .ok (.iload_n 2, 1) := by decide +kernel
theorem dX7_find_36 : decode cX7_find 36 = .ok (.aload_n 0, 1) := by decide +kernel
theorem dX7_find_37 : decode cX7_find 37 = .ok (.getfield 20, 3) := by decide +kernel
theorem dX7_find_40 : decode cX7_find 40 = .ok (.iload_n 2, 1) := by decide +kernel
theorem dX7_find_41 : decode cX7_find 41 = .ok (.invokevirtual 33, 3) := by decide +kernel
theorem dX7_find_44 : decode cX7_find 44 = .ok (.iload_n 3, 1) := by decide +kernel
theorem dX7_find_45 : decode cX7_find 45 = .ok (.iconst 3, 1) := by decide +kernel
theorem dX7_find_46 : decode cX7_find 46 = .ok (.invokestatic 36, 3) := by decide +kernel
theorem dX7_find_49 : decode cX7_find 49 = .ok (.iand, 1) := by decide +kernel
theorem dX7_find_50 : decode cX7_find 50 = .ok (.invokevirtual 29, 3) := by decide +kernel
theorem dX7_find_53 : decode cX7_find 53 = .ok (.aload_n 0, 1) := by decide +kernel
theorem dX7_find_54 : decode cX7_find 54 = .ok (.getfield 14, 3) := by decide +kernel
theorem dX7_find_57 : decode cX7_find 57 = .ok (.iconst 0, 1) := by decide +kernel
theorem dX7_find_58 : decode cX7_find 58 = .ok (.iload_n 2, 1) := by decide +kernel
theorem dX7_find_59 : decode cX7_find 59 = .ok (.invokevirtual 29, 3) := by decide +kernel
theorem dX7_find_62 : decode cX7_find 62 = .ok (.aload_n 0, 1) := by decide +kernel
theorem dX7_find_63 : decode cX7_find 63 = .ok (.iconst 1, 1) := by decide +kernel
theorem dX7_find_64 : decode cX7_find 64 = .ok (.putfield 40, 3) := by decide +kernel
theorem dX7_find_67 : decode cX7_find 67 = .ok (.aload_n 0, 1) := by decide +kernel
theorem dX7_find_68 : decode cX7_find 68 = .ok (.iconst 0, 1) := by decide +kernel
theorem dX7_find_69 : decode cX7_find 69 = .ok (.putfield 46, 3) := by decide +kernel
theorem dX7_find_72 : decode cX7_find 72 = .ok (.aload_n 0, 1) := by decide +kernel
theorem dX7_find_73 : decode cX7_find 73 = .ok (.aload_n 1, 1) := by decide +kernel
theorem dX7_find_74 : decode cX7_find 74 = .ok (.iconst 0, 1) := by decide +kernel
theorem dX7_find_75 : decode cX7_find 75 = .ok (.invokevirtual 49, 3) := by decide +kernel
theorem dX7_find_78 : decode cX7_find 78 = .ok (.pop, 1) := by decide +kernel
theorem dX7_find_79 : decode cX7_find 79 = .ok (.aload_n 0, 1) := by decide +kernel
theorem dX7_find_80 : decode cX7_find 80 = .ok (.getfield 46, 3) := by decide +kernel
theorem dX7_find_83 : decode cX7_find 83 = .ok (.ireturn, 1) := by decide +kernel
set_option maxRecDepth 20000 in
theorem ggX7_fill_X6_at : GoodIn wsX7_fill wsX6_at := goodIn_r _ [9, 10, 58] (by decide +kernel) (by decide +kernel)
set_option maxRecDepth 20000 in
theorem gX7_fill_X6_at : GoodIn wsX7_fill (wsV RX7 33 RX6 yX6_at wsX6_at) := goodIn_app (goodIn_of _ (by decide +kernel)) ggX7_fill_X6_at
set_option maxRecDepth 20000 in
theorem ggX7_fill_X3_versionSet : GoodIn wsX7_fill wsX3_versionSet := goodIn_r _ [14] (by decide +kernel) (by decide +kernel)
set_option maxRecDepth 20000 in
theorem gX7_fill_X3_versionSet : GoodIn wsX7_fill (va_wsS RX7 36 yX3_versionSet wsX3_versionSet) := goodIn_app (goodIn_of _ (by decide +kernel)) ggX7_fill_X3_versionSet
set_option maxRecDepth 20000 in
theorem ggX7_fill_X7_take : GoodIn wsX7_fill wsX7_take := goodIn_r _ [19, 2, 3, 5, 6, 7, 8, 9, 10, 20, 21, 22, 23, 11, 12, 13, 14, 24, 25, 26, 27, 28, 29, 30, 31, 32, 33, 34, 35, 36, 37, 38, 39, 40, 41, 42, 43, 44, 45, 18, 46, 1, 54, 55, 56, 57, 58, 59, 60, 61, 62, 63, 64] (by decide +kernel) (by decide +kernel)
set_option maxRecDepth 20000 in
theorem gX7_fill_X7_take : GoodIn wsX7_fill (wsV RX7 53 RX7 yX7_take wsX7_take) := goodIn_app (goodIn_of _ (by decide +kernel)) ggX7_fill_X7_take
set_option maxRecDepth 20000 in
theorem ggX7_fill_X7_fill : GoodIn wsX7_fill wsX7_fill := goodIn_r _ [0, 1, 2, 3, 4, 5, 6, 7, 8, 9, 10, 11, 12, 13, 14, 15, 16, 17, 18, 19, 20, 21, 22, 23, 24, 25, 26, 27, 28, 29, 30, 31, 32, 33, 34, 35, 36, 37, 38, 39, 40, 41, 42, 43, 44, 45, 46, 47, 48, 49, 50, 51, 52, 53, 54, 55, 56, 57, 58, 59, 60, 61, 62, 63, 64] (by decide +kernel) (by decide +kernel)
set_option maxRecDepth 20000 in
theorem gX7_fill_X7_fill : GoodIn wsX7_fill (wsV RX7 49 RX7 yX7_fill wsX7_fill) := goodIn_app (goodIn_of _ (by decide +kernel)) ggX7_fill_X7_fill
set_option maxRecDepth 20000 in
theorem ggX7_fill_X1_with : GoodIn wsX7_fill wsX1_with := goodIn_r _ [53] (by decide +kernel) (by decide +kernel)
set_option maxRecDepth 20000 in
theorem gX7_fill_X1_with : GoodIn wsX7_fill (va_wsS RX7 57 yX1_with wsX1_with) := goodIn_app (goodIn_of _ (by decide +kernel)) ggX7_fill_X1_with
theorem dX7_fill_0 : decode cX7_fill 0 = .ok (.iload_n 2, 1) := by decide +kernel
theorem dX7_fill_1 : decode cX7_fill 1 = .ok (.aload_n 0, 1) := by decide +kernel
theorem dX7_fill_2 : decode cX7_fill 2 = .ok (.getfield 40, 3) := by decide +kernel
theorem dX7_fill_5 : decode cX7_fill 5 = .ok (.if_icmp .ge 9, 3) := by decide +kernel
theorem dX7_fill_8 : decode cX7_fill 8 = .ok (.iload_n 2, 1) := by decide +kernel
theorem dX7_fill_9 : decode cX7_fill 9 = .ok (.bipush 8, 2) := by decide +kernel
theorem dX7_fill_11 : decode cX7_fill 11 = .ok (.if_icmp .lt 5, 3) := by decide +kernel
theorem dX7_fill_14 : decode cX7_fill 14 = .ok (.iconst 1, 1) := by decide +kernel
theorem dX7_fill_15 : decode cX7_fill 15 = .ok (.ireturn, 1) := by decide +kernel
theorem dX7_fill_16 : decode cX7_fill 16 = .ok (.aload_n 0, 1) := by decide +kernel
theorem dX7_fill_17 : decode cX7_fill 17 = .ok (.getfield 14, 3) := by decide +kernel
theorem dX7_fill_20 : decode cX7_fill 20 = .ok (.iload_n 2, 1) := by decide +kernel
theorem dX7_fill_21 : decode cX7_fill 21 = .ok (.invokevirtual 33, 3) := by decide +kernel
theorem dX7_fill_24 : decode cX7_fill 24 = .ok (.istore_n 3, 1) := by decide +kernel
theorem dX7_fill_25 : decode cX7_fill 25 = .ok (.aload_n 0, 1) := by decide +kernel
theorem dX7_fill_26 : decode cX7_fill 26 = .ok (.getfield 20, 3) := by decide +kernel
theorem dX7_fill_29 : decode cX7_fill 29 = .ok (.iload_n 2, 1) := by decide +kernel
theorem dX7_fill_30 : decode cX7_fill 30 = .ok (.bipush 8, 2) := by decide +kernel
theorem dX7_fill_32 : decode cX7_fill 32 = .ok (.imul, 1) := by decide +kernel
theorem dX7_fill_33 : decode cX7_fill 33 = .ok (.iload_n 3, 1) := by decide +kernel
theorem dX7_fill_34 : decode cX7_fill 34 = .ok (.iadd, 1) := by decide +kernel
theorem dX7_fill_35 : decode cX7_fill 35 = .ok (.invokevirtual 33, 3) := by decide +kernel
theorem dX7_fill_38 : decode cX7_fill 38 = .ok (.istore 4, 2) := by decide +kernel
theorem dX7_fill_40 : decode cX7_fill 40 = .ok (.aload_n 0, 1) := by decide +kernel
theorem dX7_fill_41 : decode cX7_fill 41 = .ok (.getfield 40, 3) := by decide +kernel
theorem dX7_fill_44 : decode cX7_fill 44 = .ok (.istore 5, 2) := by decide +kernel
theorem dX7_fill_46 : decode cX7_fill 46 = .ok (.iconst 3, 1) := by decide +kernel
theorem dX7_fill_47 : decode cX7_fill 47 = .ok (.istore 6, 2) := by decide +kernel
theorem dX7_fill_49 : decode cX7_fill 49 = .ok (.iload 6, 2) := by decide +kernel
theorem dX7_fill_51 : decode cX7_fill 51 = .ok (.iconst 1, 1) := by decide +kernel
theorem dX7_fill_52 : decode cX7_fill 52 = .ok (.if_icmp .lt 78, 3) := by decide +kernel
theorem dX7_fill_55 : decode cX7_fill 55 = .ok (.iload 4, 2) := by decide +kernel
theorem dX7_fill_57 : decode cX7_fill 57 = .ok (.iload 6, 2) := by decide +kernel
theorem dX7_fill_59 : decode cX7_fill 59 = .ok (.iload 6, 2) := by decide +kernel
theorem dX7_fill_61 : decode cX7_fill 61 = .ok (.invokestatic 36, 3) := by decide +kernel
theorem dX7_fill_64 : decode cX7_fill 64 = .ok (.iand, 1) := by decide +kernel
theorem dX7_fill_65 : decode cX7_fill 65 = .ok (.ifCond .eq 7, 3) := by decide +kernel
theorem dX7_fill_68 : decode cX7_fill 68 = .ok (.iconst 1, 1) := by decide +kernel
theorem dX7_fill_69 : decode cX7_fill 69 = .ok (.goto 4, 3) := by decide +kernel
theorem dX7_fill_72 : decode cX7_fill 72 = .ok (.iconst 0, 1) := by decide +kernel
theorem dX7_fill_73 : decode cX7_fill 73 = .ok (.istore 7, 2) := by decide +kernel
theorem dX7_fill_75 : decode cX7_fill 75 = .ok (.iload 7, 2) := by decide +kernel
theorem dX7_fill_77 : decode cX7_fill 77 = .ok (.ifCond .eq 41, 3) := by decide +kernel
theorem dX7_fill_80 : decode cX7_fill 80 = .ok (.aload_n 0, 1) := by decide +kernel
theorem dX7_fill_81 : decode cX7_fill 81 = .ok (.aload_n 1, 1) := by decide +kernel
theorem dX7_fill_82 : decode cX7_fill 82 = .ok (.iload_n 2, 1) := by decide +kernel
theorem dX7_fill_83 : decode cX7_fill 83 = .ok (.iload 6, 2) := by decide +kernel
theorem dX7_fill_85 : decode cX7_fill 85 = .ok (.invokevirtual 53, 3) := by decide +kernel
theorem dX7_fill_88 : decode cX7_fill 88 = .ok (.ifCond .eq 30, 3) := by decide +kernel
theorem dX7_fill_91 : decode cX7_fill 91 = .ok (.aload_n 0, 1) := by decide +kernel
theorem dX7_fill_92 : decode cX7_fill 92 = .ok (.aload_n 1, 1) := by decide +kernel
theorem dX7_fill_93 : decode cX7_fill 93 = .ok (.iload_n 2, 1) := by decide +kernel
theorem dX7_fill_94 : decode cX7_fill 94 = .ok (.iconst 1, 1) := by decide +kernel
theorem dX7_fill_95 : decode cX7_fill 95 = .ok (.iadd, 1) := by decide +kernel
theorem dX7_fill_96 : decode cX7_fill 96 = .ok (.invokevirtual 49, 3) := by decide +kernel
theorem dX7_fill_99 : decode cX7_fill 99 = .ok (.ifCond .eq 19, 3) := by decide +kernel
theorem dX7_fill_102 : decode cX7_fill 102 = .ok (.aload_n 0, 1) := by decide +kernel
theorem dX7_fill_103 : decode cX7_fill 103 = .ok (.aload_n 0, 1) := by decide +kernel
theorem dX7_fill_104 : decode cX7_fill 104 = .ok (.getfield 46, 3) := by decide +kernel
theorem dX7_fill_107 : decode cX7_fill 107 = .ok (.iload_n 3, 1) := by decide +kernel
theorem dX7_fill_108 : decode cX7_fill 108 = .ok (.iload 6, 2) := by decide +kernel
theorem dX7_fill_110 : decode cX7_fill 110 = .ok (.invokestatic 57, 3) := by decide +kernel
theorem dX7_fill_113 : decode cX7_fill 113 = .ok (.putfield 46, 3) := by decide +kernel
theorem dX7_fill_116 : decode cX7_fill 116 = .ok (.iconst 1, 1) := by decide +kernel
theorem dX7_fill_117 : decode cX7_fill 117 = .ok (.ireturn, 1) := by decide +kernel
theorem dX7_fill_118 : decode cX7_fill 118 = .ok (.aload_n 0, 1) := by decide +kernel
theorem dX7_fill_119 : decode cX7_fill 119 = .ok (.iload 5, 2) := by decide +kernel
theorem dX7_fill_121 : decode cX7_fill 121 = .ok (.putfield 40, 3) := by decide +kernel
theorem dX7_fill_124 : decode cX7_fill 124 = .ok (.iinc 6 (-1), 3) := by decide +kernel
theorem dX7_fill_127 : decode cX7_fill 127 = .ok (.goto (-78), 3) := by decide +kernel
theorem dX7_fill_130 : decode cX7_fill 130 = .ok (.iconst 0, 1) := by decide +kernel
theorem dX7_fill_131 : decode cX7_fill 131 = .ok (.ireturn, 1) := by decide +kernel
set_option maxRecDepth 20000 in
theorem ggX7_take_X6_at : GoodIn wsX7_take wsX6_at := goodIn_r _ [7, 8, 46] (by decide +kernel) (by decide +kernel)
set_option maxRecDepth 20000 in
theorem gX7_take_X6_at : GoodIn wsX7_take (wsV RX7 33 RX6 yX6_at wsX6_at) := goodIn_app (goodIn_of _ (by decide +kernel)) ggX7_take_X6_at
set_option maxRecDepth 20000 in
theorem ggX7_take_X6_put : GoodIn wsX7_take wsX6_put := goodIn_r _ [12, 8, 46] (by decide +kernel) (by decide +kernel)
set_option maxRecDepth 20000 in
theorem gX7_take_X6_put : GoodIn wsX7_take (wsV RX7 29 RX6 yX6_put wsX6_put) := goodIn_app (goodIn_of _ (by decide +kernel)) ggX7_take_X6_put
set_option maxRecDepth 20000 in
theorem ggX7_take_X3_versionSet : GoodIn wsX7_take wsX3_versionSet := goodIn_r _ [16] (by decide +kernel) (by decide +kernel)
set_option maxRecDepth 20000 in
theorem gX7_take_X3_versionSet : GoodIn wsX7_take (va_wsS RX7 36 yX3_versionSet wsX3_versionSet) := goodIn_app (goodIn_of _ (by decide +kernel)) ggX7_take_X3_versionSet
set_option maxRecDepth 20000 in
theorem ggX7_take_X3_needsOf : GoodIn wsX7_take wsX3_needsOf := goodIn_r _ [20, 21, 22, 23, 15, 24, 25, 4, 5, 6, 7, 8, 47, 48, 49, 50, 51, 52, 46] (by decide +kernel) (by decide +kernel)
set_option maxRecDepth 20000 in
theorem gX7_take_X3_needsOf : GoodIn wsX7_take (wsV RX7 61 RX3 yX3_needsOf wsX3_needsOf) := goodIn_app (goodIn_of _ (by decide +kernel)) ggX7_take_X3_needsOf
set_option maxRecDepth 20000 in
theorem ggX7_take_X3_neededPart : GoodIn wsX7_take wsX3_neededPart := goodIn_r _ [29, 30, 22, 23, 15, 24, 25, 4, 5, 6, 7, 8, 47, 48, 49, 50, 51, 52, 46] (by decide +kernel) (by decide +kernel)
set_option maxRecDepth 20000 in
theorem gX7_take_X3_neededPart : GoodIn wsX7_take (wsV RX7 64 RX3 yX3_neededPart wsX3_neededPart) := goodIn_app (goodIn_of _ (by decide +kernel)) ggX7_take_X3_neededPart
set_option maxRecDepth 20000 in
theorem ggX7_take_X3_neededVersions : GoodIn wsX7_take wsX3_neededVersions := goodIn_r _ [34, 35, 22, 23, 15, 24, 25, 4, 5, 6, 7, 8, 47, 48, 49, 50, 51, 52, 46] (by decide +kernel) (by decide +kernel)
set_option maxRecDepth 20000 in
theorem gX7_take_X3_neededVersions : GoodIn wsX7_take (wsV RX7 67 RX3 yX3_neededVersions wsX3_neededVersions) := goodIn_app (goodIn_of _ (by decide +kernel)) ggX7_take_X3_neededVersions
set_option maxRecDepth 20000 in
theorem ggX7_take_X7_await : GoodIn wsX7_take wsX7_await := goodIn_r _ [40, 41, 1, 3, 4, 5, 6, 7, 8, 9, 10, 11, 12, 42, 43, 44, 45, 46] (by decide +kernel) (by decide +kernel)
set_option maxRecDepth 20000 in
theorem gX7_take_X7_await : GoodIn wsX7_take (wsV RX7 70 RX7 yX7_await wsX7_await) := goodIn_app (goodIn_of _ (by decide +kernel)) ggX7_take_X7_await
theorem dX7_take_0 : decode cX7_take 0 = .ok (.aload_n 0, 1) := by decide +kernel
theorem dX7_take_1 : decode cX7_take 1 = .ok (.getfield 14, 3) := by decide +kernel
theorem dX7_take_4 : decode cX7_take 4 = .ok (.iload_n 2, 1) := by decide +kernel
theorem dX7_take_5 : decode cX7_take 5 = .ok (.invokevirtual 33, 3) := by decide +kernel
theorem dX7_take_8 : decode cX7_take 8 = .ok (.istore 4, 2) := by decide +kernel
theorem dX7_take_10 : decode cX7_take 10 = .ok (.iload_n 2, 1) := by decide +kernel
theorem dX7_take_11 : decode cX7_take 11 = .ok (.iconst 1, 1) := by decide +kernel
theorem dX7_take_12 : decode cX7_take 12 = .ok (.iadd, 1) := by decide +kernel
theorem dX7_take_13 : decode cX7_take 13 = .ok (.bipush 8, 2) := by decide +kernel
theorem dX7_take_15 : decode cX7_take 15 = .ok (.imul, 1) := by decide +kernel
theorem dX7_take_16 : decode cX7_take 16 = .ok (.istore 5, 2) := by decide +kernel
theorem dX7_take_18 : decode cX7_take 18 = .ok (.iconst 0, 1) := by decide +kernel
theorem dX7_take_19 : decode cX7_take 19 = .ok (.istore 6, 2) := by decide +kernel
theorem dX7_take_21 : decode cX7_take 21 = .ok (.iload 6, 2) := by decide +kernel
theorem dX7_take_23 : decode cX7_take 23 = .ok (.bipush 8, 2) := by decide +kernel
theorem dX7_take_25 : decode cX7_take 25 = .ok (.if_icmp .ge 35, 3) := by decide +kernel
theorem dX7_take_28 : decode cX7_take 28 = .ok (.aload_n 0, 1) := by decide +kernel
theorem dX7_take_29 : decode cX7_take 29 = .ok (.getfield 20, 3) := by decide +kernel
theorem dX7_take_32 : decode cX7_take 32 = .ok (.iload 5, 2) := by decide +kernel
theorem dX7_take_34 : decode cX7_take 34 = .ok (.iload 6, 2) := by decide +kernel
theorem dX7_take_36 : decode cX7_take 36 = .ok (.iadd, 1) := by decide +kernel
theorem dX7_take_37 : decode cX7_take 37 = .ok (.aload_n 0, 1) := by decide +kernel
theorem dX7_take_38 : decode cX7_take 38 = .ok (.getfield 20, 3) := by decide +kernel
theorem dX7_take_41 : decode cX7_take 41 = .ok (.iload_n 2, 1) := by decide +kernel
theorem dX7_take_42 : decode cX7_take 42 = .ok (.bipush 8, 2) := by decide +kernel
theorem dX7_take_44 : decode cX7_take 44 = .ok (.imul, 1) := by decide +kernel
theorem dX7_take_45 : decode cX7_take 45 = .ok (.iload 6, 2) := by decide +kernel
theorem dX7_take_47 : decode cX7_take 47 = .ok (.iadd, 1) := by decide +kernel
theorem dX7_take_48 : decode cX7_take 48 = .ok (.invokevirtual 33, 3) := by decide +kernel
theorem dX7_take_51 : decode cX7_take 51 = .ok (.invokevirtual 29, 3) := by decide +kernel
theorem dX7_take_54 : decode cX7_take 54 = .ok (.iinc 6 1, 3) := by decide +kernel
theorem dX7_take_57 : decode cX7_take 57 = .ok (.goto (-36), 3) := by decide +kernel
theorem dX7_take_60 : decode cX7_take 60 = .ok (.aload_n 0, 1) := by decide +kernel
theorem dX7_take_61 : decode cX7_take 61 = .ok (.getfield 20, 3) := by decide +kernel
theorem dX7_take_64 : decode cX7_take 64 = .ok (.iload 5, 2) := by decide +kernel
theorem dX7_take_66 : decode cX7_take 66 = .ok (.iload 4, 2) := by decide +kernel
theorem dX7_take_68 : decode cX7_take 68 = .ok (.iadd, 1) := by decide +kernel
theorem dX7_take_69 : decode cX7_take 69 = .ok (.iload_n 3, 1) := by decide +kernel
theorem dX7_take_70 : decode cX7_take 70 = .ok (.iload_n 3, 1) := by decide +kernel
theorem dX7_take_71 : decode cX7_take 71 = .ok (.invokestatic 36, 3) := by decide +kernel
theorem dX7_take_74 : decode cX7_take 74 = .ok (.invokevirtual 29, 3) := by decide +kernel
theorem dX7_take_77 : decode cX7_take 77 = .ok (.aload_n 1, 1) := by decide +kernel
theorem dX7_take_78 : decode cX7_take 78 = .ok (.iload 4, 2) := by decide +kernel
theorem dX7_take_80 : decode cX7_take 80 = .ok (.iload_n 3, 1) := by decide +kernel
theorem dX7_take_81 : decode cX7_take 81 = .ok (.invokevirtual 61, 3) := by decide +kernel
theorem dX7_take_84 : decode cX7_take 84 = .ok (.istore 6, 2) := by decide +kernel
theorem dX7_take_86 : decode cX7_take 86 = .ok (.iconst 0, 1) := by decide +kernel
theorem dX7_take_87 : decode cX7_take 87 = .ok (.istore 7, 2) := by decide +kernel
theorem dX7_take_89 : decode cX7_take 89 = .ok (.iload 7, 2) := by decide +kernel
theorem dX7_take_91 : decode cX7_take 91 = .ok (.iload 6, 2) := by decide +kernel
theorem dX7_take_93 : decode cX7_take 93 = .ok (.if_icmp .ge 71, 3) := by decide +kernel
theorem dX7_take_96 : decode cX7_take 96 = .ok (.aload_n 1, 1) := by decide +kernel
theorem dX7_take_97 : decode cX7_take 97 = .ok (.iload 4, 2) := by decide +kernel
theorem dX7_take_99 : decode cX7_take 99 = .ok (.iload_n 3, 1) := by decide +kernel
theorem dX7_take_100 : decode cX7_take 100 = .ok (.iload 7, 2) := by decide +kernel
theorem dX7_take_102 : decode cX7_take 102 = .ok (.invokevirtual 64, 3) := by decide +kernel
theorem dX7_take_105 : decode cX7_take 105 = .ok (.istore 8, 2) := by decide +kernel
theorem dX7_take_107 : decode cX7_take 107 = .ok (.aload_n 0, 1) := by decide +kernel
theorem dX7_take_108 : decode cX7_take 108 = .ok (.getfield 20, 3) := by decide +kernel
theorem dX7_take_111 : decode cX7_take 111 = .ok (.iload 5, 2) := by decide +kernel
theorem dX7_take_113 : decode cX7_take 113 = .ok (.iload 8, 2) := by decide +kernel
theorem dX7_take_115 : decode cX7_take 115 = .ok (.iadd, 1) := by decide +kernel
theorem dX7_take_116 : decode cX7_take 116 = .ok (.invokevirtual 33, 3) := by decide +kernel
theorem dX7_take_119 : decode cX7_take 119 = .ok (.aload_n 1, 1) := by decide +kernel
theorem dX7_take_120 : decode cX7_take 120 = .ok (.iload 4, 2) := by decide +kernel
theorem dX7_take_122 : decode cX7_take 122 = .ok (.iload_n 3, 1) := by decide +kernel
theorem dX7_take_123 : decode cX7_take 123 = .ok (.iload 7, 2) := by decide +kernel
theorem dX7_take_125 : decode cX7_take 125 = .ok (.invokevirtual 67, 3) := by decide +kernel
theorem dX7_take_128 : decode cX7_take 128 = .ok (.iand, 1) := by decide +kernel
theorem dX7_take_129 : decode cX7_take 129 = .ok (.istore 9, 2) := by decide +kernel
theorem dX7_take_131 : decode cX7_take 131 = .ok (.iload 9, 2) := by decide +kernel
theorem dX7_take_133 : decode cX7_take 133 = .ok (.ifCond .ne 5, 3) := by decide +kernel
theorem dX7_take_136 : decode cX7_take 136 = .ok (.iconst 0, 1) := by decide +kernel
theorem dX7_take_137 : decode cX7_take 137 = .ok (.ireturn, 1) := by decide +kernel
theorem dX7_take_138 : decode cX7_take 138 = .ok (.aload_n 0, 1) := by decide +kernel
theorem dX7_take_139 : decode cX7_take 139 = .ok (.getfield 20, 3) := by decide +kernel
theorem dX7_take_142 : decode cX7_take 142 = .ok (.iload 5, 2) := by decide +kernel
theorem dX7_take_144 : decode cX7_take 144 = .ok (.iload 8, 2) := by decide +kernel
theorem dX7_take_146 : decode cX7_take 146 = .ok (.iadd, 1) := by decide +kernel
theorem dX7_take_147 : decode cX7_take 147 = .ok (.iload 9, 2) := by decide +kernel
theorem dX7_take_149 : decode cX7_take 149 = .ok (.invokevirtual 29, 3) := by decide +kernel
theorem dX7_take_152 : decode cX7_take 152 = .ok (.aload_n 0, 1) := by decide +kernel
theorem dX7_take_153 : decode cX7_take 153 = .ok (.iload 8, 2) := by decide +kernel
theorem dX7_take_155 : decode cX7_take 155 = .ok (.invokevirtual 70, 3) := by decide +kernel
theorem dX7_take_158 : decode cX7_take 158 = .ok (.iinc 7 1, 3) := by decide +kernel
theorem dX7_take_161 : decode cX7_take 161 = .ok (.goto (-72), 3) := by decide +kernel
theorem dX7_take_164 : decode cX7_take 164 = .ok (.iconst 1, 1) := by decide +kernel
theorem dX7_take_165 : decode cX7_take 165 = .ok (.ireturn, 1) := by decide +kernel
set_option maxRecDepth 20000 in
theorem ggX7_await_X6_at : GoodIn wsX7_await wsX6_at := goodIn_r _ [7, 8, 17] (by decide +kernel) (by decide +kernel)
set_option maxRecDepth 20000 in
theorem gX7_await_X6_at : GoodIn wsX7_await (wsV RX7 33 RX6 yX6_at wsX6_at) := goodIn_app (goodIn_of _ (by decide +kernel)) ggX7_await_X6_at
set_option maxRecDepth 20000 in
theorem ggX7_await_X6_put : GoodIn wsX7_await wsX6_put := goodIn_r _ [12, 8, 17] (by decide +kernel) (by decide +kernel)
set_option maxRecDepth 20000 in
theorem gX7_await_X6_put : GoodIn wsX7_await (wsV RX7 29 RX6 yX6_put wsX6_put) := goodIn_app (goodIn_of _ (by decide +kernel)) ggX7_await_X6_put
theorem dX7_await_0 : decode cX7_await 0 = .ok (.iconst 0, 1) := by decide +kernel
theorem dX7_await_1 : decode cX7_await 1 = .ok (.istore_n 2, 1) := by decide +kernel
theorem dX7_await_2 : decode cX7_await 2 = .ok (.iload_n 2, 1) := by decide +kernel
theorem dX7_await_3 : decode cX7_await 3 = .ok (.aload_n 0, 1) := by decide +kernel
theorem dX7_await_4 : decode cX7_await 4 = .ok (.getfield 40, 3) := by decide +kernel
theorem dX7_await_7 : decode cX7_await 7 = .ok (.if_icmp .ge 22, 3) := by decide +kernel
theorem dX7_await_10 : decode cX7_await 10 = .ok (.aload_n 0, 1) := by decide +kernel
theorem dX7_await_11 : decode cX7_await 11 = .ok (.getfield 14, 3) := by decide +kernel
theorem dX7_await_14 : decode cX7_await 14 = .ok (.iload_n 2, 1) := by decide +kernel
theorem dX7_await_15 : decode cX7_await 15 = .ok (.invokevirtual 33, 3) := by decide +kernel
theorem dX7_await_18 : decode cX7_await 18 = .ok (.iload_n 1, 1) := by decide +kernel
theorem dX7_await_19 : decode cX7_await 19 = .ok (.if_icmp .ne 4, 3) := by decide +kernel
theorem dX7_await_22 : decode cX7_await 22 = .ok (.return_, 1) := by decide +kernel
theorem dX7_await_23 : decode cX7_await 23 = .ok (.iinc 2 1, 3) := by decide +kernel
theorem dX7_await_26 : decode cX7_await 26 = .ok (.goto (-24), 3) := by decide +kernel
theorem dX7_await_29 : decode cX7_await 29 = .ok (.aload_n 0, 1) := by decide +kernel
theorem dX7_await_30 : decode cX7_await 30 = .ok (.getfield 14, 3) := by decide +kernel
theorem dX7_await_33 : decode cX7_await 33 = .ok (.aload_n 0, 1) := by decide +kernel
theorem dX7_await_34 : decode cX7_await 34 = .ok (.getfield 40, 3) := by decide +kernel
theorem dX7_await_37 : decode cX7_await 37 = .ok (.iload_n 1, 1) := by decide +kernel
theorem dX7_await_38 : decode cX7_await 38 = .ok (.invokevirtual 29, 3) := by decide +kernel
theorem dX7_await_41 : decode cX7_await 41 = .ok (.aload_n 0, 1) := by decide +kernel
theorem dX7_await_42 : decode cX7_await 42 = .ok (.dup, 1) := by decide +kernel
theorem dX7_await_43 : decode cX7_await 43 = .ok (.getfield 40, 3) := by decide +kernel
theorem dX7_await_46 : decode cX7_await 46 = .ok (.iconst 1, 1) := by decide +kernel
theorem dX7_await_47 : decode cX7_await 47 = .ok (.iadd, 1) := by decide +kernel
theorem dX7_await_48 : decode cX7_await 48 = .ok (.putfield 40, 3) := by decide +kernel
theorem dX7_await_51 : decode cX7_await 51 = .ok (.return_, 1) := by decide +kernel
set_option maxRecDepth 20000 in
theorem ggX8_init_X0_init : GoodIn wsX8_init wsX0_init := goodIn_r _ [18, 19, 2, 3, 20, 21, 22, 23, 24, 25, 26, 27, 28, 29, 120, 107, 108] (by decide +kernel) (by decide +kernel)
set_option maxRecDepth 20000 in
theorem gX8_init_X0_init_n9 : GoodIn wsX8_init (wsX0_init) := ggX8_init_X0_init
set_option maxRecDepth 20000 in
theorem ggX8_init_X2_init : GoodIn wsX8_init wsX2_init := goodIn_r _ [32, 33, 2, 3, 34, 35, 36, 37, 38, 39, 40, 41, 42, 43, 44, 45, 46, 47, 48, 49, 21, 22, 50, 51, 52, 53, 54, 55, 56, 25, 26, 27, 28, 29, 57, 58, 59, 60, 61, 62, 63, 64, 65, 66, 67, 68, 69, 70, 71, 72, 73, 74, 75, 76, 77, 78, 79, 10, 80, 81, 82, 83, 84, 85, 86, 87, 88, 89, 90, 91, 92, 93, 94, 95, 96, 97, 98, 99, 121, 122, 123, 124, 125, 126, 113, 114, 115, 127, 128, 129, 130, 131, 132, 133, 134, 135, 136, 137, 138, 120] (by decide +kernel) (by decide +kernel)
set_option maxRecDepth 20000 in
theorem gX8_init_X2_init : GoodIn wsX8_init (wsX2_init) := ggX8_init_X2_init
set_option maxRecDepth 20000 in
theorem ggX8_init_X7_init : GoodIn wsX8_init wsX7_init := goodIn_r _ [101, 102, 2, 3, 103, 21, 22, 104, 105, 106, 25, 26, 27, 28, 29, 120, 116, 117, 118, 119] (by decide +kernel) (by decide +kernel)
set_option maxRecDepth 20000 in
theorem gX8_init_X7_init_n28 : GoodIn wsX8_init (wsX7_init) := ggX8_init_X7_init
theorem dX8_init_0 : decode cX8_init 0 = .ok (.aload_n 0, 1) := by decide +kernel
theorem dX8_init_1 : decode cX8_init 1 = .ok (.invokespecial 1, 3) := by decide +kernel
theorem dX8_init_4 : decode cX8_init 4 = .ok (.aload_n 0, 1) := by decide +kernel
theorem dX8_init_5 : decode cX8_init 5 = .ok (.new 7, 3) := by decide +kernel
theorem dX8_init_8 : decode cX8_init 8 = .ok (.dup, 1) := by decide +kernel
theorem dX8_init_9 : decode cX8_init 9 = .ok (.invokespecial 9, 3) := by decide +kernel
theorem dX8_init_12 : decode cX8_init 12 = .ok (.putfield 10, 3) := by decide +kernel
theorem dX8_init_15 : decode cX8_init 15 = .ok (.aload_n 0, 1) := by decide +kernel
theorem dX8_init_16 : decode cX8_init 16 = .ok (.new 16, 3) := by decide +kernel
theorem dX8_init_19 : decode cX8_init 19 = .ok (.dup, 1) := by decide +kernel
theorem dX8_init_20 : decode cX8_init 20 = .ok (.invokespecial 18, 3) := by decide +kernel
theorem dX8_init_23 : decode cX8_init 23 = .ok (.putfield 19, 3) := by decide +kernel
theorem dX8_init_26 : decode cX8_init 26 = .ok (.aload_n 0, 1) := by decide +kernel
theorem dX8_init_27 : decode cX8_init 27 = .ok (.new 16, 3) := by decide +kernel
theorem dX8_init_30 : decode cX8_init 30 = .ok (.dup, 1) := by decide +kernel
theorem dX8_init_31 : decode cX8_init 31 = .ok (.invokespecial 18, 3) := by decide +kernel
theorem dX8_init_34 : decode cX8_init 34 = .ok (.putfield 23, 3) := by decide +kernel
theorem dX8_init_37 : decode cX8_init 37 = .ok (.aload_n 0, 1) := by decide +kernel
theorem dX8_init_38 : decode cX8_init 38 = .ok (.new 26, 3) := by decide +kernel
theorem dX8_init_41 : decode cX8_init 41 = .ok (.dup, 1) := by decide +kernel
theorem dX8_init_42 : decode cX8_init 42 = .ok (.invokespecial 28, 3) := by decide +kernel
theorem dX8_init_45 : decode cX8_init 45 = .ok (.putfield 29, 3) := by decide +kernel
theorem dX8_init_48 : decode cX8_init 48 = .ok (.return_, 1) := by decide +kernel
set_option maxRecDepth 20000 in
theorem ggX8_version_X8_checkPart : GoodIn wsX8_version wsX8_checkPart := goodIn_ca (goodIn_r _ [10, 11, 12] (by decide +kernel) (by decide +kernel)) (goodIn_sub (fun _ h => List.mem_cons_of_mem _ (List.mem_append_right _ h)) (by decide +kernel))
set_option maxRecDepth 20000 in
theorem gX8_version_X8_checkPart : GoodIn wsX8_version (va_wsS RX8 33 yX8_checkPart wsX8_checkPart) := goodIn_app (goodIn_of _ (by decide +kernel)) ggX8_version_X8_checkPart
set_option maxRecDepth 20000 in
theorem ggX8_version_X3_countOf : GoodIn wsX8_version wsX3_countOf := goodIn_r _ [17, 18, 19, 20, 21, 22, 23, 24, 185, 186, 187, 188, 189, 190, 191] (by decide +kernel) (by decide +kernel)
set_option maxRecDepth 20000 in
theorem gX8_version_X3_countOf : GoodIn wsX8_version (wsV RX8 48 RX3 yX3_countOf wsX3_countOf) := goodIn_app (goodIn_of _ (by decide +kernel)) ggX8_version_X3_countOf
set_option maxRecDepth 20000 in
theorem ggX8_version_X8_tell : GoodIn wsX8_version wsX8_tell := goodIn_r _ [28, 5, 29, 30, 31, 32, 33, 34, 35, 36, 37, 38, 39, 22, 40, 24, 41, 42, 43, 44, 45, 46, 47, 48, 49, 50, 51, 52, 53, 20, 21, 23, 54, 55, 56, 16, 57, 18, 58, 59, 60, 19, 61, 62, 63, 64, 65, 66, 67, 68, 69, 70, 71, 72, 73, 74, 75, 76, 77, 78, 79, 80, 81, 82, 83, 84, 85, 86, 87, 88, 89, 90, 91, 92, 93, 94, 95, 96, 97, 98, 99, 100, 101, 102, 103, 104, 105, 106, 107, 108, 109, 110, 111, 112, 113, 114, 115, 116, 117, 118, 119, 120, 121, 122, 123, 124, 125, 126, 127, 128, 129, 130, 131, 132, 133, 134, 135, 136, 137, 138, 139, 140, 141, 142, 143, 144, 145, 146, 147, 148, 149, 150, 151, 152, 153, 154, 155, 156, 157, 158, 159, 160, 161, 162, 163, 164, 165, 166, 167, 168, 169, 170, 171, 172, 173, 174, 175, 176, 177, 178, 179, 180, 181, 192, 193, 191, 182, 183, 184, 185, 186, 187, 188, 189, 190, 194, 195, 196, 197, 198, 199, 200, 201, 202, 203, 204, 205] (by decide +kernel) (by decide +kernel)
set_option maxRecDepth 20000 in
theorem gX8_version_X8_tell : GoodIn wsX8_version (wsV RX8 59 RX8 yX8_tell wsX8_tell) := goodIn_app (goodIn_of _ (by decide +kernel)) ggX8_version_X8_tell
theorem dX8_version_0 : decode cX8_version 0 = .ok (.iload_n 1, 1) := by decide +kernel
theorem dX8_version_1 : decode cX8_version 1 = .ok (.invokestatic 33, 3) := by decide +kernel
theorem dX8_version_4 : decode cX8_version 4 = .ok (.iload_n 2, 1) := by decide +kernel
theorem dX8_version_5 : decode cX8_version 5 = .ok (.ifCond .lt 10, 3) := by decide +kernel
theorem dX8_version_8 : decode cX8_version 8 = .ok (.iload_n 2, 1) := by decide +kernel
theorem dX8_version_9 : decode cX8_version 9 = .ok (.sipush 1000, 3) := by decide +kernel
theorem dX8_version_12 : decode cX8_version 12 = .ok (.if_icmp .le 13, 3) := by decide +kernel
theorem dX8_version_15 : decode cX8_version 15 = .ok (.new 37, 3) := by decide +kernel
theorem dX8_version_18 : decode cX8_version 18 = .ok (.dup, 1) := by decide +kernel
theorem dX8_version_19 : decode cX8_version 19 = .ok (.ldc 39, 2) := by decide +kernel
theorem dX8_version_21 : decode cX8_version 21 = .ok (.invokespecial 41, 3) := by decide +kernel
theorem dX8_version_24 : decode cX8_version 24 = .ok (.athrow, 1) := by decide +kernel
theorem dX8_version_25 : decode cX8_version 25 = .ok (.aload_n 0, 1) := by decide +kernel
theorem dX8_version_26 : decode cX8_version 26 = .ok (.getfield 19, 3) := by decide +kernel
theorem dX8_version_29 : decode cX8_version 29 = .ok (.getfield 44, 3) := by decide +kernel
theorem dX8_version_32 : decode cX8_version 32 = .ok (.iload_n 1, 1) := by decide +kernel
theorem dX8_version_33 : decode cX8_version 33 = .ok (.invokevirtual 48, 3) := by decide +kernel
theorem dX8_version_36 : decode cX8_version 36 = .ok (.iconst 3, 1) := by decide +kernel
theorem dX8_version_37 : decode cX8_version 37 = .ok (.if_icmp .lt 13, 3) := by decide +kernel
theorem dX8_version_40 : decode cX8_version 40 = .ok (.new 54, 3) := by decide +kernel
theorem dX8_version_43 : decode cX8_version 43 = .ok (.dup, 1) := by decide +kernel
theorem dX8_version_44 : decode cX8_version 44 = .ok (.ldc 56, 2) := by decide +kernel
theorem dX8_version_46 : decode cX8_version 46 = .ok (.invokespecial 58, 3) := by decide +kernel
theorem dX8_version_49 : decode cX8_version 49 = .ok (.athrow, 1) := by decide +kernel
theorem dX8_version_50 : decode cX8_version 50 = .ok (.aload_n 0, 1) := by decide +kernel
theorem dX8_version_51 : decode cX8_version 51 = .ok (.iconst 1, 1) := by decide +kernel
theorem dX8_version_52 : decode cX8_version 52 = .ok (.iload_n 1, 1) := by decide +kernel
theorem dX8_version_53 : decode cX8_version 53 = .ok (.iload_n 2, 1) := by decide +kernel
theorem dX8_version_54 : decode cX8_version 54 = .ok (.iconst 0, 1) := by decide +kernel
theorem dX8_version_55 : decode cX8_version 55 = .ok (.invokevirtual 59, 3) := by decide +kernel
theorem dX8_version_58 : decode cX8_version 58 = .ok (.ireturn, 1) := by decide +kernel
set_option maxRecDepth 20000 in
theorem ggX8_need_X8_checkPart : GoodIn wsX8_need wsX8_checkPart := goodIn_ca (goodIn_r _ [11, 12, 13] (by decide +kernel) (by decide +kernel)) (goodIn_sub (fun _ h => List.mem_cons_of_mem _ (List.mem_append_right _ h)) (by decide +kernel))
set_option maxRecDepth 20000 in
theorem gX8_need_X8_checkPart : GoodIn wsX8_need (va_wsS RX8 33 yX8_checkPart wsX8_checkPart) := goodIn_app (goodIn_of _ (by decide +kernel)) ggX8_need_X8_checkPart
set_option maxRecDepth 20000 in
theorem ggX8_need_X8_checkVersion : GoodIn wsX8_need wsX8_checkVersion := goodIn_ca (goodIn_r _ [17, 12, 13, 5, 6, 18, 19, 20, 21, 22, 23, 24, 25, 26, 27, 28, 29, 185, 186, 187, 188, 189, 190, 191, 192, 193, 194, 195, 196, 197, 198] (by decide +kernel) (by decide +kernel)) (goodIn_sub (fun _ h => List.mem_cons_of_mem _ (List.mem_append_right _ h)) (by decide +kernel))
set_option maxRecDepth 20000 in
theorem gX8_need_X8_checkVersion : GoodIn wsX8_need (wsV RX8 63 RX8 yX8_checkVersion wsX8_checkVersion) := goodIn_app (goodIn_of _ (by decide +kernel)) ggX8_need_X8_checkVersion
set_option maxRecDepth 20000 in
theorem ggX8_need_X8_checkLeast : GoodIn wsX8_need wsX8_checkLeast := goodIn_ca (goodIn_r _ [32, 1, 2] (by decide +kernel) (by decide +kernel)) (goodIn_sub (fun _ h => List.mem_cons_of_mem _ (List.mem_append_left _ (List.mem_append_left _ (List.mem_append_right _ h)))) (by decide +kernel))
set_option maxRecDepth 20000 in
theorem gX8_need_X8_checkLeast : GoodIn wsX8_need (va_wsS RX8 69 yX8_checkLeast wsX8_checkLeast) := goodIn_app (goodIn_of _ (by decide +kernel)) ggX8_need_X8_checkLeast
set_option maxRecDepth 20000 in
theorem ggX8_need_X3_needsOf : GoodIn wsX8_need wsX3_needsOf := goodIn_r _ [36, 37, 38, 39, 21, 40, 24, 25, 26, 27, 28, 29, 192, 193, 194, 195, 196, 197, 198] (by decide +kernel) (by decide +kernel)
set_option maxRecDepth 20000 in
theorem gX8_need_X3_needsOf : GoodIn wsX8_need (wsV RX8 74 RX3 yX3_needsOf wsX3_needsOf) := goodIn_app (goodIn_of _ (by decide +kernel)) ggX8_need_X3_needsOf
set_option maxRecDepth 20000 in
theorem ggX8_need_X0_write : GoodIn wsX8_need wsX0_write := goodIn_r _ [45, 46, 47, 48, 49, 50, 27, 51, 29, 199, 200, 198] (by decide +kernel) (by decide +kernel)
set_option maxRecDepth 20000 in
theorem gX8_need_X0_write : GoodIn wsX8_need (wsV RX8 80 RX0 yX0_write wsX0_write) := goodIn_app (goodIn_of _ (by decide +kernel)) ggX8_need_X0_write
set_option maxRecDepth 20000 in
theorem ggX8_need_X2_apply : GoodIn wsX8_need wsX2_apply := goodIn_r _ [56, 57, 58, 59, 60, 61, 62, 44, 63, 47, 64, 25, 26, 27, 28, 29, 65, 66, 67, 21, 68, 23, 69, 70, 37, 24, 38, 39, 40, 71, 49, 50, 51, 72, 73, 74, 75, 76, 77, 78, 79, 80, 81, 82, 83, 84, 85, 86, 87, 88, 89, 90, 91, 92, 93, 94, 95, 96, 97, 98, 99, 100, 101, 102, 103, 104, 105, 106, 107, 108, 109, 110, 111, 112, 113, 114, 115, 116, 117, 118, 119, 120, 121, 122, 123, 124, 125, 126, 127, 128, 129, 130, 131, 132, 133, 134, 135, 136, 137, 138, 139, 140, 141, 142, 143, 144, 145, 146, 147, 148, 149, 150, 151, 152, 153, 154, 55, 155, 156, 157, 158, 159, 160, 161, 162, 163, 164, 165, 166, 167, 168, 169, 170, 171, 172, 173, 174, 175, 176, 177, 178, 179, 180, 181, 182, 183, 184, 189, 190, 191, 199, 200, 198, 192, 193, 194, 195, 196, 197, 201, 202, 203, 204, 205, 206, 207, 208, 209, 210, 211, 212] (by decide +kernel) (by decide +kernel)
set_option maxRecDepth 20000 in
theorem gX8_need_X2_apply : GoodIn wsX8_need (wsV RX8 84 RX2 yX2_apply wsX2_apply) := goodIn_app (goodIn_of _ (by decide +kernel)) ggX8_need_X2_apply
theorem dX8_need_0 : decode cX8_need 0 = .ok (.iload_n 1, 1) := by decide +kernel
theorem dX8_need_1 : decode cX8_need 1 = .ok (.invokestatic 33, 3) := by decide +kernel
theorem dX8_need_4 : decode cX8_need 4 = .ok (.iload_n 3, 1) := by decide +kernel
theorem dX8_need_5 : decode cX8_need 5 = .ok (.invokestatic 33, 3) := by decide +kernel
theorem dX8_need_8 : decode cX8_need 8 = .ok (.aload_n 0, 1) := by decide +kernel
theorem dX8_need_9 : decode cX8_need 9 = .ok (.iload_n 1, 1) := by decide +kernel
theorem dX8_need_10 : decode cX8_need 10 = .ok (.iload_n 2, 1) := by decide +kernel
theorem dX8_need_11 : decode cX8_need 11 = .ok (.invokevirtual 63, 3) := by decide +kernel
theorem dX8_need_14 : decode cX8_need 14 = .ok (.iload_n 1, 1) := by decide +kernel
theorem dX8_need_15 : decode cX8_need 15 = .ok (.iload_n 3, 1) := by decide +kernel
theorem dX8_need_16 : decode cX8_need 16 = .ok (.if_icmp .ne 13, 3) := by decide +kernel
theorem dX8_need_19 : decode cX8_need 19 = .ok (.new 37, 3) := by decide +kernel
theorem dX8_need_22 : decode cX8_need 22 = .ok (.dup, 1) := by decide +kernel
theorem dX8_need_23 : decode cX8_need 23 = .ok (.ldc 67, 2) := by decide +kernel
theorem dX8_need_25 : decode cX8_need 25 = .ok (.invokespecial 41, 3) := by decide +kernel
theorem dX8_need_28 : decode cX8_need 28 = .ok (.athrow, 1) := by decide +kernel
theorem dX8_need_29 : decode cX8_need 29 = .ok (.iload 4, 2) := by decide +kernel
theorem dX8_need_31 : decode cX8_need 31 = .ok (.invokestatic 69, 3) := by decide +kernel
theorem dX8_need_34 : decode cX8_need 34 = .ok (.iload 5, 2) := by decide +kernel
theorem dX8_need_36 : decode cX8_need 36 = .ok (.iload 4, 2) := by decide +kernel
theorem dX8_need_38 : decode cX8_need 38 = .ok (.if_icmp .lt 9, 3) := by decide +kernel
theorem dX8_need_41 : decode cX8_need 41 = .ok (.iload 5, 2) := by decide +kernel
theorem dX8_need_43 : decode cX8_need 43 = .ok (.iconst 3, 1) := by decide +kernel
theorem dX8_need_44 : decode cX8_need 44 = .ok (.if_icmp .le 13, 3) := by decide +kernel
theorem dX8_need_47 : decode cX8_need 47 = .ok (.new 37, 3) := by decide +kernel
theorem dX8_need_50 : decode cX8_need 50 = .ok (.dup, 1) := by decide +kernel
theorem dX8_need_51 : decode cX8_need 51 = .ok (.ldc 72, 2) := by decide +kernel
theorem dX8_need_53 : decode cX8_need 53 = .ok (.invokespecial 41, 3) := by decide +kernel
theorem dX8_need_56 : decode cX8_need 56 = .ok (.athrow, 1) := by decide +kernel
theorem dX8_need_57 : decode cX8_need 57 = .ok (.aload_n 0, 1) := by decide +kernel
theorem dX8_need_58 : decode cX8_need 58 = .ok (.getfield 19, 3) := by decide +kernel
theorem dX8_need_61 : decode cX8_need 61 = .ok (.getfield 44, 3) := by decide +kernel
theorem dX8_need_64 : decode cX8_need 64 = .ok (.iload_n 1, 1) := by decide +kernel
theorem dX8_need_65 : decode cX8_need 65 = .ok (.iload_n 2, 1) := by decide +kernel
theorem dX8_need_66 : decode cX8_need 66 = .ok (.invokevirtual 74, 3) := by decide +kernel
theorem dX8_need_69 : decode cX8_need 69 = .ok (.iconst 4, 1) := by decide +kernel
theorem dX8_need_70 : decode cX8_need 70 = .ok (.if_icmp .lt 13, 3) := by decide +kernel
theorem dX8_need_73 : decode cX8_need 73 = .ok (.new 54, 3) := by decide +kernel
theorem dX8_need_76 : decode cX8_need 76 = .ok (.dup, 1) := by decide +kernel
theorem dX8_need_77 : decode cX8_need 77 = .ok (.ldc 78, 2) := by decide +kernel
theorem dX8_need_79 : decode cX8_need 79 = .ok (.invokespecial 58, 3) := by decide +kernel
theorem dX8_need_82 : decode cX8_need 82 = .ok (.athrow, 1) := by decide +kernel
theorem dX8_need_83 : decode cX8_need 83 = .ok (.aload_n 0, 1) := by decide +kernel
theorem dX8_need_84 : decode cX8_need 84 = .ok (.getfield 19, 3) := by decide +kernel
theorem dX8_need_87 : decode cX8_need 87 = .ok (.aload_n 0, 1) := by decide +kernel
theorem dX8_need_88 : decode cX8_need 88 = .ok (.getfield 10, 3) := by decide +kernel
theorem dX8_need_91 : decode cX8_need 91 = .ok (.aload_n 0, 1) := by decide +kernel
theorem dX8_need_92 : decode cX8_need 92 = .ok (.getfield 10, 3) := by decide +kernel
theorem dX8_need_95 : decode cX8_need 95 = .ok (.iconst 2, 1) := by decide +kernel
theorem dX8_need_96 : decode cX8_need 96 = .ok (.iload_n 1, 1) := by decide +kernel
theorem dX8_need_97 : decode cX8_need 97 = .ok (.iload_n 2, 1) := by decide +kernel
theorem dX8_need_98 : decode cX8_need 98 = .ok (.iload_n 3, 1) := by decide +kernel
theorem dX8_need_99 : decode cX8_need 99 = .ok (.iload 4, 2) := by decide +kernel
theorem dX8_need_101 : decode cX8_need 101 = .ok (.iload 5, 2) := by decide +kernel
theorem dX8_need_103 : decode cX8_need 103 = .ok (.invokevirtual 80, 3) := by decide +kernel
theorem dX8_need_106 : decode cX8_need 106 = .ok (.invokevirtual 84, 3) := by decide +kernel
theorem dX8_need_109 : decode cX8_need 109 = .ok (.ireturn, 1) := by decide +kernel
set_option maxRecDepth 20000 in
theorem ggX8_replace_X8_checkPart : GoodIn wsX8_replace wsX8_checkPart := goodIn_ca (goodIn_r _ [8, 9, 10] (by decide +kernel) (by decide +kernel)) (goodIn_sub (fun _ h => List.mem_cons_of_mem _ (List.mem_append_right _ h)) (by decide +kernel))
set_option maxRecDepth 20000 in
theorem gX8_replace_X8_checkPart : GoodIn wsX8_replace (va_wsS RX8 33 yX8_checkPart wsX8_checkPart) := goodIn_app (goodIn_of _ (by decide +kernel)) ggX8_replace_X8_checkPart
set_option maxRecDepth 20000 in
theorem ggX8_replace_X8_checkVersion : GoodIn wsX8_replace wsX8_checkVersion := goodIn_ca (goodIn_r _ [14, 9, 10, 3, 4, 15, 16, 17, 18, 19, 20, 21, 22, 23, 24, 25, 26, 184, 185, 186, 187, 188, 189, 190, 191, 192, 193, 194, 195, 196, 197] (by decide +kernel) (by decide +kernel)) (goodIn_sub (fun _ h => List.mem_cons_of_mem _ (List.mem_append_right _ h)) (by decide +kernel))
set_option maxRecDepth 20000 in
theorem gX8_replace_X8_checkVersion : GoodIn wsX8_replace (wsV RX8 63 RX8 yX8_checkVersion wsX8_checkVersion) := goodIn_app (goodIn_of _ (by decide +kernel)) ggX8_replace_X8_checkVersion
set_option maxRecDepth 20000 in
theorem ggX8_replace_X3_isReplaced : GoodIn wsX8_replace wsX3_isReplaced := goodIn_r _ [30, 31, 32, 33, 18, 34, 21, 22, 23, 24, 25, 26, 191, 192, 193, 194, 195, 196, 197] (by decide +kernel) (by decide +kernel)
set_option maxRecDepth 20000 in
theorem gX8_replace_X3_isReplaced : GoodIn wsX8_replace (wsV RX8 88 RX3 yX3_isReplaced wsX3_isReplaced) := goodIn_app (goodIn_of _ (by decide +kernel)) ggX8_replace_X3_isReplaced
set_option maxRecDepth 20000 in
theorem ggX8_replace_X8_tell : GoodIn wsX8_replace wsX8_tell := goodIn_r _ [38, 3, 39, 40, 41, 42, 43, 44, 45, 46, 47, 48, 49, 24, 50, 26, 51, 52, 53, 54, 55, 56, 57, 58, 59, 60, 61, 62, 63, 22, 23, 25, 64, 65, 66, 18, 67, 20, 68, 31, 69, 21, 32, 33, 34, 70, 71, 72, 73, 74, 75, 76, 77, 78, 79, 80, 81, 82, 83, 84, 85, 86, 87, 88, 89, 90, 91, 92, 93, 94, 95, 96, 97, 98, 99, 100, 101, 102, 103, 104, 105, 106, 107, 108, 109, 110, 111, 112, 113, 114, 115, 116, 117, 118, 119, 120, 121, 122, 123, 124, 125, 126, 127, 128, 129, 130, 131, 132, 133, 134, 135, 136, 137, 138, 139, 140, 141, 142, 143, 144, 145, 146, 147, 148, 149, 150, 151, 152, 153, 154, 155, 156, 157, 158, 159, 160, 161, 162, 163, 164, 165, 166, 167, 168, 169, 170, 171, 172, 173, 174, 175, 176, 177, 178, 179, 180, 181, 182, 183, 184, 185, 186, 187, 198, 199, 197, 188, 189, 190, 191, 192, 193, 194, 195, 196, 200, 201, 202, 203, 204, 205, 206, 207, 208, 209, 210, 211] (by decide +kernel) (by decide +kernel)
set_option maxRecDepth 20000 in
theorem gX8_replace_X8_tell : GoodIn wsX8_replace (wsV RX8 59 RX8 yX8_tell wsX8_tell) := goodIn_app (goodIn_of _ (by decide +kernel)) ggX8_replace_X8_tell
theorem dX8_replace_0 : decode cX8_replace 0 = .ok (.iload_n 1, 1) := by decide +kernel
theorem dX8_replace_1 : decode cX8_replace 1 = .ok (.invokestatic 33, 3) := by decide +kernel
theorem dX8_replace_4 : decode cX8_replace 4 = .ok (.aload_n 0, 1) := by decide +kernel
theorem dX8_replace_5 : decode cX8_replace 5 = .ok (.iload_n 1, 1) := by decide +kernel
theorem dX8_replace_6 : decode cX8_replace 6 = .ok (.iload_n 2, 1) := by decide +kernel
theorem dX8_replace_7 : decode cX8_replace 7 = .ok (.invokevirtual 63, 3) := by decide +kernel
theorem dX8_replace_10 : decode cX8_replace 10 = .ok (.aload_n 0, 1) := by decide +kernel
theorem dX8_replace_11 : decode cX8_replace 11 = .ok (.getfield 19, 3) := by decide +kernel
theorem dX8_replace_14 : decode cX8_replace 14 = .ok (.getfield 44, 3) := by decide +kernel
theorem dX8_replace_17 : decode cX8_replace 17 = .ok (.iload_n 1, 1) := by decide +kernel
theorem dX8_replace_18 : decode cX8_replace 18 = .ok (.iload_n 2, 1) := by decide +kernel
theorem dX8_replace_19 : decode cX8_replace 19 = .ok (.invokevirtual 88, 3) := by decide +kernel
theorem dX8_replace_22 : decode cX8_replace 22 = .ok (.ifCond .eq 13, 3) := by decide +kernel
theorem dX8_replace_25 : decode cX8_replace 25 = .ok (.new 54, 3) := by decide +kernel
theorem dX8_replace_28 : decode cX8_replace 28 = .ok (.dup, 1) := by decide +kernel
theorem dX8_replace_29 : decode cX8_replace 29 = .ok (.ldc 92, 2) := by decide +kernel
theorem dX8_replace_31 : decode cX8_replace 31 = .ok (.invokespecial 58, 3) := by decide +kernel
theorem dX8_replace_34 : decode cX8_replace 34 = .ok (.athrow, 1) := by decide +kernel
theorem dX8_replace_35 : decode cX8_replace 35 = .ok (.aload_n 0, 1) := by decide +kernel
theorem dX8_replace_36 : decode cX8_replace 36 = .ok (.iconst 3, 1) := by decide +kernel
theorem dX8_replace_37 : decode cX8_replace 37 = .ok (.iload_n 1, 1) := by decide +kernel
theorem dX8_replace_38 : decode cX8_replace 38 = .ok (.iload_n 2, 1) := by decide +kernel
theorem dX8_replace_39 : decode cX8_replace 39 = .ok (.iconst 0, 1) := by decide +kernel
theorem dX8_replace_40 : decode cX8_replace 40 = .ok (.invokevirtual 59, 3) := by decide +kernel
theorem dX8_replace_43 : decode cX8_replace 43 = .ok (.ireturn, 1) := by decide +kernel
set_option maxRecDepth 20000 in
theorem ggX8_request_X8_checkPerson : GoodIn wsX8_request wsX8_checkPerson := goodIn_ca (goodIn_r _ [8, 9, 10] (by decide +kernel) (by decide +kernel)) (goodIn_sub (fun _ h => List.mem_cons_of_mem _ (List.mem_append_left _ (List.mem_append_right _ h))) (by decide +kernel))
set_option maxRecDepth 20000 in
theorem gX8_request_X8_checkPerson : GoodIn wsX8_request (va_wsS RX8 94 yX8_checkPerson wsX8_checkPerson) := goodIn_app (goodIn_of _ (by decide +kernel)) ggX8_request_X8_checkPerson
set_option maxRecDepth 20000 in
theorem ggX8_request_X8_checkPart : GoodIn wsX8_request wsX8_checkPart := goodIn_ca (goodIn_r _ [13, 9, 10] (by decide +kernel) (by decide +kernel)) (goodIn_sub (fun _ h => List.mem_cons_of_mem _ (List.mem_append_left _ (List.mem_append_right _ h))) (by decide +kernel))
set_option maxRecDepth 20000 in
theorem gX8_request_X8_checkPart : GoodIn wsX8_request (va_wsS RX8 33 yX8_checkPart wsX8_checkPart) := goodIn_app (goodIn_of _ (by decide +kernel)) ggX8_request_X8_checkPart
set_option maxRecDepth 20000 in
theorem ggX8_request_X8_checkLeast : GoodIn wsX8_request wsX8_checkLeast := goodIn_ca (goodIn_r _ [16, 17, 18] (by decide +kernel) (by decide +kernel)) (goodIn_sub (fun _ h => List.mem_cons_of_mem _ (List.mem_append_right _ h)) (by decide +kernel))
set_option maxRecDepth 20000 in
theorem gX8_request_X8_checkLeast : GoodIn wsX8_request (va_wsS RX8 69 yX8_checkLeast wsX8_checkLeast) := goodIn_app (goodIn_of _ (by decide +kernel)) ggX8_request_X8_checkLeast
set_option maxRecDepth 20000 in
theorem ggX8_request_X5_count : GoodIn wsX8_request wsX5_count := goodIn_r _ [23, 24, 191, 192, 193, 194, 195, 196, 197, 198] (by decide +kernel) (by decide +kernel)
set_option maxRecDepth 20000 in
theorem gX8_request_X5_count : GoodIn wsX8_request (wsV RX8 101 RX5 yX5_count wsX5_count) := goodIn_app (goodIn_of _ (by decide +kernel)) ggX8_request_X5_count
set_option maxRecDepth 20000 in
theorem ggX8_request_X8_tell : GoodIn wsX8_request wsX8_tell := goodIn_r _ [28, 3, 29, 30, 31, 32, 33, 34, 35, 36, 37, 38, 39, 40, 41, 42, 43, 44, 45, 46, 47, 48, 49, 50, 51, 52, 53, 54, 55, 56, 57, 58, 59, 60, 61, 62, 63, 64, 65, 66, 67, 68, 69, 70, 71, 72, 73, 74, 75, 76, 77, 78, 79, 80, 81, 82, 83, 84, 85, 86, 87, 88, 89, 90, 91, 92, 93, 94, 22, 95, 24, 96, 97, 98, 99, 100, 101, 102, 103, 104, 105, 106, 107, 108, 109, 110, 111, 112, 113, 114, 115, 116, 117, 118, 119, 120, 121, 122, 123, 124, 125, 126, 127, 128, 129, 130, 131, 132, 133, 134, 135, 136, 137, 138, 139, 140, 141, 142, 143, 144, 145, 146, 147, 148, 149, 150, 151, 152, 153, 154, 155, 156, 157, 158, 159, 160, 161, 162, 163, 164, 165, 166, 167, 168, 169, 170, 171, 172, 173, 174, 175, 176, 177, 178, 179, 180, 181, 182, 183, 184, 185, 186, 187, 199, 200, 201, 188, 189, 190, 202, 203, 204, 205, 206, 207, 208, 209, 210, 211, 191, 192, 193, 194, 195, 196, 197, 198] (by decide +kernel) (by decide +kernel)
set_option maxRecDepth 20000 in
theorem gX8_request_X8_tell : GoodIn wsX8_request (wsV RX8 59 RX8 yX8_tell wsX8_tell) := goodIn_app (goodIn_of _ (by decide +kernel)) ggX8_request_X8_tell
theorem dX8_request_0 : decode cX8_request 0 = .ok (.iload_n 1, 1) := by decide +kernel
theorem dX8_request_1 : decode cX8_request 1 = .ok (.invokestatic 94, 3) := by decide +kernel
theorem dX8_request_4 : decode cX8_request 4 = .ok (.iload_n 2, 1) := by decide +kernel
theorem dX8_request_5 : decode cX8_request 5 = .ok (.invokestatic 33, 3) := by decide +kernel
theorem dX8_request_8 : decode cX8_request 8 = .ok (.iload_n 3, 1) := by decide +kernel
theorem dX8_request_9 : decode cX8_request 9 = .ok (.invokestatic 69, 3) := by decide +kernel
theorem dX8_request_12 : decode cX8_request 12 = .ok (.aload_n 0, 1) := by decide +kernel
theorem dX8_request_13 : decode cX8_request 13 = .ok (.getfield 19, 3) := by decide +kernel
theorem dX8_request_16 : decode cX8_request 16 = .ok (.getfield 97, 3) := by decide +kernel
theorem dX8_request_19 : decode cX8_request 19 = .ok (.invokevirtual 101, 3) := by decide +kernel
theorem dX8_request_22 : decode cX8_request 22 = .ok (.bipush 30, 2) := by decide +kernel
theorem dX8_request_24 : decode cX8_request 24 = .ok (.if_icmp .lt 13, 3) := by decide +kernel
theorem dX8_request_27 : decode cX8_request 27 = .ok (.new 54, 3) := by decide +kernel
theorem dX8_request_30 : decode cX8_request 30 = .ok (.dup, 1) := by decide +kernel
theorem dX8_request_31 : decode cX8_request 31 = .ok (.ldc 107, 2) := by decide +kernel
theorem dX8_request_33 : decode cX8_request 33 = .ok (.invokespecial 58, 3) := by decide +kernel
theorem dX8_request_36 : decode cX8_request 36 = .ok (.athrow, 1) := by decide +kernel
theorem dX8_request_37 : decode cX8_request 37 = .ok (.aload_n 0, 1) := by decide +kernel
theorem dX8_request_38 : decode cX8_request 38 = .ok (.iconst 4, 1) := by decide +kernel
theorem dX8_request_39 : decode cX8_request 39 = .ok (.iload_n 1, 1) := by decide +kernel
theorem dX8_request_40 : decode cX8_request 40 = .ok (.iload_n 2, 1) := by decide +kernel
theorem dX8_request_41 : decode cX8_request 41 = .ok (.iload_n 3, 1) := by decide +kernel
theorem dX8_request_42 : decode cX8_request 42 = .ok (.invokevirtual 59, 3) := by decide +kernel
theorem dX8_request_45 : decode cX8_request 45 = .ok (.ireturn, 1) := by decide +kernel
set_option maxRecDepth 20000 in
theorem ggX8_resolve_X8_checkRequest : GoodIn wsX8_resolve wsX8_checkRequest := goodIn_ca (goodIn_r _ [11, 12, 13, 3, 4, 14, 15, 16, 17, 18, 19, 238, 239, 240, 241, 242, 243, 244, 245, 246, 247, 248, 249, 250, 251, 252] (by decide +kernel) (by decide +kernel)) (goodIn_sub (fun _ h => List.mem_cons_of_mem _ (List.mem_append_right _ h)) (by decide +kernel))
set_option maxRecDepth 20000 in
theorem gX8_resolve_X8_checkRequest : GoodIn wsX8_resolve (wsV RX8 109 RX8 yX8_checkRequest wsX8_checkRequest) := goodIn_app (goodIn_of _ (by decide +kernel)) ggX8_resolve_X8_checkRequest
set_option maxRecDepth 20000 in
theorem ggX8_resolve_X5_stateOf : GoodIn wsX8_resolve wsX5_stateOf := goodIn_r _ [23, 24, 25, 26, 27, 28, 29, 30, 245, 246, 247, 248, 249, 250, 251, 252, 253] (by decide +kernel) (by decide +kernel)
set_option maxRecDepth 20000 in
theorem gX8_resolve_X5_stateOf : GoodIn wsX8_resolve (wsV RX8 112 RX5 yX5_stateOf wsX5_stateOf) := goodIn_app (goodIn_of _ (by decide +kernel)) ggX8_resolve_X5_stateOf
set_option maxRecDepth 20000 in
theorem ggX8_resolve_X5_partOf : GoodIn wsX8_resolve wsX5_partOf := goodIn_r _ [34, 35, 25, 26, 27, 28, 29, 30, 245, 246, 247, 248, 249, 250, 251, 252, 253] (by decide +kernel) (by decide +kernel)
set_option maxRecDepth 20000 in
theorem gX8_resolve_X5_partOf : GoodIn wsX8_resolve (wsV RX8 117 RX5 yX5_partOf wsX5_partOf) := goodIn_app (goodIn_of _ (by decide +kernel)) ggX8_resolve_X5_partOf
set_option maxRecDepth 20000 in
theorem ggX8_resolve_X5_leastOf : GoodIn wsX8_resolve wsX5_leastOf := goodIn_r _ [39, 40, 25, 26, 27, 28, 29, 30, 245, 246, 247, 248, 249, 250, 251, 252, 253] (by decide +kernel) (by decide +kernel)
set_option maxRecDepth 20000 in
theorem gX8_resolve_X5_leastOf : GoodIn wsX8_resolve (wsV RX8 120 RX5 yX5_leastOf wsX5_leastOf) := goodIn_app (goodIn_of _ (by decide +kernel)) ggX8_resolve_X5_leastOf
set_option maxRecDepth 20000 in
theorem ggX8_resolve_X7_find : GoodIn wsX8_resolve wsX7_find := goodIn_r _ [45, 46, 47, 48, 49, 50, 51, 52, 53, 54, 55, 56, 26, 27, 28, 29, 30, 57, 58, 59, 60, 61, 62, 63, 64, 65, 66, 67, 68, 69, 70, 71, 72, 73, 74, 75, 76, 44, 77, 78, 79, 80, 81, 82, 83, 84, 85, 86, 87, 88, 89, 90, 91, 92, 93, 94, 95, 96, 97, 98, 99, 100, 101, 102, 103, 104, 254, 255, 256, 257, 258, 259, 260, 261, 262, 263, 253] (by decide +kernel) (by decide +kernel)
set_option maxRecDepth 20000 in
theorem gX8_resolve_X7_find : GoodIn wsX8_resolve (wsV RX8 123 RX7 yX7_find wsX7_find) := goodIn_app (goodIn_of _ (by decide +kernel)) ggX8_resolve_X7_find
set_option maxRecDepth 20000 in
theorem ggX8_resolve_X8_tell : GoodIn wsX8_resolve wsX8_tell := goodIn_r _ [108, 3, 109, 110, 111, 112, 113, 114, 115, 116, 117, 69, 70, 28, 71, 30, 118, 119, 120, 121, 122, 123, 124, 125, 126, 127, 128, 129, 130, 26, 27, 29, 131, 132, 133, 53, 134, 55, 135, 61, 86, 56, 62, 63, 64, 136, 137, 138, 139, 140, 91, 96, 65, 66, 67, 141, 142, 143, 144, 145, 146, 147, 148, 149, 150, 151, 152, 153, 17, 154, 19, 155, 24, 25, 156, 157, 103, 158, 159, 160, 161, 162, 163, 164, 165, 166, 167, 168, 169, 170, 171, 172, 173, 174, 175, 176, 177, 178, 179, 180, 181, 182, 35, 40, 183, 184, 185, 186, 187, 188, 189, 190, 191, 192, 193, 194, 195, 196, 197, 198, 199, 200, 201, 202, 203, 204, 205, 206, 207, 208, 209, 210, 211, 212, 213, 214, 215, 216, 217, 218, 219, 220, 221, 222, 223, 224, 225, 226, 227, 228, 229, 230, 231, 232, 233, 234, 235, 236, 237, 238, 239, 240, 241, 264, 265, 253, 242, 243, 244, 258, 259, 260, 261, 262, 263, 266, 267, 268, 269, 245, 246, 247, 248, 249, 250, 251, 252] (by decide +kernel) (by decide +kernel)
set_option maxRecDepth 20000 in
theorem gX8_resolve_X8_tell : GoodIn wsX8_resolve (wsV RX8 59 RX8 yX8_tell wsX8_tell) := goodIn_app (goodIn_of _ (by decide +kernel)) ggX8_resolve_X8_tell
theorem dX8_resolve_0 : decode cX8_resolve 0 = .ok (.aload_n 0, 1) := by decide +kernel
theorem dX8_resolve_1 : decode cX8_resolve 1 = .ok (.iload_n 1, 1) := by decide +kernel
theorem dX8_resolve_2 : decode cX8_resolve 2 = .ok (.invokevirtual 109, 3) := by decide +kernel
theorem dX8_resolve_5 : decode cX8_resolve 5 = .ok (.aload_n 0, 1) := by decide +kernel
theorem dX8_resolve_6 : decode cX8_resolve 6 = .ok (.getfield 19, 3) := by decide +kernel
theorem dX8_resolve_9 : decode cX8_resolve 9 = .ok (.getfield 97, 3) := by decide +kernel
theorem dX8_resolve_12 : decode cX8_resolve 12 = .ok (.iload_n 1, 1) := by decide +kernel
theorem dX8_resolve_13 : decode cX8_resolve 13 = .ok (.invokevirtual 112, 3) := by decide +kernel
theorem dX8_resolve_16 : decode cX8_resolve 16 = .ok (.iconst 2, 1) := by decide +kernel
theorem dX8_resolve_17 : decode cX8_resolve 17 = .ok (.if_icmp .ne 13, 3) := by decide +kernel
theorem dX8_resolve_20 : decode cX8_resolve 20 = .ok (.new 54, 3) := by decide +kernel
theorem dX8_resolve_23 : decode cX8_resolve 23 = .ok (.dup, 1) := by decide +kernel
theorem dX8_resolve_24 : decode cX8_resolve 24 = .ok (.ldc 115, 2) := by decide +kernel
theorem dX8_resolve_26 : decode cX8_resolve 26 = .ok (.invokespecial 58, 3) := by decide +kernel
theorem dX8_resolve_29 : decode cX8_resolve 29 = .ok (.athrow, 1) := by decide +kernel
theorem dX8_resolve_30 : decode cX8_resolve 30 = .ok (.aload_n 0, 1) := by decide +kernel
theorem dX8_resolve_31 : decode cX8_resolve 31 = .ok (.getfield 29, 3) := by decide +kernel
theorem dX8_resolve_34 : decode cX8_resolve 34 = .ok (.aload_n 0, 1) := by decide +kernel
theorem dX8_resolve_35 : decode cX8_resolve 35 = .ok (.getfield 19, 3) := by decide +kernel
theorem dX8_resolve_38 : decode cX8_resolve 38 = .ok (.getfield 44, 3) := by decide +kernel
theorem dX8_resolve_41 : decode cX8_resolve 41 = .ok (.aload_n 0, 1) := by decide +kernel
theorem dX8_resolve_42 : decode cX8_resolve 42 = .ok (.getfield 19, 3) := by decide +kernel
theorem dX8_resolve_45 : decode cX8_resolve 45 = .ok (.getfield 97, 3) := by decide +kernel
theorem dX8_resolve_48 : decode cX8_resolve 48 = .ok (.iload_n 1, 1) := by decide +kernel
theorem dX8_resolve_49 : decode cX8_resolve 49 = .ok (.invokevirtual 117, 3) := by decide +kernel
theorem dX8_resolve_52 : decode cX8_resolve 52 = .ok (.aload_n 0, 1) := by decide +kernel
theorem dX8_resolve_53 : decode cX8_resolve 53 = .ok (.getfield 19, 3) := by decide +kernel
theorem dX8_resolve_56 : decode cX8_resolve 56 = .ok (.getfield 97, 3) := by decide +kernel
theorem dX8_resolve_59 : decode cX8_resolve 59 = .ok (.iload_n 1, 1) := by decide +kernel
theorem dX8_resolve_60 : decode cX8_resolve 60 = .ok (.invokevirtual 120, 3) := by decide +kernel
theorem dX8_resolve_63 : decode cX8_resolve 63 = .ok (.invokevirtual 123, 3) := by decide +kernel
theorem dX8_resolve_66 : decode cX8_resolve 66 = .ok (.istore_n 2, 1) := by decide +kernel
theorem dX8_resolve_67 : decode cX8_resolve 67 = .ok (.iload_n 2, 1) := by decide +kernel
theorem dX8_resolve_68 : decode cX8_resolve 68 = .ok (.ifCond .ne 5, 3) := by decide +kernel
theorem dX8_resolve_71 : decode cX8_resolve 71 = .ok (.iconst (-1), 1) := by decide +kernel
theorem dX8_resolve_72 : decode cX8_resolve 72 = .ok (.ireturn, 1) := by decide +kernel
theorem dX8_resolve_73 : decode cX8_resolve 73 = .ok (.aload_n 0, 1) := by decide +kernel
theorem dX8_resolve_74 : decode cX8_resolve 74 = .ok (.iconst 5, 1) := by decide +kernel
theorem dX8_resolve_75 : decode cX8_resolve 75 = .ok (.iload_n 1, 1) := by decide +kernel
theorem dX8_resolve_76 : decode cX8_resolve 76 = .ok (.iload_n 2, 1) := by decide +kernel
theorem dX8_resolve_77 : decode cX8_resolve 77 = .ok (.iconst 0, 1) := by decide +kernel
theorem dX8_resolve_78 : decode cX8_resolve 78 = .ok (.invokevirtual 59, 3) := by decide +kernel
theorem dX8_resolve_81 : decode cX8_resolve 81 = .ok (.ireturn, 1) := by decide +kernel
set_option maxRecDepth 20000 in
theorem ggX8_chosen_X8_checkRequest : GoodIn wsX8_chosen wsX8_checkRequest := goodIn_ca (goodIn_r _ [7, 8, 9, 1, 2, 10, 11, 12, 13, 14, 15, 34, 35, 36, 37, 38, 39, 40, 41, 42, 43, 44, 45, 46, 47, 48] (by decide +kernel) (by decide +kernel)) (goodIn_sub (fun _ h => List.mem_cons_of_mem _ (List.mem_append_right _ h)) (by decide +kernel))
set_option maxRecDepth 20000 in
theorem gX8_chosen_X8_checkRequest : GoodIn wsX8_chosen (wsV RX8 109 RX8 yX8_checkRequest wsX8_checkRequest) := goodIn_app (goodIn_of _ (by decide +kernel)) ggX8_chosen_X8_checkRequest
set_option maxRecDepth 20000 in
theorem ggX8_chosen_X8_checkPart : GoodIn wsX8_chosen wsX8_checkPart := goodIn_ca (goodIn_r _ [18, 8, 9] (by decide +kernel) (by decide +kernel)) (goodIn_sub (fun _ h => List.mem_cons_of_mem _ (List.mem_append_right _ h)) (by decide +kernel))
set_option maxRecDepth 20000 in
theorem gX8_chosen_X8_checkPart : GoodIn wsX8_chosen (va_wsS RX8 33 yX8_checkPart wsX8_checkPart) := goodIn_app (goodIn_of _ (by decide +kernel)) ggX8_chosen_X8_checkPart
set_option maxRecDepth 20000 in
theorem ggX8_chosen_X5_choiceOf : GoodIn wsX8_chosen wsX5_choiceOf := goodIn_r _ [22, 23, 24, 25, 26, 27, 28, 29, 41, 42, 43, 44, 45, 46, 47, 48, 49] (by decide +kernel) (by decide +kernel)
set_option maxRecDepth 20000 in
theorem gX8_chosen_X5_choiceOf : GoodIn wsX8_chosen (wsV RX8 127 RX5 yX5_choiceOf wsX5_choiceOf) := goodIn_app (goodIn_of _ (by decide +kernel)) ggX8_chosen_X5_choiceOf
set_option maxRecDepth 20000 in
theorem ggX8_chosen_X1_versionOf : GoodIn wsX8_chosen wsX1_versionOf := goodIn_r _ [33] (by decide +kernel) (by decide +kernel)
set_option maxRecDepth 20000 in
theorem gX8_chosen_X1_versionOf : GoodIn wsX8_chosen (va_wsS RX8 130 yX1_versionOf wsX1_versionOf) := goodIn_app (goodIn_of _ (by decide +kernel)) ggX8_chosen_X1_versionOf
theorem dX8_chosen_0 : decode cX8_chosen 0 = .ok (.aload_n 0, 1) := by decide +kernel
theorem dX8_chosen_1 : decode cX8_chosen 1 = .ok (.iload_n 1, 1) := by decide +kernel
theorem dX8_chosen_2 : decode cX8_chosen 2 = .ok (.invokevirtual 109, 3) := by decide +kernel
theorem dX8_chosen_5 : decode cX8_chosen 5 = .ok (.iload_n 2, 1) := by decide +kernel
theorem dX8_chosen_6 : decode cX8_chosen 6 = .ok (.invokestatic 33, 3) := by decide +kernel
theorem dX8_chosen_9 : decode cX8_chosen 9 = .ok (.aload_n 0, 1) := by decide +kernel
theorem dX8_chosen_10 : decode cX8_chosen 10 = .ok (.getfield 19, 3) := by decide +kernel
theorem dX8_chosen_13 : decode cX8_chosen 13 = .ok (.getfield 97, 3) := by decide +kernel
theorem dX8_chosen_16 : decode cX8_chosen 16 = .ok (.iload_n 1, 1) := by decide +kernel
theorem dX8_chosen_17 : decode cX8_chosen 17 = .ok (.invokevirtual 127, 3) := by decide +kernel
theorem dX8_chosen_20 : decode cX8_chosen 20 = .ok (.iload_n 2, 1) := by decide +kernel
theorem dX8_chosen_21 : decode cX8_chosen 21 = .ok (.invokestatic 130, 3) := by decide +kernel
theorem dX8_chosen_24 : decode cX8_chosen 24 = .ok (.istore_n 3, 1) := by decide +kernel
theorem dX8_chosen_25 : decode cX8_chosen 25 = .ok (.iload_n 3, 1) := by decide +kernel
theorem dX8_chosen_26 : decode cX8_chosen 26 = .ok (.ifCond .ne 7, 3) := by decide +kernel
theorem dX8_chosen_29 : decode cX8_chosen 29 = .ok (.iconst (-1), 1) := by decide +kernel
theorem dX8_chosen_30 : decode cX8_chosen 30 = .ok (.goto 4, 3) := by decide +kernel
theorem dX8_chosen_33 : decode cX8_chosen 33 = .ok (.iload_n 3, 1) := by decide +kernel
theorem dX8_chosen_34 : decode cX8_chosen 34 = .ok (.ireturn, 1) := by decide +kernel
set_option maxRecDepth 20000 in
theorem ggX8_limit_X8_checkPerson : GoodIn wsX8_limit wsX8_checkPerson := goodIn_ca (goodIn_r _ [6, 7, 8] (by decide +kernel) (by decide +kernel)) (goodIn_sub (fun _ h => List.mem_cons_of_mem _ (List.mem_append_right _ h)) (by decide +kernel))
set_option maxRecDepth 20000 in
theorem gX8_limit_X8_checkPerson : GoodIn wsX8_limit (va_wsS RX8 94 yX8_checkPerson wsX8_checkPerson) := goodIn_app (goodIn_of _ (by decide +kernel)) ggX8_limit_X8_checkPerson
set_option maxRecDepth 20000 in
theorem ggX8_limit_X8_tell : GoodIn wsX8_limit wsX8_tell := goodIn_r _ [12, 13, 14, 15, 16, 17, 18, 19, 20, 21, 22, 23, 24, 25, 26, 27, 28, 29, 30, 31, 32, 33, 34, 35, 36, 37, 38, 39, 40, 41, 42, 43, 44, 45, 46, 47, 48, 49, 50, 51, 52, 53, 54, 55, 56, 57, 58, 59, 60, 61, 62, 63, 64, 65, 66, 67, 68, 69, 70, 71, 72, 73, 74, 75, 76, 77, 78, 79, 80, 81, 82, 83, 84, 85, 86, 87, 88, 89, 90, 91, 92, 93, 94, 95, 96, 97, 98, 99, 100, 101, 102, 103, 104, 105, 106, 107, 108, 109, 110, 111, 112, 113, 114, 115, 116, 117, 118, 119, 120, 121, 122, 123, 124, 125, 126, 127, 128, 129, 130, 131, 132, 133, 134, 135, 136, 137, 138, 139, 140, 141, 142, 143, 144, 145, 146, 147, 148, 149, 150, 151, 152, 153, 154, 155, 156, 157, 158, 159, 160, 161, 162, 163, 164, 165, 166, 167, 168, 169, 170, 171, 172, 173, 174, 175, 176, 177, 178, 179, 180, 181, 182, 183, 184, 185, 186, 187, 188, 189, 190, 191, 192, 193, 194, 195, 196, 197, 198] (by decide +kernel) (by decide +kernel)
set_option maxRecDepth 20000 in
theorem gX8_limit_X8_tell : GoodIn wsX8_limit (wsV RX8 59 RX8 yX8_tell wsX8_tell) := goodIn_app (goodIn_of _ (by decide +kernel)) ggX8_limit_X8_tell
theorem dX8_limit_0 : decode cX8_limit 0 = .ok (.iload_n 1, 1) := by decide +kernel
theorem dX8_limit_1 : decode cX8_limit 1 = .ok (.invokestatic 94, 3) := by decide +kernel
theorem dX8_limit_4 : decode cX8_limit 4 = .ok (.iload_n 2, 1) := by decide +kernel
theorem dX8_limit_5 : decode cX8_limit 5 = .ok (.ifCond .lt 10, 3) := by decide +kernel
theorem dX8_limit_8 : decode cX8_limit 8 = .ok (.iload_n 2, 1) := by decide +kernel
theorem dX8_limit_9 : decode cX8_limit 9 = .ok (.sipush 10000, 3) := by decide +kernel
theorem dX8_limit_12 : decode cX8_limit 12 = .ok (.if_icmp .le 13, 3) := by decide +kernel
theorem dX8_limit_15 : decode cX8_limit 15 = .ok (.new 37, 3) := by decide +kernel
theorem dX8_limit_18 : decode cX8_limit 18 = .ok (.dup, 1) := by decide +kernel
theorem dX8_limit_19 : decode cX8_limit 19 = .ok (.ldc 135, 2) := by decide +kernel
theorem dX8_limit_21 : decode cX8_limit 21 = .ok (.invokespecial 41, 3) := by decide +kernel
theorem dX8_limit_24 : decode cX8_limit 24 = .ok (.athrow, 1) := by decide +kernel
theorem dX8_limit_25 : decode cX8_limit 25 = .ok (.aload_n 0, 1) := by decide +kernel
theorem dX8_limit_26 : decode cX8_limit 26 = .ok (.bipush 6, 2) := by decide +kernel
theorem dX8_limit_28 : decode cX8_limit 28 = .ok (.iload_n 1, 1) := by decide +kernel
theorem dX8_limit_29 : decode cX8_limit 29 = .ok (.iload_n 2, 1) := by decide +kernel
theorem dX8_limit_30 : decode cX8_limit 30 = .ok (.iconst 0, 1) := by decide +kernel
theorem dX8_limit_31 : decode cX8_limit 31 = .ok (.invokevirtual 59, 3) := by decide +kernel
theorem dX8_limit_34 : decode cX8_limit 34 = .ok (.ireturn, 1) := by decide +kernel
set_option maxRecDepth 20000 in
theorem ggX8_leave_X8_checkPerson : GoodIn wsX8_leave wsX8_checkPerson := goodIn_ca (goodIn_r _ [6, 7, 8] (by decide +kernel) (by decide +kernel)) (goodIn_sub (fun _ h => List.mem_cons_of_mem _ (List.mem_append_right _ h)) (by decide +kernel))
set_option maxRecDepth 20000 in
theorem gX8_leave_X8_checkPerson : GoodIn wsX8_leave (va_wsS RX8 94 yX8_checkPerson wsX8_checkPerson) := goodIn_app (goodIn_of _ (by decide +kernel)) ggX8_leave_X8_checkPerson
set_option maxRecDepth 20000 in
theorem ggX8_leave_X8_checkDays : GoodIn wsX8_leave wsX8_checkDays := goodIn_ca (goodIn_r _ [11, 1, 2] (by decide +kernel) (by decide +kernel)) (goodIn_sub (fun _ h => List.mem_cons_of_mem _ (List.mem_append_left _ (List.mem_append_right _ h))) (by decide +kernel))
set_option maxRecDepth 20000 in
theorem gX8_leave_X8_checkDays : GoodIn wsX8_leave (va_wsS RX8 139 yX8_checkDays wsX8_checkDays) := goodIn_app (goodIn_of _ (by decide +kernel)) ggX8_leave_X8_checkDays
set_option maxRecDepth 20000 in
theorem ggX8_leave_X8_tell : GoodIn wsX8_leave wsX8_tell := goodIn_r _ [15, 16, 17, 18, 19, 20, 21, 22, 23, 24, 25, 26, 27, 28, 29, 30, 31, 32, 33, 34, 35, 36, 37, 38, 39, 40, 41, 42, 43, 44, 45, 46, 47, 48, 49, 50, 51, 52, 53, 54, 55, 56, 57, 58, 59, 60, 61, 62, 63, 64, 65, 66, 67, 68, 69, 70, 71, 72, 73, 74, 75, 76, 77, 78, 79, 80, 81, 82, 83, 84, 85, 86, 87, 88, 89, 90, 91, 92, 93, 94, 95, 96, 97, 98, 99, 100, 101, 102, 103, 104, 105, 106, 107, 108, 109, 110, 111, 112, 113, 114, 115, 116, 117, 118, 119, 120, 121, 122, 123, 124, 125, 126, 127, 128, 129, 130, 131, 132, 133, 134, 135, 136, 137, 138, 139, 140, 141, 142, 143, 144, 145, 146, 147, 148, 149, 150, 151, 152, 153, 154, 155, 156, 157, 158, 159, 160, 161, 162, 163, 164, 165, 166, 167, 168, 169, 170, 171, 172, 173, 174, 175, 176, 177, 178, 179, 180, 181, 182, 183, 184, 185, 186, 187, 188, 189, 190, 191, 192, 193, 194, 195, 196, 197, 198, 199, 200, 201] (by decide +kernel) (by decide +kernel)
set_option maxRecDepth 20000 in
theorem gX8_leave_X8_tell : GoodIn wsX8_leave (wsV RX8 59 RX8 yX8_tell wsX8_tell) := goodIn_app (goodIn_of _ (by decide +kernel)) ggX8_leave_X8_tell
theorem dX8_leave_0 : decode cX8_leave 0 = .ok (.iload_n 1, 1) := by decide +kernel
theorem dX8_leave_1 : decode cX8_leave 1 = .ok (.invokestatic 94, 3) := by decide +kernel
theorem dX8_leave_4 : decode cX8_leave 4 = .ok (.iload_n 2, 1) := by decide +kernel
theorem dX8_leave_5 : decode cX8_leave 5 = .ok (.invokestatic 94, 3) := by decide +kernel
theorem dX8_leave_8 : decode cX8_leave 8 = .ok (.iload_n 1, 1) := by decide +kernel
theorem dX8_leave_9 : decode cX8_leave 9 = .ok (.iload_n 2, 1) := by decide +kernel
theorem dX8_leave_10 : decode cX8_leave 10 = .ok (.if_icmp .ne 13, 3) := by decide +kernel
theorem dX8_leave_13 : decode cX8_leave 13 = .ok (.new 37, 3) := by decide +kernel
theorem dX8_leave_16 : decode cX8_leave 16 = .ok (.dup, 1) := by decide +kernel
theorem dX8_leave_17 : decode cX8_leave 17 = .ok (.ldc 137, 2) := by decide +kernel
theorem dX8_leave_19 : decode cX8_leave 19 = .ok (.invokespecial 41, 3) := by decide +kernel
theorem dX8_leave_22 : decode cX8_leave 22 = .ok (.athrow, 1) := by decide +kernel
theorem dX8_leave_23 : decode cX8_leave 23 = .ok (.iload_n 3, 1) := by decide +kernel
theorem dX8_leave_24 : decode cX8_leave 24 = .ok (.invokestatic 139, 3) := by decide +kernel
theorem dX8_leave_27 : decode cX8_leave 27 = .ok (.aload_n 0, 1) := by decide +kernel
theorem dX8_leave_28 : decode cX8_leave 28 = .ok (.bipush 7, 2) := by decide +kernel
theorem dX8_leave_30 : decode cX8_leave 30 = .ok (.iload_n 1, 1) := by decide +kernel
theorem dX8_leave_31 : decode cX8_leave 31 = .ok (.iload_n 2, 1) := by decide +kernel
theorem dX8_leave_32 : decode cX8_leave 32 = .ok (.iload_n 3, 1) := by decide +kernel
theorem dX8_leave_33 : decode cX8_leave 33 = .ok (.invokevirtual 59, 3) := by decide +kernel
theorem dX8_leave_36 : decode cX8_leave 36 = .ok (.ireturn, 1) := by decide +kernel
set_option maxRecDepth 20000 in
theorem ggX8_approve_X8_checkRequest : GoodIn wsX8_approve wsX8_checkRequest := goodIn_ca (goodIn_r _ [8, 9, 10, 3, 11, 12, 13, 14, 15, 16, 17, 193, 194, 195, 196, 197, 198, 199, 200, 201, 202, 203, 204, 205, 206, 207] (by decide +kernel) (by decide +kernel)) (goodIn_sub (fun _ h => List.mem_cons_of_mem _ (List.mem_append_right _ h)) (by decide +kernel))
set_option maxRecDepth 20000 in
theorem gX8_approve_X8_checkRequest : GoodIn wsX8_approve (wsV RX8 109 RX8 yX8_checkRequest wsX8_checkRequest) := goodIn_app (goodIn_of _ (by decide +kernel)) ggX8_approve_X8_checkRequest
set_option maxRecDepth 20000 in
theorem ggX8_approve_X8_checkPerson : GoodIn wsX8_approve wsX8_checkPerson := goodIn_ca (goodIn_r _ [20, 9, 10] (by decide +kernel) (by decide +kernel)) (goodIn_sub (fun _ h => List.mem_cons_of_mem _ (List.mem_append_right _ h)) (by decide +kernel))
set_option maxRecDepth 20000 in
theorem gX8_approve_X8_checkPerson : GoodIn wsX8_approve (va_wsS RX8 94 yX8_checkPerson wsX8_checkPerson) := goodIn_app (goodIn_of _ (by decide +kernel)) ggX8_approve_X8_checkPerson
set_option maxRecDepth 20000 in
theorem ggX8_approve_X2_principalFor : GoodIn wsX8_approve wsX2_principalFor := goodIn_r _ [25, 26, 27, 28, 29, 30, 15, 31, 32, 33, 34, 35, 36, 37, 38, 39, 40, 41, 42, 43, 44, 45, 46, 47, 48, 49, 50, 51, 52, 53, 54, 55, 56, 57, 58, 59, 60, 61, 62, 63, 64, 65, 66, 67, 68, 69, 70, 71, 197, 198, 199, 200, 201, 202, 203, 204, 205, 206, 207, 208, 209, 210, 211, 212] (by decide +kernel) (by decide +kernel)
set_option maxRecDepth 20000 in
theorem gX8_approve_X2_principalFor : GoodIn wsX8_approve (wsV RX8 142 RX2 yX2_principalFor wsX2_principalFor) := goodIn_app (goodIn_of _ (by decide +kernel)) ggX8_approve_X2_principalFor
set_option maxRecDepth 20000 in
theorem ggX8_approve_X8_tell : GoodIn wsX8_approve wsX8_tell := goodIn_r _ [75, 3, 76, 77, 78, 79, 80, 81, 82, 83, 84, 85, 86, 36, 87, 38, 88, 89, 90, 24, 91, 92, 26, 27, 93, 94, 95, 96, 97, 34, 35, 37, 98, 99, 100, 101, 102, 103, 104, 105, 106, 107, 108, 109, 110, 111, 112, 113, 114, 115, 116, 117, 118, 119, 120, 121, 122, 123, 124, 44, 45, 46, 47, 48, 49, 125, 126, 127, 15, 128, 17, 129, 32, 33, 130, 131, 132, 133, 134, 135, 136, 137, 138, 51, 52, 53, 54, 139, 140, 141, 142, 143, 144, 145, 146, 147, 59, 148, 149, 150, 151, 43, 152, 153, 154, 155, 156, 157, 158, 159, 160, 161, 162, 163, 164, 165, 166, 64, 71, 167, 168, 169, 170, 171, 65, 70, 172, 173, 174, 175, 176, 55, 56, 57, 58, 60, 61, 62, 63, 66, 67, 68, 69, 177, 178, 179, 180, 181, 182, 183, 184, 185, 186, 187, 188, 189, 190, 191, 192, 193, 194, 195, 196, 213, 214, 208, 197, 198, 199, 215, 216, 217, 218, 219, 220, 209, 210, 211, 212, 200, 201, 202, 203, 204, 205, 206, 207] (by decide +kernel) (by decide +kernel)
set_option maxRecDepth 20000 in
theorem gX8_approve_X8_tell : GoodIn wsX8_approve (wsV RX8 59 RX8 yX8_tell wsX8_tell) := goodIn_app (goodIn_of _ (by decide +kernel)) ggX8_approve_X8_tell
theorem dX8_approve_0 : decode cX8_approve 0 = .ok (.aload_n 0, 1) := by decide +kernel
theorem dX8_approve_1 : decode cX8_approve 1 = .ok (.iload_n 1, 1) := by decide +kernel
theorem dX8_approve_2 : decode cX8_approve 2 = .ok (.invokevirtual 109, 3) := by decide +kernel
theorem dX8_approve_5 : decode cX8_approve 5 = .ok (.iload_n 2, 1) := by decide +kernel
theorem dX8_approve_6 : decode cX8_approve 6 = .ok (.invokestatic 94, 3) := by decide +kernel
theorem dX8_approve_9 : decode cX8_approve 9 = .ok (.aload_n 0, 1) := by decide +kernel
theorem dX8_approve_10 : decode cX8_approve 10 = .ok (.getfield 19, 3) := by decide +kernel
theorem dX8_approve_13 : decode cX8_approve 13 = .ok (.iload_n 1, 1) := by decide +kernel
theorem dX8_approve_14 : decode cX8_approve 14 = .ok (.iload_n 2, 1) := by decide +kernel
theorem dX8_approve_15 : decode cX8_approve 15 = .ok (.invokevirtual 142, 3) := by decide +kernel
theorem dX8_approve_18 : decode cX8_approve 18 = .ok (.iconst (-1), 1) := by decide +kernel
theorem dX8_approve_19 : decode cX8_approve 19 = .ok (.if_icmp .ne 13, 3) := by decide +kernel
theorem dX8_approve_22 : decode cX8_approve 22 = .ok (.new 54, 3) := by decide +kernel
theorem dX8_approve_25 : decode cX8_approve 25 = .ok (.dup, 1) := by decide +kernel
theorem dX8_approve_26 : decode cX8_approve 26 = .ok (.ldc 145, 2) := by decide +kernel
theorem dX8_approve_28 : decode cX8_approve 28 = .ok (.invokespecial 58, 3) := by decide +kernel
theorem dX8_approve_31 : decode cX8_approve 31 = .ok (.athrow, 1) := by decide +kernel
theorem dX8_approve_32 : decode cX8_approve 32 = .ok (.aload_n 0, 1) := by decide +kernel
theorem dX8_approve_33 : decode cX8_approve 33 = .ok (.bipush 8, 2) := by decide +kernel
theorem dX8_approve_35 : decode cX8_approve 35 = .ok (.iload_n 1, 1) := by decide +kernel
theorem dX8_approve_36 : decode cX8_approve 36 = .ok (.iload_n 2, 1) := by decide +kernel
theorem dX8_approve_37 : decode cX8_approve 37 = .ok (.iconst 0, 1) := by decide +kernel
theorem dX8_approve_38 : decode cX8_approve 38 = .ok (.invokevirtual 59, 3) := by decide +kernel
theorem dX8_approve_41 : decode cX8_approve 41 = .ok (.ireturn, 1) := by decide +kernel
set_option maxRecDepth 20000 in
theorem ggX8_release_X8_checkRequest : GoodIn wsX8_release wsX8_checkRequest := goodIn_ca (goodIn_r _ [9, 10, 11, 3, 4, 12, 13, 14, 15, 16, 17, 190, 191, 192, 193, 194, 195, 196, 197, 198, 199, 200, 201, 202, 203, 204] (by decide +kernel) (by decide +kernel)) (goodIn_sub (fun _ h => List.mem_cons_of_mem _ (List.mem_append_right _ h)) (by decide +kernel))
set_option maxRecDepth 20000 in
theorem gX8_release_X8_checkRequest : GoodIn wsX8_release (wsV RX8 109 RX8 yX8_checkRequest wsX8_checkRequest) := goodIn_app (goodIn_of _ (by decide +kernel)) ggX8_release_X8_checkRequest
set_option maxRecDepth 20000 in
theorem ggX8_release_X5_stateOf : GoodIn wsX8_release wsX5_stateOf := goodIn_r _ [21, 22, 23, 24, 25, 26, 27, 28, 197, 198, 199, 200, 201, 202, 203, 204, 205] (by decide +kernel) (by decide +kernel)
set_option maxRecDepth 20000 in
theorem gX8_release_X5_stateOf : GoodIn wsX8_release (wsV RX8 112 RX5 yX5_stateOf wsX5_stateOf) := goodIn_app (goodIn_of _ (by decide +kernel)) ggX8_release_X5_stateOf
set_option maxRecDepth 20000 in
theorem ggX8_release_X2_isCovered : GoodIn wsX8_release wsX2_isCovered := goodIn_r _ [33, 34, 35, 36, 37, 15, 38, 39, 23, 24, 25, 26, 27, 28, 40, 41, 42, 32, 43, 44, 45, 46, 47, 48, 49, 50, 51, 52, 53, 54, 55, 56, 57, 58, 59, 194, 195, 196, 197, 198, 199, 200, 201, 202, 203, 204, 205, 206, 207, 208, 209] (by decide +kernel) (by decide +kernel)
set_option maxRecDepth 20000 in
theorem gX8_release_X2_isCovered : GoodIn wsX8_release (wsV RX8 147 RX2 yX2_isCovered wsX2_isCovered) := goodIn_app (goodIn_of _ (by decide +kernel)) ggX8_release_X2_isCovered
set_option maxRecDepth 20000 in
theorem ggX8_release_X8_tell : GoodIn wsX8_release wsX8_tell := goodIn_r _ [63, 3, 64, 65, 66, 67, 68, 69, 70, 71, 72, 73, 74, 26, 75, 28, 76, 77, 78, 32, 79, 80, 34, 44, 81, 82, 83, 84, 85, 24, 25, 27, 86, 87, 88, 89, 90, 91, 92, 93, 94, 95, 96, 97, 98, 99, 100, 101, 102, 103, 104, 105, 106, 107, 108, 109, 110, 111, 112, 45, 46, 47, 48, 49, 50, 113, 114, 115, 15, 116, 17, 117, 22, 23, 118, 119, 120, 121, 122, 52, 53, 54, 55, 56, 57, 58, 59, 123, 124, 125, 126, 127, 128, 129, 130, 131, 39, 132, 133, 134, 135, 136, 137, 138, 139, 140, 141, 142, 143, 144, 145, 146, 147, 148, 149, 150, 151, 152, 153, 154, 155, 156, 157, 158, 159, 160, 161, 162, 163, 164, 165, 35, 36, 37, 38, 166, 167, 168, 169, 170, 171, 172, 173, 174, 175, 176, 177, 178, 179, 180, 181, 182, 183, 184, 185, 186, 187, 188, 189, 190, 191, 192, 193, 210, 211, 205, 194, 195, 196, 212, 213, 214, 215, 216, 217, 206, 207, 208, 209, 197, 198, 199, 200, 201, 202, 203, 204] (by decide +kernel) (by decide +kernel)
set_option maxRecDepth 20000 in
theorem gX8_release_X8_tell : GoodIn wsX8_release (wsV RX8 59 RX8 yX8_tell wsX8_tell) := goodIn_app (goodIn_of _ (by decide +kernel)) ggX8_release_X8_tell
theorem dX8_release_0 : decode cX8_release 0 = .ok (.aload_n 0, 1) := by decide +kernel
theorem dX8_release_1 : decode cX8_release 1 = .ok (.iload_n 1, 1) := by decide +kernel
theorem dX8_release_2 : decode cX8_release 2 = .ok (.invokevirtual 109, 3) := by decide +kernel
theorem dX8_release_5 : decode cX8_release 5 = .ok (.aload_n 0, 1) := by decide +kernel
theorem dX8_release_6 : decode cX8_release 6 = .ok (.getfield 19, 3) := by decide +kernel
theorem dX8_release_9 : decode cX8_release 9 = .ok (.getfield 97, 3) := by decide +kernel
theorem dX8_release_12 : decode cX8_release 12 = .ok (.iload_n 1, 1) := by decide +kernel
theorem dX8_release_13 : decode cX8_release 13 = .ok (.invokevirtual 112, 3) := by decide +kernel
theorem dX8_release_16 : decode cX8_release 16 = .ok (.iconst 1, 1) := by decide +kernel
theorem dX8_release_17 : decode cX8_release 17 = .ok (.if_icmp .ne 14, 3) := by decide +kernel
theorem dX8_release_20 : decode cX8_release 20 = .ok (.aload_n 0, 1) := by decide +kernel
theorem dX8_release_21 : decode cX8_release 21 = .ok (.getfield 19, 3) := by decide +kernel
theorem dX8_release_24 : decode cX8_release 24 = .ok (.iload_n 1, 1) := by decide +kernel
theorem dX8_release_25 : decode cX8_release 25 = .ok (.invokevirtual 147, 3) := by decide +kernel
theorem dX8_release_28 : decode cX8_release 28 = .ok (.ifCond .ne 13, 3) := by decide +kernel
theorem dX8_release_31 : decode cX8_release 31 = .ok (.new 54, 3) := by decide +kernel
theorem dX8_release_34 : decode cX8_release 34 = .ok (.dup, 1) := by decide +kernel
theorem dX8_release_35 : decode cX8_release 35 = .ok (.ldc 151, 2) := by decide +kernel
theorem dX8_release_37 : decode cX8_release 37 = .ok (.invokespecial 58, 3) := by decide +kernel
theorem dX8_release_40 : decode cX8_release 40 = .ok (.athrow, 1) := by decide +kernel
theorem dX8_release_41 : decode cX8_release 41 = .ok (.aload_n 0, 1) := by decide +kernel
theorem dX8_release_42 : decode cX8_release 42 = .ok (.bipush 9, 2) := by decide +kernel
theorem dX8_release_44 : decode cX8_release 44 = .ok (.iload_n 1, 1) := by decide +kernel
theorem dX8_release_45 : decode cX8_release 45 = .ok (.iconst 0, 1) := by decide +kernel
theorem dX8_release_46 : decode cX8_release 46 = .ok (.iconst 0, 1) := by decide +kernel
theorem dX8_release_47 : decode cX8_release 47 = .ok (.invokevirtual 59, 3) := by decide +kernel
theorem dX8_release_50 : decode cX8_release 50 = .ok (.pop, 1) := by decide +kernel
theorem dX8_release_51 : decode cX8_release 51 = .ok (.return_, 1) := by decide +kernel
set_option maxRecDepth 20000 in
theorem ggX8_pass_X8_checkDays : GoodIn wsX8_pass wsX8_checkDays := goodIn_ca (goodIn_r _ [4, 5, 6] (by decide +kernel) (by decide +kernel)) (goodIn_sub (fun _ h => List.mem_cons_of_mem _ (List.mem_append_right _ h)) (by decide +kernel))
set_option maxRecDepth 20000 in
theorem gX8_pass_X8_checkDays : GoodIn wsX8_pass (va_wsS RX8 139 yX8_checkDays wsX8_checkDays) := goodIn_app (goodIn_of _ (by decide +kernel)) ggX8_pass_X8_checkDays
set_option maxRecDepth 20000 in
theorem ggX8_pass_X8_tell : GoodIn wsX8_pass wsX8_tell := goodIn_r _ [10, 11, 12, 13, 14, 15, 16, 17, 18, 19, 20, 21, 22, 23, 24, 25, 26, 27, 28, 29, 30, 31, 32, 33, 34, 35, 36, 37, 38, 39, 40, 41, 42, 43, 44, 45, 46, 47, 48, 49, 50, 51, 52, 53, 54, 55, 56, 57, 58, 59, 60, 61, 62, 63, 64, 65, 66, 67, 68, 69, 70, 71, 72, 73, 74, 75, 76, 77, 78, 79, 80, 81, 82, 83, 84, 85, 86, 87, 88, 89, 90, 91, 92, 93, 94, 95, 96, 97, 98, 99, 100, 101, 102, 103, 104, 105, 106, 107, 108, 109, 110, 111, 112, 113, 114, 115, 116, 117, 118, 119, 120, 121, 122, 123, 124, 125, 126, 127, 128, 129, 130, 131, 132, 133, 134, 135, 136, 137, 138, 139, 140, 141, 142, 143, 144, 145, 146, 147, 148, 149, 150, 151, 152, 153, 154, 155, 156, 157, 158, 159, 160, 161, 162, 163, 164, 165, 166, 167, 168, 169, 170, 171, 172, 173, 174, 175, 176, 177, 178, 179, 180, 181, 182, 183, 184, 185, 186, 187, 188, 189, 190, 191, 192, 193, 194, 195, 196] (by decide +kernel) (by decide +kernel)
set_option maxRecDepth 20000 in
theorem gX8_pass_X8_tell : GoodIn wsX8_pass (wsV RX8 59 RX8 yX8_tell wsX8_tell) := goodIn_app (goodIn_of _ (by decide +kernel)) ggX8_pass_X8_tell
theorem dX8_pass_0 : decode cX8_pass 0 = .ok (.iload_n 1, 1) := by decide +kernel
theorem dX8_pass_1 : decode cX8_pass 1 = .ok (.invokestatic 139, 3) := by decide +kernel
theorem dX8_pass_4 : decode cX8_pass 4 = .ok (.aload_n 0, 1) := by decide +kernel
theorem dX8_pass_5 : decode cX8_pass 5 = .ok (.bipush 10, 2) := by decide +kernel
theorem dX8_pass_7 : decode cX8_pass 7 = .ok (.iload_n 1, 1) := by decide +kernel
theorem dX8_pass_8 : decode cX8_pass 8 = .ok (.iconst 0, 1) := by decide +kernel
theorem dX8_pass_9 : decode cX8_pass 9 = .ok (.iconst 0, 1) := by decide +kernel
theorem dX8_pass_10 : decode cX8_pass 10 = .ok (.invokevirtual 59, 3) := by decide +kernel
theorem dX8_pass_13 : decode cX8_pass 13 = .ok (.ireturn, 1) := by decide +kernel
set_option maxRecDepth 20000 in
theorem ggX8_ofRequest_X8_checkRequest : GoodIn wsX8_ofRequest wsX8_checkRequest := goodIn_ca (goodIn_r _ [9, 10, 11, 3, 4, 12, 13, 14, 15, 16, 17, 62, 63, 64, 65, 66, 67, 68, 69, 70, 71, 72, 73, 74, 75, 76] (by decide +kernel) (by decide +kernel)) (goodIn_sub (fun _ h => List.mem_cons_of_mem _ (List.mem_append_right _ h)) (by decide +kernel))
set_option maxRecDepth 20000 in
theorem gX8_ofRequest_X8_checkRequest : GoodIn wsX8_ofRequest (wsV RX8 109 RX8 yX8_checkRequest wsX8_checkRequest) := goodIn_app (goodIn_of _ (by decide +kernel)) ggX8_ofRequest_X8_checkRequest
set_option maxRecDepth 20000 in
theorem ggX8_ofRequest_X5_stateOf : GoodIn wsX8_ofRequest wsX5_stateOf := goodIn_r _ [21, 22, 23, 24, 25, 26, 27, 28, 69, 70, 71, 72, 73, 74, 75, 76, 77] (by decide +kernel) (by decide +kernel)
set_option maxRecDepth 20000 in
theorem gX8_ofRequest_X5_stateOf : GoodIn wsX8_ofRequest (wsV RX8 112 RX5 yX5_stateOf wsX5_stateOf) := goodIn_app (goodIn_of _ (by decide +kernel)) ggX8_ofRequest_X5_stateOf
set_option maxRecDepth 20000 in
theorem ggX8_ofRequest_X5_costOf : GoodIn wsX8_ofRequest wsX5_costOf := goodIn_r _ [32, 33, 23, 24, 25, 26, 27, 28, 69, 70, 71, 72, 73, 74, 75, 76, 77] (by decide +kernel) (by decide +kernel)
set_option maxRecDepth 20000 in
theorem gX8_ofRequest_X5_costOf : GoodIn wsX8_ofRequest (wsV RX8 153 RX5 yX5_costOf wsX5_costOf) := goodIn_app (goodIn_of _ (by decide +kernel)) ggX8_ofRequest_X5_costOf
set_option maxRecDepth 20000 in
theorem ggX8_ofRequest_X2_approvalsOf : GoodIn wsX8_ofRequest wsX2_approvalsOf := goodIn_r _ [38, 39, 40, 41, 42, 43, 44, 45, 46, 47, 48, 49, 15, 50, 51, 52, 53, 54, 55, 23, 24, 25, 26, 27, 28, 66, 67, 68, 78, 79, 80, 81, 69, 70, 71, 72, 73, 74, 75, 76, 77] (by decide +kernel) (by decide +kernel)
set_option maxRecDepth 20000 in
theorem gX8_ofRequest_X2_approvalsOf : GoodIn wsX8_ofRequest (wsV RX8 156 RX2 yX2_approvalsOf wsX2_approvalsOf) := goodIn_app (goodIn_of _ (by decide +kernel)) ggX8_ofRequest_X2_approvalsOf
set_option maxRecDepth 20000 in
theorem ggX8_ofRequest_X2_isCovered : GoodIn wsX8_ofRequest wsX2_isCovered := goodIn_r _ [59, 39, 60, 30, 31, 15, 32, 33, 23, 24, 25, 26, 27, 28, 61, 35, 36, 37, 38, 40, 41, 42, 43, 44, 45, 46, 47, 48, 49, 50, 51, 52, 53, 54, 55, 66, 67, 68, 69, 70, 71, 72, 73, 74, 75, 76, 77, 78, 79, 80, 81] (by decide +kernel) (by decide +kernel)
set_option maxRecDepth 20000 in
theorem gX8_ofRequest_X2_isCovered : GoodIn wsX8_ofRequest (wsV RX8 147 RX2 yX2_isCovered wsX2_isCovered) := goodIn_app (goodIn_of _ (by decide +kernel)) ggX8_ofRequest_X2_isCovered
theorem dX8_ofRequest_0 : decode cX8_ofRequest 0 = .ok (.aload_n 0, 1) := by decide +kernel
theorem dX8_ofRequest_1 : decode cX8_ofRequest 1 = .ok (.iload_n 1, 1) := by decide +kernel
theorem dX8_ofRequest_2 : decode cX8_ofRequest 2 = .ok (.invokevirtual 109, 3) := by decide +kernel
theorem dX8_ofRequest_5 : decode cX8_ofRequest 5 = .ok (.iload_n 2, 1) := by decide +kernel
theorem dX8_ofRequest_6 : decode cX8_ofRequest 6 = .ok (.tableswitch 98 0 3 #[30, 42, 72, 81], 30) := by decide +kernel
theorem dX8_ofRequest_36 : decode cX8_ofRequest 36 = .ok (.aload_n 0, 1) := by decide +kernel
theorem dX8_ofRequest_37 : decode cX8_ofRequest 37 = .ok (.getfield 19, 3) := by decide +kernel
theorem dX8_ofRequest_40 : decode cX8_ofRequest 40 = .ok (.getfield 97, 3) := by decide +kernel
theorem dX8_ofRequest_43 : decode cX8_ofRequest 43 = .ok (.iload_n 1, 1) := by decide +kernel
theorem dX8_ofRequest_44 : decode cX8_ofRequest 44 = .ok (.invokevirtual 112, 3) := by decide +kernel
theorem dX8_ofRequest_47 : decode cX8_ofRequest 47 = .ok (.ireturn, 1) := by decide +kernel
theorem dX8_ofRequest_48 : decode cX8_ofRequest 48 = .ok (.aload_n 0, 1) := by decide +kernel
theorem dX8_ofRequest_49 : decode cX8_ofRequest 49 = .ok (.getfield 19, 3) := by decide +kernel
theorem dX8_ofRequest_52 : decode cX8_ofRequest 52 = .ok (.getfield 97, 3) := by decide +kernel
theorem dX8_ofRequest_55 : decode cX8_ofRequest 55 = .ok (.iload_n 1, 1) := by decide +kernel
theorem dX8_ofRequest_56 : decode cX8_ofRequest 56 = .ok (.invokevirtual 112, 3) := by decide +kernel
theorem dX8_ofRequest_59 : decode cX8_ofRequest 59 = .ok (.ifCond .ne 7, 3) := by decide +kernel
theorem dX8_ofRequest_62 : decode cX8_ofRequest 62 = .ok (.iconst (-1), 1) := by decide +kernel
theorem dX8_ofRequest_63 : decode cX8_ofRequest 63 = .ok (.goto 14, 3) := by decide +kernel
theorem dX8_ofRequest_66 : decode cX8_ofRequest 66 = .ok (.aload_n 0, 1) := by decide +kernel
theorem dX8_ofRequest_67 : decode cX8_ofRequest 67 = .ok (.getfield 19, 3) := by decide +kernel
theorem dX8_ofRequest_70 : decode cX8_ofRequest 70 = .ok (.getfield 97, 3) := by decide +kernel
theorem dX8_ofRequest_73 : decode cX8_ofRequest 73 = .ok (.iload_n 1, 1) := by decide +kernel
theorem dX8_ofRequest_74 : decode cX8_ofRequest 74 = .ok (.invokevirtual 153, 3) := by decide +kernel
theorem dX8_ofRequest_77 : decode cX8_ofRequest 77 = .ok (.ireturn, 1) := by decide +kernel
theorem dX8_ofRequest_78 : decode cX8_ofRequest 78 = .ok (.aload_n 0, 1) := by decide +kernel
theorem dX8_ofRequest_79 : decode cX8_ofRequest 79 = .ok (.getfield 19, 3) := by decide +kernel
theorem dX8_ofRequest_82 : decode cX8_ofRequest 82 = .ok (.iload_n 1, 1) := by decide +kernel
theorem dX8_ofRequest_83 : decode cX8_ofRequest 83 = .ok (.invokevirtual 156, 3) := by decide +kernel
theorem dX8_ofRequest_86 : decode cX8_ofRequest 86 = .ok (.ireturn, 1) := by decide +kernel
theorem dX8_ofRequest_87 : decode cX8_ofRequest 87 = .ok (.aload_n 0, 1) := by decide +kernel
theorem dX8_ofRequest_88 : decode cX8_ofRequest 88 = .ok (.getfield 19, 3) := by decide +kernel
theorem dX8_ofRequest_91 : decode cX8_ofRequest 91 = .ok (.iload_n 1, 1) := by decide +kernel
theorem dX8_ofRequest_92 : decode cX8_ofRequest 92 = .ok (.invokevirtual 147, 3) := by decide +kernel
theorem dX8_ofRequest_95 : decode cX8_ofRequest 95 = .ok (.ifCond .eq 7, 3) := by decide +kernel
theorem dX8_ofRequest_98 : decode cX8_ofRequest 98 = .ok (.iconst 1, 1) := by decide +kernel
theorem dX8_ofRequest_99 : decode cX8_ofRequest 99 = .ok (.goto 4, 3) := by decide +kernel
theorem dX8_ofRequest_102 : decode cX8_ofRequest 102 = .ok (.iconst 0, 1) := by decide +kernel
theorem dX8_ofRequest_103 : decode cX8_ofRequest 103 = .ok (.ireturn, 1) := by decide +kernel
theorem dX8_ofRequest_104 : decode cX8_ofRequest 104 = .ok (.new 37, 3) := by decide +kernel
theorem dX8_ofRequest_107 : decode cX8_ofRequest 107 = .ok (.dup, 1) := by decide +kernel
theorem dX8_ofRequest_108 : decode cX8_ofRequest 108 = .ok (.ldc 159, 2) := by decide +kernel
theorem dX8_ofRequest_110 : decode cX8_ofRequest 110 = .ok (.invokespecial 41, 3) := by decide +kernel
theorem dX8_ofRequest_113 : decode cX8_ofRequest 113 = .ok (.athrow, 1) := by decide +kernel
set_option maxRecDepth 20000 in
theorem ggX8_isCoveredAnew_X8_checkRequest : GoodIn wsX8_isCoveredAnew wsX8_checkRequest := goodIn_ca (goodIn_r _ [7, 8, 9, 10, 11, 12, 13, 14, 15, 16, 17, 201, 202, 203, 204, 205, 206, 207, 208, 209, 210, 211, 212, 213, 214, 215] (by decide +kernel) (by decide +kernel)) (goodIn_sub (fun _ h => List.mem_cons_of_mem _ (List.mem_append_right _ h)) (by decide +kernel))
set_option maxRecDepth 20000 in
theorem gX8_isCoveredAnew_X8_checkRequest : GoodIn wsX8_isCoveredAnew (wsV RX8 109 RX8 yX8_checkRequest wsX8_checkRequest) := goodIn_app (goodIn_of _ (by decide +kernel)) ggX8_isCoveredAnew_X8_checkRequest
set_option maxRecDepth 20000 in
theorem ggX8_isCoveredAnew_X0_count : GoodIn wsX8_isCoveredAnew wsX0_count := goodIn_r _ [22, 23, 216, 217] (by decide +kernel) (by decide +kernel)
set_option maxRecDepth 20000 in
theorem gX8_isCoveredAnew_X0_count : GoodIn wsX8_isCoveredAnew (wsV RX8 161 RX0 yX0_count wsX0_count) := goodIn_app (goodIn_of _ (by decide +kernel)) ggX8_isCoveredAnew_X0_count
set_option maxRecDepth 20000 in
theorem ggX8_isCoveredAnew_X2_clear : GoodIn wsX8_isCoveredAnew wsX2_clear := goodIn_r _ [28, 29, 30, 31, 32, 33, 34, 35, 36, 37, 38, 39, 40, 41, 42, 43, 44, 45, 46, 47, 48, 49, 50, 51, 52, 53, 54, 55, 15, 56, 17, 205, 206, 207, 218, 219, 220, 221, 222, 223, 224, 225, 226, 227, 228, 208, 209, 210, 211, 212, 213, 214, 215] (by decide +kernel) (by decide +kernel)
set_option maxRecDepth 20000 in
theorem gX8_isCoveredAnew_X2_clear : GoodIn wsX8_isCoveredAnew (wsV RX8 162 RX2 yX2_clear wsX2_clear) := goodIn_app (goodIn_of _ (by decide +kernel)) ggX8_isCoveredAnew_X2_clear
set_option maxRecDepth 20000 in
theorem ggX8_isCoveredAnew_X2_apply : GoodIn wsX8_isCoveredAnew wsX2_apply := goodIn_r _ [60, 29, 31, 30, 61, 62, 63, 21, 64, 65, 66, 67, 68, 41, 69, 43, 70, 71, 72, 35, 73, 37, 74, 75, 76, 77, 78, 79, 80, 81, 82, 83, 84, 85, 86, 87, 88, 89, 90, 91, 92, 93, 94, 95, 96, 97, 98, 99, 100, 47, 101, 51, 102, 103, 104, 15, 105, 17, 106, 107, 108, 109, 110, 111, 112, 113, 114, 115, 116, 117, 118, 119, 120, 121, 122, 123, 124, 125, 126, 127, 128, 129, 130, 131, 132, 133, 134, 135, 136, 137, 138, 139, 140, 141, 142, 143, 144, 145, 146, 147, 148, 149, 150, 151, 49, 152, 153, 154, 155, 156, 157, 158, 50, 159, 160, 161, 27, 162, 163, 164, 165, 166, 167, 168, 169, 170, 171, 172, 173, 174, 175, 176, 177, 178, 179, 180, 181, 182, 183, 184, 185, 186, 187, 188, 189, 190, 191, 205, 206, 207, 216, 217, 224, 218, 219, 220, 221, 222, 223, 225, 226, 227, 228, 208, 209, 210, 211, 212, 213, 214, 215] (by decide +kernel) (by decide +kernel)
set_option maxRecDepth 20000 in
theorem gX8_isCoveredAnew_X2_apply : GoodIn wsX8_isCoveredAnew (wsV RX8 84 RX2 yX2_apply wsX2_apply) := goodIn_app (goodIn_of _ (by decide +kernel)) ggX8_isCoveredAnew_X2_apply
set_option maxRecDepth 20000 in
theorem ggX8_isCoveredAnew_X2_isCovered : GoodIn wsX8_isCoveredAnew wsX2_isCovered := goodIn_r _ [195, 31, 164, 165, 166, 15, 167, 131, 108, 67, 68, 41, 69, 43, 196, 197, 198, 27, 199, 30, 98, 99, 100, 47, 101, 51, 200, 114, 115, 116, 117, 118, 119, 120, 121, 205, 206, 207, 208, 209, 210, 211, 212, 213, 214, 215, 224, 225, 226, 227, 228] (by decide +kernel) (by decide +kernel)
set_option maxRecDepth 20000 in
theorem gX8_isCoveredAnew_X2_isCovered : GoodIn wsX8_isCoveredAnew (wsV RX8 147 RX2 yX2_isCovered wsX2_isCovered) := goodIn_app (goodIn_of _ (by decide +kernel)) ggX8_isCoveredAnew_X2_isCovered
theorem dX8_isCoveredAnew_0 : decode cX8_isCoveredAnew 0 = .ok (.aload_n 0, 1) := by decide +kernel
theorem dX8_isCoveredAnew_1 : decode cX8_isCoveredAnew 1 = .ok (.iload_n 1, 1) := by decide +kernel
theorem dX8_isCoveredAnew_2 : decode cX8_isCoveredAnew 2 = .ok (.invokevirtual 109, 3) := by decide +kernel
theorem dX8_isCoveredAnew_5 : decode cX8_isCoveredAnew 5 = .ok (.aload_n 0, 1) := by decide +kernel
theorem dX8_isCoveredAnew_6 : decode cX8_isCoveredAnew 6 = .ok (.getfield 10, 3) := by decide +kernel
theorem dX8_isCoveredAnew_9 : decode cX8_isCoveredAnew 9 = .ok (.invokevirtual 161, 3) := by decide +kernel
theorem dX8_isCoveredAnew_12 : decode cX8_isCoveredAnew 12 = .ok (.istore_n 2, 1) := by decide +kernel
theorem dX8_isCoveredAnew_13 : decode cX8_isCoveredAnew 13 = .ok (.aload_n 0, 1) := by decide +kernel
theorem dX8_isCoveredAnew_14 : decode cX8_isCoveredAnew 14 = .ok (.getfield 23, 3) := by decide +kernel
theorem dX8_isCoveredAnew_17 : decode cX8_isCoveredAnew 17 = .ok (.invokevirtual 162, 3) := by decide +kernel
theorem dX8_isCoveredAnew_20 : decode cX8_isCoveredAnew 20 = .ok (.iconst 0, 1) := by decide +kernel
theorem dX8_isCoveredAnew_21 : decode cX8_isCoveredAnew 21 = .ok (.istore_n 3, 1) := by decide +kernel
theorem dX8_isCoveredAnew_22 : decode cX8_isCoveredAnew 22 = .ok (.iload_n 3, 1) := by decide +kernel
theorem dX8_isCoveredAnew_23 : decode cX8_isCoveredAnew 23 = .ok (.iload_n 2, 1) := by decide +kernel
theorem dX8_isCoveredAnew_24 : decode cX8_isCoveredAnew 24 = .ok (.if_icmp .ge 22, 3) := by decide +kernel
theorem dX8_isCoveredAnew_27 : decode cX8_isCoveredAnew 27 = .ok (.aload_n 0, 1) := by decide +kernel
theorem dX8_isCoveredAnew_28 : decode cX8_isCoveredAnew 28 = .ok (.getfield 23, 3) := by decide +kernel
theorem dX8_isCoveredAnew_31 : decode cX8_isCoveredAnew 31 = .ok (.aload_n 0, 1) := by decide +kernel
theorem dX8_isCoveredAnew_32 : decode cX8_isCoveredAnew 32 = .ok (.getfield 10, 3) := by decide +kernel
theorem dX8_isCoveredAnew_35 : decode cX8_isCoveredAnew 35 = .ok (.iload_n 3, 1) := by decide +kernel
theorem dX8_isCoveredAnew_36 : decode cX8_isCoveredAnew 36 = .ok (.invokevirtual 84, 3) := by decide +kernel
theorem dX8_isCoveredAnew_39 : decode cX8_isCoveredAnew 39 = .ok (.pop, 1) := by decide +kernel
theorem dX8_isCoveredAnew_40 : decode cX8_isCoveredAnew 40 = .ok (.iinc 3 1, 3) := by decide +kernel
theorem dX8_isCoveredAnew_43 : decode cX8_isCoveredAnew 43 = .ok (.goto (-21), 3) := by decide +kernel
theorem dX8_isCoveredAnew_46 : decode cX8_isCoveredAnew 46 = .ok (.aload_n 0, 1) := by decide +kernel
theorem dX8_isCoveredAnew_47 : decode cX8_isCoveredAnew 47 = .ok (.getfield 23, 3) := by decide +kernel
theorem dX8_isCoveredAnew_50 : decode cX8_isCoveredAnew 50 = .ok (.iload_n 1, 1) := by decide +kernel
theorem dX8_isCoveredAnew_51 : decode cX8_isCoveredAnew 51 = .ok (.invokevirtual 147, 3) := by decide +kernel
theorem dX8_isCoveredAnew_54 : decode cX8_isCoveredAnew 54 = .ok (.ireturn, 1) := by decide +kernel
set_option maxRecDepth 20000 in
theorem ggX8_strain_X8_checkRequest : GoodIn wsX8_strain wsX8_checkRequest := goodIn_ca (goodIn_r _ [9, 10, 11, 1, 2, 12, 13, 14, 15, 16, 17, 52, 53, 54, 55, 56, 57, 58, 59, 60, 61, 62, 63, 64, 65, 66] (by decide +kernel) (by decide +kernel)) (goodIn_sub (fun _ h => List.mem_cons_of_mem _ (List.mem_append_right _ h)) (by decide +kernel))
set_option maxRecDepth 20000 in
theorem gX8_strain_X8_checkRequest : GoodIn wsX8_strain (wsV RX8 109 RX8 yX8_checkRequest wsX8_checkRequest) := goodIn_app (goodIn_of _ (by decide +kernel)) ggX8_strain_X8_checkRequest
set_option maxRecDepth 20000 in
theorem ggX8_strain_X5_stateOf : GoodIn wsX8_strain wsX5_stateOf := goodIn_r _ [21, 22, 23, 24, 25, 26, 27, 28, 59, 60, 61, 62, 63, 64, 65, 66, 67] (by decide +kernel) (by decide +kernel)
set_option maxRecDepth 20000 in
theorem gX8_strain_X5_stateOf : GoodIn wsX8_strain (wsV RX8 112 RX5 yX5_stateOf wsX5_stateOf) := goodIn_app (goodIn_of _ (by decide +kernel)) ggX8_strain_X5_stateOf
set_option maxRecDepth 20000 in
theorem ggX8_strain_X5_costOf : GoodIn wsX8_strain wsX5_costOf := goodIn_r _ [32, 33, 23, 24, 25, 26, 27, 28, 59, 60, 61, 62, 63, 64, 65, 66, 67] (by decide +kernel) (by decide +kernel)
set_option maxRecDepth 20000 in
theorem gX8_strain_X5_costOf : GoodIn wsX8_strain (wsV RX8 153 RX5 yX5_costOf wsX5_costOf) := goodIn_app (goodIn_of _ (by decide +kernel)) ggX8_strain_X5_costOf
set_option maxRecDepth 20000 in
theorem ggX8_strain_X5_personOf : GoodIn wsX8_strain wsX5_personOf := goodIn_r _ [37, 38, 23, 24, 25, 26, 27, 28, 59, 60, 61, 62, 63, 64, 65, 66, 67] (by decide +kernel) (by decide +kernel)
set_option maxRecDepth 20000 in
theorem gX8_strain_X5_personOf : GoodIn wsX8_strain (wsV RX8 170 RX5 yX5_personOf wsX5_personOf) := goodIn_app (goodIn_of _ (by decide +kernel)) ggX8_strain_X5_personOf
set_option maxRecDepth 20000 in
theorem ggX8_strain_X4_greatestLimit : GoodIn wsX8_strain wsX4_greatestLimit := goodIn_r _ [43, 44, 45, 24, 25, 26, 27, 28, 46, 47, 48, 42, 49, 50, 51, 68, 69, 70, 71, 67] (by decide +kernel) (by decide +kernel)
set_option maxRecDepth 20000 in
theorem gX8_strain_X4_greatestLimit : GoodIn wsX8_strain (wsV RX8 173 RX4 yX4_greatestLimit wsX4_greatestLimit) := goodIn_app (goodIn_of _ (by decide +kernel)) ggX8_strain_X4_greatestLimit
theorem dX8_strain_0 : decode cX8_strain 0 = .ok (.aload_n 0, 1) := by decide +kernel
theorem dX8_strain_1 : decode cX8_strain 1 = .ok (.iload_n 1, 1) := by decide +kernel
theorem dX8_strain_2 : decode cX8_strain 2 = .ok (.invokevirtual 109, 3) := by decide +kernel
theorem dX8_strain_5 : decode cX8_strain 5 = .ok (.aload_n 0, 1) := by decide +kernel
theorem dX8_strain_6 : decode cX8_strain 6 = .ok (.getfield 19, 3) := by decide +kernel
theorem dX8_strain_9 : decode cX8_strain 9 = .ok (.getfield 97, 3) := by decide +kernel
theorem dX8_strain_12 : decode cX8_strain 12 = .ok (.iload_n 1, 1) := by decide +kernel
theorem dX8_strain_13 : decode cX8_strain 13 = .ok (.invokevirtual 112, 3) := by decide +kernel
theorem dX8_strain_16 : decode cX8_strain 16 = .ok (.ifCond .ne 6, 3) := by decide +kernel
theorem dX8_strain_19 : decode cX8_strain 19 = .ok (.ldc 165, 2) := by decide +kernel
theorem dX8_strain_21 : decode cX8_strain 21 = .ok (.freturn, 1) := by decide +kernel
theorem dX8_strain_22 : decode cX8_strain 22 = .ok (.aload_n 0, 1) := by decide +kernel
theorem dX8_strain_23 : decode cX8_strain 23 = .ok (.getfield 19, 3) := by decide +kernel
theorem dX8_strain_26 : decode cX8_strain 26 = .ok (.getfield 97, 3) := by decide +kernel
theorem dX8_strain_29 : decode cX8_strain 29 = .ok (.iload_n 1, 1) := by decide +kernel
theorem dX8_strain_30 : decode cX8_strain 30 = .ok (.invokevirtual 153, 3) := by decide +kernel
theorem dX8_strain_33 : decode cX8_strain 33 = .ok (.istore_n 2, 1) := by decide +kernel
theorem dX8_strain_34 : decode cX8_strain 34 = .ok (.aload_n 0, 1) := by decide +kernel
theorem dX8_strain_35 : decode cX8_strain 35 = .ok (.getfield 19, 3) := by decide +kernel
theorem dX8_strain_38 : decode cX8_strain 38 = .ok (.getfield 166, 3) := by decide +kernel
theorem dX8_strain_41 : decode cX8_strain 41 = .ok (.aload_n 0, 1) := by decide +kernel
theorem dX8_strain_42 : decode cX8_strain 42 = .ok (.getfield 19, 3) := by decide +kernel
theorem dX8_strain_45 : decode cX8_strain 45 = .ok (.getfield 97, 3) := by decide +kernel
theorem dX8_strain_48 : decode cX8_strain 48 = .ok (.iload_n 1, 1) := by decide +kernel
theorem dX8_strain_49 : decode cX8_strain 49 = .ok (.invokevirtual 170, 3) := by decide +kernel
theorem dX8_strain_52 : decode cX8_strain 52 = .ok (.iload_n 2, 1) := by decide +kernel
theorem dX8_strain_53 : decode cX8_strain 53 = .ok (.invokevirtual 173, 3) := by decide +kernel
theorem dX8_strain_56 : decode cX8_strain 56 = .ok (.istore_n 3, 1) := by decide +kernel
theorem dX8_strain_57 : decode cX8_strain 57 = .ok (.iload_n 3, 1) := by decide +kernel
theorem dX8_strain_58 : decode cX8_strain 58 = .ok (.iconst (-1), 1) := by decide +kernel
theorem dX8_strain_59 : decode cX8_strain 59 = .ok (.if_icmp .ne 6, 3) := by decide +kernel
theorem dX8_strain_62 : decode cX8_strain 62 = .ok (.ldc 165, 2) := by decide +kernel
theorem dX8_strain_64 : decode cX8_strain 64 = .ok (.freturn, 1) := by decide +kernel
theorem dX8_strain_65 : decode cX8_strain 65 = .ok (.iload_n 3, 1) := by decide +kernel
theorem dX8_strain_66 : decode cX8_strain 66 = .ok (.ifCond .ne 7, 3) := by decide +kernel
theorem dX8_strain_69 : decode cX8_strain 69 = .ok (.fconst 0, 1) := by decide +kernel
theorem dX8_strain_70 : decode cX8_strain 70 = .ok (.goto 8, 3) := by decide +kernel
theorem dX8_strain_73 : decode cX8_strain 73 = .ok (.iload_n 2, 1) := by decide +kernel
theorem dX8_strain_74 : decode cX8_strain 74 = .ok (.i2f, 1) := by decide +kernel
theorem dX8_strain_75 : decode cX8_strain 75 = .ok (.iload_n 3, 1) := by decide +kernel
theorem dX8_strain_76 : decode cX8_strain 76 = .ok (.i2f, 1) := by decide +kernel
theorem dX8_strain_77 : decode cX8_strain 77 = .ok (.fdiv, 1) := by decide +kernel
theorem dX8_strain_78 : decode cX8_strain 78 = .ok (.freturn, 1) := by decide +kernel
set_option maxRecDepth 20000 in
theorem ggX8_entries_X0_count : GoodIn wsX8_entries wsX0_count := goodIn_r _ [6, 7, 12, 13] (by decide +kernel) (by decide +kernel)
set_option maxRecDepth 20000 in
theorem gX8_entries_X0_count : GoodIn wsX8_entries (wsV RX8 161 RX0 yX0_count wsX0_count) := goodIn_app (goodIn_of _ (by decide +kernel)) ggX8_entries_X0_count
theorem dX8_entries_0 : decode cX8_entries 0 = .ok (.aload_n 0, 1) := by decide +kernel
theorem dX8_entries_1 : decode cX8_entries 1 = .ok (.getfield 10, 3) := by decide +kernel
theorem dX8_entries_4 : decode cX8_entries 4 = .ok (.invokevirtual 161, 3) := by decide +kernel
theorem dX8_entries_7 : decode cX8_entries 7 = .ok (.ireturn, 1) := by decide +kernel
set_option maxRecDepth 20000 in
theorem ggX8_tell_X0_write : GoodIn wsX8_tell wsX0_write := goodIn_r _ [7, 8, 9, 10, 11, 12, 13, 14, 15, 163, 164, 165] (by decide +kernel) (by decide +kernel)
set_option maxRecDepth 20000 in
theorem gX8_tell_X0_write : GoodIn wsX8_tell (wsV RX8 80 RX0 yX0_write wsX0_write) := goodIn_app (goodIn_of _ (by decide +kernel)) ggX8_tell_X0_write
set_option maxRecDepth 20000 in
theorem ggX8_tell_X2_apply : GoodIn wsX8_tell wsX2_apply := goodIn_r _ [20, 21, 22, 23, 24, 25, 26, 6, 27, 9, 28, 29, 30, 13, 31, 15, 32, 33, 34, 35, 36, 37, 38, 39, 40, 41, 42, 43, 44, 45, 11, 12, 14, 46, 47, 48, 49, 50, 51, 52, 53, 54, 55, 56, 57, 58, 59, 60, 61, 62, 63, 64, 65, 66, 67, 68, 69, 70, 71, 72, 73, 74, 75, 76, 77, 78, 79, 80, 81, 82, 83, 84, 85, 86, 87, 88, 89, 90, 91, 92, 93, 94, 95, 96, 97, 98, 99, 100, 101, 102, 103, 104, 105, 106, 107, 108, 109, 110, 111, 112, 113, 114, 115, 116, 117, 118, 119, 120, 121, 122, 123, 124, 125, 126, 127, 128, 19, 129, 130, 131, 132, 133, 134, 135, 136, 137, 138, 139, 140, 141, 142, 143, 144, 145, 146, 147, 148, 149, 150, 151, 152, 153, 154, 155, 156, 157, 158, 166, 167, 168, 163, 164, 165, 169, 170, 171, 172, 173, 174, 175, 176, 177, 178, 179, 180, 181, 182, 183, 184, 185, 186] (by decide +kernel) (by decide +kernel)
set_option maxRecDepth 20000 in
theorem gX8_tell_X2_apply : GoodIn wsX8_tell (wsV RX8 84 RX2 yX2_apply wsX2_apply) := goodIn_app (goodIn_of _ (by decide +kernel)) ggX8_tell_X2_apply
theorem dX8_tell_0 : decode cX8_tell 0 = .ok (.aload_n 0, 1) := by decide +kernel
theorem dX8_tell_1 : decode cX8_tell 1 = .ok (.getfield 19, 3) := by decide +kernel
theorem dX8_tell_4 : decode cX8_tell 4 = .ok (.aload_n 0, 1) := by decide +kernel
theorem dX8_tell_5 : decode cX8_tell 5 = .ok (.getfield 10, 3) := by decide +kernel
theorem dX8_tell_8 : decode cX8_tell 8 = .ok (.aload_n 0, 1) := by decide +kernel
theorem dX8_tell_9 : decode cX8_tell 9 = .ok (.getfield 10, 3) := by decide +kernel
theorem dX8_tell_12 : decode cX8_tell 12 = .ok (.iload_n 1, 1) := by decide +kernel
theorem dX8_tell_13 : decode cX8_tell 13 = .ok (.iload_n 2, 1) := by decide +kernel
theorem dX8_tell_14 : decode cX8_tell 14 = .ok (.iload_n 3, 1) := by decide +kernel
theorem dX8_tell_15 : decode cX8_tell 15 = .ok (.iload 4, 2) := by decide +kernel
theorem dX8_tell_17 : decode cX8_tell 17 = .ok (.iconst 0, 1) := by decide +kernel
theorem dX8_tell_18 : decode cX8_tell 18 = .ok (.iconst 0, 1) := by decide +kernel
theorem dX8_tell_19 : decode cX8_tell 19 = .ok (.invokevirtual 80, 3) := by decide +kernel
theorem dX8_tell_22 : decode cX8_tell 22 = .ok (.invokevirtual 84, 3) := by decide +kernel
theorem dX8_tell_25 : decode cX8_tell 25 = .ok (.ireturn, 1) := by decide +kernel
theorem dX8_checkPart_0 : decode cX8_checkPart 0 = .ok (.iload_n 0, 1) := by decide +kernel
theorem dX8_checkPart_1 : decode cX8_checkPart 1 = .ok (.ifCond .lt 9, 3) := by decide +kernel
theorem dX8_checkPart_4 : decode cX8_checkPart 4 = .ok (.iload_n 0, 1) := by decide +kernel
theorem dX8_checkPart_5 : decode cX8_checkPart 5 = .ok (.bipush 8, 2) := by decide +kernel
theorem dX8_checkPart_7 : decode cX8_checkPart 7 = .ok (.if_icmp .lt 13, 3) := by decide +kernel
theorem dX8_checkPart_10 : decode cX8_checkPart 10 = .ok (.new 178, 3) := by decide +kernel
theorem dX8_checkPart_13 : decode cX8_checkPart 13 = .ok (.dup, 1) := by decide +kernel
theorem dX8_checkPart_14 : decode cX8_checkPart 14 = .ok (.ldc 180, 2) := by decide +kernel
theorem dX8_checkPart_16 : decode cX8_checkPart 16 = .ok (.invokespecial 182, 3) := by decide +kernel
theorem dX8_checkPart_19 : decode cX8_checkPart 19 = .ok (.athrow, 1) := by decide +kernel
theorem dX8_checkPart_20 : decode cX8_checkPart 20 = .ok (.return_, 1) := by decide +kernel
set_option maxRecDepth 20000 in
theorem ggX8_checkVersion_X3_countOf : GoodIn wsX8_checkVersion wsX3_countOf := goodIn_r _ [9, 10, 11, 12, 13, 14, 15, 16, 24, 25, 26, 27, 28, 29, 30] (by decide +kernel) (by decide +kernel)
set_option maxRecDepth 20000 in
theorem gX8_checkVersion_X3_countOf : GoodIn wsX8_checkVersion (wsV RX8 48 RX3 yX3_countOf wsX3_countOf) := goodIn_app (goodIn_of _ (by decide +kernel)) ggX8_checkVersion_X3_countOf
theorem dX8_checkVersion_0 : decode cX8_checkVersion 0 = .ok (.iload_n 2, 1) := by decide +kernel
theorem dX8_checkVersion_1 : decode cX8_checkVersion 1 = .ok (.iconst 1, 1) := by decide +kernel
theorem dX8_checkVersion_2 : decode cX8_checkVersion 2 = .ok (.if_icmp .lt 18, 3) := by decide +kernel
theorem dX8_checkVersion_5 : decode cX8_checkVersion 5 = .ok (.iload_n 2, 1) := by decide +kernel
theorem dX8_checkVersion_6 : decode cX8_checkVersion 6 = .ok (.aload_n 0, 1) := by decide +kernel
theorem dX8_checkVersion_7 : decode cX8_checkVersion 7 = .ok (.getfield 19, 3) := by decide +kernel
theorem dX8_checkVersion_10 : decode cX8_checkVersion 10 = .ok (.getfield 44, 3) := by decide +kernel
theorem dX8_checkVersion_13 : decode cX8_checkVersion 13 = .ok (.iload_n 1, 1) := by decide +kernel
theorem dX8_checkVersion_14 : decode cX8_checkVersion 14 = .ok (.invokevirtual 48, 3) := by decide +kernel
theorem dX8_checkVersion_17 : decode cX8_checkVersion 17 = .ok (.if_icmp .le 13, 3) := by decide +kernel
theorem dX8_checkVersion_20 : decode cX8_checkVersion 20 = .ok (.new 178, 3) := by decide +kernel
theorem dX8_checkVersion_23 : decode cX8_checkVersion 23 = .ok (.dup, 1) := by decide +kernel
theorem dX8_checkVersion_24 : decode cX8_checkVersion 24 = .ok (.ldc 183, 2) := by decide +kernel
theorem dX8_checkVersion_26 : decode cX8_checkVersion 26 = .ok (.invokespecial 182, 3) := by decide +kernel
theorem dX8_checkVersion_29 : decode cX8_checkVersion 29 = .ok (.athrow, 1) := by decide +kernel
theorem dX8_checkVersion_30 : decode cX8_checkVersion 30 = .ok (.return_, 1) := by decide +kernel
theorem dX8_checkPerson_0 : decode cX8_checkPerson 0 = .ok (.iload_n 0, 1) := by decide +kernel
theorem dX8_checkPerson_1 : decode cX8_checkPerson 1 = .ok (.ifCond .lt 9, 3) := by decide +kernel
theorem dX8_checkPerson_4 : decode cX8_checkPerson 4 = .ok (.iload_n 0, 1) := by decide +kernel
theorem dX8_checkPerson_5 : decode cX8_checkPerson 5 = .ok (.bipush 8, 2) := by decide +kernel
theorem dX8_checkPerson_7 : decode cX8_checkPerson 7 = .ok (.if_icmp .lt 13, 3) := by decide +kernel
theorem dX8_checkPerson_10 : decode cX8_checkPerson 10 = .ok (.new 178, 3) := by decide +kernel
theorem dX8_checkPerson_13 : decode cX8_checkPerson 13 = .ok (.dup, 1) := by decide +kernel
theorem dX8_checkPerson_14 : decode cX8_checkPerson 14 = .ok (.ldc 185, 2) := by decide +kernel
theorem dX8_checkPerson_16 : decode cX8_checkPerson 16 = .ok (.invokespecial 182, 3) := by decide +kernel
theorem dX8_checkPerson_19 : decode cX8_checkPerson 19 = .ok (.athrow, 1) := by decide +kernel
theorem dX8_checkPerson_20 : decode cX8_checkPerson 20 = .ok (.return_, 1) := by decide +kernel
set_option maxRecDepth 20000 in
theorem ggX8_checkRequest_X5_count : GoodIn wsX8_checkRequest wsX5_count := goodIn_r _ [9, 10, 18, 19, 20, 21, 22, 23, 24, 25] (by decide +kernel) (by decide +kernel)
set_option maxRecDepth 20000 in
theorem gX8_checkRequest_X5_count : GoodIn wsX8_checkRequest (wsV RX8 101 RX5 yX5_count wsX5_count) := goodIn_app (goodIn_of _ (by decide +kernel)) ggX8_checkRequest_X5_count
theorem dX8_checkRequest_0 : decode cX8_checkRequest 0 = .ok (.iload_n 1, 1) := by decide +kernel
theorem dX8_checkRequest_1 : decode cX8_checkRequest 1 = .ok (.ifCond .lt 17, 3) := by decide +kernel
theorem dX8_checkRequest_4 : decode cX8_checkRequest 4 = .ok (.iload_n 1, 1) := by decide +kernel
theorem dX8_checkRequest_5 : decode cX8_checkRequest 5 = .ok (.aload_n 0, 1) := by decide +kernel
theorem dX8_checkRequest_6 : decode cX8_checkRequest 6 = .ok (.getfield 19, 3) := by decide +kernel
theorem dX8_checkRequest_9 : decode cX8_checkRequest 9 = .ok (.getfield 97, 3) := by decide +kernel
theorem dX8_checkRequest_12 : decode cX8_checkRequest 12 = .ok (.invokevirtual 101, 3) := by decide +kernel
theorem dX8_checkRequest_15 : decode cX8_checkRequest 15 = .ok (.if_icmp .lt 13, 3) := by decide +kernel
theorem dX8_checkRequest_18 : decode cX8_checkRequest 18 = .ok (.new 178, 3) := by decide +kernel
theorem dX8_checkRequest_21 : decode cX8_checkRequest 21 = .ok (.dup, 1) := by decide +kernel
theorem dX8_checkRequest_22 : decode cX8_checkRequest 22 = .ok (.ldc 187, 2) := by decide +kernel
theorem dX8_checkRequest_24 : decode cX8_checkRequest 24 = .ok (.invokespecial 182, 3) := by decide +kernel
theorem dX8_checkRequest_27 : decode cX8_checkRequest 27 = .ok (.athrow, 1) := by decide +kernel
theorem dX8_checkRequest_28 : decode cX8_checkRequest 28 = .ok (.return_, 1) := by decide +kernel
theorem dX8_checkLeast_0 : decode cX8_checkLeast 0 = .ok (.iload_n 0, 1) := by decide +kernel
theorem dX8_checkLeast_1 : decode cX8_checkLeast 1 = .ok (.iconst 1, 1) := by decide +kernel
theorem dX8_checkLeast_2 : decode cX8_checkLeast 2 = .ok (.if_icmp .lt 8, 3) := by decide +kernel
theorem dX8_checkLeast_5 : decode cX8_checkLeast 5 = .ok (.iload_n 0, 1) := by decide +kernel
theorem dX8_checkLeast_6 : decode cX8_checkLeast 6 = .ok (.iconst 3, 1) := by decide +kernel
theorem dX8_checkLeast_7 : decode cX8_checkLeast 7 = .ok (.if_icmp .le 13, 3) := by decide +kernel
theorem dX8_checkLeast_10 : decode cX8_checkLeast 10 = .ok (.new 37, 3) := by decide +kernel
theorem dX8_checkLeast_13 : decode cX8_checkLeast 13 = .ok (.dup, 1) := by decide +kernel
theorem dX8_checkLeast_14 : decode cX8_checkLeast 14 = .ok (.ldc 189, 2) := by decide +kernel
theorem dX8_checkLeast_16 : decode cX8_checkLeast 16 = .ok (.invokespecial 41, 3) := by decide +kernel
theorem dX8_checkLeast_19 : decode cX8_checkLeast 19 = .ok (.athrow, 1) := by decide +kernel
theorem dX8_checkLeast_20 : decode cX8_checkLeast 20 = .ok (.return_, 1) := by decide +kernel
theorem dX8_checkDays_0 : decode cX8_checkDays 0 = .ok (.iload_n 0, 1) := by decide +kernel
theorem dX8_checkDays_1 : decode cX8_checkDays 1 = .ok (.iconst 1, 1) := by decide +kernel
theorem dX8_checkDays_2 : decode cX8_checkDays 2 = .ok (.if_icmp .lt 9, 3) := by decide +kernel
theorem dX8_checkDays_5 : decode cX8_checkDays 5 = .ok (.iload_n 0, 1) := by decide +kernel
theorem dX8_checkDays_6 : decode cX8_checkDays 6 = .ok (.bipush 60, 2) := by decide +kernel
theorem dX8_checkDays_8 : decode cX8_checkDays 8 = .ok (.if_icmp .le 13, 3) := by decide +kernel
theorem dX8_checkDays_11 : decode cX8_checkDays 11 = .ok (.new 37, 3) := by decide +kernel
theorem dX8_checkDays_14 : decode cX8_checkDays 14 = .ok (.dup, 1) := by decide +kernel
theorem dX8_checkDays_15 : decode cX8_checkDays 15 = .ok (.ldc 191, 2) := by decide +kernel
theorem dX8_checkDays_17 : decode cX8_checkDays 17 = .ok (.invokespecial 41, 3) := by decide +kernel
theorem dX8_checkDays_20 : decode cX8_checkDays 20 = .ok (.athrow, 1) := by decide +kernel
theorem dX8_checkDays_21 : decode cX8_checkDays 21 = .ok (.return_, 1) := by decide +kernel
