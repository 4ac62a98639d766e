theorem dX9_init_0 : decode cX9_init 0 = .ok (.aload_n 0, 1) := by decide +kernel
theorem dX9_init_1 : decode cX9_init 1 = .ok (.invokespecial 1, 3) := by decide +kernel
theorem dX9_init_4 : decode cX9_init 4 = .ok (.aload_n 0, 1) := by decide +kernel
theorem dX9_init_5 : decode cX9_init 5 = .ok (.bipush 24, 2) := by decide +kernel
theorem dX9_init_7 : decode cX9_init 7 = .ok (.newarray .int, 2) := by decide +kernel
theorem dX9_init_9 : decode cX9_init 9 = .ok (.putfield 7, 3) := by decide +kernel
theorem dX9_init_12 : decode cX9_init 12 = .ok (.aload_n 0, 1) := by decide +kernel
theorem dX9_init_13 : decode cX9_init 13 = .ok (.bipush 24, 2) := by decide +kernel
theorem dX9_init_15 : decode cX9_init 15 = .ok (.newarray .int, 2) := by decide +kernel
theorem dX9_init_17 : decode cX9_init 17 = .ok (.putfield 13, 3) := by decide +kernel
theorem dX9_init_20 : decode cX9_init 20 = .ok (.aload_n 0, 1) := by decide +kernel
theorem dX9_init_21 : decode cX9_init 21 = .ok (.bipush 24, 2) := by decide +kernel
theorem dX9_init_23 : decode cX9_init 23 = .ok (.newarray .int, 2) := by decide +kernel
theorem dX9_init_25 : decode cX9_init 25 = .ok (.putfield 16, 3) := by decide +kernel
theorem dX9_init_28 : decode cX9_init 28 = .ok (.aload_n 0, 1) := by decide +kernel
theorem dX9_init_29 : decode cX9_init 29 = .ok (.sipush 288, 3) := by decide +kernel
theorem dX9_init_32 : decode cX9_init 32 = .ok (.newarray .int, 2) := by decide +kernel
theorem dX9_init_34 : decode cX9_init 34 = .ok (.putfield 19, 3) := by decide +kernel
theorem dX9_init_37 : decode cX9_init 37 = .ok (.aload_n 0, 1) := by decide +kernel
theorem dX9_init_38 : decode cX9_init 38 = .ok (.bipush 8, 2) := by decide +kernel
theorem dX9_init_40 : decode cX9_init 40 = .ok (.newarray .int, 2) := by decide +kernel
theorem dX9_init_42 : decode cX9_init 42 = .ok (.putfield 22, 3) := by decide +kernel
theorem dX9_init_45 : decode cX9_init 45 = .ok (.aload_n 0, 1) := by decide +kernel
theorem dX9_init_46 : decode cX9_init 46 = .ok (.bipush 8, 2) := by decide +kernel
theorem dX9_init_48 : decode cX9_init 48 = .ok (.newarray .int, 2) := by decide +kernel
theorem dX9_init_50 : decode cX9_init 50 = .ok (.putfield 25, 3) := by decide +kernel
theorem dX9_init_53 : decode cX9_init 53 = .ok (.aload_n 0, 1) := by decide +kernel
theorem dX9_init_54 : decode cX9_init 54 = .ok (.bipush 8, 2) := by decide +kernel
theorem dX9_init_56 : decode cX9_init 56 = .ok (.newarray .int, 2) := by decide +kernel
theorem dX9_init_58 : decode cX9_init 58 = .ok (.putfield 28, 3) := by decide +kernel
theorem dX9_init_61 : decode cX9_init 61 = .ok (.aload_n 0, 1) := by decide +kernel
theorem dX9_init_62 : decode cX9_init 62 = .ok (.bipush 8, 2) := by decide +kernel
theorem dX9_init_64 : decode cX9_init 64 = .ok (.newarray .int, 2) := by decide +kernel
theorem dX9_init_66 : decode cX9_init 66 = .ok (.putfield 31, 3) := by decide +kernel
theorem dX9_init_69 : decode cX9_init 69 = .ok (.aload_n 0, 1) := by decide +kernel
theorem dX9_init_70 : decode cX9_init 70 = .ok (.bipush 30, 2) := by decide +kernel
theorem dX9_init_72 : decode cX9_init 72 = .ok (.newarray .int, 2) := by decide +kernel
theorem dX9_init_74 : decode cX9_init 74 = .ok (.putfield 34, 3) := by decide +kernel
theorem dX9_init_77 : decode cX9_init 77 = .ok (.aload_n 0, 1) := by decide +kernel
theorem dX9_init_78 : decode cX9_init 78 = .ok (.bipush 30, 2) := by decide +kernel
theorem dX9_init_80 : decode cX9_init 80 = .ok (.newarray .int, 2) := by decide +kernel
theorem dX9_init_82 : decode cX9_init 82 = .ok (.putfield 37, 3) := by decide +kernel
theorem dX9_init_85 : decode cX9_init 85 = .ok (.aload_n 0, 1) := by decide +kernel
theorem dX9_init_86 : decode cX9_init 86 = .ok (.bipush 30, 2) := by decide +kernel
theorem dX9_init_88 : decode cX9_init 88 = .ok (.newarray .int, 2) := by decide +kernel
theorem dX9_init_90 : decode cX9_init 90 = .ok (.putfield 40, 3) := by decide +kernel
theorem dX9_init_93 : decode cX9_init 93 = .ok (.aload_n 0, 1) := by decide +kernel
theorem dX9_init_94 : decode cX9_init 94 = .ok (.bipush 30, 2) := by decide +kernel
theorem dX9_init_96 : decode cX9_init 96 = .ok (.newarray .int, 2) := by decide +kernel
theorem dX9_init_98 : decode cX9_init 98 = .ok (.putfield 43, 3) := by decide +kernel
theorem dX9_init_101 : decode cX9_init 101 = .ok (.aload_n 0, 1) := by decide +kernel
theorem dX9_init_102 : decode cX9_init 102 = .ok (.bipush 30, 2) := by decide +kernel
theorem dX9_init_104 : decode cX9_init 104 = .ok (.newarray .int, 2) := by decide +kernel
theorem dX9_init_106 : decode cX9_init 106 = .ok (.putfield 46, 3) := by decide +kernel
theorem dX9_init_109 : decode cX9_init 109 = .ok (.aload_n 0, 1) := by decide +kernel
theorem dX9_init_110 : decode cX9_init 110 = .ok (.sipush 240, 3) := by decide +kernel
theorem dX9_init_113 : decode cX9_init 113 = .ok (.newarray .int, 2) := by decide +kernel
theorem dX9_init_115 : decode cX9_init 115 = .ok (.putfield 49, 3) := by decide +kernel
theorem dX9_init_118 : decode cX9_init 118 = .ok (.aload_n 0, 1) := by decide +kernel
theorem dX9_init_119 : decode cX9_init 119 = .ok (.sipush 240, 3) := by decide +kernel
theorem dX9_init_122 : decode cX9_init 122 = .ok (.newarray .int, 2) := by decide +kernel
theorem dX9_init_124 : decode cX9_init 124 = .ok (.putfield 52, 3) := by decide +kernel
theorem dX9_init_127 : decode cX9_init 127 = .ok (.aload_n 0, 1) := by decide +kernel
theorem dX9_init_128 : decode cX9_init 128 = .ok (.sipush 240, 3) := by decide +kernel
theorem dX9_init_131 : decode cX9_init 131 = .ok (.newarray .int, 2) := by decide +kernel
theorem dX9_init_133 : decode cX9_init 133 = .ok (.putfield 55, 3) := by decide +kernel
theorem dX9_init_136 : decode cX9_init 136 = .ok (.aload_n 0, 1) := by decide +kernel
theorem dX9_init_137 : decode cX9_init 137 = .ok (.bipush 9, 2) := by decide +kernel
theorem dX9_init_139 : decode cX9_init 139 = .ok (.newarray .int, 2) := by decide +kernel
theorem dX9_init_141 : decode cX9_init 141 = .ok (.putfield 58, 3) := by decide +kernel
theorem dX9_init_144 : decode cX9_init 144 = .ok (.aload_n 0, 1) := by decide +kernel
theorem dX9_init_145 : decode cX9_init 145 = .ok (.bipush 9, 2) := by decide +kernel
theorem dX9_init_147 : decode cX9_init 147 = .ok (.newarray .int, 2) := by decide +kernel
theorem dX9_init_149 : decode cX9_init 149 = .ok (.putfield 61, 3) := by decide +kernel
theorem dX9_init_152 : decode cX9_init 152 = .ok (.aload_n 0, 1) := by decide +kernel
theorem dX9_init_153 : decode cX9_init 153 = .ok (.bipush 9, 2) := by decide +kernel
theorem dX9_init_155 : decode cX9_init 155 = .ok (.newarray .int, 2) := by decide +kernel
theorem dX9_init_157 : decode cX9_init 157 = .ok (.putfield 64, 3) := by decide +kernel
theorem dX9_init_160 : decode cX9_init 160 = .ok (.aload_n 0, 1) := by decide +kernel
theorem dX9_init_161 : decode cX9_init 161 = .ok (.bipush 8, 2) := by decide +kernel
theorem dX9_init_163 : decode cX9_init 163 = .ok (.newarray .int, 2) := by decide +kernel
theorem dX9_init_165 : decode cX9_init 165 = .ok (.putfield 67, 3) := by decide +kernel
theorem dX9_init_168 : decode cX9_init 168 = .ok (.iconst 0, 1) := by decide +kernel
theorem dX9_init_169 : decode cX9_init 169 = .ok (.istore_n 1, 1) := by decide +kernel
theorem dX9_init_170 : decode cX9_init 170 = .ok (.iload_n 1, 1) := by decide +kernel
theorem dX9_init_171 : decode cX9_init 171 = .ok (.bipush 8, 2) := by decide +kernel
theorem dX9_init_173 : decode cX9_init 173 = .ok (.if_icmp .ge 17, 3) := by decide +kernel
theorem dX9_init_176 : decode cX9_init 176 = .ok (.aload_n 0, 1) := by decide +kernel
theorem dX9_init_177 : decode cX9_init 177 = .ok (.getfield 25, 3) := by decide +kernel
theorem dX9_init_180 : decode cX9_init 180 = .ok (.iload_n 1, 1) := by decide +kernel
theorem dX9_init_181 : decode cX9_init 181 = .ok (.bipush 100, 2) := by decide +kernel
theorem dX9_init_183 : decode cX9_init 183 = .ok (.iastore, 1) := by decide +kernel
theorem dX9_init_184 : decode cX9_init 184 = .ok (.iinc 1 1, 3) := by decide +kernel
theorem dX9_init_187 : decode cX9_init 187 = .ok (.goto (-17), 3) := by decide +kernel
theorem dX9_init_190 : decode cX9_init 190 = .ok (.return_, 1) := by decide +kernel
theorem dX9_thrown_0 : decode cX9_thrown 0 = .ok (.aload_n 0, 1) := by decide +kernel
theorem dX9_thrown_1 : decode cX9_thrown 1 = .ok (.getfield 70, 3) := by decide +kernel
theorem dX9_thrown_4 : decode cX9_thrown 4 = .ok (.ireturn, 1) := by decide +kernel
theorem dX9_holds_0 : decode cX9_holds 0 = .ok (.aload_n 0, 1) := by decide +kernel
theorem dX9_holds_1 : decode cX9_holds 1 = .ok (.iload_n 1, 1) := by decide +kernel
theorem dX9_holds_2 : decode cX9_holds 2 = .ok (.putfield 70, 3) := by decide +kernel
theorem dX9_holds_5 : decode cX9_holds 5 = .ok (.iload_n 1, 1) := by decide +kernel
theorem dX9_holds_6 : decode cX9_holds 6 = .ok (.ifCond .le 7, 3) := by decide +kernel
theorem dX9_holds_9 : decode cX9_holds 9 = .ok (.iconst 1, 1) := by decide +kernel
theorem dX9_holds_10 : decode cX9_holds 10 = .ok (.goto 4, 3) := by decide +kernel
theorem dX9_holds_13 : decode cX9_holds 13 = .ok (.iconst 0, 1) := by decide +kernel
theorem dX9_holds_14 : decode cX9_holds 14 = .ok (.ireturn, 1) := by decide +kernel
theorem dX9_in_0 : decode cX9_in 0 = .ok (.iload_n 1, 1) := by decide +kernel
theorem dX9_in_1 : decode cX9_in 1 = .ok (.iload_n 2, 1) := by decide +kernel
theorem dX9_in_2 : decode cX9_in 2 = .ok (.if_icmp .lt 12, 3) := by decide +kernel
theorem dX9_in_5 : decode cX9_in 5 = .ok (.iload_n 1, 1) := by decide +kernel
theorem dX9_in_6 : decode cX9_in 6 = .ok (.iload_n 3, 1) := by decide +kernel
theorem dX9_in_7 : decode cX9_in 7 = .ok (.if_icmp .gt 7, 3) := by decide +kernel
theorem dX9_in_10 : decode cX9_in 10 = .ok (.iconst 1, 1) := by decide +kernel
theorem dX9_in_11 : decode cX9_in 11 = .ok (.goto 4, 3) := by decide +kernel
theorem dX9_in_14 : decode cX9_in 14 = .ok (.iconst 0, 1) := by decide +kernel
theorem dX9_in_15 : decode cX9_in 15 = .ok (.ireturn, 1) := by decide +kernel
set_option maxRecDepth 20000 in
theorem ggX9_isEight_X9_in : GoodIn wsX9_isEight wsX9_in := goodIn_r _ [5] (by decide +kernel) (by decide +kernel)
set_option maxRecDepth 20000 in
theorem gX9_isEight_X9_in : GoodIn wsX9_isEight (wsV RX9 74 RX9 yX9_in wsX9_in) := goodIn_app (goodIn_of _ (by decide +kernel)) ggX9_isEight_X9_in
theorem dX9_isEight_0 : decode cX9_isEight 0 = .ok (.aload_n 0, 1) := by decide +kernel
theorem dX9_isEight_1 : decode cX9_isEight 1 = .ok (.iload_n 1, 1) := by decide +kernel
theorem dX9_isEight_2 : decode cX9_isEight 2 = .ok (.iconst 0, 1) := by decide +kernel
theorem dX9_isEight_3 : decode cX9_isEight 3 = .ok (.bipush 7, 2) := by decide +kernel
theorem dX9_isEight_5 : decode cX9_isEight 5 = .ok (.invokevirtual 74, 3) := by decide +kernel
theorem dX9_isEight_8 : decode cX9_isEight 8 = .ok (.ireturn, 1) := by decide +kernel
set_option maxRecDepth 20000 in
theorem ggX9_isVersion_X9_isEight : GoodIn wsX9_isVersion wsX9_isEight := goodIn_r _ [6, 7, 8, 9, 5, 10] (by decide +kernel) (by decide +kernel)
set_option maxRecDepth 20000 in
theorem gX9_isVersion_X9_isEight : GoodIn wsX9_isVersion (wsV RX9 78 RX9 yX9_isEight wsX9_isEight) := goodIn_app (goodIn_of _ (by decide +kernel)) ggX9_isVersion_X9_isEight
set_option maxRecDepth 20000 in
theorem ggX9_isVersion_X9_in : GoodIn wsX9_isVersion wsX9_in := goodIn_r _ [10] (by decide +kernel) (by decide +kernel)
set_option maxRecDepth 20000 in
theorem gX9_isVersion_X9_in : GoodIn wsX9_isVersion (wsV RX9 74 RX9 yX9_in wsX9_in) := goodIn_app (goodIn_of _ (by decide +kernel)) ggX9_isVersion_X9_in
theorem dX9_isVersion_0 : decode cX9_isVersion 0 = .ok (.aload_n 0, 1) := by decide +kernel
theorem dX9_isVersion_1 : decode cX9_isVersion 1 = .ok (.iload_n 1, 1) := by decide +kernel
theorem dX9_isVersion_2 : decode cX9_isVersion 2 = .ok (.invokevirtual 78, 3) := by decide +kernel
theorem dX9_isVersion_5 : decode cX9_isVersion 5 = .ok (.ifCond .eq 22, 3) := by decide +kernel
theorem dX9_isVersion_8 : decode cX9_isVersion 8 = .ok (.aload_n 0, 1) := by decide +kernel
theorem dX9_isVersion_9 : decode cX9_isVersion 9 = .ok (.iload_n 2, 1) := by decide +kernel
theorem dX9_isVersion_10 : decode cX9_isVersion 10 = .ok (.iconst 1, 1) := by decide +kernel
theorem dX9_isVersion_11 : decode cX9_isVersion 11 = .ok (.aload_n 0, 1) := by decide +kernel
theorem dX9_isVersion_12 : decode cX9_isVersion 12 = .ok (.getfield 22, 3) := by decide +kernel
theorem dX9_isVersion_15 : decode cX9_isVersion 15 = .ok (.iload_n 1, 1) := by decide +kernel
theorem dX9_isVersion_16 : decode cX9_isVersion 16 = .ok (.iaload, 1) := by decide +kernel
theorem dX9_isVersion_17 : decode cX9_isVersion 17 = .ok (.invokevirtual 74, 3) := by decide +kernel
theorem dX9_isVersion_20 : decode cX9_isVersion 20 = .ok (.ifCond .eq 7, 3) := by decide +kernel
theorem dX9_isVersion_23 : decode cX9_isVersion 23 = .ok (.iconst 1, 1) := by decide +kernel
theorem dX9_isVersion_24 : decode cX9_isVersion 24 = .ok (.goto 4, 3) := by decide +kernel
theorem dX9_isVersion_27 : decode cX9_isVersion 27 = .ok (.iconst 0, 1) := by decide +kernel
theorem dX9_isVersion_28 : decode cX9_isVersion 28 = .ok (.ireturn, 1) := by decide +kernel
set_option maxRecDepth 20000 in
theorem ggX9_isRequest_X9_in : GoodIn wsX9_isRequest wsX9_in := goodIn_r _ [6] (by decide +kernel) (by decide +kernel)
set_option maxRecDepth 20000 in
theorem gX9_isRequest_X9_in : GoodIn wsX9_isRequest (wsV RX9 74 RX9 yX9_in wsX9_in) := goodIn_app (goodIn_of _ (by decide +kernel)) ggX9_isRequest_X9_in
theorem dX9_isRequest_0 : decode cX9_isRequest 0 = .ok (.aload_n 0, 1) := by decide +kernel
theorem dX9_isRequest_1 : decode cX9_isRequest 1 = .ok (.iload_n 1, 1) := by decide +kernel
theorem dX9_isRequest_2 : decode cX9_isRequest 2 = .ok (.iconst 0, 1) := by decide +kernel
theorem dX9_isRequest_3 : decode cX9_isRequest 3 = .ok (.aload_n 0, 1) := by decide +kernel
theorem dX9_isRequest_4 : decode cX9_isRequest 4 = .ok (.getfield 82, 3) := by decide +kernel
theorem dX9_isRequest_7 : decode cX9_isRequest 7 = .ok (.iconst 1, 1) := by decide +kernel
theorem dX9_isRequest_8 : decode cX9_isRequest 8 = .ok (.isub, 1) := by decide +kernel
theorem dX9_isRequest_9 : decode cX9_isRequest 9 = .ok (.invokevirtual 74, 3) := by decide +kernel
theorem dX9_isRequest_12 : decode cX9_isRequest 12 = .ok (.ireturn, 1) := by decide +kernel
set_option maxRecDepth 20000 in
theorem ggX9_version_X9_isEight : GoodIn wsX9_version wsX9_isEight := goodIn_r _ [8, 9, 10, 11, 7, 12] (by decide +kernel) (by decide +kernel)
set_option maxRecDepth 20000 in
theorem gX9_version_X9_isEight : GoodIn wsX9_version (wsV RX9 78 RX9 yX9_isEight wsX9_isEight) := goodIn_app (goodIn_of _ (by decide +kernel)) ggX9_version_X9_isEight
set_option maxRecDepth 20000 in
theorem ggX9_version_X9_in : GoodIn wsX9_version wsX9_in := goodIn_r _ [12] (by decide +kernel) (by decide +kernel)
set_option maxRecDepth 20000 in
theorem gX9_version_X9_in : GoodIn wsX9_version (wsV RX9 74 RX9 yX9_in wsX9_in) := goodIn_app (goodIn_of _ (by decide +kernel)) ggX9_version_X9_in
set_option maxRecDepth 20000 in
theorem ggX9_version_X9_holds : GoodIn wsX9_version wsX9_holds := goodIn_r _ [16, 17, 18, 19, 20, 21, 22, 23, 24, 25, 26, 27, 28, 29, 30, 31, 32, 33, 34, 35, 36, 37, 38, 39, 40, 41] (by decide +kernel) (by decide +kernel)
set_option maxRecDepth 20000 in
theorem gX9_version_X9_holds : GoodIn wsX9_version (wsV RX9 85 RX9 yX9_holds wsX9_holds) := goodIn_app (goodIn_of _ (by decide +kernel)) ggX9_version_X9_holds
theorem dX9_version_0 : decode cX9_version 0 = .ok (.aload_n 0, 1) := by decide +kernel
theorem dX9_version_1 : decode cX9_version 1 = .ok (.aload_n 0, 1) := by decide +kernel
theorem dX9_version_2 : decode cX9_version 2 = .ok (.iload_n 1, 1) := by decide +kernel
theorem dX9_version_3 : decode cX9_version 3 = .ok (.invokevirtual 78, 3) := by decide +kernel
theorem dX9_version_6 : decode cX9_version 6 = .ok (.ifCond .ne 7, 3) := by decide +kernel
theorem dX9_version_9 : decode cX9_version 9 = .ok (.iconst 1, 1) := by decide +kernel
theorem dX9_version_10 : decode cX9_version 10 = .ok (.goto 34, 3) := by decide +kernel
theorem dX9_version_13 : decode cX9_version 13 = .ok (.aload_n 0, 1) := by decide +kernel
theorem dX9_version_14 : decode cX9_version 14 = .ok (.iload_n 2, 1) := by decide +kernel
theorem dX9_version_15 : decode cX9_version 15 = .ok (.iconst 0, 1) := by decide +kernel
theorem dX9_version_16 : decode cX9_version 16 = .ok (.sipush 1000, 3) := by decide +kernel
theorem dX9_version_19 : decode cX9_version 19 = .ok (.invokevirtual 74, 3) := by decide +kernel
theorem dX9_version_22 : decode cX9_version 22 = .ok (.ifCond .ne 7, 3) := by decide +kernel
theorem dX9_version_25 : decode cX9_version 25 = .ok (.iconst 2, 1) := by decide +kernel
theorem dX9_version_26 : decode cX9_version 26 = .ok (.goto 18, 3) := by decide +kernel
theorem dX9_version_29 : decode cX9_version 29 = .ok (.aload_n 0, 1) := by decide +kernel
theorem dX9_version_30 : decode cX9_version 30 = .ok (.getfield 22, 3) := by decide +kernel
theorem dX9_version_33 : decode cX9_version 33 = .ok (.iload_n 1, 1) := by decide +kernel
theorem dX9_version_34 : decode cX9_version 34 = .ok (.iaload, 1) := by decide +kernel
theorem dX9_version_35 : decode cX9_version 35 = .ok (.iconst 3, 1) := by decide +kernel
theorem dX9_version_36 : decode cX9_version 36 = .ok (.if_icmp .ne 7, 3) := by decide +kernel
theorem dX9_version_39 : decode cX9_version 39 = .ok (.iconst 3, 1) := by decide +kernel
theorem dX9_version_40 : decode cX9_version 40 = .ok (.goto 4, 3) := by decide +kernel
theorem dX9_version_43 : decode cX9_version 43 = .ok (.iconst 0, 1) := by decide +kernel
theorem dX9_version_44 : decode cX9_version 44 = .ok (.invokevirtual 85, 3) := by decide +kernel
theorem dX9_version_47 : decode cX9_version 47 = .ok (.ifCond .eq 5, 3) := by decide +kernel
theorem dX9_version_50 : decode cX9_version 50 = .ok (.iconst (-1), 1) := by decide +kernel
theorem dX9_version_51 : decode cX9_version 51 = .ok (.ireturn, 1) := by decide +kernel
theorem dX9_version_52 : decode cX9_version 52 = .ok (.aload_n 0, 1) := by decide +kernel
theorem dX9_version_53 : decode cX9_version 53 = .ok (.getfield 7, 3) := by decide +kernel
theorem dX9_version_56 : decode cX9_version 56 = .ok (.iconst 3, 1) := by decide +kernel
theorem dX9_version_57 : decode cX9_version 57 = .ok (.iload_n 1, 1) := by decide +kernel
theorem dX9_version_58 : decode cX9_version 58 = .ok (.imul, 1) := by decide +kernel
theorem dX9_version_59 : decode cX9_version 59 = .ok (.aload_n 0, 1) := by decide +kernel
theorem dX9_version_60 : decode cX9_version 60 = .ok (.getfield 22, 3) := by decide +kernel
theorem dX9_version_63 : decode cX9_version 63 = .ok (.iload_n 1, 1) := by decide +kernel
theorem dX9_version_64 : decode cX9_version 64 = .ok (.iaload, 1) := by decide +kernel
theorem dX9_version_65 : decode cX9_version 65 = .ok (.iadd, 1) := by decide +kernel
theorem dX9_version_66 : decode cX9_version 66 = .ok (.iload_n 2, 1) := by decide +kernel
theorem dX9_version_67 : decode cX9_version 67 = .ok (.iastore, 1) := by decide +kernel
theorem dX9_version_68 : decode cX9_version 68 = .ok (.aload_n 0, 1) := by decide +kernel
theorem dX9_version_69 : decode cX9_version 69 = .ok (.getfield 22, 3) := by decide +kernel
theorem dX9_version_72 : decode cX9_version 72 = .ok (.iload_n 1, 1) := by decide +kernel
theorem dX9_version_73 : decode cX9_version 73 = .ok (.dup2, 1) := by decide +kernel
theorem dX9_version_74 : decode cX9_version 74 = .ok (.iaload, 1) := by decide +kernel
theorem dX9_version_75 : decode cX9_version 75 = .ok (.iconst 1, 1) := by decide +kernel
theorem dX9_version_76 : decode cX9_version 76 = .ok (.iadd, 1) := by decide +kernel
theorem dX9_version_77 : decode cX9_version 77 = .ok (.iastore, 1) := by decide +kernel
theorem dX9_version_78 : decode cX9_version 78 = .ok (.aload_n 0, 1) := by decide +kernel
theorem dX9_version_79 : decode cX9_version 79 = .ok (.dup, 1) := by decide +kernel
theorem dX9_version_80 : decode cX9_version 80 = .ok (.getfield 88, 3) := by decide +kernel
theorem dX9_version_83 : decode cX9_version 83 = .ok (.iconst 1, 1) := by decide +kernel
theorem dX9_version_84 : decode cX9_version 84 = .ok (.iadd, 1) := by decide +kernel
theorem dX9_version_85 : decode cX9_version 85 = .ok (.putfield 88, 3) := by decide +kernel
theorem dX9_version_88 : decode cX9_version 88 = .ok (.aload_n 0, 1) := by decide +kernel
theorem dX9_version_89 : decode cX9_version 89 = .ok (.getfield 22, 3) := by decide +kernel
theorem dX9_version_92 : decode cX9_version 92 = .ok (.iload_n 1, 1) := by decide +kernel
theorem dX9_version_93 : decode cX9_version 93 = .ok (.iaload, 1) := by decide +kernel
theorem dX9_version_94 : decode cX9_version 94 = .ok (.ireturn, 1) := by decide +kernel
set_option maxRecDepth 20000 in
theorem ggX9_need_X9_isVersion : GoodIn wsX9_need wsX9_isVersion := goodIn_r _ [8, 9, 10, 11, 12, 7, 13, 14, 15, 16, 17, 23, 24, 25, 26, 27, 28, 29, 30, 31, 32, 33, 34, 35, 36, 37, 38, 39, 40, 41, 42, 43, 44, 45, 46] (by decide +kernel) (by decide +kernel)
set_option maxRecDepth 20000 in
theorem gX9_need_X9_isVersion : GoodIn wsX9_need (wsV RX9 91 RX9 yX9_isVersion wsX9_isVersion) := goodIn_app (goodIn_of _ (by decide +kernel)) ggX9_need_X9_isVersion
set_option maxRecDepth 20000 in
theorem ggX9_need_X9_isEight : GoodIn wsX9_need wsX9_isEight := goodIn_r _ [13, 14, 15, 16, 7, 17] (by decide +kernel) (by decide +kernel)
set_option maxRecDepth 20000 in
theorem gX9_need_X9_isEight : GoodIn wsX9_need (wsV RX9 78 RX9 yX9_isEight wsX9_isEight) := goodIn_app (goodIn_of _ (by decide +kernel)) ggX9_need_X9_isEight
set_option maxRecDepth 20000 in
theorem ggX9_need_X9_in : GoodIn wsX9_need wsX9_in := goodIn_r _ [17] (by decide +kernel) (by decide +kernel)
set_option maxRecDepth 20000 in
theorem gX9_need_X9_in : GoodIn wsX9_need (wsV RX9 74 RX9 yX9_in wsX9_in) := goodIn_app (goodIn_of _ (by decide +kernel)) ggX9_need_X9_in
set_option maxRecDepth 20000 in
theorem ggX9_need_X9_holds : GoodIn wsX9_need wsX9_holds := goodIn_r _ [21, 22, 23, 24, 25, 26, 27, 28, 29, 30, 31, 32, 33, 34, 35, 36, 37, 38, 39, 40, 41, 42, 43, 44, 45, 46] (by decide +kernel) (by decide +kernel)
set_option maxRecDepth 20000 in
theorem gX9_need_X9_holds : GoodIn wsX9_need (wsV RX9 85 RX9 yX9_holds wsX9_holds) := goodIn_app (goodIn_of _ (by decide +kernel)) ggX9_need_X9_holds
theorem dX9_need_0 : decode cX9_need 0 = .ok (.aload_n 0, 1) := by decide +kernel
theorem dX9_need_1 : decode cX9_need 1 = .ok (.iload_n 1, 1) := by decide +kernel
theorem dX9_need_2 : decode cX9_need 2 = .ok (.iload_n 2, 1) := by decide +kernel
theorem dX9_need_3 : decode cX9_need 3 = .ok (.invokevirtual 91, 3) := by decide +kernel
theorem dX9_need_6 : decode cX9_need 6 = .ok (.ifCond .eq 15, 3) := by decide +kernel
theorem dX9_need_9 : decode cX9_need 9 = .ok (.aload_n 0, 1) := by decide +kernel
theorem dX9_need_10 : decode cX9_need 10 = .ok (.iload_n 3, 1) := by decide +kernel
theorem dX9_need_11 : decode cX9_need 11 = .ok (.invokevirtual 78, 3) := by decide +kernel
theorem dX9_need_14 : decode cX9_need 14 = .ok (.ifCond .eq 7, 3) := by decide +kernel
theorem dX9_need_17 : decode cX9_need 17 = .ok (.iconst 1, 1) := by decide +kernel
theorem dX9_need_18 : decode cX9_need 18 = .ok (.goto 4, 3) := by decide +kernel
theorem dX9_need_21 : decode cX9_need 21 = .ok (.iconst 0, 1) := by decide +kernel
theorem dX9_need_22 : decode cX9_need 22 = .ok (.istore 6, 2) := by decide +kernel
theorem dX9_need_24 : decode cX9_need 24 = .ok (.iload_n 1, 1) := by decide +kernel
theorem dX9_need_25 : decode cX9_need 25 = .ok (.iload_n 3, 1) := by decide +kernel
theorem dX9_need_26 : decode cX9_need 26 = .ok (.if_icmp .eq 30, 3) := by decide +kernel
theorem dX9_need_29 : decode cX9_need 29 = .ok (.aload_n 0, 1) := by decide +kernel
theorem dX9_need_30 : decode cX9_need 30 = .ok (.iload 4, 2) := by decide +kernel
theorem dX9_need_32 : decode cX9_need 32 = .ok (.iconst 1, 1) := by decide +kernel
theorem dX9_need_33 : decode cX9_need 33 = .ok (.iconst 3, 1) := by decide +kernel
theorem dX9_need_34 : decode cX9_need 34 = .ok (.invokevirtual 74, 3) := by decide +kernel
theorem dX9_need_37 : decode cX9_need 37 = .ok (.ifCond .eq 19, 3) := by decide +kernel
theorem dX9_need_40 : decode cX9_need 40 = .ok (.aload_n 0, 1) := by decide +kernel
theorem dX9_need_41 : decode cX9_need 41 = .ok (.iload 5, 2) := by decide +kernel
theorem dX9_need_43 : decode cX9_need 43 = .ok (.iload 4, 2) := by decide +kernel
theorem dX9_need_45 : decode cX9_need 45 = .ok (.iconst 3, 1) := by decide +kernel
theorem dX9_need_46 : decode cX9_need 46 = .ok (.invokevirtual 74, 3) := by decide +kernel
theorem dX9_need_49 : decode cX9_need 49 = .ok (.ifCond .eq 7, 3) := by decide +kernel
theorem dX9_need_52 : decode cX9_need 52 = .ok (.iconst 1, 1) := by decide +kernel
theorem dX9_need_53 : decode cX9_need 53 = .ok (.goto 4, 3) := by decide +kernel
theorem dX9_need_56 : decode cX9_need 56 = .ok (.iconst 0, 1) := by decide +kernel
theorem dX9_need_57 : decode cX9_need 57 = .ok (.istore 7, 2) := by decide +kernel
theorem dX9_need_59 : decode cX9_need 59 = .ok (.iload 6, 2) := by decide +kernel
theorem dX9_need_61 : decode cX9_need 61 = .ok (.ifCond .eq 13, 3) := by decide +kernel
theorem dX9_need_64 : decode cX9_need 64 = .ok (.iconst 3, 1) := by decide +kernel
theorem dX9_need_65 : decode cX9_need 65 = .ok (.iload_n 1, 1) := by decide +kernel
theorem dX9_need_66 : decode cX9_need 66 = .ok (.imul, 1) := by decide +kernel
theorem dX9_need_67 : decode cX9_need 67 = .ok (.iload_n 2, 1) := by decide +kernel
theorem dX9_need_68 : decode cX9_need 68 = .ok (.iadd, 1) := by decide +kernel
theorem dX9_need_69 : decode cX9_need 69 = .ok (.iconst 1, 1) := by decide +kernel
theorem dX9_need_70 : decode cX9_need 70 = .ok (.isub, 1) := by decide +kernel
theorem dX9_need_71 : decode cX9_need 71 = .ok (.goto 4, 3) := by decide +kernel
theorem dX9_need_74 : decode cX9_need 74 = .ok (.iconst 0, 1) := by decide +kernel
theorem dX9_need_75 : decode cX9_need 75 = .ok (.istore 8, 2) := by decide +kernel
theorem dX9_need_77 : decode cX9_need 77 = .ok (.aload_n 0, 1) := by decide +kernel
theorem dX9_need_78 : decode cX9_need 78 = .ok (.iload 6, 2) := by decide +kernel
theorem dX9_need_80 : decode cX9_need 80 = .ok (.ifCond .ne 7, 3) := by decide +kernel
theorem dX9_need_83 : decode cX9_need 83 = .ok (.iconst 1, 1) := by decide +kernel
theorem dX9_need_84 : decode cX9_need 84 = .ok (.goto 28, 3) := by decide +kernel
theorem dX9_need_87 : decode cX9_need 87 = .ok (.iload 7, 2) := by decide +kernel
theorem dX9_need_89 : decode cX9_need 89 = .ok (.ifCond .ne 7, 3) := by decide +kernel
theorem dX9_need_92 : decode cX9_need 92 = .ok (.iconst 2, 1) := by decide +kernel
theorem dX9_need_93 : decode cX9_need 93 = .ok (.goto 19, 3) := by decide +kernel
theorem dX9_need_96 : decode cX9_need 96 = .ok (.aload_n 0, 1) := by decide +kernel
theorem dX9_need_97 : decode cX9_need 97 = .ok (.getfield 16, 3) := by decide +kernel
theorem dX9_need_100 : decode cX9_need 100 = .ok (.iload 8, 2) := by decide +kernel
theorem dX9_need_102 : decode cX9_need 102 = .ok (.iaload, 1) := by decide +kernel
theorem dX9_need_103 : decode cX9_need 103 = .ok (.iconst 4, 1) := by decide +kernel
theorem dX9_need_104 : decode cX9_need 104 = .ok (.if_icmp .ne 7, 3) := by decide +kernel
theorem dX9_need_107 : decode cX9_need 107 = .ok (.iconst 3, 1) := by decide +kernel
theorem dX9_need_108 : decode cX9_need 108 = .ok (.goto 4, 3) := by decide +kernel
theorem dX9_need_111 : decode cX9_need 111 = .ok (.iconst 0, 1) := by decide +kernel
theorem dX9_need_112 : decode cX9_need 112 = .ok (.invokevirtual 85, 3) := by decide +kernel
theorem dX9_need_115 : decode cX9_need 115 = .ok (.ifCond .eq 5, 3) := by decide +kernel
theorem dX9_need_118 : decode cX9_need 118 = .ok (.iconst (-1), 1) := by decide +kernel
theorem dX9_need_119 : decode cX9_need 119 = .ok (.ireturn, 1) := by decide +kernel
theorem dX9_need_120 : decode cX9_need 120 = .ok (.bipush 12, 2) := by decide +kernel
theorem dX9_need_122 : decode cX9_need 122 = .ok (.iload 8, 2) := by decide +kernel
theorem dX9_need_124 : decode cX9_need 124 = .ok (.imul, 1) := by decide +kernel
theorem dX9_need_125 : decode cX9_need 125 = .ok (.iconst 3, 1) := by decide +kernel
theorem dX9_need_126 : decode cX9_need 126 = .ok (.aload_n 0, 1) := by decide +kernel
theorem dX9_need_127 : decode cX9_need 127 = .ok (.getfield 16, 3) := by decide +kernel
theorem dX9_need_130 : decode cX9_need 130 = .ok (.iload 8, 2) := by decide +kernel
theorem dX9_need_132 : decode cX9_need 132 = .ok (.iaload, 1) := by decide +kernel
theorem dX9_need_133 : decode cX9_need 133 = .ok (.imul, 1) := by decide +kernel
theorem dX9_need_134 : decode cX9_need 134 = .ok (.iadd, 1) := by decide +kernel
theorem dX9_need_135 : decode cX9_need 135 = .ok (.istore 9, 2) := by decide +kernel
theorem dX9_need_137 : decode cX9_need 137 = .ok (.aload_n 0, 1) := by decide +kernel
theorem dX9_need_138 : decode cX9_need 138 = .ok (.getfield 19, 3) := by decide +kernel
theorem dX9_need_141 : decode cX9_need 141 = .ok (.iload 9, 2) := by decide +kernel
theorem dX9_need_143 : decode cX9_need 143 = .ok (.iload_n 3, 1) := by decide +kernel
theorem dX9_need_144 : decode cX9_need 144 = .ok (.iastore, 1) := by decide +kernel
theorem dX9_need_145 : decode cX9_need 145 = .ok (.aload_n 0, 1) := by decide +kernel
theorem dX9_need_146 : decode cX9_need 146 = .ok (.getfield 19, 3) := by decide +kernel
theorem dX9_need_149 : decode cX9_need 149 = .ok (.iload 9, 2) := by decide +kernel
theorem dX9_need_151 : decode cX9_need 151 = .ok (.iconst 1, 1) := by decide +kernel
theorem dX9_need_152 : decode cX9_need 152 = .ok (.iadd, 1) := by decide +kernel
theorem dX9_need_153 : decode cX9_need 153 = .ok (.iload 4, 2) := by decide +kernel
theorem dX9_need_155 : decode cX9_need 155 = .ok (.iastore, 1) := by decide +kernel
theorem dX9_need_156 : decode cX9_need 156 = .ok (.aload_n 0, 1) := by decide +kernel
theorem dX9_need_157 : decode cX9_need 157 = .ok (.getfield 19, 3) := by decide +kernel
theorem dX9_need_160 : decode cX9_need 160 = .ok (.iload 9, 2) := by decide +kernel
theorem dX9_need_162 : decode cX9_need 162 = .ok (.iconst 2, 1) := by decide +kernel
theorem dX9_need_163 : decode cX9_need 163 = .ok (.iadd, 1) := by decide +kernel
theorem dX9_need_164 : decode cX9_need 164 = .ok (.iload 5, 2) := by decide +kernel
theorem dX9_need_166 : decode cX9_need 166 = .ok (.iastore, 1) := by decide +kernel
theorem dX9_need_167 : decode cX9_need 167 = .ok (.aload_n 0, 1) := by decide +kernel
theorem dX9_need_168 : decode cX9_need 168 = .ok (.getfield 16, 3) := by decide +kernel
theorem dX9_need_171 : decode cX9_need 171 = .ok (.iload 8, 2) := by decide +kernel
theorem dX9_need_173 : decode cX9_need 173 = .ok (.dup2, 1) := by decide +kernel
theorem dX9_need_174 : decode cX9_need 174 = .ok (.iaload, 1) := by decide +kernel
theorem dX9_need_175 : decode cX9_need 175 = .ok (.iconst 1, 1) := by decide +kernel
theorem dX9_need_176 : decode cX9_need 176 = .ok (.iadd, 1) := by decide +kernel
theorem dX9_need_177 : decode cX9_need 177 = .ok (.iastore, 1) := by decide +kernel
theorem dX9_need_178 : decode cX9_need 178 = .ok (.aload_n 0, 1) := by decide +kernel
theorem dX9_need_179 : decode cX9_need 179 = .ok (.dup, 1) := by decide +kernel
theorem dX9_need_180 : decode cX9_need 180 = .ok (.getfield 88, 3) := by decide +kernel
theorem dX9_need_183 : decode cX9_need 183 = .ok (.iconst 1, 1) := by decide +kernel
theorem dX9_need_184 : decode cX9_need 184 = .ok (.iadd, 1) := by decide +kernel
theorem dX9_need_185 : decode cX9_need 185 = .ok (.putfield 88, 3) := by decide +kernel
theorem dX9_need_188 : decode cX9_need 188 = .ok (.aload_n 0, 1) := by decide +kernel
theorem dX9_need_189 : decode cX9_need 189 = .ok (.getfield 16, 3) := by decide +kernel
theorem dX9_need_192 : decode cX9_need 192 = .ok (.iload 8, 2) := by decide +kernel
theorem dX9_need_194 : decode cX9_need 194 = .ok (.iaload, 1) := by decide +kernel
theorem dX9_need_195 : decode cX9_need 195 = .ok (.ireturn, 1) := by decide +kernel
theorem dX9_ends_0 : decode cX9_ends 0 = .ok (.iconst 0, 1) := by decide +kernel
theorem dX9_ends_1 : decode cX9_ends 1 = .ok (.istore_n 2, 1) := by decide +kernel
theorem dX9_ends_2 : decode cX9_ends 2 = .ok (.iconst 0, 1) := by decide +kernel
theorem dX9_ends_3 : decode cX9_ends 3 = .ok (.istore_n 3, 1) := by decide +kernel
theorem dX9_ends_4 : decode cX9_ends 4 = .ok (.iload_n 3, 1) := by decide +kernel
theorem dX9_ends_5 : decode cX9_ends 5 = .ok (.bipush 8, 2) := by decide +kernel
theorem dX9_ends_7 : decode cX9_ends 7 = .ok (.if_icmp .ge 43, 3) := by decide +kernel
theorem dX9_ends_10 : decode cX9_ends 10 = .ok (.iload_n 2, 1) := by decide +kernel
theorem dX9_ends_11 : decode cX9_ends 11 = .ok (.aload_n 0, 1) := by decide +kernel
theorem dX9_ends_12 : decode cX9_ends 12 = .ok (.getfield 52, 3) := by decide +kernel
theorem dX9_ends_15 : decode cX9_ends 15 = .ok (.bipush 8, 2) := by decide +kernel
theorem dX9_ends_17 : decode cX9_ends 17 = .ok (.iload_n 1, 1) := by decide +kernel
theorem dX9_ends_18 : decode cX9_ends 18 = .ok (.imul, 1) := by decide +kernel
theorem dX9_ends_19 : decode cX9_ends 19 = .ok (.iload_n 3, 1) := by decide +kernel
theorem dX9_ends_20 : decode cX9_ends 20 = .ok (.iadd, 1) := by decide +kernel
theorem dX9_ends_21 : decode cX9_ends 21 = .ok (.iaload, 1) := by decide +kernel
theorem dX9_ends_22 : decode cX9_ends 22 = .ok (.ifCond .le 7, 3) := by decide +kernel
theorem dX9_ends_25 : decode cX9_ends 25 = .ok (.iconst 1, 1) := by decide +kernel
theorem dX9_ends_26 : decode cX9_ends 26 = .ok (.goto 4, 3) := by decide +kernel
theorem dX9_ends_29 : decode cX9_ends 29 = .ok (.iconst 0, 1) := by decide +kernel
theorem dX9_ends_30 : decode cX9_ends 30 = .ok (.iadd, 1) := by decide +kernel
theorem dX9_ends_31 : decode cX9_ends 31 = .ok (.istore_n 2, 1) := by decide +kernel
theorem dX9_ends_32 : decode cX9_ends 32 = .ok (.aload_n 0, 1) := by decide +kernel
theorem dX9_ends_33 : decode cX9_ends 33 = .ok (.getfield 52, 3) := by decide +kernel
theorem dX9_ends_36 : decode cX9_ends 36 = .ok (.bipush 8, 2) := by decide +kernel
theorem dX9_ends_38 : decode cX9_ends 38 = .ok (.iload_n 1, 1) := by decide +kernel
theorem dX9_ends_39 : decode cX9_ends 39 = .ok (.imul, 1) := by decide +kernel
theorem dX9_ends_40 : decode cX9_ends 40 = .ok (.iload_n 3, 1) := by decide +kernel
theorem dX9_ends_41 : decode cX9_ends 41 = .ok (.iadd, 1) := by decide +kernel
theorem dX9_ends_42 : decode cX9_ends 42 = .ok (.iconst 0, 1) := by decide +kernel
theorem dX9_ends_43 : decode cX9_ends 43 = .ok (.iastore, 1) := by decide +kernel
theorem dX9_ends_44 : decode cX9_ends 44 = .ok (.iinc 3 1, 3) := by decide +kernel
theorem dX9_ends_47 : decode cX9_ends 47 = .ok (.goto (-43), 3) := by decide +kernel
theorem dX9_ends_50 : decode cX9_ends 50 = .ok (.iload_n 2, 1) := by decide +kernel
theorem dX9_ends_51 : decode cX9_ends 51 = .ok (.ireturn, 1) := by decide +kernel
set_option maxRecDepth 20000 in
theorem ggX9_replace_X9_isVersion : GoodIn wsX9_replace wsX9_isVersion := goodIn_r _ [10, 11, 12, 13, 14, 9, 15, 16, 17, 18, 19, 34, 35, 36, 37, 38, 39, 40, 41, 42, 43, 44, 45, 46, 47, 48, 49, 50, 51, 52, 53, 54, 55, 56, 57] (by decide +kernel) (by decide +kernel)
set_option maxRecDepth 20000 in
theorem gX9_replace_X9_isVersion : GoodIn wsX9_replace (wsV RX9 91 RX9 yX9_isVersion wsX9_isVersion) := goodIn_app (goodIn_of _ (by decide +kernel)) ggX9_replace_X9_isVersion
set_option maxRecDepth 20000 in
theorem ggX9_replace_X9_holds : GoodIn wsX9_replace wsX9_holds := goodIn_r _ [23, 24, 34, 35, 36, 37, 38, 39, 40, 41, 42, 43, 44, 45, 46, 47, 48, 49, 50, 51, 52, 53, 54, 55, 56, 57] (by decide +kernel) (by decide +kernel)
set_option maxRecDepth 20000 in
theorem gX9_replace_X9_holds : GoodIn wsX9_replace (wsV RX9 85 RX9 yX9_holds wsX9_holds) := goodIn_app (goodIn_of _ (by decide +kernel)) ggX9_replace_X9_holds
set_option maxRecDepth 20000 in
theorem ggX9_replace_X9_ends : GoodIn wsX9_replace wsX9_ends := goodIn_r _ [28, 29, 34, 35, 36, 37, 38, 39, 40, 41, 42, 43, 44, 45, 46, 47, 48, 49, 50, 51, 52, 53, 54, 55, 56, 57] (by decide +kernel) (by decide +kernel)
set_option maxRecDepth 20000 in
theorem gX9_replace_X9_ends : GoodIn wsX9_replace (wsV RX9 95 RX9 yX9_ends wsX9_ends) := goodIn_app (goodIn_of _ (by decide +kernel)) ggX9_replace_X9_ends
set_option maxRecDepth 20000 in
theorem ggX9_replace_X9_empty : GoodIn wsX9_replace wsX9_empty := goodIn_r _ [33, 4, 34, 35, 36, 37, 38, 39, 40, 41, 42, 43, 44, 45, 46, 47, 48, 49, 50, 51, 52, 53, 54, 55, 56, 57] (by decide +kernel) (by decide +kernel)
set_option maxRecDepth 20000 in
theorem gX9_replace_X9_empty : GoodIn wsX9_replace (wsV RX9 99 RX9 yX9_empty wsX9_empty) := goodIn_app (goodIn_of _ (by decide +kernel)) ggX9_replace_X9_empty
theorem dX9_replace_0 : decode cX9_replace 0 = .ok (.aload_n 0, 1) := by decide +kernel
theorem dX9_replace_1 : decode cX9_replace 1 = .ok (.iload_n 1, 1) := by decide +kernel
theorem dX9_replace_2 : decode cX9_replace 2 = .ok (.iload_n 2, 1) := by decide +kernel
theorem dX9_replace_3 : decode cX9_replace 3 = .ok (.invokevirtual 91, 3) := by decide +kernel
theorem dX9_replace_6 : decode cX9_replace 6 = .ok (.istore_n 3, 1) := by decide +kernel
theorem dX9_replace_7 : decode cX9_replace 7 = .ok (.aload_n 0, 1) := by decide +kernel
theorem dX9_replace_8 : decode cX9_replace 8 = .ok (.iload_n 3, 1) := by decide +kernel
theorem dX9_replace_9 : decode cX9_replace 9 = .ok (.ifCond .ne 7, 3) := by decide +kernel
theorem dX9_replace_12 : decode cX9_replace 12 = .ok (.iconst 1, 1) := by decide +kernel
theorem dX9_replace_13 : decode cX9_replace 13 = .ok (.goto 24, 3) := by decide +kernel
theorem dX9_replace_16 : decode cX9_replace 16 = .ok (.aload_n 0, 1) := by decide +kernel
theorem dX9_replace_17 : decode cX9_replace 17 = .ok (.getfield 13, 3) := by decide +kernel
theorem dX9_replace_20 : decode cX9_replace 20 = .ok (.iconst 3, 1) := by decide +kernel
theorem dX9_replace_21 : decode cX9_replace 21 = .ok (.iload_n 1, 1) := by decide +kernel
theorem dX9_replace_22 : decode cX9_replace 22 = .ok (.imul, 1) := by decide +kernel
theorem dX9_replace_23 : decode cX9_replace 23 = .ok (.iload_n 2, 1) := by decide +kernel
theorem dX9_replace_24 : decode cX9_replace 24 = .ok (.iadd, 1) := by decide +kernel
theorem dX9_replace_25 : decode cX9_replace 25 = .ok (.iconst 1, 1) := by decide +kernel
theorem dX9_replace_26 : decode cX9_replace 26 = .ok (.isub, 1) := by decide +kernel
theorem dX9_replace_27 : decode cX9_replace 27 = .ok (.iaload, 1) := by decide +kernel
theorem dX9_replace_28 : decode cX9_replace 28 = .ok (.iconst 1, 1) := by decide +kernel
theorem dX9_replace_29 : decode cX9_replace 29 = .ok (.if_icmp .ne 7, 3) := by decide +kernel
theorem dX9_replace_32 : decode cX9_replace 32 = .ok (.iconst 2, 1) := by decide +kernel
theorem dX9_replace_33 : decode cX9_replace 33 = .ok (.goto 4, 3) := by decide +kernel
theorem dX9_replace_36 : decode cX9_replace 36 = .ok (.iconst 0, 1) := by decide +kernel
theorem dX9_replace_37 : decode cX9_replace 37 = .ok (.invokevirtual 85, 3) := by decide +kernel
theorem dX9_replace_40 : decode cX9_replace 40 = .ok (.ifCond .eq 5, 3) := by decide +kernel
theorem dX9_replace_43 : decode cX9_replace 43 = .ok (.iconst (-1), 1) := by decide +kernel
theorem dX9_replace_44 : decode cX9_replace 44 = .ok (.ireturn, 1) := by decide +kernel
theorem dX9_replace_45 : decode cX9_replace 45 = .ok (.aload_n 0, 1) := by decide +kernel
theorem dX9_replace_46 : decode cX9_replace 46 = .ok (.getfield 13, 3) := by decide +kernel
theorem dX9_replace_49 : decode cX9_replace 49 = .ok (.iconst 3, 1) := by decide +kernel
theorem dX9_replace_50 : decode cX9_replace 50 = .ok (.iload_n 1, 1) := by decide +kernel
theorem dX9_replace_51 : decode cX9_replace 51 = .ok (.imul, 1) := by decide +kernel
theorem dX9_replace_52 : decode cX9_replace 52 = .ok (.iload_n 2, 1) := by decide +kernel
theorem dX9_replace_53 : decode cX9_replace 53 = .ok (.iadd, 1) := by decide +kernel
theorem dX9_replace_54 : decode cX9_replace 54 = .ok (.iconst 1, 1) := by decide +kernel
theorem dX9_replace_55 : decode cX9_replace 55 = .ok (.isub, 1) := by decide +kernel
theorem dX9_replace_56 : decode cX9_replace 56 = .ok (.iconst 1, 1) := by decide +kernel
theorem dX9_replace_57 : decode cX9_replace 57 = .ok (.iastore, 1) := by decide +kernel
theorem dX9_replace_58 : decode cX9_replace 58 = .ok (.iconst 0, 1) := by decide +kernel
theorem dX9_replace_59 : decode cX9_replace 59 = .ok (.istore 4, 2) := by decide +kernel
theorem dX9_replace_61 : decode cX9_replace 61 = .ok (.iconst 0, 1) := by decide +kernel
theorem dX9_replace_62 : decode cX9_replace 62 = .ok (.istore 5, 2) := by decide +kernel
theorem dX9_replace_64 : decode cX9_replace 64 = .ok (.iload 5, 2) := by decide +kernel
theorem dX9_replace_66 : decode cX9_replace 66 = .ok (.aload_n 0, 1) := by decide +kernel
theorem dX9_replace_67 : decode cX9_replace 67 = .ok (.getfield 82, 3) := by decide +kernel
theorem dX9_replace_70 : decode cX9_replace 70 = .ok (.if_icmp .ge 71, 3) := by decide +kernel
theorem dX9_replace_73 : decode cX9_replace 73 = .ok (.aload_n 0, 1) := by decide +kernel
theorem dX9_replace_74 : decode cX9_replace 74 = .ok (.getfield 43, 3) := by decide +kernel
theorem dX9_replace_77 : decode cX9_replace 77 = .ok (.iload 5, 2) := by decide +kernel
theorem dX9_replace_79 : decode cX9_replace 79 = .ok (.iaload, 1) := by decide +kernel
theorem dX9_replace_80 : decode cX9_replace 80 = .ok (.ifCond .le 55, 3) := by decide +kernel
theorem dX9_replace_83 : decode cX9_replace 83 = .ok (.aload_n 0, 1) := by decide +kernel
theorem dX9_replace_84 : decode cX9_replace 84 = .ok (.getfield 49, 3) := by decide +kernel
theorem dX9_replace_87 : decode cX9_replace 87 = .ok (.bipush 8, 2) := by decide +kernel
theorem dX9_replace_89 : decode cX9_replace 89 = .ok (.iload 5, 2) := by decide +kernel
theorem dX9_replace_91 : decode cX9_replace 91 = .ok (.imul, 1) := by decide +kernel
theorem dX9_replace_92 : decode cX9_replace 92 = .ok (.iload_n 1, 1) := by decide +kernel
theorem dX9_replace_93 : decode cX9_replace 93 = .ok (.iadd, 1) := by decide +kernel
theorem dX9_replace_94 : decode cX9_replace 94 = .ok (.iaload, 1) := by decide +kernel
theorem dX9_replace_95 : decode cX9_replace 95 = .ok (.iload_n 2, 1) := by decide +kernel
theorem dX9_replace_96 : decode cX9_replace 96 = .ok (.if_icmp .ne 39, 3) := by decide +kernel
theorem dX9_replace_99 : decode cX9_replace 99 = .ok (.iload 4, 2) := by decide +kernel
theorem dX9_replace_101 : decode cX9_replace 101 = .ok (.aload_n 0, 1) := by decide +kernel
theorem dX9_replace_102 : decode cX9_replace 102 = .ok (.iload 5, 2) := by decide +kernel
theorem dX9_replace_104 : decode cX9_replace 104 = .ok (.invokevirtual 95, 3) := by decide +kernel
theorem dX9_replace_107 : decode cX9_replace 107 = .ok (.iadd, 1) := by decide +kernel
theorem dX9_replace_108 : decode cX9_replace 108 = .ok (.istore 4, 2) := by decide +kernel
theorem dX9_replace_110 : decode cX9_replace 110 = .ok (.aload_n 0, 1) := by decide +kernel
theorem dX9_replace_111 : decode cX9_replace 111 = .ok (.getfield 43, 3) := by decide +kernel
theorem dX9_replace_114 : decode cX9_replace 114 = .ok (.iload 5, 2) := by decide +kernel
theorem dX9_replace_116 : decode cX9_replace 116 = .ok (.iaload, 1) := by decide +kernel
theorem dX9_replace_117 : decode cX9_replace 117 = .ok (.iconst 1, 1) := by decide +kernel
theorem dX9_replace_118 : decode cX9_replace 118 = .ok (.if_icmp .ne 17, 3) := by decide +kernel
theorem dX9_replace_121 : decode cX9_replace 121 = .ok (.aload_n 0, 1) := by decide +kernel
theorem dX9_replace_122 : decode cX9_replace 122 = .ok (.getfield 43, 3) := by decide +kernel
theorem dX9_replace_125 : decode cX9_replace 125 = .ok (.iload 5, 2) := by decide +kernel
theorem dX9_replace_127 : decode cX9_replace 127 = .ok (.iconst 0, 1) := by decide +kernel
theorem dX9_replace_128 : decode cX9_replace 128 = .ok (.iastore, 1) := by decide +kernel
theorem dX9_replace_129 : decode cX9_replace 129 = .ok (.aload_n 0, 1) := by decide +kernel
theorem dX9_replace_130 : decode cX9_replace 130 = .ok (.iload 5, 2) := by decide +kernel
theorem dX9_replace_132 : decode cX9_replace 132 = .ok (.invokevirtual 99, 3) := by decide +kernel
theorem dX9_replace_135 : decode cX9_replace 135 = .ok (.iinc 5 1, 3) := by decide +kernel
theorem dX9_replace_138 : decode cX9_replace 138 = .ok (.goto (-74), 3) := by decide +kernel
theorem dX9_replace_141 : decode cX9_replace 141 = .ok (.aload_n 0, 1) := by decide +kernel
theorem dX9_replace_142 : decode cX9_replace 142 = .ok (.dup, 1) := by decide +kernel
theorem dX9_replace_143 : decode cX9_replace 143 = .ok (.getfield 88, 3) := by decide +kernel
theorem dX9_replace_146 : decode cX9_replace 146 = .ok (.iconst 1, 1) := by decide +kernel
theorem dX9_replace_147 : decode cX9_replace 147 = .ok (.iadd, 1) := by decide +kernel
theorem dX9_replace_148 : decode cX9_replace 148 = .ok (.putfield 88, 3) := by decide +kernel
theorem dX9_replace_151 : decode cX9_replace 151 = .ok (.iload 4, 2) := by decide +kernel
theorem dX9_replace_153 : decode cX9_replace 153 = .ok (.ireturn, 1) := by decide +kernel
theorem dX9_empty_0 : decode cX9_empty 0 = .ok (.iconst 0, 1) := by decide +kernel
theorem dX9_empty_1 : decode cX9_empty 1 = .ok (.istore_n 2, 1) := by decide +kernel
theorem dX9_empty_2 : decode cX9_empty 2 = .ok (.iload_n 2, 1) := by decide +kernel
theorem dX9_empty_3 : decode cX9_empty 3 = .ok (.bipush 8, 2) := by decide +kernel
theorem dX9_empty_5 : decode cX9_empty 5 = .ok (.if_icmp .ge 21, 3) := by decide +kernel
theorem dX9_empty_8 : decode cX9_empty 8 = .ok (.aload_n 0, 1) := by decide +kernel
theorem dX9_empty_9 : decode cX9_empty 9 = .ok (.getfield 49, 3) := by decide +kernel
theorem dX9_empty_12 : decode cX9_empty 12 = .ok (.bipush 8, 2) := by decide +kernel
theorem dX9_empty_14 : decode cX9_empty 14 = .ok (.iload_n 1, 1) := by decide +kernel
theorem dX9_empty_15 : decode cX9_empty 15 = .ok (.imul, 1) := by decide +kernel
theorem dX9_empty_16 : decode cX9_empty 16 = .ok (.iload_n 2, 1) := by decide +kernel
theorem dX9_empty_17 : decode cX9_empty 17 = .ok (.iadd, 1) := by decide +kernel
theorem dX9_empty_18 : decode cX9_empty 18 = .ok (.iconst 0, 1) := by decide +kernel
theorem dX9_empty_19 : decode cX9_empty 19 = .ok (.iastore, 1) := by decide +kernel
theorem dX9_empty_20 : decode cX9_empty 20 = .ok (.iinc 2 1, 3) := by decide +kernel
theorem dX9_empty_23 : decode cX9_empty 23 = .ok (.goto (-21), 3) := by decide +kernel
theorem dX9_empty_26 : decode cX9_empty 26 = .ok (.return_, 1) := by decide +kernel
set_option maxRecDepth 20000 in
theorem ggX9_request_X9_isEight : GoodIn wsX9_request wsX9_isEight := goodIn_r _ [10, 11, 12, 13, 9, 14] (by decide +kernel) (by decide +kernel)
set_option maxRecDepth 20000 in
theorem gX9_request_X9_isEight : GoodIn wsX9_request (wsV RX9 78 RX9 yX9_isEight wsX9_isEight) := goodIn_app (goodIn_of _ (by decide +kernel)) ggX9_request_X9_isEight
set_option maxRecDepth 20000 in
theorem ggX9_request_X9_in : GoodIn wsX9_request wsX9_in := goodIn_r _ [14] (by decide +kernel) (by decide +kernel)
set_option maxRecDepth 20000 in
theorem gX9_request_X9_in : GoodIn wsX9_request (wsV RX9 74 RX9 yX9_in wsX9_in) := goodIn_app (goodIn_of _ (by decide +kernel)) ggX9_request_X9_in
set_option maxRecDepth 20000 in
theorem ggX9_request_X9_holds : GoodIn wsX9_request wsX9_holds := goodIn_r _ [18, 19, 20, 21, 22, 23, 24, 25, 26, 27, 28, 29, 30, 31, 32, 33, 34, 35, 36, 37, 38, 39, 40, 41, 42, 43] (by decide +kernel) (by decide +kernel)
set_option maxRecDepth 20000 in
theorem gX9_request_X9_holds : GoodIn wsX9_request (wsV RX9 85 RX9 yX9_holds wsX9_holds) := goodIn_app (goodIn_of _ (by decide +kernel)) ggX9_request_X9_holds
theorem dX9_request_0 : decode cX9_request 0 = .ok (.aload_n 0, 1) := by decide +kernel
theorem dX9_request_1 : decode cX9_request 1 = .ok (.aload_n 0, 1) := by decide +kernel
theorem dX9_request_2 : decode cX9_request 2 = .ok (.iload_n 1, 1) := by decide +kernel
theorem dX9_request_3 : decode cX9_request 3 = .ok (.invokevirtual 78, 3) := by decide +kernel
theorem dX9_request_6 : decode cX9_request 6 = .ok (.ifCond .eq 11, 3) := by decide +kernel
theorem dX9_request_9 : decode cX9_request 9 = .ok (.aload_n 0, 1) := by decide +kernel
theorem dX9_request_10 : decode cX9_request 10 = .ok (.iload_n 2, 1) := by decide +kernel
theorem dX9_request_11 : decode cX9_request 11 = .ok (.invokevirtual 78, 3) := by decide +kernel
theorem dX9_request_14 : decode cX9_request 14 = .ok (.ifCond .ne 7, 3) := by decide +kernel
theorem dX9_request_17 : decode cX9_request 17 = .ok (.iconst 1, 1) := by decide +kernel
theorem dX9_request_18 : decode cX9_request 18 = .ok (.goto 31, 3) := by decide +kernel
theorem dX9_request_21 : decode cX9_request 21 = .ok (.aload_n 0, 1) := by decide +kernel
theorem dX9_request_22 : decode cX9_request 22 = .ok (.iload_n 3, 1) := by decide +kernel
theorem dX9_request_23 : decode cX9_request 23 = .ok (.iconst 1, 1) := by decide +kernel
theorem dX9_request_24 : decode cX9_request 24 = .ok (.iconst 3, 1) := by decide +kernel
theorem dX9_request_25 : decode cX9_request 25 = .ok (.invokevirtual 74, 3) := by decide +kernel
theorem dX9_request_28 : decode cX9_request 28 = .ok (.ifCond .ne 7, 3) := by decide +kernel
theorem dX9_request_31 : decode cX9_request 31 = .ok (.iconst 2, 1) := by decide +kernel
theorem dX9_request_32 : decode cX9_request 32 = .ok (.goto 17, 3) := by decide +kernel
theorem dX9_request_35 : decode cX9_request 35 = .ok (.aload_n 0, 1) := by decide +kernel
theorem dX9_request_36 : decode cX9_request 36 = .ok (.getfield 82, 3) := by decide +kernel
theorem dX9_request_39 : decode cX9_request 39 = .ok (.bipush 30, 2) := by decide +kernel
theorem dX9_request_41 : decode cX9_request 41 = .ok (.if_icmp .ne 7, 3) := by decide +kernel
theorem dX9_request_44 : decode cX9_request 44 = .ok (.iconst 3, 1) := by decide +kernel
theorem dX9_request_45 : decode cX9_request 45 = .ok (.goto 4, 3) := by decide +kernel
theorem dX9_request_48 : decode cX9_request 48 = .ok (.iconst 0, 1) := by decide +kernel
theorem dX9_request_49 : decode cX9_request 49 = .ok (.invokevirtual 85, 3) := by decide +kernel
theorem dX9_request_52 : decode cX9_request 52 = .ok (.ifCond .eq 5, 3) := by decide +kernel
theorem dX9_request_55 : decode cX9_request 55 = .ok (.iconst (-1), 1) := by decide +kernel
theorem dX9_request_56 : decode cX9_request 56 = .ok (.ireturn, 1) := by decide +kernel
theorem dX9_request_57 : decode cX9_request 57 = .ok (.aload_n 0, 1) := by decide +kernel
theorem dX9_request_58 : decode cX9_request 58 = .ok (.getfield 34, 3) := by decide +kernel
theorem dX9_request_61 : decode cX9_request 61 = .ok (.aload_n 0, 1) := by decide +kernel
theorem dX9_request_62 : decode cX9_request 62 = .ok (.getfield 82, 3) := by decide +kernel
theorem dX9_request_65 : decode cX9_request 65 = .ok (.iload_n 1, 1) := by decide +kernel
theorem dX9_request_66 : decode cX9_request 66 = .ok (.iastore, 1) := by decide +kernel
theorem dX9_request_67 : decode cX9_request 67 = .ok (.aload_n 0, 1) := by decide +kernel
theorem dX9_request_68 : decode cX9_request 68 = .ok (.getfield 37, 3) := by decide +kernel
theorem dX9_request_71 : decode cX9_request 71 = .ok (.aload_n 0, 1) := by decide +kernel
theorem dX9_request_72 : decode cX9_request 72 = .ok (.getfield 82, 3) := by decide +kernel
theorem dX9_request_75 : decode cX9_request 75 = .ok (.iload_n 2, 1) := by decide +kernel
theorem dX9_request_76 : decode cX9_request 76 = .ok (.iastore, 1) := by decide +kernel
theorem dX9_request_77 : decode cX9_request 77 = .ok (.aload_n 0, 1) := by decide +kernel
theorem dX9_request_78 : decode cX9_request 78 = .ok (.getfield 40, 3) := by decide +kernel
theorem dX9_request_81 : decode cX9_request 81 = .ok (.aload_n 0, 1) := by decide +kernel
theorem dX9_request_82 : decode cX9_request 82 = .ok (.getfield 82, 3) := by decide +kernel
theorem dX9_request_85 : decode cX9_request 85 = .ok (.iload_n 3, 1) := by decide +kernel
theorem dX9_request_86 : decode cX9_request 86 = .ok (.iastore, 1) := by decide +kernel
theorem dX9_request_87 : decode cX9_request 87 = .ok (.aload_n 0, 1) := by decide +kernel
theorem dX9_request_88 : decode cX9_request 88 = .ok (.dup, 1) := by decide +kernel
theorem dX9_request_89 : decode cX9_request 89 = .ok (.getfield 82, 3) := by decide +kernel
theorem dX9_request_92 : decode cX9_request 92 = .ok (.iconst 1, 1) := by decide +kernel
theorem dX9_request_93 : decode cX9_request 93 = .ok (.iadd, 1) := by decide +kernel
theorem dX9_request_94 : decode cX9_request 94 = .ok (.putfield 82, 3) := by decide +kernel
theorem dX9_request_97 : decode cX9_request 97 = .ok (.aload_n 0, 1) := by decide +kernel
theorem dX9_request_98 : decode cX9_request 98 = .ok (.dup, 1) := by decide +kernel
theorem dX9_request_99 : decode cX9_request 99 = .ok (.getfield 88, 3) := by decide +kernel
theorem dX9_request_102 : decode cX9_request 102 = .ok (.iconst 1, 1) := by decide +kernel
theorem dX9_request_103 : decode cX9_request 103 = .ok (.iadd, 1) := by decide +kernel
theorem dX9_request_104 : decode cX9_request 104 = .ok (.putfield 88, 3) := by decide +kernel
theorem dX9_request_107 : decode cX9_request 107 = .ok (.aload_n 0, 1) := by decide +kernel
theorem dX9_request_108 : decode cX9_request 108 = .ok (.getfield 82, 3) := by decide +kernel
theorem dX9_request_111 : decode cX9_request 111 = .ok (.iconst 1, 1) := by decide +kernel
theorem dX9_request_112 : decode cX9_request 112 = .ok (.isub, 1) := by decide +kernel
theorem dX9_request_113 : decode cX9_request 113 = .ok (.ireturn, 1) := by decide +kernel
set_option maxRecDepth 20000 in
theorem ggX9_goes_X9_in : GoodIn wsX9_goes wsX9_in := goodIn_r _ [11] (by decide +kernel) (by decide +kernel)
set_option maxRecDepth 20000 in
theorem gX9_goes_X9_in : GoodIn wsX9_goes (wsV RX9 74 RX9 yX9_in wsX9_in) := goodIn_app (goodIn_of _ (by decide +kernel)) ggX9_goes_X9_in
theorem dX9_goes_0 : decode cX9_goes 0 = .ok (.aload_n 0, 1) := by decide +kernel
theorem dX9_goes_1 : decode cX9_goes 1 = .ok (.getfield 58, 3) := by decide +kernel
theorem dX9_goes_4 : decode cX9_goes 4 = .ok (.iload_n 1, 1) := by decide +kernel
theorem dX9_goes_5 : decode cX9_goes 5 = .ok (.iaload, 1) := by decide +kernel
theorem dX9_goes_6 : decode cX9_goes 6 = .ok (.istore_n 3, 1) := by decide +kernel
theorem dX9_goes_7 : decode cX9_goes 7 = .ok (.aload_n 0, 1) := by decide +kernel
theorem dX9_goes_8 : decode cX9_goes 8 = .ok (.getfield 13, 3) := by decide +kernel
theorem dX9_goes_11 : decode cX9_goes 11 = .ok (.iconst 3, 1) := by decide +kernel
theorem dX9_goes_12 : decode cX9_goes 12 = .ok (.iload_n 3, 1) := by decide +kernel
theorem dX9_goes_13 : decode cX9_goes 13 = .ok (.imul, 1) := by decide +kernel
theorem dX9_goes_14 : decode cX9_goes 14 = .ok (.iload_n 2, 1) := by decide +kernel
theorem dX9_goes_15 : decode cX9_goes 15 = .ok (.iadd, 1) := by decide +kernel
theorem dX9_goes_16 : decode cX9_goes 16 = .ok (.iconst 1, 1) := by decide +kernel
theorem dX9_goes_17 : decode cX9_goes 17 = .ok (.isub, 1) := by decide +kernel
theorem dX9_goes_18 : decode cX9_goes 18 = .ok (.iaload, 1) := by decide +kernel
theorem dX9_goes_19 : decode cX9_goes 19 = .ok (.ifCond .ne 7, 3) := by decide +kernel
theorem dX9_goes_22 : decode cX9_goes 22 = .ok (.iconst 1, 1) := by decide +kernel
theorem dX9_goes_23 : decode cX9_goes 23 = .ok (.goto 4, 3) := by decide +kernel
theorem dX9_goes_26 : decode cX9_goes 26 = .ok (.iconst 0, 1) := by decide +kernel
theorem dX9_goes_27 : decode cX9_goes 27 = .ok (.istore 4, 2) := by decide +kernel
theorem dX9_goes_29 : decode cX9_goes 29 = .ok (.iconst 0, 1) := by decide +kernel
theorem dX9_goes_30 : decode cX9_goes 30 = .ok (.istore 5, 2) := by decide +kernel
theorem dX9_goes_32 : decode cX9_goes 32 = .ok (.iload 5, 2) := by decide +kernel
theorem dX9_goes_34 : decode cX9_goes 34 = .ok (.iload_n 1, 1) := by decide +kernel
theorem dX9_goes_35 : decode cX9_goes 35 = .ok (.if_icmp .ge 110, 3) := by decide +kernel
theorem dX9_goes_38 : decode cX9_goes 38 = .ok (.iconst 3, 1) := by decide +kernel
theorem dX9_goes_39 : decode cX9_goes 39 = .ok (.aload_n 0, 1) := by decide +kernel
theorem dX9_goes_40 : decode cX9_goes 40 = .ok (.getfield 58, 3) := by decide +kernel
theorem dX9_goes_43 : decode cX9_goes 43 = .ok (.iload 5, 2) := by decide +kernel
theorem dX9_goes_45 : decode cX9_goes 45 = .ok (.iaload, 1) := by decide +kernel
theorem dX9_goes_46 : decode cX9_goes 46 = .ok (.imul, 1) := by decide +kernel
theorem dX9_goes_47 : decode cX9_goes 47 = .ok (.aload_n 0, 1) := by decide +kernel
theorem dX9_goes_48 : decode cX9_goes 48 = .ok (.getfield 61, 3) := by decide +kernel
theorem dX9_goes_51 : decode cX9_goes 51 = .ok (.iload 5, 2) := by decide +kernel
theorem dX9_goes_53 : decode cX9_goes 53 = .ok (.iaload, 1) := by decide +kernel
theorem dX9_goes_54 : decode cX9_goes 54 = .ok (.iadd, 1) := by decide +kernel
theorem dX9_goes_55 : decode cX9_goes 55 = .ok (.iconst 1, 1) := by decide +kernel
theorem dX9_goes_56 : decode cX9_goes 56 = .ok (.isub, 1) := by decide +kernel
theorem dX9_goes_57 : decode cX9_goes 57 = .ok (.istore 6, 2) := by decide +kernel
theorem dX9_goes_59 : decode cX9_goes 59 = .ok (.iconst 0, 1) := by decide +kernel
theorem dX9_goes_60 : decode cX9_goes 60 = .ok (.istore 7, 2) := by decide +kernel
theorem dX9_goes_62 : decode cX9_goes 62 = .ok (.iload 7, 2) := by decide +kernel
theorem dX9_goes_64 : decode cX9_goes 64 = .ok (.aload_n 0, 1) := by decide +kernel
theorem dX9_goes_65 : decode cX9_goes 65 = .ok (.getfield 16, 3) := by decide +kernel
theorem dX9_goes_68 : decode cX9_goes 68 = .ok (.iload 6, 2) := by decide +kernel
theorem dX9_goes_70 : decode cX9_goes 70 = .ok (.iaload, 1) := by decide +kernel
theorem dX9_goes_71 : decode cX9_goes 71 = .ok (.if_icmp .ge 68, 3) := by decide +kernel
theorem dX9_goes_74 : decode cX9_goes 74 = .ok (.bipush 12, 2) := by decide +kernel
theorem dX9_goes_76 : decode cX9_goes 76 = .ok (.iload 6, 2) := by decide +kernel
theorem dX9_goes_78 : decode cX9_goes 78 = .ok (.imul, 1) := by decide +kernel
theorem dX9_goes_79 : decode cX9_goes 79 = .ok (.iconst 3, 1) := by decide +kernel
theorem dX9_goes_80 : decode cX9_goes 80 = .ok (.iload 7, 2) := by decide +kernel
theorem dX9_goes_82 : decode cX9_goes 82 = .ok (.imul, 1) := by decide +kernel
theorem dX9_goes_83 : decode cX9_goes 83 = .ok (.iadd, 1) := by decide +kernel
theorem dX9_goes_84 : decode cX9_goes 84 = .ok (.istore 8, 2) := by decide +kernel
theorem dX9_goes_86 : decode cX9_goes 86 = .ok (.iload 4, 2) := by decide +kernel
theorem dX9_goes_88 : decode cX9_goes 88 = .ok (.aload_n 0, 1) := by decide +kernel
theorem dX9_goes_89 : decode cX9_goes 89 = .ok (.getfield 19, 3) := by decide +kernel
theorem dX9_goes_92 : decode cX9_goes 92 = .ok (.iload 8, 2) := by decide +kernel
theorem dX9_goes_94 : decode cX9_goes 94 = .ok (.iaload, 1) := by decide +kernel
theorem dX9_goes_95 : decode cX9_goes 95 = .ok (.iload_n 3, 1) := by decide +kernel
theorem dX9_goes_96 : decode cX9_goes 96 = .ok (.if_icmp .ne 29, 3) := by decide +kernel
theorem dX9_goes_99 : decode cX9_goes 99 = .ok (.aload_n 0, 1) := by decide +kernel
theorem dX9_goes_100 : decode cX9_goes 100 = .ok (.iload_n 2, 1) := by decide +kernel
theorem dX9_goes_101 : decode cX9_goes 101 = .ok (.aload_n 0, 1) := by decide +kernel
theorem dX9_goes_102 : decode cX9_goes 102 = .ok (.getfield 19, 3) := by decide +kernel
theorem dX9_goes_105 : decode cX9_goes 105 = .ok (.iload 8, 2) := by decide +kernel
theorem dX9_goes_107 : decode cX9_goes 107 = .ok (.iconst 1, 1) := by decide +kernel
theorem dX9_goes_108 : decode cX9_goes 108 = .ok (.iadd, 1) := by decide +kernel
theorem dX9_goes_109 : decode cX9_goes 109 = .ok (.iaload, 1) := by decide +kernel
theorem dX9_goes_110 : decode cX9_goes 110 = .ok (.aload_n 0, 1) := by decide +kernel
theorem dX9_goes_111 : decode cX9_goes 111 = .ok (.getfield 19, 3) := by decide +kernel
theorem dX9_goes_114 : decode cX9_goes 114 = .ok (.iload 8, 2) := by decide +kernel
theorem dX9_goes_116 : decode cX9_goes 116 = .ok (.iconst 2, 1) := by decide +kernel
theorem dX9_goes_117 : decode cX9_goes 117 = .ok (.iadd, 1) := by decide +kernel
theorem dX9_goes_118 : decode cX9_goes 118 = .ok (.iaload, 1) := by decide +kernel
theorem dX9_goes_119 : decode cX9_goes 119 = .ok (.invokevirtual 74, 3) := by decide +kernel
theorem dX9_goes_122 : decode cX9_goes 122 = .ok (.ifCond .eq 7, 3) := by decide +kernel
theorem dX9_goes_125 : decode cX9_goes 125 = .ok (.iconst 1, 1) := by decide +kernel
theorem dX9_goes_126 : decode cX9_goes 126 = .ok (.goto 4, 3) := by decide +kernel
theorem dX9_goes_129 : decode cX9_goes 129 = .ok (.iconst 0, 1) := by decide +kernel
theorem dX9_goes_130 : decode cX9_goes 130 = .ok (.iand, 1) := by decide +kernel
theorem dX9_goes_131 : decode cX9_goes 131 = .ok (.istore 4, 2) := by decide +kernel
theorem dX9_goes_133 : decode cX9_goes 133 = .ok (.iinc 7 1, 3) := by decide +kernel
theorem dX9_goes_136 : decode cX9_goes 136 = .ok (.goto (-74), 3) := by decide +kernel
theorem dX9_goes_139 : decode cX9_goes 139 = .ok (.iinc 5 1, 3) := by decide +kernel
theorem dX9_goes_142 : decode cX9_goes 142 = .ok (.goto (-110), 3) := by decide +kernel
theorem dX9_goes_145 : decode cX9_goes 145 = .ok (.iconst 3, 1) := by decide +kernel
theorem dX9_goes_146 : decode cX9_goes 146 = .ok (.iload_n 3, 1) := by decide +kernel
theorem dX9_goes_147 : decode cX9_goes 147 = .ok (.imul, 1) := by decide +kernel
theorem dX9_goes_148 : decode cX9_goes 148 = .ok (.iload_n 2, 1) := by decide +kernel
theorem dX9_goes_149 : decode cX9_goes 149 = .ok (.iadd, 1) := by decide +kernel
theorem dX9_goes_150 : decode cX9_goes 150 = .ok (.iconst 1, 1) := by decide +kernel
theorem dX9_goes_151 : decode cX9_goes 151 = .ok (.isub, 1) := by decide +kernel
theorem dX9_goes_152 : decode cX9_goes 152 = .ok (.istore 5, 2) := by decide +kernel
theorem dX9_goes_154 : decode cX9_goes 154 = .ok (.iconst 0, 1) := by decide +kernel
theorem dX9_goes_155 : decode cX9_goes 155 = .ok (.istore 6, 2) := by decide +kernel
theorem dX9_goes_157 : decode cX9_goes 157 = .ok (.iload 6, 2) := by decide +kernel
theorem dX9_goes_159 : decode cX9_goes 159 = .ok (.aload_n 0, 1) := by decide +kernel
theorem dX9_goes_160 : decode cX9_goes 160 = .ok (.getfield 16, 3) := by decide +kernel
theorem dX9_goes_163 : decode cX9_goes 163 = .ok (.iload 5, 2) := by decide +kernel
theorem dX9_goes_165 : decode cX9_goes 165 = .ok (.iaload, 1) := by decide +kernel
theorem dX9_goes_166 : decode cX9_goes 166 = .ok (.if_icmp .ge 88, 3) := by decide +kernel
theorem dX9_goes_169 : decode cX9_goes 169 = .ok (.bipush 12, 2) := by decide +kernel
theorem dX9_goes_171 : decode cX9_goes 171 = .ok (.iload 5, 2) := by decide +kernel
theorem dX9_goes_173 : decode cX9_goes 173 = .ok (.imul, 1) := by decide +kernel
theorem dX9_goes_174 : decode cX9_goes 174 = .ok (.iconst 3, 1) := by decide +kernel
theorem dX9_goes_175 : decode cX9_goes 175 = .ok (.iload 6, 2) := by decide +kernel
theorem dX9_goes_177 : decode cX9_goes 177 = .ok (.imul, 1) := by decide +kernel
theorem dX9_goes_178 : decode cX9_goes 178 = .ok (.iadd, 1) := by decide +kernel
theorem dX9_goes_179 : decode cX9_goes 179 = .ok (.istore 7, 2) := by decide +kernel
theorem dX9_goes_181 : decode cX9_goes 181 = .ok (.aload_n 0, 1) := by decide +kernel
theorem dX9_goes_182 : decode cX9_goes 182 = .ok (.getfield 67, 3) := by decide +kernel
theorem dX9_goes_185 : decode cX9_goes 185 = .ok (.aload_n 0, 1) := by decide +kernel
theorem dX9_goes_186 : decode cX9_goes 186 = .ok (.getfield 19, 3) := by decide +kernel
theorem dX9_goes_189 : decode cX9_goes 189 = .ok (.iload 7, 2) := by decide +kernel
theorem dX9_goes_191 : decode cX9_goes 191 = .ok (.iaload, 1) := by decide +kernel
theorem dX9_goes_192 : decode cX9_goes 192 = .ok (.iaload, 1) := by decide +kernel
theorem dX9_goes_193 : decode cX9_goes 193 = .ok (.istore 8, 2) := by decide +kernel
theorem dX9_goes_195 : decode cX9_goes 195 = .ok (.iload 4, 2) := by decide +kernel
theorem dX9_goes_197 : decode cX9_goes 197 = .ok (.iload 8, 2) := by decide +kernel
theorem dX9_goes_199 : decode cX9_goes 199 = .ok (.ifCond .lt 41, 3) := by decide +kernel
theorem dX9_goes_202 : decode cX9_goes 202 = .ok (.iload 8, 2) := by decide +kernel
theorem dX9_goes_204 : decode cX9_goes 204 = .ok (.iload_n 1, 1) := by decide +kernel
theorem dX9_goes_205 : decode cX9_goes 205 = .ok (.if_icmp .ge 35, 3) := by decide +kernel
theorem dX9_goes_208 : decode cX9_goes 208 = .ok (.aload_n 0, 1) := by decide +kernel
theorem dX9_goes_209 : decode cX9_goes 209 = .ok (.aload_n 0, 1) := by decide +kernel
theorem dX9_goes_210 : decode cX9_goes 210 = .ok (.getfield 61, 3) := by decide +kernel
theorem dX9_goes_213 : decode cX9_goes 213 = .ok (.iload 8, 2) := by decide +kernel
theorem dX9_goes_215 : decode cX9_goes 215 = .ok (.iaload, 1) := by decide +kernel
theorem dX9_goes_216 : decode cX9_goes 216 = .ok (.aload_n 0, 1) := by decide +kernel
theorem dX9_goes_217 : decode cX9_goes 217 = .ok (.getfield 19, 3) := by decide +kernel
theorem dX9_goes_220 : decode cX9_goes 220 = .ok (.iload 7, 2) := by decide +kernel
theorem dX9_goes_222 : decode cX9_goes 222 = .ok (.iconst 1, 1) := by decide +kernel
theorem dX9_goes_223 : decode cX9_goes 223 = .ok (.iadd, 1) := by decide +kernel
theorem dX9_goes_224 : decode cX9_goes 224 = .ok (.iaload, 1) := by decide +kernel
theorem dX9_goes_225 : decode cX9_goes 225 = .ok (.aload_n 0, 1) := by decide +kernel
theorem dX9_goes_226 : decode cX9_goes 226 = .ok (.getfield 19, 3) := by decide +kernel
theorem dX9_goes_229 : decode cX9_goes 229 = .ok (.iload 7, 2) := by decide +kernel
theorem dX9_goes_231 : decode cX9_goes 231 = .ok (.iconst 2, 1) := by decide +kernel
theorem dX9_goes_232 : decode cX9_goes 232 = .ok (.iadd, 1) := by decide +kernel
theorem dX9_goes_233 : decode cX9_goes 233 = .ok (.iaload, 1) := by decide +kernel
theorem dX9_goes_234 : decode cX9_goes 234 = .ok (.invokevirtual 74, 3) := by decide +kernel
theorem dX9_goes_237 : decode cX9_goes 237 = .ok (.ifCond .eq 7, 3) := by decide +kernel
theorem dX9_goes_240 : decode cX9_goes 240 = .ok (.iconst 1, 1) := by decide +kernel
theorem dX9_goes_241 : decode cX9_goes 241 = .ok (.goto 4, 3) := by decide +kernel
theorem dX9_goes_244 : decode cX9_goes 244 = .ok (.iconst 0, 1) := by decide +kernel
theorem dX9_goes_245 : decode cX9_goes 245 = .ok (.iand, 1) := by decide +kernel
theorem dX9_goes_246 : decode cX9_goes 246 = .ok (.istore 4, 2) := by decide +kernel
theorem dX9_goes_248 : decode cX9_goes 248 = .ok (.iinc 6 1, 3) := by decide +kernel
theorem dX9_goes_251 : decode cX9_goes 251 = .ok (.goto (-94), 3) := by decide +kernel
theorem dX9_goes_254 : decode cX9_goes 254 = .ok (.iload 4, 2) := by decide +kernel
theorem dX9_goes_256 : decode cX9_goes 256 = .ok (.ireturn, 1) := by decide +kernel
theorem dX9_comes_0 : decode cX9_comes 0 = .ok (.iload_n 2, 1) := by decide +kernel
theorem dX9_comes_1 : decode cX9_comes 1 = .ok (.istore_n 3, 1) := by decide +kernel
theorem dX9_comes_2 : decode cX9_comes 2 = .ok (.iconst 3, 1) := by decide +kernel
theorem dX9_comes_3 : decode cX9_comes 3 = .ok (.aload_n 0, 1) := by decide +kernel
theorem dX9_comes_4 : decode cX9_comes 4 = .ok (.getfield 58, 3) := by decide +kernel
theorem dX9_comes_7 : decode cX9_comes 7 = .ok (.iload_n 1, 1) := by decide +kernel
theorem dX9_comes_8 : decode cX9_comes 8 = .ok (.iaload, 1) := by decide +kernel
theorem dX9_comes_9 : decode cX9_comes 9 = .ok (.imul, 1) := by decide +kernel
theorem dX9_comes_10 : decode cX9_comes 10 = .ok (.aload_n 0, 1) := by decide +kernel
theorem dX9_comes_11 : decode cX9_comes 11 = .ok (.getfield 61, 3) := by decide +kernel
theorem dX9_comes_14 : decode cX9_comes 14 = .ok (.iload_n 1, 1) := by decide +kernel
theorem dX9_comes_15 : decode cX9_comes 15 = .ok (.iaload, 1) := by decide +kernel
theorem dX9_comes_16 : decode cX9_comes 16 = .ok (.iadd, 1) := by decide +kernel
theorem dX9_comes_17 : decode cX9_comes 17 = .ok (.iconst 1, 1) := by decide +kernel
theorem dX9_comes_18 : decode cX9_comes 18 = .ok (.isub, 1) := by decide +kernel
theorem dX9_comes_19 : decode cX9_comes 19 = .ok (.istore 4, 2) := by decide +kernel
theorem dX9_comes_21 : decode cX9_comes 21 = .ok (.iconst 0, 1) := by decide +kernel
theorem dX9_comes_22 : decode cX9_comes 22 = .ok (.istore 5, 2) := by decide +kernel
theorem dX9_comes_24 : decode cX9_comes 24 = .ok (.iload 5, 2) := by decide +kernel
theorem dX9_comes_26 : decode cX9_comes 26 = .ok (.aload_n 0, 1) := by decide +kernel
theorem dX9_comes_27 : decode cX9_comes 27 = .ok (.getfield 16, 3) := by decide +kernel
theorem dX9_comes_30 : decode cX9_comes 30 = .ok (.iload 4, 2) := by decide +kernel
theorem dX9_comes_32 : decode cX9_comes 32 = .ok (.iaload, 1) := by decide +kernel
theorem dX9_comes_33 : decode cX9_comes 33 = .ok (.if_icmp .ge 55, 3) := by decide +kernel
theorem dX9_comes_36 : decode cX9_comes 36 = .ok (.aload_n 0, 1) := by decide +kernel
theorem dX9_comes_37 : decode cX9_comes 37 = .ok (.getfield 19, 3) := by decide +kernel
theorem dX9_comes_40 : decode cX9_comes 40 = .ok (.bipush 12, 2) := by decide +kernel
theorem dX9_comes_42 : decode cX9_comes 42 = .ok (.iload 4, 2) := by decide +kernel
theorem dX9_comes_44 : decode cX9_comes 44 = .ok (.imul, 1) := by decide +kernel
theorem dX9_comes_45 : decode cX9_comes 45 = .ok (.iconst 3, 1) := by decide +kernel
theorem dX9_comes_46 : decode cX9_comes 46 = .ok (.iload 5, 2) := by decide +kernel
theorem dX9_comes_48 : decode cX9_comes 48 = .ok (.imul, 1) := by decide +kernel
theorem dX9_comes_49 : decode cX9_comes 49 = .ok (.iadd, 1) := by decide +kernel
theorem dX9_comes_50 : decode cX9_comes 50 = .ok (.iaload, 1) := by decide +kernel
theorem dX9_comes_51 : decode cX9_comes 51 = .ok (.istore 6, 2) := by decide +kernel
theorem dX9_comes_53 : decode cX9_comes 53 = .ok (.aload_n 0, 1) := by decide +kernel
theorem dX9_comes_54 : decode cX9_comes 54 = .ok (.getfield 67, 3) := by decide +kernel
theorem dX9_comes_57 : decode cX9_comes 57 = .ok (.iload 6, 2) := by decide +kernel
theorem dX9_comes_59 : decode cX9_comes 59 = .ok (.iaload, 1) := by decide +kernel
theorem dX9_comes_60 : decode cX9_comes 60 = .ok (.ifCond .ge 22, 3) := by decide +kernel
theorem dX9_comes_63 : decode cX9_comes 63 = .ok (.aload_n 0, 1) := by decide +kernel
theorem dX9_comes_64 : decode cX9_comes 64 = .ok (.getfield 67, 3) := by decide +kernel
theorem dX9_comes_67 : decode cX9_comes 67 = .ok (.iload 6, 2) := by decide +kernel
theorem dX9_comes_69 : decode cX9_comes 69 = .ok (.iload_n 3, 1) := by decide +kernel
theorem dX9_comes_70 : decode cX9_comes 70 = .ok (.iastore, 1) := by decide +kernel
theorem dX9_comes_71 : decode cX9_comes 71 = .ok (.aload_n 0, 1) := by decide +kernel
theorem dX9_comes_72 : decode cX9_comes 72 = .ok (.getfield 58, 3) := by decide +kernel
theorem dX9_comes_75 : decode cX9_comes 75 = .ok (.iload_n 3, 1) := by decide +kernel
theorem dX9_comes_76 : decode cX9_comes 76 = .ok (.iload 6, 2) := by decide +kernel
theorem dX9_comes_78 : decode cX9_comes 78 = .ok (.iastore, 1) := by decide +kernel
theorem dX9_comes_79 : decode cX9_comes 79 = .ok (.iinc 3 1, 3) := by decide +kernel
theorem dX9_comes_82 : decode cX9_comes 82 = .ok (.iinc 5 1, 3) := by decide +kernel
theorem dX9_comes_85 : decode cX9_comes 85 = .ok (.goto (-61), 3) := by decide +kernel
theorem dX9_comes_88 : decode cX9_comes 88 = .ok (.iload_n 3, 1) := by decide +kernel
theorem dX9_comes_89 : decode cX9_comes 89 = .ok (.ireturn, 1) := by decide +kernel
theorem dX9_forget_0 : decode cX9_forget 0 = .ok (.iconst 0, 1) := by decide +kernel
theorem dX9_forget_1 : decode cX9_forget 1 = .ok (.istore_n 2, 1) := by decide +kernel
theorem dX9_forget_2 : decode cX9_forget 2 = .ok (.iload_n 2, 1) := by decide +kernel
theorem dX9_forget_3 : decode cX9_forget 3 = .ok (.bipush 8, 2) := by decide +kernel
theorem dX9_forget_5 : decode cX9_forget 5 = .ok (.if_icmp .ge 35, 3) := by decide +kernel
theorem dX9_forget_8 : decode cX9_forget 8 = .ok (.aload_n 0, 1) := by decide +kernel
theorem dX9_forget_9 : decode cX9_forget 9 = .ok (.getfield 67, 3) := by decide +kernel
theorem dX9_forget_12 : decode cX9_forget 12 = .ok (.iload_n 2, 1) := by decide +kernel
theorem dX9_forget_13 : decode cX9_forget 13 = .ok (.aload_n 0, 1) := by decide +kernel
theorem dX9_forget_14 : decode cX9_forget 14 = .ok (.getfield 67, 3) := by decide +kernel
theorem dX9_forget_17 : decode cX9_forget 17 = .ok (.iload_n 2, 1) := by decide +kernel
theorem dX9_forget_18 : decode cX9_forget 18 = .ok (.iaload, 1) := by decide +kernel
theorem dX9_forget_19 : decode cX9_forget 19 = .ok (.iload_n 1, 1) := by decide +kernel
theorem dX9_forget_20 : decode cX9_forget 20 = .ok (.if_icmp .lt 7, 3) := by decide +kernel
theorem dX9_forget_23 : decode cX9_forget 23 = .ok (.iconst (-1), 1) := by decide +kernel
theorem dX9_forget_24 : decode cX9_forget 24 = .ok (.goto 9, 3) := by decide +kernel
theorem dX9_forget_27 : decode cX9_forget 27 = .ok (.aload_n 0, 1) := by decide +kernel
theorem dX9_forget_28 : decode cX9_forget 28 = .ok (.getfield 67, 3) := by decide +kernel
theorem dX9_forget_31 : decode cX9_forget 31 = .ok (.iload_n 2, 1) := by decide +kernel
theorem dX9_forget_32 : decode cX9_forget 32 = .ok (.iaload, 1) := by decide +kernel
theorem dX9_forget_33 : decode cX9_forget 33 = .ok (.iastore, 1) := by decide +kernel
theorem dX9_forget_34 : decode cX9_forget 34 = .ok (.iinc 2 1, 3) := by decide +kernel
theorem dX9_forget_37 : decode cX9_forget 37 = .ok (.goto (-35), 3) := by decide +kernel
theorem dX9_forget_40 : decode cX9_forget 40 = .ok (.return_, 1) := by decide +kernel
set_option maxRecDepth 20000 in
theorem ggX9_search_X9_forget : GoodIn wsX9_search wsX9_forget := goodIn_r _ [12, 1, 28, 29, 30, 31, 32, 33, 34, 35, 36, 37, 38, 39, 40, 41, 42, 43, 44, 45, 46, 47, 48, 49, 50, 51] (by decide +kernel) (by decide +kernel)
set_option maxRecDepth 20000 in
theorem gX9_search_X9_forget : GoodIn wsX9_search (wsV RX9 103 RX9 yX9_forget wsX9_forget) := goodIn_app (goodIn_of _ (by decide +kernel)) ggX9_search_X9_forget
set_option maxRecDepth 20000 in
theorem ggX9_search_X9_goes : GoodIn wsX9_search wsX9_goes := goodIn_r _ [16, 2, 17, 5, 18, 19, 1, 20, 21, 22, 11, 23, 28, 29, 30, 31, 32, 33, 34, 35, 36, 37, 38, 39, 40, 41, 42, 43, 44, 45, 46, 47, 48, 49, 50, 51] (by decide +kernel) (by decide +kernel)
set_option maxRecDepth 20000 in
theorem gX9_search_X9_goes : GoodIn wsX9_search (wsV RX9 106 RX9 yX9_goes wsX9_goes) := goodIn_app (goodIn_of _ (by decide +kernel)) ggX9_search_X9_goes
set_option maxRecDepth 20000 in
theorem ggX9_search_X9_comes : GoodIn wsX9_search wsX9_comes := goodIn_r _ [27, 2, 5, 18, 19, 1, 28, 29, 30, 31, 32, 33, 34, 35, 36, 37, 38, 39, 40, 41, 42, 43, 44, 45, 46, 47, 48, 49, 50, 51] (by decide +kernel) (by decide +kernel)
set_option maxRecDepth 20000 in
theorem gX9_search_X9_comes : GoodIn wsX9_search (wsV RX9 109 RX9 yX9_comes wsX9_comes) := goodIn_app (goodIn_of _ (by decide +kernel)) ggX9_search_X9_comes
theorem dX9_search_0 : decode cX9_search 0 = .ok (.iconst 0, 1) := by decide +kernel
theorem dX9_search_1 : decode cX9_search 1 = .ok (.istore_n 2, 1) := by decide +kernel
theorem dX9_search_2 : decode cX9_search 2 = .ok (.iload_n 2, 1) := by decide +kernel
theorem dX9_search_3 : decode cX9_search 3 = .ok (.bipush 8, 2) := by decide +kernel
theorem dX9_search_5 : decode cX9_search 5 = .ok (.if_icmp .ge 16, 3) := by decide +kernel
theorem dX9_search_8 : decode cX9_search 8 = .ok (.aload_n 0, 1) := by decide +kernel
theorem dX9_search_9 : decode cX9_search 9 = .ok (.getfield 67, 3) := by decide +kernel
theorem dX9_search_12 : decode cX9_search 12 = .ok (.iload_n 2, 1) := by decide +kernel
theorem dX9_search_13 : decode cX9_search 13 = .ok (.iconst (-1), 1) := by decide +kernel
theorem dX9_search_14 : decode cX9_search 14 = .ok (.iastore, 1) := by decide +kernel
theorem dX9_search_15 : decode cX9_search 15 = .ok (.iinc 2 1, 3) := by decide +kernel
theorem dX9_search_18 : decode cX9_search 18 = .ok (.goto (-16), 3) := by decide +kernel
theorem dX9_search_21 : decode cX9_search 21 = .ok (.aload_n 0, 1) := by decide +kernel
theorem dX9_search_22 : decode cX9_search 22 = .ok (.getfield 58, 3) := by decide +kernel
theorem dX9_search_25 : decode cX9_search 25 = .ok (.iconst 0, 1) := by decide +kernel
theorem dX9_search_26 : decode cX9_search 26 = .ok (.aload_n 0, 1) := by decide +kernel
theorem dX9_search_27 : decode cX9_search 27 = .ok (.getfield 37, 3) := by decide +kernel
theorem dX9_search_30 : decode cX9_search 30 = .ok (.iload_n 1, 1) := by decide +kernel
theorem dX9_search_31 : decode cX9_search 31 = .ok (.iaload, 1) := by decide +kernel
theorem dX9_search_32 : decode cX9_search 32 = .ok (.iastore, 1) := by decide +kernel
theorem dX9_search_33 : decode cX9_search 33 = .ok (.aload_n 0, 1) := by decide +kernel
theorem dX9_search_34 : decode cX9_search 34 = .ok (.getfield 67, 3) := by decide +kernel
theorem dX9_search_37 : decode cX9_search 37 = .ok (.aload_n 0, 1) := by decide +kernel
theorem dX9_search_38 : decode cX9_search 38 = .ok (.getfield 37, 3) := by decide +kernel
theorem dX9_search_41 : decode cX9_search 41 = .ok (.iload_n 1, 1) := by decide +kernel
theorem dX9_search_42 : decode cX9_search 42 = .ok (.iaload, 1) := by decide +kernel
theorem dX9_search_43 : decode cX9_search 43 = .ok (.iconst 0, 1) := by decide +kernel
theorem dX9_search_44 : decode cX9_search 44 = .ok (.iastore, 1) := by decide +kernel
theorem dX9_search_45 : decode cX9_search 45 = .ok (.aload_n 0, 1) := by decide +kernel
theorem dX9_search_46 : decode cX9_search 46 = .ok (.getfield 64, 3) := by decide +kernel
theorem dX9_search_49 : decode cX9_search 49 = .ok (.iconst 0, 1) := by decide +kernel
theorem dX9_search_50 : decode cX9_search 50 = .ok (.iconst 1, 1) := by decide +kernel
theorem dX9_search_51 : decode cX9_search 51 = .ok (.iastore, 1) := by decide +kernel
theorem dX9_search_52 : decode cX9_search 52 = .ok (.aload_n 0, 1) := by decide +kernel
theorem dX9_search_53 : decode cX9_search 53 = .ok (.getfield 61, 3) := by decide +kernel
theorem dX9_search_56 : decode cX9_search 56 = .ok (.iconst 0, 1) := by decide +kernel
theorem dX9_search_57 : decode cX9_search 57 = .ok (.aload_n 0, 1) := by decide +kernel
theorem dX9_search_58 : decode cX9_search 58 = .ok (.getfield 22, 3) := by decide +kernel
theorem dX9_search_61 : decode cX9_search 61 = .ok (.aload_n 0, 1) := by decide +kernel
theorem dX9_search_62 : decode cX9_search 62 = .ok (.getfield 37, 3) := by decide +kernel
theorem dX9_search_65 : decode cX9_search 65 = .ok (.iload_n 1, 1) := by decide +kernel
theorem dX9_search_66 : decode cX9_search 66 = .ok (.iaload, 1) := by decide +kernel
theorem dX9_search_67 : decode cX9_search 67 = .ok (.iaload, 1) := by decide +kernel
theorem dX9_search_68 : decode cX9_search 68 = .ok (.iconst 1, 1) := by decide +kernel
theorem dX9_search_69 : decode cX9_search 69 = .ok (.iadd, 1) := by decide +kernel
theorem dX9_search_70 : decode cX9_search 70 = .ok (.iastore, 1) := by decide +kernel
theorem dX9_search_71 : decode cX9_search 71 = .ok (.iconst 0, 1) := by decide +kernel
theorem dX9_search_72 : decode cX9_search 72 = .ok (.istore_n 2, 1) := by decide +kernel
theorem dX9_search_73 : decode cX9_search 73 = .ok (.iconst 1, 1) := by decide +kernel
theorem dX9_search_74 : decode cX9_search 74 = .ok (.istore_n 3, 1) := by decide +kernel
theorem dX9_search_75 : decode cX9_search 75 = .ok (.iload_n 2, 1) := by decide +kernel
theorem dX9_search_76 : decode cX9_search 76 = .ok (.ifCond .lt 139, 3) := by decide +kernel
theorem dX9_search_79 : decode cX9_search 79 = .ok (.iload_n 2, 1) := by decide +kernel
theorem dX9_search_80 : decode cX9_search 80 = .ok (.iload_n 3, 1) := by decide +kernel
theorem dX9_search_81 : decode cX9_search 81 = .ok (.if_icmp .ge 134, 3) := by decide +kernel
theorem dX9_search_84 : decode cX9_search 84 = .ok (.aload_n 0, 1) := by decide +kernel
theorem dX9_search_85 : decode cX9_search 85 = .ok (.aload_n 0, 1) := by decide +kernel
theorem dX9_search_86 : decode cX9_search 86 = .ok (.getfield 64, 3) := by decide +kernel
theorem dX9_search_89 : decode cX9_search 89 = .ok (.iload_n 2, 1) := by decide +kernel
theorem dX9_search_90 : decode cX9_search 90 = .ok (.iaload, 1) := by decide +kernel
theorem dX9_search_91 : decode cX9_search 91 = .ok (.invokevirtual 103, 3) := by decide +kernel
theorem dX9_search_94 : decode cX9_search 94 = .ok (.aload_n 0, 1) := by decide +kernel
theorem dX9_search_95 : decode cX9_search 95 = .ok (.getfield 64, 3) := by decide +kernel
theorem dX9_search_98 : decode cX9_search 98 = .ok (.iload_n 2, 1) := by decide +kernel
theorem dX9_search_99 : decode cX9_search 99 = .ok (.iaload, 1) := by decide +kernel
theorem dX9_search_100 : decode cX9_search 100 = .ok (.istore_n 3, 1) := by decide +kernel
theorem dX9_search_101 : decode cX9_search 101 = .ok (.aload_n 0, 1) := by decide +kernel
theorem dX9_search_102 : decode cX9_search 102 = .ok (.getfield 61, 3) := by decide +kernel
theorem dX9_search_105 : decode cX9_search 105 = .ok (.iload_n 2, 1) := by decide +kernel
theorem dX9_search_106 : decode cX9_search 106 = .ok (.iaload, 1) := by decide +kernel
theorem dX9_search_107 : decode cX9_search 107 = .ok (.iconst 1, 1) := by decide +kernel
theorem dX9_search_108 : decode cX9_search 108 = .ok (.isub, 1) := by decide +kernel
theorem dX9_search_109 : decode cX9_search 109 = .ok (.istore 4, 2) := by decide +kernel
theorem dX9_search_111 : decode cX9_search 111 = .ok (.iload_n 2, 1) := by decide +kernel
theorem dX9_search_112 : decode cX9_search 112 = .ok (.ifCond .ne 12, 3) := by decide +kernel
theorem dX9_search_115 : decode cX9_search 115 = .ok (.aload_n 0, 1) := by decide +kernel
theorem dX9_search_116 : decode cX9_search 116 = .ok (.getfield 40, 3) := by decide +kernel
theorem dX9_search_119 : decode cX9_search 119 = .ok (.iload_n 1, 1) := by decide +kernel
theorem dX9_search_120 : decode cX9_search 120 = .ok (.iaload, 1) := by decide +kernel
theorem dX9_search_121 : decode cX9_search 121 = .ok (.goto 4, 3) := by decide +kernel
theorem dX9_search_124 : decode cX9_search 124 = .ok (.iconst 1, 1) := by decide +kernel
theorem dX9_search_125 : decode cX9_search 125 = .ok (.istore 5, 2) := by decide +kernel
theorem dX9_search_127 : decode cX9_search 127 = .ok (.iload 4, 2) := by decide +kernel
theorem dX9_search_129 : decode cX9_search 129 = .ok (.iload 5, 2) := by decide +kernel
theorem dX9_search_131 : decode cX9_search 131 = .ok (.if_icmp .lt 19, 3) := by decide +kernel
theorem dX9_search_134 : decode cX9_search 134 = .ok (.aload_n 0, 1) := by decide +kernel
theorem dX9_search_135 : decode cX9_search 135 = .ok (.iload_n 2, 1) := by decide +kernel
theorem dX9_search_136 : decode cX9_search 136 = .ok (.iload 4, 2) := by decide +kernel
theorem dX9_search_138 : decode cX9_search 138 = .ok (.invokevirtual 106, 3) := by decide +kernel
theorem dX9_search_141 : decode cX9_search 141 = .ok (.ifCond .ne 9, 3) := by decide +kernel
theorem dX9_search_144 : decode cX9_search 144 = .ok (.iinc 4 (-1), 3) := by decide +kernel
theorem dX9_search_147 : decode cX9_search 147 = .ok (.goto (-20), 3) := by decide +kernel
theorem dX9_search_150 : decode cX9_search 150 = .ok (.iload 4, 2) := by decide +kernel
theorem dX9_search_152 : decode cX9_search 152 = .ok (.iload 5, 2) := by decide +kernel
theorem dX9_search_154 : decode cX9_search 154 = .ok (.if_icmp .ge 9, 3) := by decide +kernel
theorem dX9_search_157 : decode cX9_search 157 = .ok (.iinc 2 (-1), 3) := by decide +kernel
theorem dX9_search_160 : decode cX9_search 160 = .ok (.goto 52, 3) := by decide +kernel
theorem dX9_search_163 : decode cX9_search 163 = .ok (.aload_n 0, 1) := by decide +kernel
theorem dX9_search_164 : decode cX9_search 164 = .ok (.getfield 61, 3) := by decide +kernel
theorem dX9_search_167 : decode cX9_search 167 = .ok (.iload_n 2, 1) := by decide +kernel
theorem dX9_search_168 : decode cX9_search 168 = .ok (.iload 4, 2) := by decide +kernel
theorem dX9_search_170 : decode cX9_search 170 = .ok (.iastore, 1) := by decide +kernel
theorem dX9_search_171 : decode cX9_search 171 = .ok (.aload_n 0, 1) := by decide +kernel
theorem dX9_search_172 : decode cX9_search 172 = .ok (.iload_n 2, 1) := by decide +kernel
theorem dX9_search_173 : decode cX9_search 173 = .ok (.iload_n 3, 1) := by decide +kernel
theorem dX9_search_174 : decode cX9_search 174 = .ok (.invokevirtual 109, 3) := by decide +kernel
theorem dX9_search_177 : decode cX9_search 177 = .ok (.istore_n 3, 1) := by decide +kernel
theorem dX9_search_178 : decode cX9_search 178 = .ok (.iinc 2 1, 3) := by decide +kernel
theorem dX9_search_181 : decode cX9_search 181 = .ok (.aload_n 0, 1) := by decide +kernel
theorem dX9_search_182 : decode cX9_search 182 = .ok (.getfield 64, 3) := by decide +kernel
theorem dX9_search_185 : decode cX9_search 185 = .ok (.iload_n 2, 1) := by decide +kernel
theorem dX9_search_186 : decode cX9_search 186 = .ok (.iload_n 3, 1) := by decide +kernel
theorem dX9_search_187 : decode cX9_search 187 = .ok (.iastore, 1) := by decide +kernel
theorem dX9_search_188 : decode cX9_search 188 = .ok (.iload_n 2, 1) := by decide +kernel
theorem dX9_search_189 : decode cX9_search 189 = .ok (.iload_n 3, 1) := by decide +kernel
theorem dX9_search_190 : decode cX9_search 190 = .ok (.if_icmp .ge 22, 3) := by decide +kernel
theorem dX9_search_193 : decode cX9_search 193 = .ok (.aload_n 0, 1) := by decide +kernel
theorem dX9_search_194 : decode cX9_search 194 = .ok (.getfield 61, 3) := by decide +kernel
theorem dX9_search_197 : decode cX9_search 197 = .ok (.iload_n 2, 1) := by decide +kernel
theorem dX9_search_198 : decode cX9_search 198 = .ok (.aload_n 0, 1) := by decide +kernel
theorem dX9_search_199 : decode cX9_search 199 = .ok (.getfield 22, 3) := by decide +kernel
theorem dX9_search_202 : decode cX9_search 202 = .ok (.aload_n 0, 1) := by decide +kernel
theorem dX9_search_203 : decode cX9_search 203 = .ok (.getfield 58, 3) := by decide +kernel
theorem dX9_search_206 : decode cX9_search 206 = .ok (.iload_n 2, 1) := by decide +kernel
theorem dX9_search_207 : decode cX9_search 207 = .ok (.iaload, 1) := by decide +kernel
theorem dX9_search_208 : decode cX9_search 208 = .ok (.iaload, 1) := by decide +kernel
theorem dX9_search_209 : decode cX9_search 209 = .ok (.iconst 1, 1) := by decide +kernel
theorem dX9_search_210 : decode cX9_search 210 = .ok (.iadd, 1) := by decide +kernel
theorem dX9_search_211 : decode cX9_search 211 = .ok (.iastore, 1) := by decide +kernel
theorem dX9_search_212 : decode cX9_search 212 = .ok (.goto (-137), 3) := by decide +kernel
theorem dX9_search_215 : decode cX9_search 215 = .ok (.iload_n 2, 1) := by decide +kernel
theorem dX9_search_216 : decode cX9_search 216 = .ok (.ifCond .ge 7, 3) := by decide +kernel
theorem dX9_search_219 : decode cX9_search 219 = .ok (.iconst 0, 1) := by decide +kernel
theorem dX9_search_220 : decode cX9_search 220 = .ok (.goto 4, 3) := by decide +kernel
theorem dX9_search_223 : decode cX9_search 223 = .ok (.iload_n 3, 1) := by decide +kernel
theorem dX9_search_224 : decode cX9_search 224 = .ok (.ireturn, 1) := by decide +kernel
set_option maxRecDepth 20000 in
theorem ggX9_resolve_X9_isRequest : GoodIn wsX9_resolve wsX9_isRequest := goodIn_r _ [12, 13, 14, 15, 16, 11, 17, 56, 57, 58, 59, 60, 61, 62, 63, 64, 65, 66, 67, 68, 69, 70, 71, 72, 73, 74, 75, 76, 77, 78, 79] (by decide +kernel) (by decide +kernel)
set_option maxRecDepth 20000 in
theorem gX9_resolve_X9_isRequest : GoodIn wsX9_resolve (wsV RX9 113 RX9 yX9_isRequest wsX9_isRequest) := goodIn_app (goodIn_of _ (by decide +kernel)) ggX9_resolve_X9_isRequest
set_option maxRecDepth 20000 in
theorem ggX9_resolve_X9_holds : GoodIn wsX9_resolve wsX9_holds := goodIn_r _ [21, 22, 56, 57, 58, 59, 60, 61, 62, 63, 64, 65, 66, 67, 68, 69, 70, 71, 72, 73, 74, 75, 76, 77, 78, 79] (by decide +kernel) (by decide +kernel)
set_option maxRecDepth 20000 in
theorem gX9_resolve_X9_holds : GoodIn wsX9_resolve (wsV RX9 85 RX9 yX9_holds wsX9_holds) := goodIn_app (goodIn_of _ (by decide +kernel)) ggX9_resolve_X9_holds
set_option maxRecDepth 20000 in
theorem ggX9_resolve_X9_search : GoodIn wsX9_resolve wsX9_search := goodIn_r _ [26, 27, 4, 28, 29, 5, 30, 31, 32, 33, 34, 11, 35, 36, 37, 38, 39, 40, 41, 42, 14, 15, 16, 17, 43, 44, 45, 46, 56, 57, 58, 59, 60, 61, 62, 63, 64, 65, 66, 67, 68, 69, 70, 71, 72, 73, 74, 75, 76, 77, 78, 79] (by decide +kernel) (by decide +kernel)
set_option maxRecDepth 20000 in
theorem gX9_resolve_X9_search : GoodIn wsX9_resolve (wsV RX9 116 RX9 yX9_search wsX9_search) := goodIn_app (goodIn_of _ (by decide +kernel)) ggX9_resolve_X9_search
set_option maxRecDepth 20000 in
theorem ggX9_resolve_X9_empty : GoodIn wsX9_resolve wsX9_empty := goodIn_r _ [50, 3, 56, 57, 58, 59, 60, 61, 62, 63, 64, 65, 66, 67, 68, 69, 70, 71, 72, 73, 74, 75, 76, 77, 78, 79] (by decide +kernel) (by decide +kernel)
set_option maxRecDepth 20000 in
theorem gX9_resolve_X9_empty : GoodIn wsX9_resolve (wsV RX9 99 RX9 yX9_empty wsX9_empty) := goodIn_app (goodIn_of _ (by decide +kernel)) ggX9_resolve_X9_empty
set_option maxRecDepth 20000 in
theorem ggX9_resolve_X9_ends : GoodIn wsX9_resolve wsX9_ends := goodIn_r _ [54, 55, 56, 57, 58, 59, 60, 61, 62, 63, 64, 65, 66, 67, 68, 69, 70, 71, 72, 73, 74, 75, 76, 77, 78, 79] (by decide +kernel) (by decide +kernel)
set_option maxRecDepth 20000 in
theorem gX9_resolve_X9_ends : GoodIn wsX9_resolve (wsV RX9 95 RX9 yX9_ends wsX9_ends) := goodIn_app (goodIn_of _ (by decide +kernel)) ggX9_resolve_X9_ends
theorem dX9_resolve_0 : decode cX9_resolve 0 = .ok (.aload_n 0, 1) := by decide +kernel
theorem dX9_resolve_1 : decode cX9_resolve 1 = .ok (.aload_n 0, 1) := by decide +kernel
theorem dX9_resolve_2 : decode cX9_resolve 2 = .ok (.iload_n 1, 1) := by decide +kernel
theorem dX9_resolve_3 : decode cX9_resolve 3 = .ok (.invokevirtual 113, 3) := by decide +kernel
theorem dX9_resolve_6 : decode cX9_resolve 6 = .ok (.ifCond .ne 7, 3) := by decide +kernel
theorem dX9_resolve_9 : decode cX9_resolve 9 = .ok (.iconst 1, 1) := by decide +kernel
theorem dX9_resolve_10 : decode cX9_resolve 10 = .ok (.goto 18, 3) := by decide +kernel
theorem dX9_resolve_13 : decode cX9_resolve 13 = .ok (.aload_n 0, 1) := by decide +kernel
theorem dX9_resolve_14 : decode cX9_resolve 14 = .ok (.getfield 43, 3) := by decide +kernel
theorem dX9_resolve_17 : decode cX9_resolve 17 = .ok (.iload_n 1, 1) := by decide +kernel
theorem dX9_resolve_18 : decode cX9_resolve 18 = .ok (.iaload, 1) := by decide +kernel
theorem dX9_resolve_19 : decode cX9_resolve 19 = .ok (.iconst 2, 1) := by decide +kernel
theorem dX9_resolve_20 : decode cX9_resolve 20 = .ok (.if_icmp .ne 7, 3) := by decide +kernel
theorem dX9_resolve_23 : decode cX9_resolve 23 = .ok (.iconst 2, 1) := by decide +kernel
theorem dX9_resolve_24 : decode cX9_resolve 24 = .ok (.goto 4, 3) := by decide +kernel
theorem dX9_resolve_27 : decode cX9_resolve 27 = .ok (.iconst 0, 1) := by decide +kernel
theorem dX9_resolve_28 : decode cX9_resolve 28 = .ok (.invokevirtual 85, 3) := by decide +kernel
theorem dX9_resolve_31 : decode cX9_resolve 31 = .ok (.ifCond .eq 5, 3) := by decide +kernel
theorem dX9_resolve_34 : decode cX9_resolve 34 = .ok (.iconst (-1), 1) := by decide +kernel
theorem dX9_resolve_35 : decode cX9_resolve 35 = .ok (.ireturn, 1) := by decide +kernel
theorem dX9_resolve_36 : decode cX9_resolve 36 = .ok (.aload_n 0, 1) := by decide +kernel
theorem dX9_resolve_37 : decode cX9_resolve 37 = .ok (.iload_n 1, 1) := by decide +kernel
theorem dX9_resolve_38 : decode cX9_resolve 38 = .ok (.invokevirtual 116, 3) := by decide +kernel
theorem dX9_resolve_41 : decode cX9_resolve 41 = .ok (.istore_n 2, 1) := by decide +kernel
theorem dX9_resolve_42 : decode cX9_resolve 42 = .ok (.iload_n 2, 1) := by decide +kernel
theorem dX9_resolve_43 : decode cX9_resolve 43 = .ok (.ifCond .ne 5, 3) := by decide +kernel
theorem dX9_resolve_46 : decode cX9_resolve 46 = .ok (.iconst (-1), 1) := by decide +kernel
theorem dX9_resolve_47 : decode cX9_resolve 47 = .ok (.ireturn, 1) := by decide +kernel
theorem dX9_resolve_48 : decode cX9_resolve 48 = .ok (.aload_n 0, 1) := by decide +kernel
theorem dX9_resolve_49 : decode cX9_resolve 49 = .ok (.iload_n 1, 1) := by decide +kernel
theorem dX9_resolve_50 : decode cX9_resolve 50 = .ok (.invokevirtual 99, 3) := by decide +kernel
theorem dX9_resolve_53 : decode cX9_resolve 53 = .ok (.aload_n 0, 1) := by decide +kernel
theorem dX9_resolve_54 : decode cX9_resolve 54 = .ok (.iload_n 1, 1) := by decide +kernel
theorem dX9_resolve_55 : decode cX9_resolve 55 = .ok (.invokevirtual 95, 3) := by decide +kernel
theorem dX9_resolve_58 : decode cX9_resolve 58 = .ok (.istore_n 3, 1) := by decide +kernel
theorem dX9_resolve_59 : decode cX9_resolve 59 = .ok (.aload_n 0, 1) := by decide +kernel
theorem dX9_resolve_60 : decode cX9_resolve 60 = .ok (.getfield 46, 3) := by decide +kernel
theorem dX9_resolve_63 : decode cX9_resolve 63 = .ok (.iload_n 1, 1) := by decide +kernel
theorem dX9_resolve_64 : decode cX9_resolve 64 = .ok (.iconst 0, 1) := by decide +kernel
theorem dX9_resolve_65 : decode cX9_resolve 65 = .ok (.iastore, 1) := by decide +kernel
theorem dX9_resolve_66 : decode cX9_resolve 66 = .ok (.iconst 0, 1) := by decide +kernel
theorem dX9_resolve_67 : decode cX9_resolve 67 = .ok (.istore 4, 2) := by decide +kernel
theorem dX9_resolve_69 : decode cX9_resolve 69 = .ok (.iload 4, 2) := by decide +kernel
theorem dX9_resolve_71 : decode cX9_resolve 71 = .ok (.iload_n 2, 1) := by decide +kernel
theorem dX9_resolve_72 : decode cX9_resolve 72 = .ok (.if_icmp .ge 66, 3) := by decide +kernel
theorem dX9_resolve_75 : decode cX9_resolve 75 = .ok (.aload_n 0, 1) := by decide +kernel
theorem dX9_resolve_76 : decode cX9_resolve 76 = .ok (.getfield 49, 3) := by decide +kernel
theorem dX9_resolve_79 : decode cX9_resolve 79 = .ok (.bipush 8, 2) := by decide +kernel
theorem dX9_resolve_81 : decode cX9_resolve 81 = .ok (.iload_n 1, 1) := by decide +kernel
theorem dX9_resolve_82 : decode cX9_resolve 82 = .ok (.imul, 1) := by decide +kernel
theorem dX9_resolve_83 : decode cX9_resolve 83 = .ok (.aload_n 0, 1) := by decide +kernel
theorem dX9_resolve_84 : decode cX9_resolve 84 = .ok (.getfield 58, 3) := by decide +kernel
theorem dX9_resolve_87 : decode cX9_resolve 87 = .ok (.iload 4, 2) := by decide +kernel
theorem dX9_resolve_89 : decode cX9_resolve 89 = .ok (.iaload, 1) := by decide +kernel
theorem dX9_resolve_90 : decode cX9_resolve 90 = .ok (.iadd, 1) := by decide +kernel
theorem dX9_resolve_91 : decode cX9_resolve 91 = .ok (.aload_n 0, 1) := by decide +kernel
theorem dX9_resolve_92 : decode cX9_resolve 92 = .ok (.getfield 61, 3) := by decide +kernel
theorem dX9_resolve_95 : decode cX9_resolve 95 = .ok (.iload 4, 2) := by decide +kernel
theorem dX9_resolve_97 : decode cX9_resolve 97 = .ok (.iaload, 1) := by decide +kernel
theorem dX9_resolve_98 : decode cX9_resolve 98 = .ok (.iastore, 1) := by decide +kernel
theorem dX9_resolve_99 : decode cX9_resolve 99 = .ok (.aload_n 0, 1) := by decide +kernel
theorem dX9_resolve_100 : decode cX9_resolve 100 = .ok (.getfield 46, 3) := by decide +kernel
theorem dX9_resolve_103 : decode cX9_resolve 103 = .ok (.iload_n 1, 1) := by decide +kernel
theorem dX9_resolve_104 : decode cX9_resolve 104 = .ok (.dup2, 1) := by decide +kernel
theorem dX9_resolve_105 : decode cX9_resolve 105 = .ok (.iaload, 1) := by decide +kernel
theorem dX9_resolve_106 : decode cX9_resolve 106 = .ok (.aload_n 0, 1) := by decide +kernel
theorem dX9_resolve_107 : decode cX9_resolve 107 = .ok (.getfield 7, 3) := by decide +kernel
theorem dX9_resolve_110 : decode cX9_resolve 110 = .ok (.iconst 3, 1) := by decide +kernel
theorem dX9_resolve_111 : decode cX9_resolve 111 = .ok (.aload_n 0, 1) := by decide +kernel
theorem dX9_resolve_112 : decode cX9_resolve 112 = .ok (.getfield 58, 3) := by decide +kernel
theorem dX9_resolve_115 : decode cX9_resolve 115 = .ok (.iload 4, 2) := by decide +kernel
theorem dX9_resolve_117 : decode cX9_resolve 117 = .ok (.iaload, 1) := by decide +kernel
theorem dX9_resolve_118 : decode cX9_resolve 118 = .ok (.imul, 1) := by decide +kernel
theorem dX9_resolve_119 : decode cX9_resolve 119 = .ok (.aload_n 0, 1) := by decide +kernel
theorem dX9_resolve_120 : decode cX9_resolve 120 = .ok (.getfield 61, 3) := by decide +kernel
theorem dX9_resolve_123 : decode cX9_resolve 123 = .ok (.iload 4, 2) := by decide +kernel
theorem dX9_resolve_125 : decode cX9_resolve 125 = .ok (.iaload, 1) := by decide +kernel
theorem dX9_resolve_126 : decode cX9_resolve 126 = .ok (.iadd, 1) := by decide +kernel
theorem dX9_resolve_127 : decode cX9_resolve 127 = .ok (.iconst 1, 1) := by decide +kernel
theorem dX9_resolve_128 : decode cX9_resolve 128 = .ok (.isub, 1) := by decide +kernel
theorem dX9_resolve_129 : decode cX9_resolve 129 = .ok (.iaload, 1) := by decide +kernel
theorem dX9_resolve_130 : decode cX9_resolve 130 = .ok (.iadd, 1) := by decide +kernel
theorem dX9_resolve_131 : decode cX9_resolve 131 = .ok (.iastore, 1) := by decide +kernel
theorem dX9_resolve_132 : decode cX9_resolve 132 = .ok (.iinc 4 1, 3) := by decide +kernel
theorem dX9_resolve_135 : decode cX9_resolve 135 = .ok (.goto (-66), 3) := by decide +kernel
theorem dX9_resolve_138 : decode cX9_resolve 138 = .ok (.aload_n 0, 1) := by decide +kernel
theorem dX9_resolve_139 : decode cX9_resolve 139 = .ok (.getfield 43, 3) := by decide +kernel
theorem dX9_resolve_142 : decode cX9_resolve 142 = .ok (.iload_n 1, 1) := by decide +kernel
theorem dX9_resolve_143 : decode cX9_resolve 143 = .ok (.iconst 1, 1) := by decide +kernel
theorem dX9_resolve_144 : decode cX9_resolve 144 = .ok (.iastore, 1) := by decide +kernel
theorem dX9_resolve_145 : decode cX9_resolve 145 = .ok (.aload_n 0, 1) := by decide +kernel
theorem dX9_resolve_146 : decode cX9_resolve 146 = .ok (.dup, 1) := by decide +kernel
theorem dX9_resolve_147 : decode cX9_resolve 147 = .ok (.getfield 88, 3) := by decide +kernel
theorem dX9_resolve_150 : decode cX9_resolve 150 = .ok (.iconst 1, 1) := by decide +kernel
theorem dX9_resolve_151 : decode cX9_resolve 151 = .ok (.iadd, 1) := by decide +kernel
theorem dX9_resolve_152 : decode cX9_resolve 152 = .ok (.putfield 88, 3) := by decide +kernel
theorem dX9_resolve_155 : decode cX9_resolve 155 = .ok (.aload_n 0, 1) := by decide +kernel
theorem dX9_resolve_156 : decode cX9_resolve 156 = .ok (.getfield 46, 3) := by decide +kernel
theorem dX9_resolve_159 : decode cX9_resolve 159 = .ok (.iload_n 1, 1) := by decide +kernel
theorem dX9_resolve_160 : decode cX9_resolve 160 = .ok (.iaload, 1) := by decide +kernel
theorem dX9_resolve_161 : decode cX9_resolve 161 = .ok (.ireturn, 1) := by decide +kernel
set_option maxRecDepth 20000 in
theorem ggX9_chosen_X9_isRequest : GoodIn wsX9_chosen wsX9_isRequest := goodIn_r _ [6, 7, 8, 9, 10, 5, 11, 21, 22, 23, 24, 25, 26, 27, 28, 29, 30, 31, 32, 33, 34, 35, 36, 37, 38, 39, 40, 41, 42, 43, 44] (by decide +kernel) (by decide +kernel)
set_option maxRecDepth 20000 in
theorem gX9_chosen_X9_isRequest : GoodIn wsX9_chosen (wsV RX9 113 RX9 yX9_isRequest wsX9_isRequest) := goodIn_app (goodIn_of _ (by decide +kernel)) ggX9_chosen_X9_isRequest
set_option maxRecDepth 20000 in
theorem ggX9_chosen_X9_isEight : GoodIn wsX9_chosen wsX9_isEight := goodIn_r _ [15, 8, 9, 10, 5, 11] (by decide +kernel) (by decide +kernel)
set_option maxRecDepth 20000 in
theorem gX9_chosen_X9_isEight : GoodIn wsX9_chosen (wsV RX9 78 RX9 yX9_isEight wsX9_isEight) := goodIn_app (goodIn_of _ (by decide +kernel)) ggX9_chosen_X9_isEight
set_option maxRecDepth 20000 in
theorem ggX9_chosen_X9_holds : GoodIn wsX9_chosen wsX9_holds := goodIn_r _ [19, 20, 21, 22, 23, 24, 25, 26, 27, 28, 29, 30, 31, 32, 33, 34, 35, 36, 37, 38, 39, 40, 41, 42, 43, 44] (by decide +kernel) (by decide +kernel)
set_option maxRecDepth 20000 in
theorem gX9_chosen_X9_holds : GoodIn wsX9_chosen (wsV RX9 85 RX9 yX9_holds wsX9_holds) := goodIn_app (goodIn_of _ (by decide +kernel)) ggX9_chosen_X9_holds
theorem dX9_chosen_0 : decode cX9_chosen 0 = .ok (.aload_n 0, 1) := by decide +kernel
theorem dX9_chosen_1 : decode cX9_chosen 1 = .ok (.aload_n 0, 1) := by decide +kernel
theorem dX9_chosen_2 : decode cX9_chosen 2 = .ok (.iload_n 1, 1) := by decide +kernel
theorem dX9_chosen_3 : decode cX9_chosen 3 = .ok (.invokevirtual 113, 3) := by decide +kernel
theorem dX9_chosen_6 : decode cX9_chosen 6 = .ok (.ifCond .eq 15, 3) := by decide +kernel
theorem dX9_chosen_9 : decode cX9_chosen 9 = .ok (.aload_n 0, 1) := by decide +kernel
theorem dX9_chosen_10 : decode cX9_chosen 10 = .ok (.iload_n 2, 1) := by decide +kernel
theorem dX9_chosen_11 : decode cX9_chosen 11 = .ok (.invokevirtual 78, 3) := by decide +kernel
theorem dX9_chosen_14 : decode cX9_chosen 14 = .ok (.ifCond .eq 7, 3) := by decide +kernel
theorem dX9_chosen_17 : decode cX9_chosen 17 = .ok (.iconst 0, 1) := by decide +kernel
theorem dX9_chosen_18 : decode cX9_chosen 18 = .ok (.goto 4, 3) := by decide +kernel
theorem dX9_chosen_21 : decode cX9_chosen 21 = .ok (.iconst 1, 1) := by decide +kernel
theorem dX9_chosen_22 : decode cX9_chosen 22 = .ok (.invokevirtual 85, 3) := by decide +kernel
theorem dX9_chosen_25 : decode cX9_chosen 25 = .ok (.ifCond .eq 5, 3) := by decide +kernel
theorem dX9_chosen_28 : decode cX9_chosen 28 = .ok (.iconst (-1), 1) := by decide +kernel
theorem dX9_chosen_29 : decode cX9_chosen 29 = .ok (.ireturn, 1) := by decide +kernel
theorem dX9_chosen_30 : decode cX9_chosen 30 = .ok (.aload_n 0, 1) := by decide +kernel
theorem dX9_chosen_31 : decode cX9_chosen 31 = .ok (.getfield 49, 3) := by decide +kernel
theorem dX9_chosen_34 : decode cX9_chosen 34 = .ok (.bipush 8, 2) := by decide +kernel
theorem dX9_chosen_36 : decode cX9_chosen 36 = .ok (.iload_n 1, 1) := by decide +kernel
theorem dX9_chosen_37 : decode cX9_chosen 37 = .ok (.imul, 1) := by decide +kernel
theorem dX9_chosen_38 : decode cX9_chosen 38 = .ok (.iload_n 2, 1) := by decide +kernel
theorem dX9_chosen_39 : decode cX9_chosen 39 = .ok (.iadd, 1) := by decide +kernel
theorem dX9_chosen_40 : decode cX9_chosen 40 = .ok (.iaload, 1) := by decide +kernel
theorem dX9_chosen_41 : decode cX9_chosen 41 = .ok (.ifCond .ne 7, 3) := by decide +kernel
theorem dX9_chosen_44 : decode cX9_chosen 44 = .ok (.iconst (-1), 1) := by decide +kernel
theorem dX9_chosen_45 : decode cX9_chosen 45 = .ok (.goto 14, 3) := by decide +kernel
theorem dX9_chosen_48 : decode cX9_chosen 48 = .ok (.aload_n 0, 1) := by decide +kernel
theorem dX9_chosen_49 : decode cX9_chosen 49 = .ok (.getfield 49, 3) := by decide +kernel
theorem dX9_chosen_52 : decode cX9_chosen 52 = .ok (.bipush 8, 2) := by decide +kernel
theorem dX9_chosen_54 : decode cX9_chosen 54 = .ok (.iload_n 1, 1) := by decide +kernel
theorem dX9_chosen_55 : decode cX9_chosen 55 = .ok (.imul, 1) := by decide +kernel
theorem dX9_chosen_56 : decode cX9_chosen 56 = .ok (.iload_n 2, 1) := by decide +kernel
theorem dX9_chosen_57 : decode cX9_chosen 57 = .ok (.iadd, 1) := by decide +kernel
theorem dX9_chosen_58 : decode cX9_chosen 58 = .ok (.iaload, 1) := by decide +kernel
theorem dX9_chosen_59 : decode cX9_chosen 59 = .ok (.ireturn, 1) := by decide +kernel
set_option maxRecDepth 20000 in
theorem ggX9_limit_X9_isEight : GoodIn wsX9_limit wsX9_isEight := goodIn_r _ [7, 8, 9, 10, 6, 11] (by decide +kernel) (by decide +kernel)
set_option maxRecDepth 20000 in
theorem gX9_limit_X9_isEight : GoodIn wsX9_limit (wsV RX9 78 RX9 yX9_isEight wsX9_isEight) := goodIn_app (goodIn_of _ (by decide +kernel)) ggX9_limit_X9_isEight
set_option maxRecDepth 20000 in
theorem ggX9_limit_X9_in : GoodIn wsX9_limit wsX9_in := goodIn_r _ [11] (by decide +kernel) (by decide +kernel)
set_option maxRecDepth 20000 in
theorem gX9_limit_X9_in : GoodIn wsX9_limit (wsV RX9 74 RX9 yX9_in wsX9_in) := goodIn_app (goodIn_of _ (by decide +kernel)) ggX9_limit_X9_in
set_option maxRecDepth 20000 in
theorem ggX9_limit_X9_holds : GoodIn wsX9_limit wsX9_holds := goodIn_r _ [15, 16, 17, 18, 19, 20, 21, 22, 23, 24, 25, 26, 27, 28, 29, 30, 31, 32, 33, 34, 35, 36, 37, 38, 39, 40] (by decide +kernel) (by decide +kernel)
set_option maxRecDepth 20000 in
theorem gX9_limit_X9_holds : GoodIn wsX9_limit (wsV RX9 85 RX9 yX9_holds wsX9_holds) := goodIn_app (goodIn_of _ (by decide +kernel)) ggX9_limit_X9_holds
theorem dX9_limit_0 : decode cX9_limit 0 = .ok (.aload_n 0, 1) := by decide +kernel
theorem dX9_limit_1 : decode cX9_limit 1 = .ok (.aload_n 0, 1) := by decide +kernel
theorem dX9_limit_2 : decode cX9_limit 2 = .ok (.iload_n 1, 1) := by decide +kernel
theorem dX9_limit_3 : decode cX9_limit 3 = .ok (.invokevirtual 78, 3) := by decide +kernel
theorem dX9_limit_6 : decode cX9_limit 6 = .ok (.ifCond .ne 7, 3) := by decide +kernel
theorem dX9_limit_9 : decode cX9_limit 9 = .ok (.iconst 1, 1) := by decide +kernel
theorem dX9_limit_10 : decode cX9_limit 10 = .ok (.goto 20, 3) := by decide +kernel
theorem dX9_limit_13 : decode cX9_limit 13 = .ok (.aload_n 0, 1) := by decide +kernel
theorem dX9_limit_14 : decode cX9_limit 14 = .ok (.iload_n 2, 1) := by decide +kernel
theorem dX9_limit_15 : decode cX9_limit 15 = .ok (.iconst 0, 1) := by decide +kernel
theorem dX9_limit_16 : decode cX9_limit 16 = .ok (.sipush 10000, 3) := by decide +kernel
theorem dX9_limit_19 : decode cX9_limit 19 = .ok (.invokevirtual 74, 3) := by decide +kernel
theorem dX9_limit_22 : decode cX9_limit 22 = .ok (.ifCond .eq 7, 3) := by decide +kernel
theorem dX9_limit_25 : decode cX9_limit 25 = .ok (.iconst 0, 1) := by decide +kernel
theorem dX9_limit_26 : decode cX9_limit 26 = .ok (.goto 4, 3) := by decide +kernel
theorem dX9_limit_29 : decode cX9_limit 29 = .ok (.iconst 2, 1) := by decide +kernel
theorem dX9_limit_30 : decode cX9_limit 30 = .ok (.invokevirtual 85, 3) := by decide +kernel
theorem dX9_limit_33 : decode cX9_limit 33 = .ok (.ifCond .eq 5, 3) := by decide +kernel
theorem dX9_limit_36 : decode cX9_limit 36 = .ok (.iconst (-1), 1) := by decide +kernel
theorem dX9_limit_37 : decode cX9_limit 37 = .ok (.ireturn, 1) := by decide +kernel
theorem dX9_limit_38 : decode cX9_limit 38 = .ok (.aload_n 0, 1) := by decide +kernel
theorem dX9_limit_39 : decode cX9_limit 39 = .ok (.getfield 25, 3) := by decide +kernel
theorem dX9_limit_42 : decode cX9_limit 42 = .ok (.iload_n 1, 1) := by decide +kernel
theorem dX9_limit_43 : decode cX9_limit 43 = .ok (.iaload, 1) := by decide +kernel
theorem dX9_limit_44 : decode cX9_limit 44 = .ok (.istore_n 3, 1) := by decide +kernel
theorem dX9_limit_45 : decode cX9_limit 45 = .ok (.aload_n 0, 1) := by decide +kernel
theorem dX9_limit_46 : decode cX9_limit 46 = .ok (.getfield 25, 3) := by decide +kernel
theorem dX9_limit_49 : decode cX9_limit 49 = .ok (.iload_n 1, 1) := by decide +kernel
theorem dX9_limit_50 : decode cX9_limit 50 = .ok (.iload_n 2, 1) := by decide +kernel
theorem dX9_limit_51 : decode cX9_limit 51 = .ok (.iastore, 1) := by decide +kernel
theorem dX9_limit_52 : decode cX9_limit 52 = .ok (.aload_n 0, 1) := by decide +kernel
theorem dX9_limit_53 : decode cX9_limit 53 = .ok (.dup, 1) := by decide +kernel
theorem dX9_limit_54 : decode cX9_limit 54 = .ok (.getfield 88, 3) := by decide +kernel
theorem dX9_limit_57 : decode cX9_limit 57 = .ok (.iconst 1, 1) := by decide +kernel
theorem dX9_limit_58 : decode cX9_limit 58 = .ok (.iadd, 1) := by decide +kernel
theorem dX9_limit_59 : decode cX9_limit 59 = .ok (.putfield 88, 3) := by decide +kernel
theorem dX9_limit_62 : decode cX9_limit 62 = .ok (.iload_n 3, 1) := by decide +kernel
theorem dX9_limit_63 : decode cX9_limit 63 = .ok (.ireturn, 1) := by decide +kernel
set_option maxRecDepth 20000 in
theorem ggX9_leave_X9_isEight : GoodIn wsX9_leave wsX9_isEight := goodIn_r _ [9, 10, 11, 12, 8, 13] (by decide +kernel) (by decide +kernel)
set_option maxRecDepth 20000 in
theorem gX9_leave_X9_isEight : GoodIn wsX9_leave (wsV RX9 78 RX9 yX9_isEight wsX9_isEight) := goodIn_app (goodIn_of _ (by decide +kernel)) ggX9_leave_X9_isEight
set_option maxRecDepth 20000 in
theorem ggX9_leave_X9_in : GoodIn wsX9_leave wsX9_in := goodIn_r _ [13] (by decide +kernel) (by decide +kernel)
set_option maxRecDepth 20000 in
theorem gX9_leave_X9_in : GoodIn wsX9_leave (wsV RX9 74 RX9 yX9_in wsX9_in) := goodIn_app (goodIn_of _ (by decide +kernel)) ggX9_leave_X9_in
set_option maxRecDepth 20000 in
theorem ggX9_leave_X9_holds : GoodIn wsX9_leave wsX9_holds := goodIn_r _ [17, 18, 19, 20, 21, 22, 23, 24, 25, 26, 27, 28, 29, 30, 31, 32, 33, 34, 35, 36, 37, 38, 39, 40, 41, 42] (by decide +kernel) (by decide +kernel)
set_option maxRecDepth 20000 in
theorem gX9_leave_X9_holds : GoodIn wsX9_leave (wsV RX9 85 RX9 yX9_holds wsX9_holds) := goodIn_app (goodIn_of _ (by decide +kernel)) ggX9_leave_X9_holds
theorem dX9_leave_0 : decode cX9_leave 0 = .ok (.aload_n 0, 1) := by decide +kernel
theorem dX9_leave_1 : decode cX9_leave 1 = .ok (.aload_n 0, 1) := by decide +kernel
theorem dX9_leave_2 : decode cX9_leave 2 = .ok (.iload_n 1, 1) := by decide +kernel
theorem dX9_leave_3 : decode cX9_leave 3 = .ok (.invokevirtual 78, 3) := by decide +kernel
theorem dX9_leave_6 : decode cX9_leave 6 = .ok (.ifCond .eq 11, 3) := by decide +kernel
theorem dX9_leave_9 : decode cX9_leave 9 = .ok (.aload_n 0, 1) := by decide +kernel
theorem dX9_leave_10 : decode cX9_leave 10 = .ok (.iload_n 2, 1) := by decide +kernel
theorem dX9_leave_11 : decode cX9_leave 11 = .ok (.invokevirtual 78, 3) := by decide +kernel
theorem dX9_leave_14 : decode cX9_leave 14 = .ok (.ifCond .ne 7, 3) := by decide +kernel
theorem dX9_leave_17 : decode cX9_leave 17 = .ok (.iconst 1, 1) := by decide +kernel
theorem dX9_leave_18 : decode cX9_leave 18 = .ok (.goto 24, 3) := by decide +kernel
theorem dX9_leave_21 : decode cX9_leave 21 = .ok (.iload_n 1, 1) := by decide +kernel
theorem dX9_leave_22 : decode cX9_leave 22 = .ok (.iload_n 2, 1) := by decide +kernel
theorem dX9_leave_23 : decode cX9_leave 23 = .ok (.if_icmp .eq 14, 3) := by decide +kernel
theorem dX9_leave_26 : decode cX9_leave 26 = .ok (.aload_n 0, 1) := by decide +kernel
theorem dX9_leave_27 : decode cX9_leave 27 = .ok (.iload_n 3, 1) := by decide +kernel
theorem dX9_leave_28 : decode cX9_leave 28 = .ok (.iconst 1, 1) := by decide +kernel
theorem dX9_leave_29 : decode cX9_leave 29 = .ok (.bipush 60, 2) := by decide +kernel
theorem dX9_leave_31 : decode cX9_leave 31 = .ok (.invokevirtual 74, 3) := by decide +kernel
theorem dX9_leave_34 : decode cX9_leave 34 = .ok (.ifCond .ne 7, 3) := by decide +kernel
theorem dX9_leave_37 : decode cX9_leave 37 = .ok (.iconst 2, 1) := by decide +kernel
theorem dX9_leave_38 : decode cX9_leave 38 = .ok (.goto 4, 3) := by decide +kernel
theorem dX9_leave_41 : decode cX9_leave 41 = .ok (.iconst 0, 1) := by decide +kernel
theorem dX9_leave_42 : decode cX9_leave 42 = .ok (.invokevirtual 85, 3) := by decide +kernel
theorem dX9_leave_45 : decode cX9_leave 45 = .ok (.ifCond .eq 5, 3) := by decide +kernel
theorem dX9_leave_48 : decode cX9_leave 48 = .ok (.iconst (-1), 1) := by decide +kernel
theorem dX9_leave_49 : decode cX9_leave 49 = .ok (.ireturn, 1) := by decide +kernel
theorem dX9_leave_50 : decode cX9_leave 50 = .ok (.aload_n 0, 1) := by decide +kernel
theorem dX9_leave_51 : decode cX9_leave 51 = .ok (.getfield 28, 3) := by decide +kernel
theorem dX9_leave_54 : decode cX9_leave 54 = .ok (.iload_n 1, 1) := by decide +kernel
theorem dX9_leave_55 : decode cX9_leave 55 = .ok (.aload_n 0, 1) := by decide +kernel
theorem dX9_leave_56 : decode cX9_leave 56 = .ok (.getfield 119, 3) := by decide +kernel
theorem dX9_leave_59 : decode cX9_leave 59 = .ok (.iload_n 3, 1) := by decide +kernel
theorem dX9_leave_60 : decode cX9_leave 60 = .ok (.iadd, 1) := by decide +kernel
theorem dX9_leave_61 : decode cX9_leave 61 = .ok (.iastore, 1) := by decide +kernel
theorem dX9_leave_62 : decode cX9_leave 62 = .ok (.aload_n 0, 1) := by decide +kernel
theorem dX9_leave_63 : decode cX9_leave 63 = .ok (.getfield 31, 3) := by decide +kernel
theorem dX9_leave_66 : decode cX9_leave 66 = .ok (.iload_n 1, 1) := by decide +kernel
theorem dX9_leave_67 : decode cX9_leave 67 = .ok (.iload_n 2, 1) := by decide +kernel
theorem dX9_leave_68 : decode cX9_leave 68 = .ok (.iastore, 1) := by decide +kernel
theorem dX9_leave_69 : decode cX9_leave 69 = .ok (.aload_n 0, 1) := by decide +kernel
theorem dX9_leave_70 : decode cX9_leave 70 = .ok (.dup, 1) := by decide +kernel
theorem dX9_leave_71 : decode cX9_leave 71 = .ok (.getfield 88, 3) := by decide +kernel
theorem dX9_leave_74 : decode cX9_leave 74 = .ok (.iconst 1, 1) := by decide +kernel
theorem dX9_leave_75 : decode cX9_leave 75 = .ok (.iadd, 1) := by decide +kernel
theorem dX9_leave_76 : decode cX9_leave 76 = .ok (.putfield 88, 3) := by decide +kernel
theorem dX9_leave_79 : decode cX9_leave 79 = .ok (.aload_n 0, 1) := by decide +kernel
theorem dX9_leave_80 : decode cX9_leave 80 = .ok (.getfield 28, 3) := by decide +kernel
theorem dX9_leave_83 : decode cX9_leave 83 = .ok (.iload_n 1, 1) := by decide +kernel
theorem dX9_leave_84 : decode cX9_leave 84 = .ok (.iaload, 1) := by decide +kernel
theorem dX9_leave_85 : decode cX9_leave 85 = .ok (.ireturn, 1) := by decide +kernel
theorem dX9_isAway_0 : decode cX9_isAway 0 = .ok (.aload_n 0, 1) := by decide +kernel
theorem dX9_isAway_1 : decode cX9_isAway 1 = .ok (.getfield 119, 3) := by decide +kernel
theorem dX9_isAway_4 : decode cX9_isAway 4 = .ok (.aload_n 0, 1) := by decide +kernel
theorem dX9_isAway_5 : decode cX9_isAway 5 = .ok (.getfield 28, 3) := by decide +kernel
theorem dX9_isAway_8 : decode cX9_isAway 8 = .ok (.iload_n 1, 1) := by decide +kernel
theorem dX9_isAway_9 : decode cX9_isAway 9 = .ok (.iaload, 1) := by decide +kernel
theorem dX9_isAway_10 : decode cX9_isAway 10 = .ok (.if_icmp .ge 7, 3) := by decide +kernel
theorem dX9_isAway_13 : decode cX9_isAway 13 = .ok (.iconst 1, 1) := by decide +kernel
theorem dX9_isAway_14 : decode cX9_isAway 14 = .ok (.goto 4, 3) := by decide +kernel
theorem dX9_isAway_17 : decode cX9_isAway 17 = .ok (.iconst 0, 1) := by decide +kernel
theorem dX9_isAway_18 : decode cX9_isAway 18 = .ok (.ireturn, 1) := by decide +kernel
set_option maxRecDepth 20000 in
theorem ggX9_forWhom_X9_isAway : GoodIn wsX9_forWhom wsX9_isAway := goodIn_r _ [9, 10, 11, 12, 13, 14, 15, 16, 17, 18, 19, 20, 21, 22, 23, 24, 25, 26, 27, 28, 29, 30, 31, 32, 33, 34, 35] (by decide +kernel) (by decide +kernel)
set_option maxRecDepth 20000 in
theorem gX9_forWhom_X9_isAway : GoodIn wsX9_forWhom (wsV RX9 122 RX9 yX9_isAway wsX9_isAway) := goodIn_app (goodIn_of _ (by decide +kernel)) ggX9_forWhom_X9_isAway
theorem dX9_forWhom_0 : decode cX9_forWhom 0 = .ok (.iload_n 2, 1) := by decide +kernel
theorem dX9_forWhom_1 : decode cX9_forWhom 1 = .ok (.aload_n 0, 1) := by decide +kernel
theorem dX9_forWhom_2 : decode cX9_forWhom 2 = .ok (.getfield 34, 3) := by decide +kernel
theorem dX9_forWhom_5 : decode cX9_forWhom 5 = .ok (.iload_n 1, 1) := by decide +kernel
theorem dX9_forWhom_6 : decode cX9_forWhom 6 = .ok (.iaload, 1) := by decide +kernel
theorem dX9_forWhom_7 : decode cX9_forWhom 7 = .ok (.if_icmp .eq 11, 3) := by decide +kernel
theorem dX9_forWhom_10 : decode cX9_forWhom 10 = .ok (.aload_n 0, 1) := by decide +kernel
theorem dX9_forWhom_11 : decode cX9_forWhom 11 = .ok (.iload_n 2, 1) := by decide +kernel
theorem dX9_forWhom_12 : decode cX9_forWhom 12 = .ok (.invokevirtual 122, 3) := by decide +kernel
theorem dX9_forWhom_15 : decode cX9_forWhom 15 = .ok (.ifCond .eq 5, 3) := by decide +kernel
theorem dX9_forWhom_18 : decode cX9_forWhom 18 = .ok (.iconst (-1), 1) := by decide +kernel
theorem dX9_forWhom_19 : decode cX9_forWhom 19 = .ok (.ireturn, 1) := by decide +kernel
theorem dX9_forWhom_20 : decode cX9_forWhom 20 = .ok (.aload_n 0, 1) := by decide +kernel
theorem dX9_forWhom_21 : decode cX9_forWhom 21 = .ok (.getfield 25, 3) := by decide +kernel
theorem dX9_forWhom_24 : decode cX9_forWhom 24 = .ok (.iload_n 2, 1) := by decide +kernel
theorem dX9_forWhom_25 : decode cX9_forWhom 25 = .ok (.iaload, 1) := by decide +kernel
theorem dX9_forWhom_26 : decode cX9_forWhom 26 = .ok (.aload_n 0, 1) := by decide +kernel
theorem dX9_forWhom_27 : decode cX9_forWhom 27 = .ok (.getfield 46, 3) := by decide +kernel
theorem dX9_forWhom_30 : decode cX9_forWhom 30 = .ok (.iload_n 1, 1) := by decide +kernel
theorem dX9_forWhom_31 : decode cX9_forWhom 31 = .ok (.iaload, 1) := by decide +kernel
theorem dX9_forWhom_32 : decode cX9_forWhom 32 = .ok (.if_icmp .lt 5, 3) := by decide +kernel
theorem dX9_forWhom_35 : decode cX9_forWhom 35 = .ok (.iload_n 2, 1) := by decide +kernel
theorem dX9_forWhom_36 : decode cX9_forWhom 36 = .ok (.ireturn, 1) := by decide +kernel
theorem dX9_forWhom_37 : decode cX9_forWhom 37 = .ok (.iconst 0, 1) := by decide +kernel
theorem dX9_forWhom_38 : decode cX9_forWhom 38 = .ok (.istore_n 3, 1) := by decide +kernel
theorem dX9_forWhom_39 : decode cX9_forWhom 39 = .ok (.iload_n 3, 1) := by decide +kernel
theorem dX9_forWhom_40 : decode cX9_forWhom 40 = .ok (.bipush 8, 2) := by decide +kernel
theorem dX9_forWhom_42 : decode cX9_forWhom 42 = .ok (.if_icmp .ge 61, 3) := by decide +kernel
theorem dX9_forWhom_45 : decode cX9_forWhom 45 = .ok (.aload_n 0, 1) := by decide +kernel
theorem dX9_forWhom_46 : decode cX9_forWhom 46 = .ok (.iload_n 3, 1) := by decide +kernel
theorem dX9_forWhom_47 : decode cX9_forWhom 47 = .ok (.invokevirtual 122, 3) := by decide +kernel
theorem dX9_forWhom_50 : decode cX9_forWhom 50 = .ok (.ifCond .eq 47, 3) := by decide +kernel
theorem dX9_forWhom_53 : decode cX9_forWhom 53 = .ok (.aload_n 0, 1) := by decide +kernel
theorem dX9_forWhom_54 : decode cX9_forWhom 54 = .ok (.getfield 31, 3) := by decide +kernel
theorem dX9_forWhom_57 : decode cX9_forWhom 57 = .ok (.iload_n 3, 1) := by decide +kernel
theorem dX9_forWhom_58 : decode cX9_forWhom 58 = .ok (.iaload, 1) := by decide +kernel
theorem dX9_forWhom_59 : decode cX9_forWhom 59 = .ok (.iload_n 2, 1) := by decide +kernel
theorem dX9_forWhom_60 : decode cX9_forWhom 60 = .ok (.if_icmp .ne 37, 3) := by decide +kernel
theorem dX9_forWhom_63 : decode cX9_forWhom 63 = .ok (.aload_n 0, 1) := by decide +kernel
theorem dX9_forWhom_64 : decode cX9_forWhom 64 = .ok (.getfield 25, 3) := by decide +kernel
theorem dX9_forWhom_67 : decode cX9_forWhom 67 = .ok (.iload_n 3, 1) := by decide +kernel
theorem dX9_forWhom_68 : decode cX9_forWhom 68 = .ok (.iaload, 1) := by decide +kernel
theorem dX9_forWhom_69 : decode cX9_forWhom 69 = .ok (.aload_n 0, 1) := by decide +kernel
theorem dX9_forWhom_70 : decode cX9_forWhom 70 = .ok (.getfield 46, 3) := by decide +kernel
theorem dX9_forWhom_73 : decode cX9_forWhom 73 = .ok (.iload_n 1, 1) := by decide +kernel
theorem dX9_forWhom_74 : decode cX9_forWhom 74 = .ok (.iaload, 1) := by decide +kernel
theorem dX9_forWhom_75 : decode cX9_forWhom 75 = .ok (.if_icmp .lt 22, 3) := by decide +kernel
theorem dX9_forWhom_78 : decode cX9_forWhom 78 = .ok (.aload_n 0, 1) := by decide +kernel
theorem dX9_forWhom_79 : decode cX9_forWhom 79 = .ok (.getfield 46, 3) := by decide +kernel
theorem dX9_forWhom_82 : decode cX9_forWhom 82 = .ok (.iload_n 1, 1) := by decide +kernel
theorem dX9_forWhom_83 : decode cX9_forWhom 83 = .ok (.iaload, 1) := by decide +kernel
theorem dX9_forWhom_84 : decode cX9_forWhom 84 = .ok (.iconst 2, 1) := by decide +kernel
theorem dX9_forWhom_85 : decode cX9_forWhom 85 = .ok (.aload_n 0, 1) := by decide +kernel
theorem dX9_forWhom_86 : decode cX9_forWhom 86 = .ok (.getfield 25, 3) := by decide +kernel
theorem dX9_forWhom_89 : decode cX9_forWhom 89 = .ok (.iload_n 2, 1) := by decide +kernel
theorem dX9_forWhom_90 : decode cX9_forWhom 90 = .ok (.iaload, 1) := by decide +kernel
theorem dX9_forWhom_91 : decode cX9_forWhom 91 = .ok (.imul, 1) := by decide +kernel
theorem dX9_forWhom_92 : decode cX9_forWhom 92 = .ok (.if_icmp .gt 5, 3) := by decide +kernel
theorem dX9_forWhom_95 : decode cX9_forWhom 95 = .ok (.iload_n 3, 1) := by decide +kernel
theorem dX9_forWhom_96 : decode cX9_forWhom 96 = .ok (.ireturn, 1) := by decide +kernel
theorem dX9_forWhom_97 : decode cX9_forWhom 97 = .ok (.iinc 3 1, 3) := by decide +kernel
theorem dX9_forWhom_100 : decode cX9_forWhom 100 = .ok (.goto (-61), 3) := by decide +kernel
theorem dX9_forWhom_103 : decode cX9_forWhom 103 = .ok (.iconst (-1), 1) := by decide +kernel
theorem dX9_forWhom_104 : decode cX9_forWhom 104 = .ok (.ireturn, 1) := by decide +kernel
set_option maxRecDepth 20000 in
theorem ggX9_approve_X9_isRequest : GoodIn wsX9_approve wsX9_isRequest := goodIn_r _ [10, 11, 12, 13, 14, 9, 15, 38, 39, 40, 41, 42, 43, 44, 45, 46, 47, 48, 49, 50, 51, 52, 53, 54, 55, 56, 57, 58, 59, 60, 61] (by decide +kernel) (by decide +kernel)
set_option maxRecDepth 20000 in
theorem gX9_approve_X9_isRequest : GoodIn wsX9_approve (wsV RX9 113 RX9 yX9_isRequest wsX9_isRequest) := goodIn_app (goodIn_of _ (by decide +kernel)) ggX9_approve_X9_isRequest
set_option maxRecDepth 20000 in
theorem ggX9_approve_X9_isEight : GoodIn wsX9_approve wsX9_isEight := goodIn_r _ [19, 12, 13, 14, 9, 15] (by decide +kernel) (by decide +kernel)
set_option maxRecDepth 20000 in
theorem gX9_approve_X9_isEight : GoodIn wsX9_approve (wsV RX9 78 RX9 yX9_isEight wsX9_isEight) := goodIn_app (goodIn_of _ (by decide +kernel)) ggX9_approve_X9_isEight
set_option maxRecDepth 20000 in
theorem ggX9_approve_X9_forWhom : GoodIn wsX9_approve wsX9_forWhom := goodIn_r _ [23, 24, 25, 26, 27, 28, 29, 30, 9, 31, 32, 4, 38, 39, 40, 41, 42, 43, 44, 45, 46, 47, 48, 49, 50, 51, 52, 53, 54, 55, 56, 57, 58, 59, 60, 61] (by decide +kernel) (by decide +kernel)
set_option maxRecDepth 20000 in
theorem gX9_approve_X9_forWhom : GoodIn wsX9_approve (wsV RX9 125 RX9 yX9_forWhom wsX9_forWhom) := goodIn_app (goodIn_of _ (by decide +kernel)) ggX9_approve_X9_forWhom
set_option maxRecDepth 20000 in
theorem ggX9_approve_X9_holds : GoodIn wsX9_approve wsX9_holds := goodIn_r _ [36, 37, 38, 39, 40, 41, 42, 43, 44, 45, 46, 47, 48, 49, 50, 51, 52, 53, 54, 55, 56, 57, 58, 59, 60, 61] (by decide +kernel) (by decide +kernel)
set_option maxRecDepth 20000 in
theorem gX9_approve_X9_holds : GoodIn wsX9_approve (wsV RX9 85 RX9 yX9_holds wsX9_holds) := goodIn_app (goodIn_of _ (by decide +kernel)) ggX9_approve_X9_holds
theorem dX9_approve_0 : decode cX9_approve 0 = .ok (.aload_n 0, 1) := by decide +kernel
theorem dX9_approve_1 : decode cX9_approve 1 = .ok (.iload_n 1, 1) := by decide +kernel
theorem dX9_approve_2 : decode cX9_approve 2 = .ok (.invokevirtual 113, 3) := by decide +kernel
theorem dX9_approve_5 : decode cX9_approve 5 = .ok (.ifCond .eq 15, 3) := by decide +kernel
theorem dX9_approve_8 : decode cX9_approve 8 = .ok (.aload_n 0, 1) := by decide +kernel
theorem dX9_approve_9 : decode cX9_approve 9 = .ok (.iload_n 2, 1) := by decide +kernel
theorem dX9_approve_10 : decode cX9_approve 10 = .ok (.invokevirtual 78, 3) := by decide +kernel
theorem dX9_approve_13 : decode cX9_approve 13 = .ok (.ifCond .eq 7, 3) := by decide +kernel
theorem dX9_approve_16 : decode cX9_approve 16 = .ok (.iconst 1, 1) := by decide +kernel
theorem dX9_approve_17 : decode cX9_approve 17 = .ok (.goto 4, 3) := by decide +kernel
theorem dX9_approve_20 : decode cX9_approve 20 = .ok (.iconst 0, 1) := by decide +kernel
theorem dX9_approve_21 : decode cX9_approve 21 = .ok (.istore_n 3, 1) := by decide +kernel
theorem dX9_approve_22 : decode cX9_approve 22 = .ok (.iload_n 3, 1) := by decide +kernel
theorem dX9_approve_23 : decode cX9_approve 23 = .ok (.ifCond .eq 40, 3) := by decide +kernel
theorem dX9_approve_26 : decode cX9_approve 26 = .ok (.aload_n 0, 1) := by decide +kernel
theorem dX9_approve_27 : decode cX9_approve 27 = .ok (.getfield 43, 3) := by decide +kernel
theorem dX9_approve_30 : decode cX9_approve 30 = .ok (.iload_n 1, 1) := by decide +kernel
theorem dX9_approve_31 : decode cX9_approve 31 = .ok (.iaload, 1) := by decide +kernel
theorem dX9_approve_32 : decode cX9_approve 32 = .ok (.iconst 1, 1) := by decide +kernel
theorem dX9_approve_33 : decode cX9_approve 33 = .ok (.if_icmp .ne 26, 3) := by decide +kernel
theorem dX9_approve_36 : decode cX9_approve 36 = .ok (.aload_n 0, 1) := by decide +kernel
theorem dX9_approve_37 : decode cX9_approve 37 = .ok (.getfield 52, 3) := by decide +kernel
theorem dX9_approve_40 : decode cX9_approve 40 = .ok (.bipush 8, 2) := by decide +kernel
theorem dX9_approve_42 : decode cX9_approve 42 = .ok (.iload_n 1, 1) := by decide +kernel
theorem dX9_approve_43 : decode cX9_approve 43 = .ok (.imul, 1) := by decide +kernel
theorem dX9_approve_44 : decode cX9_approve 44 = .ok (.iload_n 2, 1) := by decide +kernel
theorem dX9_approve_45 : decode cX9_approve 45 = .ok (.iadd, 1) := by decide +kernel
theorem dX9_approve_46 : decode cX9_approve 46 = .ok (.iaload, 1) := by decide +kernel
theorem dX9_approve_47 : decode cX9_approve 47 = .ok (.ifCond .gt 12, 3) := by decide +kernel
theorem dX9_approve_50 : decode cX9_approve 50 = .ok (.aload_n 0, 1) := by decide +kernel
theorem dX9_approve_51 : decode cX9_approve 51 = .ok (.iload_n 1, 1) := by decide +kernel
theorem dX9_approve_52 : decode cX9_approve 52 = .ok (.iload_n 2, 1) := by decide +kernel
theorem dX9_approve_53 : decode cX9_approve 53 = .ok (.invokevirtual 125, 3) := by decide +kernel
theorem dX9_approve_56 : decode cX9_approve 56 = .ok (.ifCond .ge 7, 3) := by decide +kernel
theorem dX9_approve_59 : decode cX9_approve 59 = .ok (.iconst 1, 1) := by decide +kernel
theorem dX9_approve_60 : decode cX9_approve 60 = .ok (.goto 4, 3) := by decide +kernel
theorem dX9_approve_63 : decode cX9_approve 63 = .ok (.iconst 0, 1) := by decide +kernel
theorem dX9_approve_64 : decode cX9_approve 64 = .ok (.istore 4, 2) := by decide +kernel
theorem dX9_approve_66 : decode cX9_approve 66 = .ok (.aload_n 0, 1) := by decide +kernel
theorem dX9_approve_67 : decode cX9_approve 67 = .ok (.iload_n 3, 1) := by decide +kernel
theorem dX9_approve_68 : decode cX9_approve 68 = .ok (.ifCond .ne 7, 3) := by decide +kernel
theorem dX9_approve_71 : decode cX9_approve 71 = .ok (.iconst 1, 1) := by decide +kernel
theorem dX9_approve_72 : decode cX9_approve 72 = .ok (.goto 13, 3) := by decide +kernel
theorem dX9_approve_75 : decode cX9_approve 75 = .ok (.iload 4, 2) := by decide +kernel
theorem dX9_approve_77 : decode cX9_approve 77 = .ok (.ifCond .eq 7, 3) := by decide +kernel
theorem dX9_approve_80 : decode cX9_approve 80 = .ok (.iconst 2, 1) := by decide +kernel
theorem dX9_approve_81 : decode cX9_approve 81 = .ok (.goto 4, 3) := by decide +kernel
theorem dX9_approve_84 : decode cX9_approve 84 = .ok (.iconst 0, 1) := by decide +kernel
theorem dX9_approve_85 : decode cX9_approve 85 = .ok (.invokevirtual 85, 3) := by decide +kernel
theorem dX9_approve_88 : decode cX9_approve 88 = .ok (.ifCond .eq 5, 3) := by decide +kernel
theorem dX9_approve_91 : decode cX9_approve 91 = .ok (.iconst (-1), 1) := by decide +kernel
theorem dX9_approve_92 : decode cX9_approve 92 = .ok (.ireturn, 1) := by decide +kernel
theorem dX9_approve_93 : decode cX9_approve 93 = .ok (.aload_n 0, 1) := by decide +kernel
theorem dX9_approve_94 : decode cX9_approve 94 = .ok (.iload_n 1, 1) := by decide +kernel
theorem dX9_approve_95 : decode cX9_approve 95 = .ok (.iload_n 2, 1) := by decide +kernel
theorem dX9_approve_96 : decode cX9_approve 96 = .ok (.invokevirtual 125, 3) := by decide +kernel
theorem dX9_approve_99 : decode cX9_approve 99 = .ok (.istore 5, 2) := by decide +kernel
theorem dX9_approve_101 : decode cX9_approve 101 = .ok (.aload_n 0, 1) := by decide +kernel
theorem dX9_approve_102 : decode cX9_approve 102 = .ok (.getfield 52, 3) := by decide +kernel
theorem dX9_approve_105 : decode cX9_approve 105 = .ok (.bipush 8, 2) := by decide +kernel
theorem dX9_approve_107 : decode cX9_approve 107 = .ok (.iload_n 1, 1) := by decide +kernel
theorem dX9_approve_108 : decode cX9_approve 108 = .ok (.imul, 1) := by decide +kernel
theorem dX9_approve_109 : decode cX9_approve 109 = .ok (.iload_n 2, 1) := by decide +kernel
theorem dX9_approve_110 : decode cX9_approve 110 = .ok (.iadd, 1) := by decide +kernel
theorem dX9_approve_111 : decode cX9_approve 111 = .ok (.iload 5, 2) := by decide +kernel
theorem dX9_approve_113 : decode cX9_approve 113 = .ok (.iconst 1, 1) := by decide +kernel
theorem dX9_approve_114 : decode cX9_approve 114 = .ok (.iadd, 1) := by decide +kernel
theorem dX9_approve_115 : decode cX9_approve 115 = .ok (.iastore, 1) := by decide +kernel
theorem dX9_approve_116 : decode cX9_approve 116 = .ok (.aload_n 0, 1) := by decide +kernel
theorem dX9_approve_117 : decode cX9_approve 117 = .ok (.getfield 55, 3) := by decide +kernel
theorem dX9_approve_120 : decode cX9_approve 120 = .ok (.bipush 8, 2) := by decide +kernel
theorem dX9_approve_122 : decode cX9_approve 122 = .ok (.iload_n 1, 1) := by decide +kernel
theorem dX9_approve_123 : decode cX9_approve 123 = .ok (.imul, 1) := by decide +kernel
theorem dX9_approve_124 : decode cX9_approve 124 = .ok (.iload_n 2, 1) := by decide +kernel
theorem dX9_approve_125 : decode cX9_approve 125 = .ok (.iadd, 1) := by decide +kernel
theorem dX9_approve_126 : decode cX9_approve 126 = .ok (.iload 5, 2) := by decide +kernel
theorem dX9_approve_128 : decode cX9_approve 128 = .ok (.iload_n 2, 1) := by decide +kernel
theorem dX9_approve_129 : decode cX9_approve 129 = .ok (.if_icmp .ne 7, 3) := by decide +kernel
theorem dX9_approve_132 : decode cX9_approve 132 = .ok (.iconst (-1), 1) := by decide +kernel
theorem dX9_approve_133 : decode cX9_approve 133 = .ok (.goto 10, 3) := by decide +kernel
theorem dX9_approve_136 : decode cX9_approve 136 = .ok (.aload_n 0, 1) := by decide +kernel
theorem dX9_approve_137 : decode cX9_approve 137 = .ok (.getfield 28, 3) := by decide +kernel
theorem dX9_approve_140 : decode cX9_approve 140 = .ok (.iload 5, 2) := by decide +kernel
theorem dX9_approve_142 : decode cX9_approve 142 = .ok (.iaload, 1) := by decide +kernel
theorem dX9_approve_143 : decode cX9_approve 143 = .ok (.iastore, 1) := by decide +kernel
theorem dX9_approve_144 : decode cX9_approve 144 = .ok (.aload_n 0, 1) := by decide +kernel
theorem dX9_approve_145 : decode cX9_approve 145 = .ok (.dup, 1) := by decide +kernel
theorem dX9_approve_146 : decode cX9_approve 146 = .ok (.getfield 88, 3) := by decide +kernel
theorem dX9_approve_149 : decode cX9_approve 149 = .ok (.iconst 1, 1) := by decide +kernel
theorem dX9_approve_150 : decode cX9_approve 150 = .ok (.iadd, 1) := by decide +kernel
theorem dX9_approve_151 : decode cX9_approve 151 = .ok (.putfield 88, 3) := by decide +kernel
theorem dX9_approve_154 : decode cX9_approve 154 = .ok (.iload 5, 2) := by decide +kernel
theorem dX9_approve_156 : decode cX9_approve 156 = .ok (.ireturn, 1) := by decide +kernel
theorem dX9_approvals_0 : decode cX9_approvals 0 = .ok (.iconst 0, 1) := by decide +kernel
theorem dX9_approvals_1 : decode cX9_approvals 1 = .ok (.istore_n 2, 1) := by decide +kernel
theorem dX9_approvals_2 : decode cX9_approvals 2 = .ok (.iconst 0, 1) := by decide +kernel
theorem dX9_approvals_3 : decode cX9_approvals 3 = .ok (.istore_n 3, 1) := by decide +kernel
theorem dX9_approvals_4 : decode cX9_approvals 4 = .ok (.iload_n 3, 1) := by decide +kernel
theorem dX9_approvals_5 : decode cX9_approvals 5 = .ok (.bipush 8, 2) := by decide +kernel
theorem dX9_approvals_7 : decode cX9_approvals 7 = .ok (.if_icmp .ge 31, 3) := by decide +kernel
theorem dX9_approvals_10 : decode cX9_approvals 10 = .ok (.iload_n 2, 1) := by decide +kernel
theorem dX9_approvals_11 : decode cX9_approvals 11 = .ok (.aload_n 0, 1) := by decide +kernel
theorem dX9_approvals_12 : decode cX9_approvals 12 = .ok (.getfield 52, 3) := by decide +kernel
theorem dX9_approvals_15 : decode cX9_approvals 15 = .ok (.bipush 8, 2) := by decide +kernel
theorem dX9_approvals_17 : decode cX9_approvals 17 = .ok (.iload_n 1, 1) := by decide +kernel
theorem dX9_approvals_18 : decode cX9_approvals 18 = .ok (.imul, 1) := by decide +kernel
theorem dX9_approvals_19 : decode cX9_approvals 19 = .ok (.iload_n 3, 1) := by decide +kernel
theorem dX9_approvals_20 : decode cX9_approvals 20 = .ok (.iadd, 1) := by decide +kernel
theorem dX9_approvals_21 : decode cX9_approvals 21 = .ok (.iaload, 1) := by decide +kernel
theorem dX9_approvals_22 : decode cX9_approvals 22 = .ok (.ifCond .le 7, 3) := by decide +kernel
theorem dX9_approvals_25 : decode cX9_approvals 25 = .ok (.iconst 1, 1) := by decide +kernel
theorem dX9_approvals_26 : decode cX9_approvals 26 = .ok (.goto 4, 3) := by decide +kernel
theorem dX9_approvals_29 : decode cX9_approvals 29 = .ok (.iconst 0, 1) := by decide +kernel
theorem dX9_approvals_30 : decode cX9_approvals 30 = .ok (.iadd, 1) := by decide +kernel
theorem dX9_approvals_31 : decode cX9_approvals 31 = .ok (.istore_n 2, 1) := by decide +kernel
theorem dX9_approvals_32 : decode cX9_approvals 32 = .ok (.iinc 3 1, 3) := by decide +kernel
theorem dX9_approvals_35 : decode cX9_approvals 35 = .ok (.goto (-31), 3) := by decide +kernel
theorem dX9_approvals_38 : decode cX9_approvals 38 = .ok (.iload_n 2, 1) := by decide +kernel
theorem dX9_approvals_39 : decode cX9_approvals 39 = .ok (.ireturn, 1) := by decide +kernel
set_option maxRecDepth 20000 in
theorem ggX9_covered_X9_approvals : GoodIn wsX9_covered wsX9_approvals := goodIn_r _ [6, 7, 8, 9, 10, 11, 12, 13, 14, 15, 16, 17, 18, 19, 20, 21, 22, 23, 24, 25, 26, 27, 28, 29, 30, 31] (by decide +kernel) (by decide +kernel)
set_option maxRecDepth 20000 in
theorem gX9_covered_X9_approvals : GoodIn wsX9_covered (wsV RX9 128 RX9 yX9_approvals wsX9_approvals) := goodIn_app (goodIn_of _ (by decide +kernel)) ggX9_covered_X9_approvals
theorem dX9_covered_0 : decode cX9_covered 0 = .ok (.aload_n 0, 1) := by decide +kernel
theorem dX9_covered_1 : decode cX9_covered 1 = .ok (.iload_n 1, 1) := by decide +kernel
theorem dX9_covered_2 : decode cX9_covered 2 = .ok (.invokevirtual 128, 3) := by decide +kernel
theorem dX9_covered_5 : decode cX9_covered 5 = .ok (.aload_n 0, 1) := by decide +kernel
theorem dX9_covered_6 : decode cX9_covered 6 = .ok (.getfield 46, 3) := by decide +kernel
theorem dX9_covered_9 : decode cX9_covered 9 = .ok (.iload_n 1, 1) := by decide +kernel
theorem dX9_covered_10 : decode cX9_covered 10 = .ok (.iaload, 1) := by decide +kernel
theorem dX9_covered_11 : decode cX9_covered 11 = .ok (.sipush 500, 3) := by decide +kernel
theorem dX9_covered_14 : decode cX9_covered 14 = .ok (.if_icmp .le 7, 3) := by decide +kernel
theorem dX9_covered_17 : decode cX9_covered 17 = .ok (.iconst 2, 1) := by decide +kernel
theorem dX9_covered_18 : decode cX9_covered 18 = .ok (.goto 4, 3) := by decide +kernel
theorem dX9_covered_21 : decode cX9_covered 21 = .ok (.iconst 1, 1) := by decide +kernel
theorem dX9_covered_22 : decode cX9_covered 22 = .ok (.if_icmp .lt 7, 3) := by decide +kernel
theorem dX9_covered_25 : decode cX9_covered 25 = .ok (.iconst 1, 1) := by decide +kernel
theorem dX9_covered_26 : decode cX9_covered 26 = .ok (.goto 4, 3) := by decide +kernel
theorem dX9_covered_29 : decode cX9_covered 29 = .ok (.iconst 0, 1) := by decide +kernel
theorem dX9_covered_30 : decode cX9_covered 30 = .ok (.ireturn, 1) := by decide +kernel
set_option maxRecDepth 20000 in
theorem ggX9_release_X9_isRequest : GoodIn wsX9_release wsX9_isRequest := goodIn_r _ [7, 8, 9, 10, 11, 6, 12, 28, 29, 30, 31, 32, 33, 34, 35, 36, 37, 38, 39, 40, 41, 42, 43, 44, 45, 46, 47, 48, 49, 50, 51] (by decide +kernel) (by decide +kernel)
set_option maxRecDepth 20000 in
theorem gX9_release_X9_isRequest : GoodIn wsX9_release (wsV RX9 113 RX9 yX9_isRequest wsX9_isRequest) := goodIn_app (goodIn_of _ (by decide +kernel)) ggX9_release_X9_isRequest
set_option maxRecDepth 20000 in
theorem ggX9_release_X9_covered : GoodIn wsX9_release wsX9_covered := goodIn_r _ [16, 17, 18, 19, 20, 6, 21, 22, 28, 29, 30, 31, 32, 33, 34, 35, 36, 37, 38, 39, 40, 41, 42, 43, 44, 45, 46, 47, 48, 49, 50, 51] (by decide +kernel) (by decide +kernel)
set_option maxRecDepth 20000 in
theorem gX9_release_X9_covered : GoodIn wsX9_release (wsV RX9 131 RX9 yX9_covered wsX9_covered) := goodIn_app (goodIn_of _ (by decide +kernel)) ggX9_release_X9_covered
set_option maxRecDepth 20000 in
theorem ggX9_release_X9_holds : GoodIn wsX9_release wsX9_holds := goodIn_r _ [26, 27, 28, 29, 30, 31, 32, 33, 34, 35, 36, 37, 38, 39, 40, 41, 42, 43, 44, 45, 46, 47, 48, 49, 50, 51] (by decide +kernel) (by decide +kernel)
set_option maxRecDepth 20000 in
theorem gX9_release_X9_holds : GoodIn wsX9_release (wsV RX9 85 RX9 yX9_holds wsX9_holds) := goodIn_app (goodIn_of _ (by decide +kernel)) ggX9_release_X9_holds
theorem dX9_release_0 : decode cX9_release 0 = .ok (.aload_n 0, 1) := by decide +kernel
theorem dX9_release_1 : decode cX9_release 1 = .ok (.aload_n 0, 1) := by decide +kernel
theorem dX9_release_2 : decode cX9_release 2 = .ok (.iload_n 1, 1) := by decide +kernel
theorem dX9_release_3 : decode cX9_release 3 = .ok (.invokevirtual 113, 3) := by decide +kernel
theorem dX9_release_6 : decode cX9_release 6 = .ok (.ifCond .ne 7, 3) := by decide +kernel
theorem dX9_release_9 : decode cX9_release 9 = .ok (.iconst 1, 1) := by decide +kernel
theorem dX9_release_10 : decode cX9_release 10 = .ok (.goto 26, 3) := by decide +kernel
theorem dX9_release_13 : decode cX9_release 13 = .ok (.aload_n 0, 1) := by decide +kernel
theorem dX9_release_14 : decode cX9_release 14 = .ok (.getfield 43, 3) := by decide +kernel
theorem dX9_release_17 : decode cX9_release 17 = .ok (.iload_n 1, 1) := by decide +kernel
theorem dX9_release_18 : decode cX9_release 18 = .ok (.iaload, 1) := by decide +kernel
theorem dX9_release_19 : decode cX9_release 19 = .ok (.iconst 1, 1) := by decide +kernel
theorem dX9_release_20 : decode cX9_release 20 = .ok (.if_icmp .ne 11, 3) := by decide +kernel
theorem dX9_release_23 : decode cX9_release 23 = .ok (.aload_n 0, 1) := by decide +kernel
theorem dX9_release_24 : decode cX9_release 24 = .ok (.iload_n 1, 1) := by decide +kernel
theorem dX9_release_25 : decode cX9_release 25 = .ok (.invokevirtual 131, 3) := by decide +kernel
theorem dX9_release_28 : decode cX9_release 28 = .ok (.ifCond .ne 7, 3) := by decide +kernel
theorem dX9_release_31 : decode cX9_release 31 = .ok (.iconst 2, 1) := by decide +kernel
theorem dX9_release_32 : decode cX9_release 32 = .ok (.goto 4, 3) := by decide +kernel
theorem dX9_release_35 : decode cX9_release 35 = .ok (.iconst 0, 1) := by decide +kernel
theorem dX9_release_36 : decode cX9_release 36 = .ok (.invokevirtual 85, 3) := by decide +kernel
theorem dX9_release_39 : decode cX9_release 39 = .ok (.ifCond .ne 20, 3) := by decide +kernel
theorem dX9_release_42 : decode cX9_release 42 = .ok (.aload_n 0, 1) := by decide +kernel
theorem dX9_release_43 : decode cX9_release 43 = .ok (.getfield 43, 3) := by decide +kernel
theorem dX9_release_46 : decode cX9_release 46 = .ok (.iload_n 1, 1) := by decide +kernel
theorem dX9_release_47 : decode cX9_release 47 = .ok (.iconst 2, 1) := by decide +kernel
theorem dX9_release_48 : decode cX9_release 48 = .ok (.iastore, 1) := by decide +kernel
theorem dX9_release_49 : decode cX9_release 49 = .ok (.aload_n 0, 1) := by decide +kernel
theorem dX9_release_50 : decode cX9_release 50 = .ok (.dup, 1) := by decide +kernel
theorem dX9_release_51 : decode cX9_release 51 = .ok (.getfield 88, 3) := by decide +kernel
theorem dX9_release_54 : decode cX9_release 54 = .ok (.iconst 1, 1) := by decide +kernel
theorem dX9_release_55 : decode cX9_release 55 = .ok (.iadd, 1) := by decide +kernel
theorem dX9_release_56 : decode cX9_release 56 = .ok (.putfield 88, 3) := by decide +kernel
theorem dX9_release_59 : decode cX9_release 59 = .ok (.return_, 1) := by decide +kernel
set_option maxRecDepth 20000 in
theorem ggX9_pass_X9_in : GoodIn wsX9_pass wsX9_in := goodIn_r _ [10] (by decide +kernel) (by decide +kernel)
set_option maxRecDepth 20000 in
theorem gX9_pass_X9_in : GoodIn wsX9_pass (wsV RX9 74 RX9 yX9_in wsX9_in) := goodIn_app (goodIn_of _ (by decide +kernel)) ggX9_pass_X9_in
set_option maxRecDepth 20000 in
theorem ggX9_pass_X9_holds : GoodIn wsX9_pass wsX9_holds := goodIn_r _ [14, 15, 16, 17, 18, 19, 20, 21, 22, 23, 24, 25, 26, 27, 28, 29, 30, 31, 32, 33, 34, 35, 36, 37, 38, 39] (by decide +kernel) (by decide +kernel)
set_option maxRecDepth 20000 in
theorem gX9_pass_X9_holds : GoodIn wsX9_pass (wsV RX9 85 RX9 yX9_holds wsX9_holds) := goodIn_app (goodIn_of _ (by decide +kernel)) ggX9_pass_X9_holds
theorem dX9_pass_0 : decode cX9_pass 0 = .ok (.aload_n 0, 1) := by decide +kernel
theorem dX9_pass_1 : decode cX9_pass 1 = .ok (.aload_n 0, 1) := by decide +kernel
theorem dX9_pass_2 : decode cX9_pass 2 = .ok (.iload_n 1, 1) := by decide +kernel
theorem dX9_pass_3 : decode cX9_pass 3 = .ok (.iconst 1, 1) := by decide +kernel
theorem dX9_pass_4 : decode cX9_pass 4 = .ok (.bipush 60, 2) := by decide +kernel
theorem dX9_pass_6 : decode cX9_pass 6 = .ok (.invokevirtual 74, 3) := by decide +kernel
theorem dX9_pass_9 : decode cX9_pass 9 = .ok (.ifCond .eq 7, 3) := by decide +kernel
theorem dX9_pass_12 : decode cX9_pass 12 = .ok (.iconst 0, 1) := by decide +kernel
theorem dX9_pass_13 : decode cX9_pass 13 = .ok (.goto 4, 3) := by decide +kernel
theorem dX9_pass_16 : decode cX9_pass 16 = .ok (.iconst 1, 1) := by decide +kernel
theorem dX9_pass_17 : decode cX9_pass 17 = .ok (.invokevirtual 85, 3) := by decide +kernel
theorem dX9_pass_20 : decode cX9_pass 20 = .ok (.ifCond .eq 5, 3) := by decide +kernel
theorem dX9_pass_23 : decode cX9_pass 23 = .ok (.iconst (-1), 1) := by decide +kernel
theorem dX9_pass_24 : decode cX9_pass 24 = .ok (.ireturn, 1) := by decide +kernel
theorem dX9_pass_25 : decode cX9_pass 25 = .ok (.aload_n 0, 1) := by decide +kernel
theorem dX9_pass_26 : decode cX9_pass 26 = .ok (.dup, 1) := by decide +kernel
theorem dX9_pass_27 : decode cX9_pass 27 = .ok (.getfield 119, 3) := by decide +kernel
theorem dX9_pass_30 : decode cX9_pass 30 = .ok (.iload_n 1, 1) := by decide +kernel
theorem dX9_pass_31 : decode cX9_pass 31 = .ok (.iadd, 1) := by decide +kernel
theorem dX9_pass_32 : decode cX9_pass 32 = .ok (.putfield 119, 3) := by decide +kernel
theorem dX9_pass_35 : decode cX9_pass 35 = .ok (.iconst 0, 1) := by decide +kernel
theorem dX9_pass_36 : decode cX9_pass 36 = .ok (.istore_n 2, 1) := by decide +kernel
theorem dX9_pass_37 : decode cX9_pass 37 = .ok (.iload_n 2, 1) := by decide +kernel
theorem dX9_pass_38 : decode cX9_pass 38 = .ok (.bipush 8, 2) := by decide +kernel
theorem dX9_pass_40 : decode cX9_pass 40 = .ok (.aload_n 0, 1) := by decide +kernel
theorem dX9_pass_41 : decode cX9_pass 41 = .ok (.getfield 82, 3) := by decide +kernel
theorem dX9_pass_44 : decode cX9_pass 44 = .ok (.imul, 1) := by decide +kernel
theorem dX9_pass_45 : decode cX9_pass 45 = .ok (.if_icmp .ge 56, 3) := by decide +kernel
theorem dX9_pass_48 : decode cX9_pass 48 = .ok (.aload_n 0, 1) := by decide +kernel
theorem dX9_pass_49 : decode cX9_pass 49 = .ok (.getfield 52, 3) := by decide +kernel
theorem dX9_pass_52 : decode cX9_pass 52 = .ok (.iload_n 2, 1) := by decide +kernel
theorem dX9_pass_53 : decode cX9_pass 53 = .ok (.aload_n 0, 1) := by decide +kernel
theorem dX9_pass_54 : decode cX9_pass 54 = .ok (.getfield 52, 3) := by decide +kernel
theorem dX9_pass_57 : decode cX9_pass 57 = .ok (.iload_n 2, 1) := by decide +kernel
theorem dX9_pass_58 : decode cX9_pass 58 = .ok (.iaload, 1) := by decide +kernel
theorem dX9_pass_59 : decode cX9_pass 59 = .ok (.ifCond .le 29, 3) := by decide +kernel
theorem dX9_pass_62 : decode cX9_pass 62 = .ok (.aload_n 0, 1) := by decide +kernel
theorem dX9_pass_63 : decode cX9_pass 63 = .ok (.getfield 55, 3) := by decide +kernel
theorem dX9_pass_66 : decode cX9_pass 66 = .ok (.iload_n 2, 1) := by decide +kernel
theorem dX9_pass_67 : decode cX9_pass 67 = .ok (.iaload, 1) := by decide +kernel
theorem dX9_pass_68 : decode cX9_pass 68 = .ok (.ifCond .lt 20, 3) := by decide +kernel
theorem dX9_pass_71 : decode cX9_pass 71 = .ok (.aload_n 0, 1) := by decide +kernel
theorem dX9_pass_72 : decode cX9_pass 72 = .ok (.getfield 119, 3) := by decide +kernel
theorem dX9_pass_75 : decode cX9_pass 75 = .ok (.aload_n 0, 1) := by decide +kernel
theorem dX9_pass_76 : decode cX9_pass 76 = .ok (.getfield 55, 3) := by decide +kernel
theorem dX9_pass_79 : decode cX9_pass 79 = .ok (.iload_n 2, 1) := by decide +kernel
theorem dX9_pass_80 : decode cX9_pass 80 = .ok (.iaload, 1) := by decide +kernel
theorem dX9_pass_81 : decode cX9_pass 81 = .ok (.if_icmp .lt 7, 3) := by decide +kernel
theorem dX9_pass_84 : decode cX9_pass 84 = .ok (.iconst 0, 1) := by decide +kernel
theorem dX9_pass_85 : decode cX9_pass 85 = .ok (.goto 9, 3) := by decide +kernel
theorem dX9_pass_88 : decode cX9_pass 88 = .ok (.aload_n 0, 1) := by decide +kernel
theorem dX9_pass_89 : decode cX9_pass 89 = .ok (.getfield 52, 3) := by decide +kernel
theorem dX9_pass_92 : decode cX9_pass 92 = .ok (.iload_n 2, 1) := by decide +kernel
theorem dX9_pass_93 : decode cX9_pass 93 = .ok (.iaload, 1) := by decide +kernel
theorem dX9_pass_94 : decode cX9_pass 94 = .ok (.iastore, 1) := by decide +kernel
theorem dX9_pass_95 : decode cX9_pass 95 = .ok (.iinc 2 1, 3) := by decide +kernel
theorem dX9_pass_98 : decode cX9_pass 98 = .ok (.goto (-61), 3) := by decide +kernel
theorem dX9_pass_101 : decode cX9_pass 101 = .ok (.aload_n 0, 1) := by decide +kernel
theorem dX9_pass_102 : decode cX9_pass 102 = .ok (.dup, 1) := by decide +kernel
theorem dX9_pass_103 : decode cX9_pass 103 = .ok (.getfield 88, 3) := by decide +kernel
theorem dX9_pass_106 : decode cX9_pass 106 = .ok (.iconst 1, 1) := by decide +kernel
theorem dX9_pass_107 : decode cX9_pass 107 = .ok (.iadd, 1) := by decide +kernel
theorem dX9_pass_108 : decode cX9_pass 108 = .ok (.putfield 88, 3) := by decide +kernel
theorem dX9_pass_111 : decode cX9_pass 111 = .ok (.aload_n 0, 1) := by decide +kernel
theorem dX9_pass_112 : decode cX9_pass 112 = .ok (.getfield 119, 3) := by decide +kernel
theorem dX9_pass_115 : decode cX9_pass 115 = .ok (.ireturn, 1) := by decide +kernel
set_option maxRecDepth 20000 in
theorem ggX9_ofRequest_X9_isRequest : GoodIn wsX9_ofRequest wsX9_isRequest := goodIn_r _ [7, 8, 9, 10, 11, 6, 12, 27, 28, 29, 30, 31, 32, 33, 34, 35, 36, 37, 38, 39, 40, 41, 42, 43, 44, 45, 46, 47, 48, 49, 50] (by decide +kernel) (by decide +kernel)
set_option maxRecDepth 20000 in
theorem gX9_ofRequest_X9_isRequest : GoodIn wsX9_ofRequest (wsV RX9 113 RX9 yX9_isRequest wsX9_isRequest) := goodIn_app (goodIn_of _ (by decide +kernel)) ggX9_ofRequest_X9_isRequest
set_option maxRecDepth 20000 in
theorem ggX9_ofRequest_X9_in : GoodIn wsX9_ofRequest wsX9_in := goodIn_r _ [12] (by decide +kernel) (by decide +kernel)
set_option maxRecDepth 20000 in
theorem gX9_ofRequest_X9_in : GoodIn wsX9_ofRequest (wsV RX9 74 RX9 yX9_in wsX9_in) := goodIn_app (goodIn_of _ (by decide +kernel)) ggX9_ofRequest_X9_in
set_option maxRecDepth 20000 in
theorem ggX9_ofRequest_X9_holds : GoodIn wsX9_ofRequest wsX9_holds := goodIn_r _ [16, 17, 27, 28, 29, 30, 31, 32, 33, 34, 35, 36, 37, 38, 39, 40, 41, 42, 43, 44, 45, 46, 47, 48, 49, 50] (by decide +kernel) (by decide +kernel)
set_option maxRecDepth 20000 in
theorem gX9_ofRequest_X9_holds : GoodIn wsX9_ofRequest (wsV RX9 85 RX9 yX9_holds wsX9_holds) := goodIn_app (goodIn_of _ (by decide +kernel)) ggX9_ofRequest_X9_holds
set_option maxRecDepth 20000 in
theorem ggX9_ofRequest_X9_approvals : GoodIn wsX9_ofRequest wsX9_approvals := goodIn_r _ [21, 22, 27, 28, 29, 30, 31, 32, 33, 34, 35, 36, 37, 38, 39, 40, 41, 42, 43, 44, 45, 46, 47, 48, 49, 50] (by decide +kernel) (by decide +kernel)
set_option maxRecDepth 20000 in
theorem gX9_ofRequest_X9_approvals : GoodIn wsX9_ofRequest (wsV RX9 128 RX9 yX9_approvals wsX9_approvals) := goodIn_app (goodIn_of _ (by decide +kernel)) ggX9_ofRequest_X9_approvals
set_option maxRecDepth 20000 in
theorem ggX9_ofRequest_X9_covered : GoodIn wsX9_ofRequest wsX9_covered := goodIn_r _ [26, 2, 18, 19, 20, 6, 21, 22, 27, 28, 29, 30, 31, 32, 33, 34, 35, 36, 37, 38, 39, 40, 41, 42, 43, 44, 45, 46, 47, 48, 49, 50] (by decide +kernel) (by decide +kernel)
set_option maxRecDepth 20000 in
theorem gX9_ofRequest_X9_covered : GoodIn wsX9_ofRequest (wsV RX9 131 RX9 yX9_covered wsX9_covered) := goodIn_app (goodIn_of _ (by decide +kernel)) ggX9_ofRequest_X9_covered
theorem dX9_ofRequest_0 : decode cX9_ofRequest 0 = .ok (.aload_n 0, 1) := by decide +kernel
theorem dX9_ofRequest_1 : decode cX9_ofRequest 1 = .ok (.aload_n 0, 1) := by decide +kernel
theorem dX9_ofRequest_2 : decode cX9_ofRequest 2 = .ok (.iload_n 1, 1) := by decide +kernel
theorem dX9_ofRequest_3 : decode cX9_ofRequest 3 = .ok (.invokevirtual 113, 3) := by decide +kernel
theorem dX9_ofRequest_6 : decode cX9_ofRequest 6 = .ok (.ifCond .ne 7, 3) := by decide +kernel
theorem dX9_ofRequest_9 : decode cX9_ofRequest 9 = .ok (.iconst 1, 1) := by decide +kernel
theorem dX9_ofRequest_10 : decode cX9_ofRequest 10 = .ok (.goto 18, 3) := by decide +kernel
theorem dX9_ofRequest_13 : decode cX9_ofRequest 13 = .ok (.aload_n 0, 1) := by decide +kernel
theorem dX9_ofRequest_14 : decode cX9_ofRequest 14 = .ok (.iload_n 2, 1) := by decide +kernel
theorem dX9_ofRequest_15 : decode cX9_ofRequest 15 = .ok (.iconst 0, 1) := by decide +kernel
theorem dX9_ofRequest_16 : decode cX9_ofRequest 16 = .ok (.iconst 3, 1) := by decide +kernel
theorem dX9_ofRequest_17 : decode cX9_ofRequest 17 = .ok (.invokevirtual 74, 3) := by decide +kernel
theorem dX9_ofRequest_20 : decode cX9_ofRequest 20 = .ok (.ifCond .eq 7, 3) := by decide +kernel
theorem dX9_ofRequest_23 : decode cX9_ofRequest 23 = .ok (.iconst 0, 1) := by decide +kernel
theorem dX9_ofRequest_24 : decode cX9_ofRequest 24 = .ok (.goto 4, 3) := by decide +kernel
theorem dX9_ofRequest_27 : decode cX9_ofRequest 27 = .ok (.iconst 2, 1) := by decide +kernel
theorem dX9_ofRequest_28 : decode cX9_ofRequest 28 = .ok (.invokevirtual 85, 3) := by decide +kernel
theorem dX9_ofRequest_31 : decode cX9_ofRequest 31 = .ok (.ifCond .eq 5, 3) := by decide +kernel
theorem dX9_ofRequest_34 : decode cX9_ofRequest 34 = .ok (.iconst (-1), 1) := by decide +kernel
theorem dX9_ofRequest_35 : decode cX9_ofRequest 35 = .ok (.ireturn, 1) := by decide +kernel
theorem dX9_ofRequest_36 : decode cX9_ofRequest 36 = .ok (.iload_n 2, 1) := by decide +kernel
theorem dX9_ofRequest_37 : decode cX9_ofRequest 37 = .ok (.ifCond .ne 12, 3) := by decide +kernel
theorem dX9_ofRequest_40 : decode cX9_ofRequest 40 = .ok (.aload_n 0, 1) := by decide +kernel
theorem dX9_ofRequest_41 : decode cX9_ofRequest 41 = .ok (.getfield 43, 3) := by decide +kernel
theorem dX9_ofRequest_44 : decode cX9_ofRequest 44 = .ok (.iload_n 1, 1) := by decide +kernel
theorem dX9_ofRequest_45 : decode cX9_ofRequest 45 = .ok (.iaload, 1) := by decide +kernel
theorem dX9_ofRequest_46 : decode cX9_ofRequest 46 = .ok (.goto 56, 3) := by decide +kernel
theorem dX9_ofRequest_49 : decode cX9_ofRequest 49 = .ok (.iload_n 2, 1) := by decide +kernel
theorem dX9_ofRequest_50 : decode cX9_ofRequest 50 = .ok (.iconst 1, 1) := by decide +kernel
theorem dX9_ofRequest_51 : decode cX9_ofRequest 51 = .ok (.if_icmp .ne 25, 3) := by decide +kernel
theorem dX9_ofRequest_54 : decode cX9_ofRequest 54 = .ok (.aload_n 0, 1) := by decide +kernel
theorem dX9_ofRequest_55 : decode cX9_ofRequest 55 = .ok (.getfield 43, 3) := by decide +kernel
theorem dX9_ofRequest_58 : decode cX9_ofRequest 58 = .ok (.iload_n 1, 1) := by decide +kernel
theorem dX9_ofRequest_59 : decode cX9_ofRequest 59 = .ok (.iaload, 1) := by decide +kernel
theorem dX9_ofRequest_60 : decode cX9_ofRequest 60 = .ok (.ifCond .ne 7, 3) := by decide +kernel
theorem dX9_ofRequest_63 : decode cX9_ofRequest 63 = .ok (.iconst (-1), 1) := by decide +kernel
theorem dX9_ofRequest_64 : decode cX9_ofRequest 64 = .ok (.goto 38, 3) := by decide +kernel
theorem dX9_ofRequest_67 : decode cX9_ofRequest 67 = .ok (.aload_n 0, 1) := by decide +kernel
theorem dX9_ofRequest_68 : decode cX9_ofRequest 68 = .ok (.getfield 46, 3) := by decide +kernel
theorem dX9_ofRequest_71 : decode cX9_ofRequest 71 = .ok (.iload_n 1, 1) := by decide +kernel
theorem dX9_ofRequest_72 : decode cX9_ofRequest 72 = .ok (.iaload, 1) := by decide +kernel
theorem dX9_ofRequest_73 : decode cX9_ofRequest 73 = .ok (.goto 29, 3) := by decide +kernel
theorem dX9_ofRequest_76 : decode cX9_ofRequest 76 = .ok (.iload_n 2, 1) := by decide +kernel
theorem dX9_ofRequest_77 : decode cX9_ofRequest 77 = .ok (.iconst 2, 1) := by decide +kernel
theorem dX9_ofRequest_78 : decode cX9_ofRequest 78 = .ok (.if_icmp .ne 11, 3) := by decide +kernel
theorem dX9_ofRequest_81 : decode cX9_ofRequest 81 = .ok (.aload_n 0, 1) := by decide +kernel
theorem dX9_ofRequest_82 : decode cX9_ofRequest 82 = .ok (.iload_n 1, 1) := by decide +kernel
theorem dX9_ofRequest_83 : decode cX9_ofRequest 83 = .ok (.invokevirtual 128, 3) := by decide +kernel
theorem dX9_ofRequest_86 : decode cX9_ofRequest 86 = .ok (.goto 16, 3) := by decide +kernel
theorem dX9_ofRequest_89 : decode cX9_ofRequest 89 = .ok (.aload_n 0, 1) := by decide +kernel
theorem dX9_ofRequest_90 : decode cX9_ofRequest 90 = .ok (.iload_n 1, 1) := by decide +kernel
theorem dX9_ofRequest_91 : decode cX9_ofRequest 91 = .ok (.invokevirtual 131, 3) := by decide +kernel
theorem dX9_ofRequest_94 : decode cX9_ofRequest 94 = .ok (.ifCond .eq 7, 3) := by decide +kernel
theorem dX9_ofRequest_97 : decode cX9_ofRequest 97 = .ok (.iconst 1, 1) := by decide +kernel
theorem dX9_ofRequest_98 : decode cX9_ofRequest 98 = .ok (.goto 4, 3) := by decide +kernel
theorem dX9_ofRequest_101 : decode cX9_ofRequest 101 = .ok (.iconst 0, 1) := by decide +kernel
theorem dX9_ofRequest_102 : decode cX9_ofRequest 102 = .ok (.ireturn, 1) := by decide +kernel
set_option maxRecDepth 20000 in
theorem ggX9_isCoveredAnew_X9_isRequest : GoodIn wsX9_isCoveredAnew wsX9_isRequest := goodIn_r _ [5, 6, 7, 8, 9, 4, 10, 26, 27, 28, 29, 30, 31, 32, 33, 34, 35, 36, 37, 38, 39, 40, 41, 42, 43, 44, 45, 46, 47, 48, 49] (by decide +kernel) (by decide +kernel)
set_option maxRecDepth 20000 in
theorem gX9_isCoveredAnew_X9_isRequest : GoodIn wsX9_isCoveredAnew (wsV RX9 113 RX9 yX9_isRequest wsX9_isRequest) := goodIn_app (goodIn_of _ (by decide +kernel)) ggX9_isCoveredAnew_X9_isRequest
set_option maxRecDepth 20000 in
theorem ggX9_isCoveredAnew_X9_holds : GoodIn wsX9_isCoveredAnew wsX9_holds := goodIn_r _ [14, 15, 26, 27, 28, 29, 30, 31, 32, 33, 34, 35, 36, 37, 38, 39, 40, 41, 42, 43, 44, 45, 46, 47, 48, 49] (by decide +kernel) (by decide +kernel)
set_option maxRecDepth 20000 in
theorem gX9_isCoveredAnew_X9_holds : GoodIn wsX9_isCoveredAnew (wsV RX9 85 RX9 yX9_holds wsX9_holds) := goodIn_app (goodIn_of _ (by decide +kernel)) ggX9_isCoveredAnew_X9_holds
set_option maxRecDepth 20000 in
theorem ggX9_isCoveredAnew_X9_covered : GoodIn wsX9_isCoveredAnew wsX9_covered := goodIn_r _ [19, 20, 21, 22, 23, 4, 24, 25, 26, 27, 28, 29, 30, 31, 32, 33, 34, 35, 36, 37, 38, 39, 40, 41, 42, 43, 44, 45, 46, 47, 48, 49] (by decide +kernel) (by decide +kernel)
set_option maxRecDepth 20000 in
theorem gX9_isCoveredAnew_X9_covered : GoodIn wsX9_isCoveredAnew (wsV RX9 131 RX9 yX9_covered wsX9_covered) := goodIn_app (goodIn_of _ (by decide +kernel)) ggX9_isCoveredAnew_X9_covered
theorem dX9_isCoveredAnew_0 : decode cX9_isCoveredAnew 0 = .ok (.aload_n 0, 1) := by decide +kernel
theorem dX9_isCoveredAnew_1 : decode cX9_isCoveredAnew 1 = .ok (.aload_n 0, 1) := by decide +kernel
theorem dX9_isCoveredAnew_2 : decode cX9_isCoveredAnew 2 = .ok (.iload_n 1, 1) := by decide +kernel
theorem dX9_isCoveredAnew_3 : decode cX9_isCoveredAnew 3 = .ok (.invokevirtual 113, 3) := by decide +kernel
theorem dX9_isCoveredAnew_6 : decode cX9_isCoveredAnew 6 = .ok (.ifCond .eq 7, 3) := by decide +kernel
theorem dX9_isCoveredAnew_9 : decode cX9_isCoveredAnew 9 = .ok (.iconst 0, 1) := by decide +kernel
theorem dX9_isCoveredAnew_10 : decode cX9_isCoveredAnew 10 = .ok (.goto 4, 3) := by decide +kernel
theorem dX9_isCoveredAnew_13 : decode cX9_isCoveredAnew 13 = .ok (.iconst 1, 1) := by decide +kernel
theorem dX9_isCoveredAnew_14 : decode cX9_isCoveredAnew 14 = .ok (.invokevirtual 85, 3) := by decide +kernel
theorem dX9_isCoveredAnew_17 : decode cX9_isCoveredAnew 17 = .ok (.ifCond .ne 15, 3) := by decide +kernel
theorem dX9_isCoveredAnew_20 : decode cX9_isCoveredAnew 20 = .ok (.aload_n 0, 1) := by decide +kernel
theorem dX9_isCoveredAnew_21 : decode cX9_isCoveredAnew 21 = .ok (.iload_n 1, 1) := by decide +kernel
theorem dX9_isCoveredAnew_22 : decode cX9_isCoveredAnew 22 = .ok (.invokevirtual 131, 3) := by decide +kernel
theorem dX9_isCoveredAnew_25 : decode cX9_isCoveredAnew 25 = .ok (.ifCond .eq 7, 3) := by decide +kernel
theorem dX9_isCoveredAnew_28 : decode cX9_isCoveredAnew 28 = .ok (.iconst 1, 1) := by decide +kernel
theorem dX9_isCoveredAnew_29 : decode cX9_isCoveredAnew 29 = .ok (.goto 4, 3) := by decide +kernel
theorem dX9_isCoveredAnew_32 : decode cX9_isCoveredAnew 32 = .ok (.iconst 0, 1) := by decide +kernel
theorem dX9_isCoveredAnew_33 : decode cX9_isCoveredAnew 33 = .ok (.ireturn, 1) := by decide +kernel
set_option maxRecDepth 20000 in
theorem ggX9_strain_X9_isRequest : GoodIn wsX9_strain wsX9_isRequest := goodIn_r _ [10, 11, 12, 13, 14, 9, 15, 27, 28, 29, 30, 31, 32, 33, 34, 35, 36, 37, 38, 39, 40, 41, 42, 43, 44, 45, 46, 47, 48, 49, 50] (by decide +kernel) (by decide +kernel)
set_option maxRecDepth 20000 in
theorem gX9_strain_X9_isRequest : GoodIn wsX9_strain (wsV RX9 113 RX9 yX9_isRequest wsX9_isRequest) := goodIn_app (goodIn_of _ (by decide +kernel)) ggX9_strain_X9_isRequest
set_option maxRecDepth 20000 in
theorem ggX9_strain_X9_holds : GoodIn wsX9_strain wsX9_holds := goodIn_r _ [19, 20, 27, 28, 29, 30, 31, 32, 33, 34, 35, 36, 37, 38, 39, 40, 41, 42, 43, 44, 45, 46, 47, 48, 49, 50] (by decide +kernel) (by decide +kernel)
set_option maxRecDepth 20000 in
theorem gX9_strain_X9_holds : GoodIn wsX9_strain (wsV RX9 85 RX9 yX9_holds wsX9_holds) := goodIn_app (goodIn_of _ (by decide +kernel)) ggX9_strain_X9_holds
set_option maxRecDepth 20000 in
theorem ggX9_strain_X9_isAway : GoodIn wsX9_strain wsX9_isAway := goodIn_r _ [24, 25, 26, 27, 28, 29, 30, 31, 32, 33, 34, 35, 36, 37, 38, 39, 40, 41, 42, 43, 44, 45, 46, 47, 48, 49, 50] (by decide +kernel) (by decide +kernel)
set_option maxRecDepth 20000 in
theorem gX9_strain_X9_isAway : GoodIn wsX9_strain (wsV RX9 122 RX9 yX9_isAway wsX9_isAway) := goodIn_app (goodIn_of _ (by decide +kernel)) ggX9_strain_X9_isAway
theorem dX9_strain_0 : decode cX9_strain 0 = .ok (.aload_n 0, 1) := by decide +kernel
theorem dX9_strain_1 : decode cX9_strain 1 = .ok (.aload_n 0, 1) := by decide +kernel
theorem dX9_strain_2 : decode cX9_strain 2 = .ok (.iload_n 1, 1) := by decide +kernel
theorem dX9_strain_3 : decode cX9_strain 3 = .ok (.invokevirtual 113, 3) := by decide +kernel
theorem dX9_strain_6 : decode cX9_strain 6 = .ok (.ifCond .eq 7, 3) := by decide +kernel
theorem dX9_strain_9 : decode cX9_strain 9 = .ok (.iconst 0, 1) := by decide +kernel
theorem dX9_strain_10 : decode cX9_strain 10 = .ok (.goto 4, 3) := by decide +kernel
theorem dX9_strain_13 : decode cX9_strain 13 = .ok (.iconst 1, 1) := by decide +kernel
theorem dX9_strain_14 : decode cX9_strain 14 = .ok (.invokevirtual 85, 3) := by decide +kernel
theorem dX9_strain_17 : decode cX9_strain 17 = .ok (.ifCond .ne 12, 3) := by decide +kernel
theorem dX9_strain_20 : decode cX9_strain 20 = .ok (.aload_n 0, 1) := by decide +kernel
theorem dX9_strain_21 : decode cX9_strain 21 = .ok (.getfield 43, 3) := by decide +kernel
theorem dX9_strain_24 : decode cX9_strain 24 = .ok (.iload_n 1, 1) := by decide +kernel
theorem dX9_strain_25 : decode cX9_strain 25 = .ok (.iaload, 1) := by decide +kernel
theorem dX9_strain_26 : decode cX9_strain 26 = .ok (.ifCond .ne 6, 3) := by decide +kernel
theorem dX9_strain_29 : decode cX9_strain 29 = .ok (.ldc 134, 2) := by decide +kernel
theorem dX9_strain_31 : decode cX9_strain 31 = .ok (.freturn, 1) := by decide +kernel
theorem dX9_strain_32 : decode cX9_strain 32 = .ok (.iconst (-1), 1) := by decide +kernel
theorem dX9_strain_33 : decode cX9_strain 33 = .ok (.istore_n 2, 1) := by decide +kernel
theorem dX9_strain_34 : decode cX9_strain 34 = .ok (.iconst 0, 1) := by decide +kernel
theorem dX9_strain_35 : decode cX9_strain 35 = .ok (.istore_n 3, 1) := by decide +kernel
theorem dX9_strain_36 : decode cX9_strain 36 = .ok (.iload_n 3, 1) := by decide +kernel
theorem dX9_strain_37 : decode cX9_strain 37 = .ok (.bipush 8, 2) := by decide +kernel
theorem dX9_strain_39 : decode cX9_strain 39 = .ok (.if_icmp .ge 75, 3) := by decide +kernel
theorem dX9_strain_42 : decode cX9_strain 42 = .ok (.iload_n 3, 1) := by decide +kernel
theorem dX9_strain_43 : decode cX9_strain 43 = .ok (.aload_n 0, 1) := by decide +kernel
theorem dX9_strain_44 : decode cX9_strain 44 = .ok (.getfield 34, 3) := by decide +kernel
theorem dX9_strain_47 : decode cX9_strain 47 = .ok (.iload_n 1, 1) := by decide +kernel
theorem dX9_strain_48 : decode cX9_strain 48 = .ok (.iaload, 1) := by decide +kernel
theorem dX9_strain_49 : decode cX9_strain 49 = .ok (.if_icmp .eq 30, 3) := by decide +kernel
theorem dX9_strain_52 : decode cX9_strain 52 = .ok (.aload_n 0, 1) := by decide +kernel
theorem dX9_strain_53 : decode cX9_strain 53 = .ok (.iload_n 3, 1) := by decide +kernel
theorem dX9_strain_54 : decode cX9_strain 54 = .ok (.invokevirtual 122, 3) := by decide +kernel
theorem dX9_strain_57 : decode cX9_strain 57 = .ok (.ifCond .ne 22, 3) := by decide +kernel
theorem dX9_strain_60 : decode cX9_strain 60 = .ok (.aload_n 0, 1) := by decide +kernel
theorem dX9_strain_61 : decode cX9_strain 61 = .ok (.getfield 25, 3) := by decide +kernel
theorem dX9_strain_64 : decode cX9_strain 64 = .ok (.iload_n 3, 1) := by decide +kernel
theorem dX9_strain_65 : decode cX9_strain 65 = .ok (.iaload, 1) := by decide +kernel
theorem dX9_strain_66 : decode cX9_strain 66 = .ok (.aload_n 0, 1) := by decide +kernel
theorem dX9_strain_67 : decode cX9_strain 67 = .ok (.getfield 46, 3) := by decide +kernel
theorem dX9_strain_70 : decode cX9_strain 70 = .ok (.iload_n 1, 1) := by decide +kernel
theorem dX9_strain_71 : decode cX9_strain 71 = .ok (.iaload, 1) := by decide +kernel
theorem dX9_strain_72 : decode cX9_strain 72 = .ok (.if_icmp .lt 7, 3) := by decide +kernel
theorem dX9_strain_75 : decode cX9_strain 75 = .ok (.iconst 1, 1) := by decide +kernel
theorem dX9_strain_76 : decode cX9_strain 76 = .ok (.goto 4, 3) := by decide +kernel
theorem dX9_strain_79 : decode cX9_strain 79 = .ok (.iconst 0, 1) := by decide +kernel
theorem dX9_strain_80 : decode cX9_strain 80 = .ok (.istore 4, 2) := by decide +kernel
theorem dX9_strain_82 : decode cX9_strain 82 = .ok (.iload 4, 2) := by decide +kernel
theorem dX9_strain_84 : decode cX9_strain 84 = .ok (.ifCond .eq 22, 3) := by decide +kernel
theorem dX9_strain_87 : decode cX9_strain 87 = .ok (.aload_n 0, 1) := by decide +kernel
theorem dX9_strain_88 : decode cX9_strain 88 = .ok (.getfield 25, 3) := by decide +kernel
theorem dX9_strain_91 : decode cX9_strain 91 = .ok (.iload_n 3, 1) := by decide +kernel
theorem dX9_strain_92 : decode cX9_strain 92 = .ok (.iaload, 1) := by decide +kernel
theorem dX9_strain_93 : decode cX9_strain 93 = .ok (.iload_n 2, 1) := by decide +kernel
theorem dX9_strain_94 : decode cX9_strain 94 = .ok (.if_icmp .le 12, 3) := by decide +kernel
theorem dX9_strain_97 : decode cX9_strain 97 = .ok (.aload_n 0, 1) := by decide +kernel
theorem dX9_strain_98 : decode cX9_strain 98 = .ok (.getfield 25, 3) := by decide +kernel
theorem dX9_strain_101 : decode cX9_strain 101 = .ok (.iload_n 3, 1) := by decide +kernel
theorem dX9_strain_102 : decode cX9_strain 102 = .ok (.iaload, 1) := by decide +kernel
theorem dX9_strain_103 : decode cX9_strain 103 = .ok (.goto 4, 3) := by decide +kernel
theorem dX9_strain_106 : decode cX9_strain 106 = .ok (.iload_n 2, 1) := by decide +kernel
theorem dX9_strain_107 : decode cX9_strain 107 = .ok (.istore_n 2, 1) := by decide +kernel
theorem dX9_strain_108 : decode cX9_strain 108 = .ok (.iinc 3 1, 3) := by decide +kernel
theorem dX9_strain_111 : decode cX9_strain 111 = .ok (.goto (-75), 3) := by decide +kernel
theorem dX9_strain_114 : decode cX9_strain 114 = .ok (.iload_n 2, 1) := by decide +kernel
theorem dX9_strain_115 : decode cX9_strain 115 = .ok (.ifCond .ge 8, 3) := by decide +kernel
theorem dX9_strain_118 : decode cX9_strain 118 = .ok (.ldc 134, 2) := by decide +kernel
theorem dX9_strain_120 : decode cX9_strain 120 = .ok (.goto 21, 3) := by decide +kernel
theorem dX9_strain_123 : decode cX9_strain 123 = .ok (.iload_n 2, 1) := by decide +kernel
theorem dX9_strain_124 : decode cX9_strain 124 = .ok (.ifCond .ne 7, 3) := by decide +kernel
theorem dX9_strain_127 : decode cX9_strain 127 = .ok (.fconst 0, 1) := by decide +kernel
theorem dX9_strain_128 : decode cX9_strain 128 = .ok (.goto 13, 3) := by decide +kernel
theorem dX9_strain_131 : decode cX9_strain 131 = .ok (.aload_n 0, 1) := by decide +kernel
theorem dX9_strain_132 : decode cX9_strain 132 = .ok (.getfield 46, 3) := by decide +kernel
theorem dX9_strain_135 : decode cX9_strain 135 = .ok (.iload_n 1, 1) := by decide +kernel
theorem dX9_strain_136 : decode cX9_strain 136 = .ok (.iaload, 1) := by decide +kernel
theorem dX9_strain_137 : decode cX9_strain 137 = .ok (.i2f, 1) := by decide +kernel
theorem dX9_strain_138 : decode cX9_strain 138 = .ok (.iload_n 2, 1) := by decide +kernel
theorem dX9_strain_139 : decode cX9_strain 139 = .ok (.i2f, 1) := by decide +kernel
theorem dX9_strain_140 : decode cX9_strain 140 = .ok (.fdiv, 1) := by decide +kernel
theorem dX9_strain_141 : decode cX9_strain 141 = .ok (.freturn, 1) := by decide +kernel
set_option maxRecDepth 20000 in
theorem ggX9_entries_X9_holds : GoodIn wsX9_entries wsX9_holds := goodIn_r _ [6, 7, 8, 9, 10, 11, 12, 13, 14, 15, 16, 17, 18, 19, 20, 21, 22, 23, 24, 25, 26, 27, 28, 29, 30, 31] (by decide +kernel) (by decide +kernel)
set_option maxRecDepth 20000 in
theorem gX9_entries_X9_holds : GoodIn wsX9_entries (wsV RX9 85 RX9 yX9_holds wsX9_holds) := goodIn_app (goodIn_of _ (by decide +kernel)) ggX9_entries_X9_holds
theorem dX9_entries_0 : decode cX9_entries 0 = .ok (.aload_n 0, 1) := by decide +kernel
theorem dX9_entries_1 : decode cX9_entries 1 = .ok (.iconst 0, 1) := by decide +kernel
theorem dX9_entries_2 : decode cX9_entries 2 = .ok (.invokevirtual 85, 3) := by decide +kernel
theorem dX9_entries_5 : decode cX9_entries 5 = .ok (.pop, 1) := by decide +kernel
theorem dX9_entries_6 : decode cX9_entries 6 = .ok (.aload_n 0, 1) := by decide +kernel
theorem dX9_entries_7 : decode cX9_entries 7 = .ok (.getfield 88, 3) := by decide +kernel
theorem dX9_entries_10 : decode cX9_entries 10 = .ok (.ireturn, 1) := by decide +kernel
