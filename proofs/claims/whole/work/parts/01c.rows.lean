theorem dX2_goesOn_108 : decode cX2_goesOn 108 = .ok (.iload_n 1, 1) := by decide +kernel
theorem dX2_goesOn_109 : decode cX2_goesOn 109 = .ok (.bipush 59, 2) := by decide +kernel
theorem dX2_goesOn_111 : decode cX2_goesOn 111 = .ok (.if_icmp .ne 7, 3) := by decide +kernel
theorem dX2_goesOn_114 : decode cX2_goesOn 114 = .ok (.iconst 1, 1) := by decide +kernel
theorem dX2_goesOn_115 : decode cX2_goesOn 115 = .ok (.goto 4, 3) := by decide +kernel
theorem dX2_goesOn_118 : decode cX2_goesOn 118 = .ok (.iconst 0, 1) := by decide +kernel
theorem dX2_goesOn_119 : decode cX2_goesOn 119 = .ok (.ireturn, 1) := by decide +kernel
theorem dX2_goesOn_120 : decode cX2_goesOn 120 = .ok (.iload_n 1, 1) := by decide +kernel
theorem dX2_goesOn_121 : decode cX2_goesOn 121 = .ok (.invokestatic 25, 3) := by decide +kernel
theorem dX2_goesOn_124 : decode cX2_goesOn 124 = .ok (.bipush (-9), 2) := by decide +kernel
theorem dX2_goesOn_126 : decode cX2_goesOn 126 = .ok (.if_icmp .eq 7, 3) := by decide +kernel
theorem dX2_goesOn_129 : decode cX2_goesOn 129 = .ok (.iconst 1, 1) := by decide +kernel
theorem dX2_goesOn_130 : decode cX2_goesOn 130 = .ok (.goto 4, 3) := by decide +kernel
theorem dX2_goesOn_133 : decode cX2_goesOn 133 = .ok (.iconst 0, 1) := by decide +kernel
theorem dX2_goesOn_134 : decode cX2_goesOn 134 = .ok (.ireturn, 1) := by decide +kernel
theorem dX2_goesOn_135 : decode cX2_goesOn 135 = .ok (.iload_n 1, 1) := by decide +kernel
theorem dX2_goesOn_136 : decode cX2_goesOn 136 = .ok (.bipush 48, 2) := by decide +kernel
theorem dX2_goesOn_138 : decode cX2_goesOn 138 = .ok (.isub, 1) := by decide +kernel
theorem dX2_goesOn_139 : decode cX2_goesOn 139 = .ok (.iload_n 2, 1) := by decide +kernel
theorem dX2_goesOn_140 : decode cX2_goesOn 140 = .ok (.iconst 1, 1) := by decide +kernel
theorem dX2_goesOn_141 : decode cX2_goesOn 141 = .ok (.isub, 1) := by decide +kernel
theorem dX2_goesOn_142 : decode cX2_goesOn 142 = .ok (.invokestatic 21, 3) := by decide +kernel
theorem dX2_goesOn_145 : decode cX2_goesOn 145 = .ok (.ireturn, 1) := by decide +kernel
theorem dX2_goesOn_146 : decode cX2_goesOn 146 = .ok (.iload_n 1, 1) := by decide +kernel
theorem dX2_goesOn_147 : decode cX2_goesOn 147 = .ok (.bipush 48, 2) := by decide +kernel
theorem dX2_goesOn_149 : decode cX2_goesOn 149 = .ok (.isub, 1) := by decide +kernel
theorem dX2_goesOn_150 : decode cX2_goesOn 150 = .ok (.iload_n 3, 1) := by decide +kernel
theorem dX2_goesOn_151 : decode cX2_goesOn 151 = .ok (.iconst 1, 1) := by decide +kernel
theorem dX2_goesOn_152 : decode cX2_goesOn 152 = .ok (.isub, 1) := by decide +kernel
theorem dX2_goesOn_153 : decode cX2_goesOn 153 = .ok (.invokestatic 21, 3) := by decide +kernel
theorem dX2_goesOn_156 : decode cX2_goesOn 156 = .ok (.ireturn, 1) := by decide +kernel
theorem dX2_goesOn_157 : decode cX2_goesOn 157 = .ok (.iload_n 1, 1) := by decide +kernel
theorem dX2_goesOn_158 : decode cX2_goesOn 158 = .ok (.bipush 48, 2) := by decide +kernel
theorem dX2_goesOn_160 : decode cX2_goesOn 160 = .ok (.isub, 1) := by decide +kernel
theorem dX2_goesOn_161 : decode cX2_goesOn 161 = .ok (.bipush 9, 2) := by decide +kernel
theorem dX2_goesOn_163 : decode cX2_goesOn 163 = .ok (.invokestatic 21, 3) := by decide +kernel
theorem dX2_goesOn_166 : decode cX2_goesOn 166 = .ok (.ireturn, 1) := by decide +kernel
theorem dX2_kindOf_0 : decode cX2_kindOf 0 = .ok (.iload_n 0, 1) := by decide +kernel
theorem dX2_kindOf_1 : decode cX2_kindOf 1 = .ok (.lookupswitch 41 #[(103, 35), (104, 37), (109, 39)], 35) := by decide +kernel
theorem dX2_kindOf_36 : decode cX2_kindOf 36 = .ok (.iconst 0, 1) := by decide +kernel
theorem dX2_kindOf_37 : decode cX2_kindOf 37 = .ok (.ireturn, 1) := by decide +kernel
theorem dX2_kindOf_38 : decode cX2_kindOf 38 = .ok (.iconst 1, 1) := by decide +kernel
theorem dX2_kindOf_39 : decode cX2_kindOf 39 = .ok (.ireturn, 1) := by decide +kernel
theorem dX2_kindOf_40 : decode cX2_kindOf 40 = .ok (.iconst 2, 1) := by decide +kernel
theorem dX2_kindOf_41 : decode cX2_kindOf 41 = .ok (.ireturn, 1) := by decide +kernel
theorem dX2_kindOf_42 : decode cX2_kindOf 42 = .ok (.bipush (-9), 2) := by decide +kernel
theorem dX2_kindOf_44 : decode cX2_kindOf 44 = .ok (.ireturn, 1) := by decide +kernel
theorem dX3_init_0 : decode cX3_init 0 = .ok (.aload_n 0, 1) := by decide +kernel
theorem dX3_init_1 : decode cX3_init 1 = .ok (.invokespecial 3, 3) := by decide +kernel
theorem dX3_init_4 : decode cX3_init 4 = .ok (.aload_n 0, 1) := by decide +kernel
theorem dX3_init_5 : decode cX3_init 5 = .ok (.bipush 36, 2) := by decide +kernel
theorem dX3_init_7 : decode cX3_init 7 = .ok (.newarray .int, 2) := by decide +kernel
theorem dX3_init_9 : decode cX3_init 9 = .ok (.putfield 9, 3) := by decide +kernel
theorem dX3_init_12 : decode cX3_init 12 = .ok (.aload_n 0, 1) := by decide +kernel
theorem dX3_init_13 : decode cX3_init 13 = .ok (.bipush 36, 2) := by decide +kernel
theorem dX3_init_15 : decode cX3_init 15 = .ok (.newarray .int, 2) := by decide +kernel
theorem dX3_init_17 : decode cX3_init 17 = .ok (.putfield 15, 3) := by decide +kernel
theorem dX3_init_20 : decode cX3_init 20 = .ok (.aload_n 0, 1) := by decide +kernel
theorem dX3_init_21 : decode cX3_init 21 = .ok (.bipush 36, 2) := by decide +kernel
theorem dX3_init_23 : decode cX3_init 23 = .ok (.newarray .int, 2) := by decide +kernel
theorem dX3_init_25 : decode cX3_init 25 = .ok (.putfield 18, 3) := by decide +kernel
theorem dX3_init_28 : decode cX3_init 28 = .ok (.aload_n 0, 1) := by decide +kernel
theorem dX3_init_29 : decode cX3_init 29 = .ok (.iconst 0, 1) := by decide +kernel
theorem dX3_init_30 : decode cX3_init 30 = .ok (.putfield 21, 3) := by decide +kernel
theorem dX3_init_33 : decode cX3_init 33 = .ok (.aload_n 0, 1) := by decide +kernel
theorem dX3_init_34 : decode cX3_init 34 = .ok (.iconst 0, 1) := by decide +kernel
theorem dX3_init_35 : decode cX3_init 35 = .ok (.putfield 25, 3) := by decide +kernel
theorem dX3_init_38 : decode cX3_init 38 = .ok (.return_, 1) := by decide +kernel
set_option maxRecDepth 20000 in
theorem ggX3_find_X4_isIn : GoodIn wsX3_find wsX4_isIn := goodIn_r _ [6] (by decide +kernel) (by decide +kernel)
set_option maxRecDepth 20000 in
theorem gX3_find_X4_isIn_n28 : GoodIn wsX3_find (wsX4_isIn) := ggX3_find_X4_isIn
set_option maxRecDepth 20000 in
theorem ggX3_find_X3_price : GoodIn wsX3_find wsX3_price := goodIn_r _ [11, 12, 13, 14, 15, 16, 17, 18, 19, 20, 21, 4, 5, 6, 62, 63, 64, 65, 66, 67, 68, 69, 70, 71, 72, 73, 74, 75, 57, 58, 59, 60, 61] (by decide +kernel) (by decide +kernel)
set_option maxRecDepth 20000 in
theorem gX3_find_X3_price : GoodIn wsX3_find (wsV RX3 32 RX3 yX3_price wsX3_price) := goodIn_app (goodIn_of _ (by decide +kernel)) ggX3_find_X3_price
set_option maxRecDepth 20000 in
theorem ggX3_find_X3_spread : GoodIn wsX3_find wsX3_spread := goodIn_r _ [25, 2, 26, 13, 12, 27, 28, 29, 30, 31, 32, 33, 10, 34, 4, 5, 6, 35, 36, 37, 18, 38, 39, 40, 41, 42, 57, 58, 59, 60, 61, 62, 63, 64, 65, 66, 67, 68, 69, 70, 71, 72, 73, 74, 75] (by decide +kernel) (by decide +kernel)
set_option maxRecDepth 20000 in
theorem gX3_find_X3_spread : GoodIn wsX3_find (wsV RX3 36 RX3 yX3_spread wsX3_spread) := goodIn_app (goodIn_of _ (by decide +kernel)) ggX3_find_X3_spread
set_option maxRecDepth 20000 in
theorem ggX3_find_X3_bestFirst : GoodIn wsX3_find wsX3_bestFirst := goodIn_r _ [46, 26, 12, 47, 2, 62, 63, 64, 65, 66, 67, 68, 69, 70, 71, 72, 73, 74, 75, 57, 58, 59, 60, 61] (by decide +kernel) (by decide +kernel)
set_option maxRecDepth 20000 in
theorem gX3_find_X3_bestFirst : GoodIn wsX3_find (wsV RX3 40 RX3 yX3_bestFirst wsX3_bestFirst) := goodIn_app (goodIn_of _ (by decide +kernel)) ggX3_find_X3_bestFirst
set_option maxRecDepth 20000 in
theorem ggX3_find_X3_follow : GoodIn wsX3_find wsX3_follow := goodIn_r _ [51, 12, 52, 1, 53, 54, 55, 10, 56, 2, 13, 35, 36, 37, 18, 38, 39, 40, 41, 42, 62, 63, 64, 65, 66, 67, 68, 69, 70, 71, 72, 73, 74, 75, 57, 58, 59, 60, 61] (by decide +kernel) (by decide +kernel)
set_option maxRecDepth 20000 in
theorem gX3_find_X3_follow : GoodIn wsX3_find (wsV RX3 44 RX3 yX3_follow wsX3_follow) := goodIn_app (goodIn_of _ (by decide +kernel)) ggX3_find_X3_follow
theorem dX3_find_0 : decode cX3_find 0 = .ok (.aload_n 0, 1) := by decide +kernel
theorem dX3_find_1 : decode cX3_find 1 = .ok (.iconst 0, 1) := by decide +kernel
theorem dX3_find_2 : decode cX3_find 2 = .ok (.putfield 21, 3) := by decide +kernel
theorem dX3_find_5 : decode cX3_find 5 = .ok (.iload 6, 2) := by decide +kernel
theorem dX3_find_7 : decode cX3_find 7 = .ok (.lload_n 2, 1) := by decide +kernel
theorem dX3_find_8 : decode cX3_find 8 = .ok (.invokestatic 28, 3) := by decide +kernel
theorem dX3_find_11 : decode cX3_find 11 = .ok (.ifCond .ne 4, 3) := by decide +kernel
theorem dX3_find_14 : decode cX3_find 14 = .ok (.return_, 1) := by decide +kernel
theorem dX3_find_15 : decode cX3_find 15 = .ok (.aload_n 0, 1) := by decide +kernel
theorem dX3_find_16 : decode cX3_find 16 = .ok (.aload_n 1, 1) := by decide +kernel
theorem dX3_find_17 : decode cX3_find 17 = .ok (.lload 4, 2) := by decide +kernel
theorem dX3_find_19 : decode cX3_find 19 = .ok (.invokevirtual 32, 3) := by decide +kernel
theorem dX3_find_22 : decode cX3_find 22 = .ok (.aload_n 0, 1) := by decide +kernel
theorem dX3_find_23 : decode cX3_find 23 = .ok (.aload_n 1, 1) := by decide +kernel
theorem dX3_find_24 : decode cX3_find 24 = .ok (.lload_n 2, 1) := by decide +kernel
theorem dX3_find_25 : decode cX3_find 25 = .ok (.iload 6, 2) := by decide +kernel
theorem dX3_find_27 : decode cX3_find 27 = .ok (.invokevirtual 36, 3) := by decide +kernel
theorem dX3_find_30 : decode cX3_find 30 = .ok (.aload_n 0, 1) := by decide +kernel
theorem dX3_find_31 : decode cX3_find 31 = .ok (.aload_n 1, 1) := by decide +kernel
theorem dX3_find_32 : decode cX3_find 32 = .ok (.invokevirtual 40, 3) := by decide +kernel
theorem dX3_find_35 : decode cX3_find 35 = .ok (.istore 7, 2) := by decide +kernel
theorem dX3_find_37 : decode cX3_find 37 = .ok (.iload 7, 2) := by decide +kernel
theorem dX3_find_39 : decode cX3_find 39 = .ok (.bipush (-9), 2) := by decide +kernel
theorem dX3_find_41 : decode cX3_find 41 = .ok (.if_icmp .eq 21, 3) := by decide +kernel
theorem dX3_find_44 : decode cX3_find 44 = .ok (.aload_n 0, 1) := by decide +kernel
theorem dX3_find_45 : decode cX3_find 45 = .ok (.aload_n 0, 1) := by decide +kernel
theorem dX3_find_46 : decode cX3_find 46 = .ok (.getfield 15, 3) := by decide +kernel
theorem dX3_find_49 : decode cX3_find 49 = .ok (.iload 7, 2) := by decide +kernel
theorem dX3_find_51 : decode cX3_find 51 = .ok (.iaload, 1) := by decide +kernel
theorem dX3_find_52 : decode cX3_find 52 = .ok (.putfield 25, 3) := by decide +kernel
theorem dX3_find_55 : decode cX3_find 55 = .ok (.aload_n 0, 1) := by decide +kernel
theorem dX3_find_56 : decode cX3_find 56 = .ok (.aload_n 1, 1) := by decide +kernel
theorem dX3_find_57 : decode cX3_find 57 = .ok (.iload 7, 2) := by decide +kernel
theorem dX3_find_59 : decode cX3_find 59 = .ok (.invokevirtual 44, 3) := by decide +kernel
theorem dX3_find_62 : decode cX3_find 62 = .ok (.return_, 1) := by decide +kernel
set_option maxRecDepth 20000 in
theorem ggX3_price_X0_nightsOf : GoodIn wsX3_price wsX0_nightsOf := goodIn_r _ [8, 9, 10, 11, 12, 13, 14, 15, 16, 17, 18, 19, 20, 21, 22, 23, 24, 25, 26, 27] (by decide +kernel) (by decide +kernel)
set_option maxRecDepth 20000 in
theorem gX3_price_X0_nightsOf : GoodIn wsX3_price (wsV RX3 52 RX0 yX0_nightsOf wsX0_nightsOf) := goodIn_app (goodIn_of _ (by decide +kernel)) ggX3_price_X0_nightsOf
set_option maxRecDepth 20000 in
theorem ggX3_price_X4_isIn : GoodIn wsX3_price wsX4_isIn := goodIn_r _ [13] (by decide +kernel) (by decide +kernel)
set_option maxRecDepth 20000 in
theorem gX3_price_X4_isIn_n28 : GoodIn wsX3_price (wsX4_isIn) := ggX3_price_X4_isIn
theorem dX3_price_0 : decode cX3_price 0 = .ok (.iconst 0, 1) := by decide +kernel
theorem dX3_price_1 : decode cX3_price 1 = .ok (.istore 4, 2) := by decide +kernel
theorem dX3_price_3 : decode cX3_price 3 = .ok (.iload 4, 2) := by decide +kernel
theorem dX3_price_5 : decode cX3_price 5 = .ok (.aload_n 1, 1) := by decide +kernel
theorem dX3_price_6 : decode cX3_price 6 = .ok (.getfield 48, 3) := by decide +kernel
theorem dX3_price_9 : decode cX3_price 9 = .ok (.if_icmp .ge 49, 3) := by decide +kernel
theorem dX3_price_12 : decode cX3_price 12 = .ok (.aload_n 0, 1) := by decide +kernel
theorem dX3_price_13 : decode cX3_price 13 = .ok (.getfield 9, 3) := by decide +kernel
theorem dX3_price_16 : decode cX3_price 16 = .ok (.iload 4, 2) := by decide +kernel
theorem dX3_price_18 : decode cX3_price 18 = .ok (.aload_n 1, 1) := by decide +kernel
theorem dX3_price_19 : decode cX3_price 19 = .ok (.iload 4, 2) := by decide +kernel
theorem dX3_price_21 : decode cX3_price 21 = .ok (.invokevirtual 52, 3) := by decide +kernel
theorem dX3_price_24 : decode cX3_price 24 = .ok (.sipush 256, 3) := by decide +kernel
theorem dX3_price_27 : decode cX3_price 27 = .ok (.imul, 1) := by decide +kernel
theorem dX3_price_28 : decode cX3_price 28 = .ok (.iconst 1, 1) := by decide +kernel
theorem dX3_price_29 : decode cX3_price 29 = .ok (.iadd, 1) := by decide +kernel
theorem dX3_price_30 : decode cX3_price 30 = .ok (.iastore, 1) := by decide +kernel
theorem dX3_price_31 : decode cX3_price 31 = .ok (.iload 4, 2) := by decide +kernel
theorem dX3_price_33 : decode cX3_price 33 = .ok (.lload_n 2, 1) := by decide +kernel
theorem dX3_price_34 : decode cX3_price 34 = .ok (.invokestatic 28, 3) := by decide +kernel
theorem dX3_price_37 : decode cX3_price 37 = .ok (.ifCond .eq 15, 3) := by decide +kernel
theorem dX3_price_40 : decode cX3_price 40 = .ok (.aload_n 0, 1) := by decide +kernel
theorem dX3_price_41 : decode cX3_price 41 = .ok (.getfield 9, 3) := by decide +kernel
theorem dX3_price_44 : decode cX3_price 44 = .ok (.iload 4, 2) := by decide +kernel
theorem dX3_price_46 : decode cX3_price 46 = .ok (.dup2, 1) := by decide +kernel
theorem dX3_price_47 : decode cX3_price 47 = .ok (.iaload, 1) := by decide +kernel
theorem dX3_price_48 : decode cX3_price 48 = .ok (.ldc 56, 2) := by decide +kernel
theorem dX3_price_50 : decode cX3_price 50 = .ok (.iadd, 1) := by decide +kernel
theorem dX3_price_51 : decode cX3_price 51 = .ok (.iastore, 1) := by decide +kernel
theorem dX3_price_52 : decode cX3_price 52 = .ok (.iinc 4 1, 3) := by decide +kernel
theorem dX3_price_55 : decode cX3_price 55 = .ok (.goto (-52), 3) := by decide +kernel
theorem dX3_price_58 : decode cX3_price 58 = .ok (.return_, 1) := by decide +kernel
set_option maxRecDepth 20000 in
theorem ggX3_spread_J7_fill_53178 : GoodIn wsX3_spread wsJ7_fill_53178 := goodIn_r _ [8] (by decide +kernel) (by decide +kernel)
set_option maxRecDepth 20000 in
theorem gX3_spread_J7_fill_53178 : GoodIn wsX3_spread (va_wsS RX3 58 yJ7_fill_53178 wsJ7_fill_53178) := goodIn_app (goodIn_of _ (by decide +kernel)) ggX3_spread_J7_fill_53178
set_option maxRecDepth 20000 in
theorem ggX3_spread_X3_spreadOnce : GoodIn wsX3_spread wsX3_spreadOnce := goodIn_r _ [13, 4, 1, 3, 14, 15, 16, 17, 18, 19, 20, 21, 22, 23, 24, 25, 31, 32, 33, 34, 35, 36, 37, 38, 39, 40, 41, 42, 43, 44, 26, 27, 28, 29, 30] (by decide +kernel) (by decide +kernel)
set_option maxRecDepth 20000 in
theorem gX3_spread_X3_spreadOnce : GoodIn wsX3_spread (wsV RX3 64 RX3 yX3_spreadOnce wsX3_spreadOnce) := goodIn_app (goodIn_of _ (by decide +kernel)) ggX3_spread_X3_spreadOnce
theorem dX3_spread_0 : decode cX3_spread 0 = .ok (.aload_n 0, 1) := by decide +kernel
theorem dX3_spread_1 : decode cX3_spread 1 = .ok (.getfield 15, 3) := by decide +kernel
theorem dX3_spread_4 : decode cX3_spread 4 = .ok (.ldc 57, 2) := by decide +kernel
theorem dX3_spread_6 : decode cX3_spread 6 = .ok (.invokestatic 58, 3) := by decide +kernel
theorem dX3_spread_9 : decode cX3_spread 9 = .ok (.aload_n 0, 1) := by decide +kernel
theorem dX3_spread_10 : decode cX3_spread 10 = .ok (.getfield 15, 3) := by decide +kernel
theorem dX3_spread_13 : decode cX3_spread 13 = .ok (.iload 4, 2) := by decide +kernel
theorem dX3_spread_15 : decode cX3_spread 15 = .ok (.aload_n 0, 1) := by decide +kernel
theorem dX3_spread_16 : decode cX3_spread 16 = .ok (.getfield 9, 3) := by decide +kernel
theorem dX3_spread_19 : decode cX3_spread 19 = .ok (.iload 4, 2) := by decide +kernel
theorem dX3_spread_21 : decode cX3_spread 21 = .ok (.iaload, 1) := by decide +kernel
theorem dX3_spread_22 : decode cX3_spread 22 = .ok (.iastore, 1) := by decide +kernel
theorem dX3_spread_23 : decode cX3_spread 23 = .ok (.lconst 1, 1) := by decide +kernel
theorem dX3_spread_24 : decode cX3_spread 24 = .ok (.iload 4, 2) := by decide +kernel
theorem dX3_spread_26 : decode cX3_spread 26 = .ok (.lshl, 1) := by decide +kernel
theorem dX3_spread_27 : decode cX3_spread 27 = .ok (.lstore 5, 2) := by decide +kernel
theorem dX3_spread_29 : decode cX3_spread 29 = .ok (.iconst 0, 1) := by decide +kernel
theorem dX3_spread_30 : decode cX3_spread 30 = .ok (.istore 7, 2) := by decide +kernel
theorem dX3_spread_32 : decode cX3_spread 32 = .ok (.iload 7, 2) := by decide +kernel
theorem dX3_spread_34 : decode cX3_spread 34 = .ok (.aload_n 1, 1) := by decide +kernel
theorem dX3_spread_35 : decode cX3_spread 35 = .ok (.getfield 48, 3) := by decide +kernel
theorem dX3_spread_38 : decode cX3_spread 38 = .ok (.if_icmp .ge 26, 3) := by decide +kernel
theorem dX3_spread_41 : decode cX3_spread 41 = .ok (.lload 5, 2) := by decide +kernel
theorem dX3_spread_43 : decode cX3_spread 43 = .ok (.lconst 0, 1) := by decide +kernel
theorem dX3_spread_44 : decode cX3_spread 44 = .ok (.lcmp, 1) := by decide +kernel
theorem dX3_spread_45 : decode cX3_spread 45 = .ok (.ifCond .eq 19, 3) := by decide +kernel
theorem dX3_spread_48 : decode cX3_spread 48 = .ok (.aload_n 0, 1) := by decide +kernel
theorem dX3_spread_49 : decode cX3_spread 49 = .ok (.aload_n 1, 1) := by decide +kernel
theorem dX3_spread_50 : decode cX3_spread 50 = .ok (.lload_n 2, 1) := by decide +kernel
theorem dX3_spread_51 : decode cX3_spread 51 = .ok (.lload 5, 2) := by decide +kernel
theorem dX3_spread_53 : decode cX3_spread 53 = .ok (.invokevirtual 64, 3) := by decide +kernel
theorem dX3_spread_56 : decode cX3_spread 56 = .ok (.lstore 5, 2) := by decide +kernel
theorem dX3_spread_58 : decode cX3_spread 58 = .ok (.iinc 7 1, 3) := by decide +kernel
theorem dX3_spread_61 : decode cX3_spread 61 = .ok (.goto (-29), 3) := by decide +kernel
theorem dX3_spread_64 : decode cX3_spread 64 = .ok (.return_, 1) := by decide +kernel
set_option maxRecDepth 20000 in
theorem ggX3_spreadOnce_X4_isIn : GoodIn wsX3_spreadOnce wsX4_isIn := goodIn_r _ [6] (by decide +kernel) (by decide +kernel)
set_option maxRecDepth 20000 in
theorem gX3_spreadOnce_X4_isIn_n28 : GoodIn wsX3_spreadOnce (wsX4_isIn) := ggX3_spreadOnce_X4_isIn
set_option maxRecDepth 20000 in
theorem ggX3_spreadOnce_X0_beside : GoodIn wsX3_spreadOnce wsX0_beside := goodIn_r _ [11, 12, 13, 14, 15, 16, 17, 18, 19, 20, 21, 22, 23, 24, 25, 26, 27, 28, 29] (by decide +kernel) (by decide +kernel)
set_option maxRecDepth 20000 in
theorem gX3_spreadOnce_X0_beside : GoodIn wsX3_spreadOnce (wsV RX3 68 RX0 yX0_beside wsX0_beside) := goodIn_app (goodIn_of _ (by decide +kernel)) ggX3_spreadOnce_X0_beside
theorem dX3_spreadOnce_0 : decode cX3_spreadOnce 0 = .ok (.lconst 0, 1) := by decide +kernel
theorem dX3_spreadOnce_1 : decode cX3_spreadOnce 1 = .ok (.lstore 6, 2) := by decide +kernel
theorem dX3_spreadOnce_3 : decode cX3_spreadOnce 3 = .ok (.iconst 0, 1) := by decide +kernel
theorem dX3_spreadOnce_4 : decode cX3_spreadOnce 4 = .ok (.istore 8, 2) := by decide +kernel
theorem dX3_spreadOnce_6 : decode cX3_spreadOnce 6 = .ok (.iload 8, 2) := by decide +kernel
theorem dX3_spreadOnce_8 : decode cX3_spreadOnce 8 = .ok (.aload_n 1, 1) := by decide +kernel
theorem dX3_spreadOnce_9 : decode cX3_spreadOnce 9 = .ok (.getfield 48, 3) := by decide +kernel
theorem dX3_spreadOnce_12 : decode cX3_spreadOnce 12 = .ok (.if_icmp .ge 116, 3) := by decide +kernel
theorem dX3_spreadOnce_15 : decode cX3_spreadOnce 15 = .ok (.iconst 0, 1) := by decide +kernel
theorem dX3_spreadOnce_16 : decode cX3_spreadOnce 16 = .ok (.istore 9, 2) := by decide +kernel
theorem dX3_spreadOnce_18 : decode cX3_spreadOnce 18 = .ok (.iload 9, 2) := by decide +kernel
theorem dX3_spreadOnce_20 : decode cX3_spreadOnce 20 = .ok (.iconst 4, 1) := by decide +kernel
theorem dX3_spreadOnce_21 : decode cX3_spreadOnce 21 = .ok (.if_icmp .ge 101, 3) := by decide +kernel
theorem dX3_spreadOnce_24 : decode cX3_spreadOnce 24 = .ok (.iload 8, 2) := by decide +kernel
theorem dX3_spreadOnce_26 : decode cX3_spreadOnce 26 = .ok (.lload 4, 2) := by decide +kernel
theorem dX3_spreadOnce_28 : decode cX3_spreadOnce 28 = .ok (.invokestatic 28, 3) := by decide +kernel
theorem dX3_spreadOnce_31 : decode cX3_spreadOnce 31 = .ok (.ifCond .eq 91, 3) := by decide +kernel
theorem dX3_spreadOnce_34 : decode cX3_spreadOnce 34 = .ok (.aload_n 1, 1) := by decide +kernel
theorem dX3_spreadOnce_35 : decode cX3_spreadOnce 35 = .ok (.iload 8, 2) := by decide +kernel
theorem dX3_spreadOnce_37 : decode cX3_spreadOnce 37 = .ok (.iload 9, 2) := by decide +kernel
theorem dX3_spreadOnce_39 : decode cX3_spreadOnce 39 = .ok (.invokevirtual 68, 3) := by decide +kernel
theorem dX3_spreadOnce_42 : decode cX3_spreadOnce 42 = .ok (.istore 10, 2) := by decide +kernel
theorem dX3_spreadOnce_44 : decode cX3_spreadOnce 44 = .ok (.iload 10, 2) := by decide +kernel
theorem dX3_spreadOnce_46 : decode cX3_spreadOnce 46 = .ok (.bipush (-9), 2) := by decide +kernel
theorem dX3_spreadOnce_48 : decode cX3_spreadOnce 48 = .ok (.if_icmp .eq 68, 3) := by decide +kernel
theorem dX3_spreadOnce_51 : decode cX3_spreadOnce 51 = .ok (.iload 10, 2) := by decide +kernel
theorem dX3_spreadOnce_53 : decode cX3_spreadOnce 53 = .ok (.lload_n 2, 1) := by decide +kernel
theorem dX3_spreadOnce_54 : decode cX3_spreadOnce 54 = .ok (.invokestatic 28, 3) := by decide +kernel
theorem dX3_spreadOnce_57 : decode cX3_spreadOnce 57 = .ok (.ifCond .eq 59, 3) := by decide +kernel
theorem dX3_spreadOnce_60 : decode cX3_spreadOnce 60 = .ok (.aload_n 0, 1) := by decide +kernel
theorem dX3_spreadOnce_61 : decode cX3_spreadOnce 61 = .ok (.getfield 15, 3) := by decide +kernel
theorem dX3_spreadOnce_64 : decode cX3_spreadOnce 64 = .ok (.iload 8, 2) := by decide +kernel
theorem dX3_spreadOnce_66 : decode cX3_spreadOnce 66 = .ok (.iaload, 1) := by decide +kernel
theorem dX3_spreadOnce_67 : decode cX3_spreadOnce 67 = .ok (.aload_n 0, 1) := by decide +kernel
theorem dX3_spreadOnce_68 : decode cX3_spreadOnce 68 = .ok (.getfield 9, 3) := by decide +kernel
theorem dX3_spreadOnce_71 : decode cX3_spreadOnce 71 = .ok (.iload 10, 2) := by decide +kernel
theorem dX3_spreadOnce_73 : decode cX3_spreadOnce 73 = .ok (.iaload, 1) := by decide +kernel
theorem dX3_spreadOnce_74 : decode cX3_spreadOnce 74 = .ok (.iadd, 1) := by decide +kernel
theorem dX3_spreadOnce_75 : decode cX3_spreadOnce 75 = .ok (.aload_n 0, 1) := by decide +kernel
theorem dX3_spreadOnce_76 : decode cX3_spreadOnce 76 = .ok (.getfield 15, 3) := by decide +kernel
theorem dX3_spreadOnce_79 : decode cX3_spreadOnce 79 = .ok (.iload 10, 2) := by decide +kernel
theorem dX3_spreadOnce_81 : decode cX3_spreadOnce 81 = .ok (.iaload, 1) := by decide +kernel
theorem dX3_spreadOnce_82 : decode cX3_spreadOnce 82 = .ok (.if_icmp .ge 34, 3) := by decide +kernel
theorem dX3_spreadOnce_85 : decode cX3_spreadOnce 85 = .ok (.aload_n 0, 1) := by decide +kernel
theorem dX3_spreadOnce_86 : decode cX3_spreadOnce 86 = .ok (.getfield 15, 3) := by decide +kernel
theorem dX3_spreadOnce_89 : decode cX3_spreadOnce 89 = .ok (.iload 10, 2) := by decide +kernel
theorem dX3_spreadOnce_91 : decode cX3_spreadOnce 91 = .ok (.aload_n 0, 1) := by decide +kernel
theorem dX3_spreadOnce_92 : decode cX3_spreadOnce 92 = .ok (.getfield 15, 3) := by decide +kernel
theorem dX3_spreadOnce_95 : decode cX3_spreadOnce 95 = .ok (.iload 8, 2) := by decide +kernel
theorem dX3_spreadOnce_97 : decode cX3_spreadOnce 97 = .ok (.iaload, 1) := by decide +kernel
theorem dX3_spreadOnce_98 : decode cX3_spreadOnce 98 = .ok (.aload_n 0, 1) := by decide +kernel
theorem dX3_spreadOnce_99 : decode cX3_spreadOnce 99 = .ok (.getfield 9, 3) := by decide +kernel
theorem dX3_spreadOnce_102 : decode cX3_spreadOnce 102 = .ok (.iload 10, 2) := by decide +kernel
theorem dX3_spreadOnce_104 : decode cX3_spreadOnce 104 = .ok (.iaload, 1) := by decide +kernel
theorem dX3_spreadOnce_105 : decode cX3_spreadOnce 105 = .ok (.iadd, 1) := by decide +kernel
theorem dX3_spreadOnce_106 : decode cX3_spreadOnce 106 = .ok (.iastore, 1) := by decide +kernel
theorem dX3_spreadOnce_107 : decode cX3_spreadOnce 107 = .ok (.lload 6, 2) := by decide +kernel
theorem dX3_spreadOnce_109 : decode cX3_spreadOnce 109 = .ok (.lconst 1, 1) := by decide +kernel
theorem dX3_spreadOnce_110 : decode cX3_spreadOnce 110 = .ok (.iload 10, 2) := by decide +kernel
theorem dX3_spreadOnce_112 : decode cX3_spreadOnce 112 = .ok (.lshl, 1) := by decide +kernel
theorem dX3_spreadOnce_113 : decode cX3_spreadOnce 113 = .ok (.lor, 1) := by decide +kernel
theorem dX3_spreadOnce_114 : decode cX3_spreadOnce 114 = .ok (.lstore 6, 2) := by decide +kernel
theorem dX3_spreadOnce_116 : decode cX3_spreadOnce 116 = .ok (.iinc 9 1, 3) := by decide +kernel
theorem dX3_spreadOnce_119 : decode cX3_spreadOnce 119 = .ok (.goto (-101), 3) := by decide +kernel
theorem dX3_spreadOnce_122 : decode cX3_spreadOnce 122 = .ok (.iinc 8 1, 3) := by decide +kernel
theorem dX3_spreadOnce_125 : decode cX3_spreadOnce 125 = .ok (.goto (-119), 3) := by decide +kernel
theorem dX3_spreadOnce_128 : decode cX3_spreadOnce 128 = .ok (.lload 6, 2) := by decide +kernel
theorem dX3_spreadOnce_130 : decode cX3_spreadOnce 130 = .ok (.lreturn, 1) := by decide +kernel
theorem dX3_bestFirst_0 : decode cX3_bestFirst 0 = .ok (.bipush (-9), 2) := by decide +kernel
theorem dX3_bestFirst_2 : decode cX3_bestFirst 2 = .ok (.istore_n 2, 1) := by decide +kernel
theorem dX3_bestFirst_3 : decode cX3_bestFirst 3 = .ok (.ldc 57, 2) := by decide +kernel
theorem dX3_bestFirst_5 : decode cX3_bestFirst 5 = .ok (.istore_n 3, 1) := by decide +kernel
theorem dX3_bestFirst_6 : decode cX3_bestFirst 6 = .ok (.iconst 0, 1) := by decide +kernel
theorem dX3_bestFirst_7 : decode cX3_bestFirst 7 = .ok (.istore 4, 2) := by decide +kernel
theorem dX3_bestFirst_9 : decode cX3_bestFirst 9 = .ok (.iload 4, 2) := by decide +kernel
theorem dX3_bestFirst_11 : decode cX3_bestFirst 11 = .ok (.aload_n 1, 1) := by decide +kernel
theorem dX3_bestFirst_12 : decode cX3_bestFirst 12 = .ok (.getfield 48, 3) := by decide +kernel
theorem dX3_bestFirst_15 : decode cX3_bestFirst 15 = .ok (.if_icmp .ge 41, 3) := by decide +kernel
theorem dX3_bestFirst_18 : decode cX3_bestFirst 18 = .ok (.aload_n 1, 1) := by decide +kernel
theorem dX3_bestFirst_19 : decode cX3_bestFirst 19 = .ok (.getfield 72, 3) := by decide +kernel
theorem dX3_bestFirst_22 : decode cX3_bestFirst 22 = .ok (.iload 4, 2) := by decide +kernel
theorem dX3_bestFirst_24 : decode cX3_bestFirst 24 = .ok (.iaload, 1) := by decide +kernel
theorem dX3_bestFirst_25 : decode cX3_bestFirst 25 = .ok (.ifCond .ne 25, 3) := by decide +kernel
theorem dX3_bestFirst_28 : decode cX3_bestFirst 28 = .ok (.aload_n 0, 1) := by decide +kernel
theorem dX3_bestFirst_29 : decode cX3_bestFirst 29 = .ok (.getfield 15, 3) := by decide +kernel
theorem dX3_bestFirst_32 : decode cX3_bestFirst 32 = .ok (.iload 4, 2) := by decide +kernel
theorem dX3_bestFirst_34 : decode cX3_bestFirst 34 = .ok (.iaload, 1) := by decide +kernel
theorem dX3_bestFirst_35 : decode cX3_bestFirst 35 = .ok (.iload_n 3, 1) := by decide +kernel
theorem dX3_bestFirst_36 : decode cX3_bestFirst 36 = .ok (.if_icmp .ge 14, 3) := by decide +kernel
theorem dX3_bestFirst_39 : decode cX3_bestFirst 39 = .ok (.aload_n 0, 1) := by decide +kernel
theorem dX3_bestFirst_40 : decode cX3_bestFirst 40 = .ok (.getfield 15, 3) := by decide +kernel
theorem dX3_bestFirst_43 : decode cX3_bestFirst 43 = .ok (.iload 4, 2) := by decide +kernel
theorem dX3_bestFirst_45 : decode cX3_bestFirst 45 = .ok (.iaload, 1) := by decide +kernel
theorem dX3_bestFirst_46 : decode cX3_bestFirst 46 = .ok (.istore_n 3, 1) := by decide +kernel
theorem dX3_bestFirst_47 : decode cX3_bestFirst 47 = .ok (.iload 4, 2) := by decide +kernel
theorem dX3_bestFirst_49 : decode cX3_bestFirst 49 = .ok (.istore_n 2, 1) := by decide +kernel
theorem dX3_bestFirst_50 : decode cX3_bestFirst 50 = .ok (.iinc 4 1, 3) := by decide +kernel
theorem dX3_bestFirst_53 : decode cX3_bestFirst 53 = .ok (.goto (-44), 3) := by decide +kernel
theorem dX3_bestFirst_56 : decode cX3_bestFirst 56 = .ok (.iload_n 2, 1) := by decide +kernel
theorem dX3_bestFirst_57 : decode cX3_bestFirst 57 = .ok (.ireturn, 1) := by decide +kernel
set_option maxRecDepth 20000 in
theorem ggX3_follow_X3_stepFrom : GoodIn wsX3_follow wsX3_stepFrom := goodIn_r _ [8, 9, 10, 11, 12, 13, 14, 15, 16, 17, 18, 19, 34, 35, 36, 37, 38, 20, 21, 22, 23, 24, 25, 26, 27, 28, 29, 30, 31, 32, 33] (by decide +kernel) (by decide +kernel)
set_option maxRecDepth 20000 in
theorem gX3_follow_X3_stepFrom : GoodIn wsX3_follow (wsV RX3 75 RX3 yX3_stepFrom wsX3_stepFrom) := goodIn_app (goodIn_of _ (by decide +kernel)) ggX3_follow_X3_stepFrom
theorem dX3_follow_0 : decode cX3_follow 0 = .ok (.iload_n 2, 1) := by decide +kernel
theorem dX3_follow_1 : decode cX3_follow 1 = .ok (.istore_n 3, 1) := by decide +kernel
theorem dX3_follow_2 : decode cX3_follow 2 = .ok (.iconst 0, 1) := by decide +kernel
theorem dX3_follow_3 : decode cX3_follow 3 = .ok (.istore 4, 2) := by decide +kernel
theorem dX3_follow_5 : decode cX3_follow 5 = .ok (.iload 4, 2) := by decide +kernel
theorem dX3_follow_7 : decode cX3_follow 7 = .ok (.aload_n 1, 1) := by decide +kernel
theorem dX3_follow_8 : decode cX3_follow 8 = .ok (.getfield 48, 3) := by decide +kernel
theorem dX3_follow_11 : decode cX3_follow 11 = .ok (.if_icmp .ge 38, 3) := by decide +kernel
theorem dX3_follow_14 : decode cX3_follow 14 = .ok (.iload_n 3, 1) := by decide +kernel
theorem dX3_follow_15 : decode cX3_follow 15 = .ok (.bipush (-9), 2) := by decide +kernel
theorem dX3_follow_17 : decode cX3_follow 17 = .ok (.if_icmp .eq 32, 3) := by decide +kernel
theorem dX3_follow_20 : decode cX3_follow 20 = .ok (.aload_n 0, 1) := by decide +kernel
theorem dX3_follow_21 : decode cX3_follow 21 = .ok (.getfield 18, 3) := by decide +kernel
theorem dX3_follow_24 : decode cX3_follow 24 = .ok (.iload 4, 2) := by decide +kernel
theorem dX3_follow_26 : decode cX3_follow 26 = .ok (.iload_n 3, 1) := by decide +kernel
theorem dX3_follow_27 : decode cX3_follow 27 = .ok (.iastore, 1) := by decide +kernel
theorem dX3_follow_28 : decode cX3_follow 28 = .ok (.aload_n 0, 1) := by decide +kernel
theorem dX3_follow_29 : decode cX3_follow 29 = .ok (.iload 4, 2) := by decide +kernel
theorem dX3_follow_31 : decode cX3_follow 31 = .ok (.iconst 1, 1) := by decide +kernel
theorem dX3_follow_32 : decode cX3_follow 32 = .ok (.iadd, 1) := by decide +kernel
theorem dX3_follow_33 : decode cX3_follow 33 = .ok (.putfield 21, 3) := by decide +kernel
theorem dX3_follow_36 : decode cX3_follow 36 = .ok (.aload_n 0, 1) := by decide +kernel
theorem dX3_follow_37 : decode cX3_follow 37 = .ok (.aload_n 1, 1) := by decide +kernel
theorem dX3_follow_38 : decode cX3_follow 38 = .ok (.iload_n 3, 1) := by decide +kernel
theorem dX3_follow_39 : decode cX3_follow 39 = .ok (.invokevirtual 75, 3) := by decide +kernel
theorem dX3_follow_42 : decode cX3_follow 42 = .ok (.istore_n 3, 1) := by decide +kernel
theorem dX3_follow_43 : decode cX3_follow 43 = .ok (.iinc 4 1, 3) := by decide +kernel
theorem dX3_follow_46 : decode cX3_follow 46 = .ok (.goto (-41), 3) := by decide +kernel
theorem dX3_follow_49 : decode cX3_follow 49 = .ok (.return_, 1) := by decide +kernel
set_option maxRecDepth 20000 in
theorem ggX3_stepFrom_X0_beside : GoodIn wsX3_stepFrom wsX0_beside := goodIn_r _ [7, 8, 9, 10, 11, 17, 18, 19, 20, 21, 22, 23, 24, 25, 26, 27, 28, 29, 30] (by decide +kernel) (by decide +kernel)
set_option maxRecDepth 20000 in
theorem gX3_stepFrom_X0_beside : GoodIn wsX3_stepFrom (wsV RX3 68 RX0 yX0_beside wsX0_beside) := goodIn_app (goodIn_of _ (by decide +kernel)) ggX3_stepFrom_X0_beside
theorem dX3_stepFrom_0 : decode cX3_stepFrom 0 = .ok (.aload_n 0, 1) := by decide +kernel
theorem dX3_stepFrom_1 : decode cX3_stepFrom 1 = .ok (.getfield 15, 3) := by decide +kernel
theorem dX3_stepFrom_4 : decode cX3_stepFrom 4 = .ok (.iload_n 2, 1) := by decide +kernel
theorem dX3_stepFrom_5 : decode cX3_stepFrom 5 = .ok (.iaload, 1) := by decide +kernel
theorem dX3_stepFrom_6 : decode cX3_stepFrom 6 = .ok (.aload_n 0, 1) := by decide +kernel
theorem dX3_stepFrom_7 : decode cX3_stepFrom 7 = .ok (.getfield 9, 3) := by decide +kernel
theorem dX3_stepFrom_10 : decode cX3_stepFrom 10 = .ok (.iload_n 2, 1) := by decide +kernel
theorem dX3_stepFrom_11 : decode cX3_stepFrom 11 = .ok (.iaload, 1) := by decide +kernel
theorem dX3_stepFrom_12 : decode cX3_stepFrom 12 = .ok (.isub, 1) := by decide +kernel
theorem dX3_stepFrom_13 : decode cX3_stepFrom 13 = .ok (.istore_n 3, 1) := by decide +kernel
theorem dX3_stepFrom_14 : decode cX3_stepFrom 14 = .ok (.iconst 0, 1) := by decide +kernel
theorem dX3_stepFrom_15 : decode cX3_stepFrom 15 = .ok (.istore 4, 2) := by decide +kernel
theorem dX3_stepFrom_17 : decode cX3_stepFrom 17 = .ok (.iload 4, 2) := by decide +kernel
theorem dX3_stepFrom_19 : decode cX3_stepFrom 19 = .ok (.iconst 4, 1) := by decide +kernel
theorem dX3_stepFrom_20 : decode cX3_stepFrom 20 = .ok (.if_icmp .ge 39, 3) := by decide +kernel
theorem dX3_stepFrom_23 : decode cX3_stepFrom 23 = .ok (.aload_n 1, 1) := by decide +kernel
theorem dX3_stepFrom_24 : decode cX3_stepFrom 24 = .ok (.iload_n 2, 1) := by decide +kernel
theorem dX3_stepFrom_25 : decode cX3_stepFrom 25 = .ok (.iload 4, 2) := by decide +kernel
theorem dX3_stepFrom_27 : decode cX3_stepFrom 27 = .ok (.invokevirtual 68, 3) := by decide +kernel
theorem dX3_stepFrom_30 : decode cX3_stepFrom 30 = .ok (.istore 5, 2) := by decide +kernel
theorem dX3_stepFrom_32 : decode cX3_stepFrom 32 = .ok (.iload 5, 2) := by decide +kernel
theorem dX3_stepFrom_34 : decode cX3_stepFrom 34 = .ok (.bipush (-9), 2) := by decide +kernel
theorem dX3_stepFrom_36 : decode cX3_stepFrom 36 = .ok (.if_icmp .eq 17, 3) := by decide +kernel
theorem dX3_stepFrom_39 : decode cX3_stepFrom 39 = .ok (.aload_n 0, 1) := by decide +kernel
theorem dX3_stepFrom_40 : decode cX3_stepFrom 40 = .ok (.getfield 15, 3) := by decide +kernel
theorem dX3_stepFrom_43 : decode cX3_stepFrom 43 = .ok (.iload 5, 2) := by decide +kernel
theorem dX3_stepFrom_45 : decode cX3_stepFrom 45 = .ok (.iaload, 1) := by decide +kernel
theorem dX3_stepFrom_46 : decode cX3_stepFrom 46 = .ok (.iload_n 3, 1) := by decide +kernel
theorem dX3_stepFrom_47 : decode cX3_stepFrom 47 = .ok (.if_icmp .ne 6, 3) := by decide +kernel
theorem dX3_stepFrom_50 : decode cX3_stepFrom 50 = .ok (.iload 5, 2) := by decide +kernel
theorem dX3_stepFrom_52 : decode cX3_stepFrom 52 = .ok (.ireturn, 1) := by decide +kernel
theorem dX3_stepFrom_53 : decode cX3_stepFrom 53 = .ok (.iinc 4 1, 3) := by decide +kernel
theorem dX3_stepFrom_56 : decode cX3_stepFrom 56 = .ok (.goto (-39), 3) := by decide +kernel
theorem dX3_stepFrom_59 : decode cX3_stepFrom 59 = .ok (.bipush (-9), 2) := by decide +kernel
theorem dX3_stepFrom_61 : decode cX3_stepFrom 61 = .ok (.ireturn, 1) := by decide +kernel
theorem dX3_told_0 : decode cX3_told 0 = .ok (.aload_n 0, 1) := by decide +kernel
theorem dX3_told_1 : decode cX3_told 1 = .ok (.getfield 21, 3) := by decide +kernel
theorem dX3_told_4 : decode cX3_told 4 = .ok (.ifCond .ne 6, 3) := by decide +kernel
theorem dX3_told_7 : decode cX3_told 7 = .ok (.bipush (-9), 2) := by decide +kernel
theorem dX3_told_9 : decode cX3_told 9 = .ok (.ireturn, 1) := by decide +kernel
theorem dX3_told_10 : decode cX3_told 10 = .ok (.iload_n 1, 1) := by decide +kernel
theorem dX3_told_11 : decode cX3_told 11 = .ok (.tableswitch 50 (-3) (-1) #[25, 33, 45], 25) := by decide +kernel
theorem dX3_told_36 : decode cX3_told 36 = .ok (.aload_n 0, 1) := by decide +kernel
theorem dX3_told_37 : decode cX3_told 37 = .ok (.getfield 25, 3) := by decide +kernel
theorem dX3_told_40 : decode cX3_told 40 = .ok (.ldc 56, 2) := by decide +kernel
theorem dX3_told_42 : decode cX3_told 42 = .ok (.idiv, 1) := by decide +kernel
theorem dX3_told_43 : decode cX3_told 43 = .ok (.ireturn, 1) := by decide +kernel
theorem dX3_told_44 : decode cX3_told 44 = .ok (.aload_n 0, 1) := by decide +kernel
theorem dX3_told_45 : decode cX3_told 45 = .ok (.getfield 25, 3) := by decide +kernel
theorem dX3_told_48 : decode cX3_told 48 = .ok (.ldc 56, 2) := by decide +kernel
theorem dX3_told_50 : decode cX3_told 50 = .ok (.irem, 1) := by decide +kernel
theorem dX3_told_51 : decode cX3_told 51 = .ok (.sipush 256, 3) := by decide +kernel
theorem dX3_told_54 : decode cX3_told 54 = .ok (.idiv, 1) := by decide +kernel
theorem dX3_told_55 : decode cX3_told 55 = .ok (.ireturn, 1) := by decide +kernel
theorem dX3_told_56 : decode cX3_told 56 = .ok (.aload_n 0, 1) := by decide +kernel
theorem dX3_told_57 : decode cX3_told 57 = .ok (.getfield 21, 3) := by decide +kernel
theorem dX3_told_60 : decode cX3_told 60 = .ok (.ireturn, 1) := by decide +kernel
theorem dX3_told_61 : decode cX3_told 61 = .ok (.iload_n 1, 1) := by decide +kernel
theorem dX3_told_62 : decode cX3_told 62 = .ok (.ifCond .lt 20, 3) := by decide +kernel
theorem dX3_told_65 : decode cX3_told 65 = .ok (.iload_n 1, 1) := by decide +kernel
theorem dX3_told_66 : decode cX3_told 66 = .ok (.aload_n 0, 1) := by decide +kernel
theorem dX3_told_67 : decode cX3_told 67 = .ok (.getfield 21, 3) := by decide +kernel
theorem dX3_told_70 : decode cX3_told 70 = .ok (.if_icmp .ge 12, 3) := by decide +kernel
theorem dX3_told_73 : decode cX3_told 73 = .ok (.aload_n 0, 1) := by decide +kernel
theorem dX3_told_74 : decode cX3_told 74 = .ok (.getfield 18, 3) := by decide +kernel
theorem dX3_told_77 : decode cX3_told 77 = .ok (.iload_n 1, 1) := by decide +kernel
theorem dX3_told_78 : decode cX3_told 78 = .ok (.iaload, 1) := by decide +kernel
theorem dX3_told_79 : decode cX3_told 79 = .ok (.goto 5, 3) := by decide +kernel
theorem dX3_told_82 : decode cX3_told 82 = .ok (.bipush (-9), 2) := by decide +kernel
theorem dX3_told_84 : decode cX3_told 84 = .ok (.ireturn, 1) := by decide +kernel
set_option maxRecDepth 20000 in
theorem ggX4_init_X0_init : GoodIn wsX4_init wsX0_init := goodIn_r _ [24, 25, 2, 3, 26, 27, 28, 29, 30, 31, 32, 33, 14, 34, 35, 36, 37, 38, 39, 62, 63, 64, 65, 66, 67, 68, 69, 70, 71, 72, 73, 74, 75] (by decide +kernel) (by decide +kernel)
set_option maxRecDepth 20000 in
theorem gX4_init_X0_init_n19 : GoodIn wsX4_init (wsX0_init) := ggX4_init_X0_init
set_option maxRecDepth 20000 in
theorem ggX4_init_X3_init : GoodIn wsX4_init wsX3_init := goodIn_r _ [41, 42, 2, 3, 14, 43, 44, 45, 46, 47, 76, 77, 78, 79, 80] (by decide +kernel) (by decide +kernel)
set_option maxRecDepth 20000 in
theorem gX4_init_X3_init_n26 : GoodIn wsX4_init (wsX3_init) := ggX4_init_X3_init
set_option maxRecDepth 20000 in
theorem ggX4_init_X1_init : GoodIn wsX4_init wsX1_init := goodIn_r _ [49, 50, 2, 3, 14, 51, 52, 53, 81, 82, 83] (by decide +kernel) (by decide +kernel)
set_option maxRecDepth 20000 in
theorem gX4_init_X1_init_n49 : GoodIn wsX4_init (wsX1_init) := ggX4_init_X1_init
theorem dX4_init_0 : decode cX4_init 0 = .ok (.aload_n 0, 1) := by decide +kernel
theorem dX4_init_1 : decode cX4_init 1 = .ok (.invokespecial 3, 3) := by decide +kernel
theorem dX4_init_4 : decode cX4_init 4 = .ok (.aload_n 0, 1) := by decide +kernel
theorem dX4_init_5 : decode cX4_init 5 = .ok (.iconst 4, 1) := by decide +kernel
theorem dX4_init_6 : decode cX4_init 6 = .ok (.anewarray 9, 3) := by decide +kernel
theorem dX4_init_9 : decode cX4_init 9 = .ok (.putfield 11, 3) := by decide +kernel
theorem dX4_init_12 : decode cX4_init 12 = .ok (.aload_n 0, 1) := by decide +kernel
theorem dX4_init_13 : decode cX4_init 13 = .ok (.new 17, 3) := by decide +kernel
theorem dX4_init_16 : decode cX4_init 16 = .ok (.dup, 1) := by decide +kernel
theorem dX4_init_17 : decode cX4_init 17 = .ok (.invokespecial 19, 3) := by decide +kernel
theorem dX4_init_20 : decode cX4_init 20 = .ok (.putfield 20, 3) := by decide +kernel
theorem dX4_init_23 : decode cX4_init 23 = .ok (.aload_n 0, 1) := by decide +kernel
theorem dX4_init_24 : decode cX4_init 24 = .ok (.new 24, 3) := by decide +kernel
theorem dX4_init_27 : decode cX4_init 27 = .ok (.dup, 1) := by decide +kernel
theorem dX4_init_28 : decode cX4_init 28 = .ok (.invokespecial 26, 3) := by decide +kernel
theorem dX4_init_31 : decode cX4_init 31 = .ok (.putfield 27, 3) := by decide +kernel
theorem dX4_init_34 : decode cX4_init 34 = .ok (.aload_n 0, 1) := by decide +kernel
theorem dX4_init_35 : decode cX4_init 35 = .ok (.bipush 8, 2) := by decide +kernel
theorem dX4_init_37 : decode cX4_init 37 = .ok (.newarray .int, 2) := by decide +kernel
theorem dX4_init_39 : decode cX4_init 39 = .ok (.putfield 31, 3) := by decide +kernel
theorem dX4_init_42 : decode cX4_init 42 = .ok (.aload_n 0, 1) := by decide +kernel
theorem dX4_init_43 : decode cX4_init 43 = .ok (.bipush 8, 2) := by decide +kernel
theorem dX4_init_45 : decode cX4_init 45 = .ok (.newarray .boolean, 2) := by decide +kernel
theorem dX4_init_47 : decode cX4_init 47 = .ok (.putfield 35, 3) := by decide +kernel
theorem dX4_init_50 : decode cX4_init 50 = .ok (.aload_n 0, 1) := by decide +kernel
theorem dX4_init_51 : decode cX4_init 51 = .ok (.iconst 0, 1) := by decide +kernel
theorem dX4_init_52 : decode cX4_init 52 = .ok (.putfield 39, 3) := by decide +kernel
theorem dX4_init_55 : decode cX4_init 55 = .ok (.aload_n 0, 1) := by decide +kernel
theorem dX4_init_56 : decode cX4_init 56 = .ok (.iconst 0, 1) := by decide +kernel
theorem dX4_init_57 : decode cX4_init 57 = .ok (.putfield 43, 3) := by decide +kernel
theorem dX4_init_60 : decode cX4_init 60 = .ok (.aload_n 0, 1) := by decide +kernel
theorem dX4_init_61 : decode cX4_init 61 = .ok (.iconst 0, 1) := by decide +kernel
theorem dX4_init_62 : decode cX4_init 62 = .ok (.putfield 46, 3) := by decide +kernel
theorem dX4_init_65 : decode cX4_init 65 = .ok (.iconst 0, 1) := by decide +kernel
theorem dX4_init_66 : decode cX4_init 66 = .ok (.istore_n 1, 1) := by decide +kernel
theorem dX4_init_67 : decode cX4_init 67 = .ok (.iload_n 1, 1) := by decide +kernel
theorem dX4_init_68 : decode cX4_init 68 = .ok (.aload_n 0, 1) := by decide +kernel
theorem dX4_init_69 : decode cX4_init 69 = .ok (.getfield 11, 3) := by decide +kernel
theorem dX4_init_72 : decode cX4_init 72 = .ok (.arraylength, 1) := by decide +kernel
theorem dX4_init_73 : decode cX4_init 73 = .ok (.if_icmp .ge 22, 3) := by decide +kernel
theorem dX4_init_76 : decode cX4_init 76 = .ok (.aload_n 0, 1) := by decide +kernel
theorem dX4_init_77 : decode cX4_init 77 = .ok (.getfield 11, 3) := by decide +kernel
theorem dX4_init_80 : decode cX4_init 80 = .ok (.iload_n 1, 1) := by decide +kernel
theorem dX4_init_81 : decode cX4_init 81 = .ok (.new 9, 3) := by decide +kernel
theorem dX4_init_84 : decode cX4_init 84 = .ok (.dup, 1) := by decide +kernel
theorem dX4_init_85 : decode cX4_init 85 = .ok (.invokespecial 49, 3) := by decide +kernel
theorem dX4_init_88 : decode cX4_init 88 = .ok (.aastore, 1) := by decide +kernel
theorem dX4_init_89 : decode cX4_init 89 = .ok (.iinc 1 1, 3) := by decide +kernel
theorem dX4_init_92 : decode cX4_init 92 = .ok (.goto (-25), 3) := by decide +kernel
theorem dX4_init_95 : decode cX4_init 95 = .ok (.return_, 1) := by decide +kernel
set_option maxRecDepth 20000 in
theorem ggX4_ground_X4_sheetOf : GoodIn wsX4_ground wsX4_sheetOf := goodIn_r _ [9, 10, 11, 12, 8, 13, 69, 70, 71, 72, 73, 74, 75, 76] (by decide +kernel) (by decide +kernel)
set_option maxRecDepth 20000 in
theorem gX4_ground_X4_sheetOf : GoodIn wsX4_ground (wsV RX4 50 RX4 yX4_sheetOf wsX4_sheetOf) := goodIn_app (goodIn_of _ (by decide +kernel)) ggX4_ground_X4_sheetOf
set_option maxRecDepth 20000 in
theorem ggX4_ground_X4_isWithin : GoodIn wsX4_ground wsX4_isWithin := goodIn_r _ [13] (by decide +kernel) (by decide +kernel)
set_option maxRecDepth 20000 in
theorem gX4_ground_X4_isWithin : GoodIn wsX4_ground (va_wsS RX4 54 yX4_isWithin wsX4_isWithin) := goodIn_app (goodIn_of _ (by decide +kernel)) ggX4_ground_X4_isWithin
set_option maxRecDepth 20000 in
theorem ggX4_ground_X1_isOfOther : GoodIn wsX4_ground wsX1_isOfOther := goodIn_r _ [18, 19, 91, 92, 93] (by decide +kernel) (by decide +kernel)
set_option maxRecDepth 20000 in
theorem gX4_ground_X1_isOfOther : GoodIn wsX4_ground (wsV RX4 58 RX1 yX1_isOfOther wsX1_isOfOther) := goodIn_app (goodIn_of _ (by decide +kernel)) ggX4_ground_X1_isOfOther
set_option maxRecDepth 20000 in
theorem ggX4_ground_X4_comeTo : GoodIn wsX4_ground wsX4_comeTo := goodIn_r _ [23, 1, 69, 70, 71, 72, 73, 74, 75, 76] (by decide +kernel) (by decide +kernel)
set_option maxRecDepth 20000 in
theorem gX4_ground_X4_comeTo : GoodIn wsX4_ground (wsV RX4 62 RX4 yX4_comeTo wsX4_comeTo) := goodIn_app (goodIn_of _ (by decide +kernel)) ggX4_ground_X4_comeTo
set_option maxRecDepth 20000 in
theorem ggX4_ground_X1_isNothing : GoodIn wsX4_ground wsX1_isNothing := goodIn_r _ [27, 19, 91, 92, 93] (by decide +kernel) (by decide +kernel)
set_option maxRecDepth 20000 in
theorem gX4_ground_X1_isNothing : GoodIn wsX4_ground (wsV RX4 66 RX1 yX1_isNothing wsX1_isNothing) := goodIn_app (goodIn_of _ (by decide +kernel)) ggX4_ground_X1_isNothing
set_option maxRecDepth 20000 in
theorem ggX4_ground_X1_holds : GoodIn wsX4_ground wsX1_holds := goodIn_r _ [31, 32, 91, 92, 93] (by decide +kernel) (by decide +kernel)
set_option maxRecDepth 20000 in
theorem gX4_ground_X1_holds : GoodIn wsX4_ground (wsV RX4 70 RX1 yX1_holds wsX1_holds) := goodIn_app (goodIn_of _ (by decide +kernel)) ggX4_ground_X1_holds
set_option maxRecDepth 20000 in
theorem ggX4_ground_X2_firstFault : GoodIn wsX4_ground wsX2_firstFault := goodIn_r _ [36, 37, 38, 39, 35, 40, 12, 8, 13, 41, 42, 43, 91, 92, 93] (by decide +kernel) (by decide +kernel)
set_option maxRecDepth 20000 in
theorem gX4_ground_X2_firstFault : GoodIn wsX4_ground (va_wsS RX4 73 yX2_firstFault wsX2_firstFault) := goodIn_app (goodIn_of _ (by decide +kernel)) ggX4_ground_X2_firstFault
set_option maxRecDepth 20000 in
theorem ggX4_ground_X0_take : GoodIn wsX4_ground wsX0_take := goodIn_r _ [48, 49, 50, 51, 52, 53, 54, 55, 56, 57, 58, 59, 60, 61, 47, 62, 63, 64, 65, 66, 67, 68, 42, 35, 43, 91, 92, 93, 77, 78, 79, 80, 81, 82, 83, 84, 85, 86, 87, 88, 89, 90] (by decide +kernel) (by decide +kernel)
set_option maxRecDepth 20000 in
theorem gX4_ground_X0_take : GoodIn wsX4_ground (wsV RX4 79 RX0 yX0_take wsX0_take) := goodIn_app (goodIn_of _ (by decide +kernel)) ggX4_ground_X0_take
theorem dX4_ground_0 : decode cX4_ground 0 = .ok (.aload_n 0, 1) := by decide +kernel
theorem dX4_ground_1 : decode cX4_ground 1 = .ok (.iconst 0, 1) := by decide +kernel
theorem dX4_ground_2 : decode cX4_ground 2 = .ok (.putfield 46, 3) := by decide +kernel
theorem dX4_ground_5 : decode cX4_ground 5 = .ok (.aload_n 0, 1) := by decide +kernel
theorem dX4_ground_6 : decode cX4_ground 6 = .ok (.iload_n 1, 1) := by decide +kernel
theorem dX4_ground_7 : decode cX4_ground 7 = .ok (.invokevirtual 50, 3) := by decide +kernel
theorem dX4_ground_10 : decode cX4_ground 10 = .ok (.astore 5, 2) := by decide +kernel
theorem dX4_ground_12 : decode cX4_ground 12 = .ok (.aload 5, 2) := by decide +kernel
theorem dX4_ground_14 : decode cX4_ground 14 = .ok (.ifnonnull 5, 3) := by decide +kernel
theorem dX4_ground_17 : decode cX4_ground 17 = .ok (.iconst (-1), 1) := by decide +kernel
theorem dX4_ground_18 : decode cX4_ground 18 = .ok (.ireturn, 1) := by decide +kernel
theorem dX4_ground_19 : decode cX4_ground 19 = .ok (.iload_n 2, 1) := by decide +kernel
theorem dX4_ground_20 : decode cX4_ground 20 = .ok (.iconst 2, 1) := by decide +kernel
theorem dX4_ground_21 : decode cX4_ground 21 = .ok (.invokestatic 54, 3) := by decide +kernel
theorem dX4_ground_24 : decode cX4_ground 24 = .ok (.ifCond .ne 6, 3) := by decide +kernel
theorem dX4_ground_27 : decode cX4_ground 27 = .ok (.bipush (-2), 2) := by decide +kernel
theorem dX4_ground_29 : decode cX4_ground 29 = .ok (.ireturn, 1) := by decide +kernel
theorem dX4_ground_30 : decode cX4_ground 30 = .ok (.aload 5, 2) := by decide +kernel
theorem dX4_ground_32 : decode cX4_ground 32 = .ok (.iload_n 2, 1) := by decide +kernel
theorem dX4_ground_33 : decode cX4_ground 33 = .ok (.invokevirtual 58, 3) := by decide +kernel
theorem dX4_ground_36 : decode cX4_ground 36 = .ok (.ifCond .eq 9, 3) := by decide +kernel
theorem dX4_ground_39 : decode cX4_ground 39 = .ok (.aload_n 0, 1) := by decide +kernel
theorem dX4_ground_40 : decode cX4_ground 40 = .ok (.iconst 2, 1) := by decide +kernel
theorem dX4_ground_41 : decode cX4_ground 41 = .ok (.invokevirtual 62, 3) := by decide +kernel
theorem dX4_ground_44 : decode cX4_ground 44 = .ok (.ireturn, 1) := by decide +kernel
theorem dX4_ground_45 : decode cX4_ground 45 = .ok (.aload 5, 2) := by decide +kernel
theorem dX4_ground_47 : decode cX4_ground 47 = .ok (.invokevirtual 66, 3) := by decide +kernel
theorem dX4_ground_50 : decode cX4_ground 50 = .ok (.ifCond .eq 9, 3) := by decide +kernel
theorem dX4_ground_53 : decode cX4_ground 53 = .ok (.aload_n 0, 1) := by decide +kernel
theorem dX4_ground_54 : decode cX4_ground 54 = .ok (.iconst 1, 1) := by decide +kernel
theorem dX4_ground_55 : decode cX4_ground 55 = .ok (.invokevirtual 62, 3) := by decide +kernel
theorem dX4_ground_58 : decode cX4_ground 58 = .ok (.ireturn, 1) := by decide +kernel
theorem dX4_ground_59 : decode cX4_ground 59 = .ok (.iload 4, 2) := by decide +kernel
theorem dX4_ground_61 : decode cX4_ground 61 = .ok (.ifCond .ge 9, 3) := by decide +kernel
theorem dX4_ground_64 : decode cX4_ground 64 = .ok (.aload_n 0, 1) := by decide +kernel
theorem dX4_ground_65 : decode cX4_ground 65 = .ok (.iconst 4, 1) := by decide +kernel
theorem dX4_ground_66 : decode cX4_ground 66 = .ok (.invokevirtual 62, 3) := by decide +kernel
theorem dX4_ground_69 : decode cX4_ground 69 = .ok (.ireturn, 1) := by decide +kernel
theorem dX4_ground_70 : decode cX4_ground 70 = .ok (.aload 5, 2) := by decide +kernel
theorem dX4_ground_72 : decode cX4_ground 72 = .ok (.iload_n 3, 1) := by decide +kernel
theorem dX4_ground_73 : decode cX4_ground 73 = .ok (.iload 4, 2) := by decide +kernel
theorem dX4_ground_75 : decode cX4_ground 75 = .ok (.invokevirtual 70, 3) := by decide +kernel
theorem dX4_ground_78 : decode cX4_ground 78 = .ok (.ifCond .ne 9, 3) := by decide +kernel
theorem dX4_ground_81 : decode cX4_ground 81 = .ok (.aload_n 0, 1) := by decide +kernel
theorem dX4_ground_82 : decode cX4_ground 82 = .ok (.iconst 3, 1) := by decide +kernel
theorem dX4_ground_83 : decode cX4_ground 83 = .ok (.invokevirtual 62, 3) := by decide +kernel
theorem dX4_ground_86 : decode cX4_ground 86 = .ok (.ireturn, 1) := by decide +kernel
theorem dX4_ground_87 : decode cX4_ground 87 = .ok (.aload 5, 2) := by decide +kernel
theorem dX4_ground_89 : decode cX4_ground 89 = .ok (.iload_n 3, 1) := by decide +kernel
theorem dX4_ground_90 : decode cX4_ground 90 = .ok (.iload 4, 2) := by decide +kernel
theorem dX4_ground_92 : decode cX4_ground 92 = .ok (.invokestatic 73, 3) := by decide +kernel
theorem dX4_ground_95 : decode cX4_ground 95 = .ok (.istore 6, 2) := by decide +kernel
theorem dX4_ground_97 : decode cX4_ground 97 = .ok (.iload 6, 2) := by decide +kernel
theorem dX4_ground_99 : decode cX4_ground 99 = .ok (.bipush (-9), 2) := by decide +kernel
theorem dX4_ground_101 : decode cX4_ground 101 = .ok (.if_icmp .eq 9, 3) := by decide +kernel
theorem dX4_ground_104 : decode cX4_ground 104 = .ok (.bipush (-100), 2) := by decide +kernel
theorem dX4_ground_106 : decode cX4_ground 106 = .ok (.iload 6, 2) := by decide +kernel
theorem dX4_ground_108 : decode cX4_ground 108 = .ok (.isub, 1) := by decide +kernel
theorem dX4_ground_109 : decode cX4_ground 109 = .ok (.ireturn, 1) := by decide +kernel
theorem dX4_ground_110 : decode cX4_ground 110 = .ok (.aload_n 0, 1) := by decide +kernel
theorem dX4_ground_111 : decode cX4_ground 111 = .ok (.getfield 20, 3) := by decide +kernel
theorem dX4_ground_114 : decode cX4_ground 114 = .ok (.aload 5, 2) := by decide +kernel
theorem dX4_ground_116 : decode cX4_ground 116 = .ok (.iload_n 3, 1) := by decide +kernel
theorem dX4_ground_117 : decode cX4_ground 117 = .ok (.iload 4, 2) := by decide +kernel
theorem dX4_ground_119 : decode cX4_ground 119 = .ok (.invokevirtual 79, 3) := by decide +kernel
theorem dX4_ground_122 : decode cX4_ground 122 = .ok (.aload_n 0, 1) := by decide +kernel
theorem dX4_ground_123 : decode cX4_ground 123 = .ok (.iconst 0, 1) := by decide +kernel
theorem dX4_ground_124 : decode cX4_ground 124 = .ok (.putfield 39, 3) := by decide +kernel
theorem dX4_ground_127 : decode cX4_ground 127 = .ok (.aload_n 0, 1) := by decide +kernel
theorem dX4_ground_128 : decode cX4_ground 128 = .ok (.getfield 20, 3) := by decide +kernel
theorem dX4_ground_131 : decode cX4_ground 131 = .ok (.getfield 83, 3) := by decide +kernel
theorem dX4_ground_134 : decode cX4_ground 134 = .ok (.ireturn, 1) := by decide +kernel
set_option maxRecDepth 20000 in
theorem ggX4_ofGun_X0_hasGun : GoodIn wsX4_ofGun wsX0_hasGun := goodIn_r _ [10, 11, 26, 27, 28, 29, 30, 31, 32, 33, 34, 35, 36, 37, 38, 39] (by decide +kernel) (by decide +kernel)
set_option maxRecDepth 20000 in
theorem gX4_ofGun_X0_hasGun : GoodIn wsX4_ofGun (wsV RX4 86 RX0 yX0_hasGun wsX0_hasGun) := goodIn_app (goodIn_of _ (by decide +kernel)) ggX4_ofGun_X0_hasGun
set_option maxRecDepth 20000 in
theorem ggX4_ofGun_X0_rangeOf : GoodIn wsX4_ofGun wsX0_rangeOf := goodIn_r _ [15, 16, 17, 26, 27, 28, 29, 30, 31, 32, 33, 34, 35, 36, 37, 38, 39] (by decide +kernel) (by decide +kernel)
set_option maxRecDepth 20000 in
theorem gX4_ofGun_X0_rangeOf : GoodIn wsX4_ofGun (wsV RX4 98 RX0 yX0_rangeOf wsX0_rangeOf) := goodIn_app (goodIn_of _ (by decide +kernel)) ggX4_ofGun_X0_rangeOf
theorem dX4_ofGun_0 : decode cX4_ofGun 0 = .ok (.aload_n 0, 1) := by decide +kernel
theorem dX4_ofGun_1 : decode cX4_ofGun 1 = .ok (.getfield 20, 3) := by decide +kernel
theorem dX4_ofGun_4 : decode cX4_ofGun 4 = .ok (.iload_n 1, 1) := by decide +kernel
theorem dX4_ofGun_5 : decode cX4_ofGun 5 = .ok (.invokevirtual 86, 3) := by decide +kernel
theorem dX4_ofGun_8 : decode cX4_ofGun 8 = .ok (.ifCond .ne 5, 3) := by decide +kernel
theorem dX4_ofGun_11 : decode cX4_ofGun 11 = .ok (.iconst (-1), 1) := by decide +kernel
theorem dX4_ofGun_12 : decode cX4_ofGun 12 = .ok (.ireturn, 1) := by decide +kernel
theorem dX4_ofGun_13 : decode cX4_ofGun 13 = .ok (.iload_n 2, 1) := by decide +kernel
theorem dX4_ofGun_14 : decode cX4_ofGun 14 = .ok (.tableswitch 85 0 4 #[34, 44, 54, 64, 73], 34) := by decide +kernel
theorem dX4_ofGun_48 : decode cX4_ofGun 48 = .ok (.aload_n 0, 1) := by decide +kernel
theorem dX4_ofGun_49 : decode cX4_ofGun 49 = .ok (.getfield 20, 3) := by decide +kernel
theorem dX4_ofGun_52 : decode cX4_ofGun 52 = .ok (.getfield 89, 3) := by decide +kernel
theorem dX4_ofGun_55 : decode cX4_ofGun 55 = .ok (.iload_n 1, 1) := by decide +kernel
theorem dX4_ofGun_56 : decode cX4_ofGun 56 = .ok (.iaload, 1) := by decide +kernel
theorem dX4_ofGun_57 : decode cX4_ofGun 57 = .ok (.ireturn, 1) := by decide +kernel
theorem dX4_ofGun_58 : decode cX4_ofGun 58 = .ok (.aload_n 0, 1) := by decide +kernel
theorem dX4_ofGun_59 : decode cX4_ofGun 59 = .ok (.getfield 20, 3) := by decide +kernel
theorem dX4_ofGun_62 : decode cX4_ofGun 62 = .ok (.getfield 92, 3) := by decide +kernel
theorem dX4_ofGun_65 : decode cX4_ofGun 65 = .ok (.iload_n 1, 1) := by decide +kernel
theorem dX4_ofGun_66 : decode cX4_ofGun 66 = .ok (.iaload, 1) := by decide +kernel
theorem dX4_ofGun_67 : decode cX4_ofGun 67 = .ok (.ireturn, 1) := by decide +kernel
theorem dX4_ofGun_68 : decode cX4_ofGun 68 = .ok (.aload_n 0, 1) := by decide +kernel
theorem dX4_ofGun_69 : decode cX4_ofGun 69 = .ok (.getfield 20, 3) := by decide +kernel
theorem dX4_ofGun_72 : decode cX4_ofGun 72 = .ok (.getfield 95, 3) := by decide +kernel
theorem dX4_ofGun_75 : decode cX4_ofGun 75 = .ok (.iload_n 1, 1) := by decide +kernel
theorem dX4_ofGun_76 : decode cX4_ofGun 76 = .ok (.iaload, 1) := by decide +kernel
theorem dX4_ofGun_77 : decode cX4_ofGun 77 = .ok (.ireturn, 1) := by decide +kernel
theorem dX4_ofGun_78 : decode cX4_ofGun 78 = .ok (.aload_n 0, 1) := by decide +kernel
theorem dX4_ofGun_79 : decode cX4_ofGun 79 = .ok (.getfield 20, 3) := by decide +kernel
theorem dX4_ofGun_82 : decode cX4_ofGun 82 = .ok (.iload_n 1, 1) := by decide +kernel
theorem dX4_ofGun_83 : decode cX4_ofGun 83 = .ok (.invokevirtual 98, 3) := by decide +kernel
theorem dX4_ofGun_86 : decode cX4_ofGun 86 = .ok (.ireturn, 1) := by decide +kernel
theorem dX4_ofGun_87 : decode cX4_ofGun 87 = .ok (.aload_n 0, 1) := by decide +kernel
theorem dX4_ofGun_88 : decode cX4_ofGun 88 = .ok (.getfield 20, 3) := by decide +kernel
theorem dX4_ofGun_91 : decode cX4_ofGun 91 = .ok (.getfield 101, 3) := by decide +kernel
theorem dX4_ofGun_94 : decode cX4_ofGun 94 = .ok (.iload_n 1, 1) := by decide +kernel
theorem dX4_ofGun_95 : decode cX4_ofGun 95 = .ok (.ishr, 1) := by decide +kernel
theorem dX4_ofGun_96 : decode cX4_ofGun 96 = .ok (.iconst 1, 1) := by decide +kernel
theorem dX4_ofGun_97 : decode cX4_ofGun 97 = .ok (.iand, 1) := by decide +kernel
theorem dX4_ofGun_98 : decode cX4_ofGun 98 = .ok (.ireturn, 1) := by decide +kernel
theorem dX4_ofGun_99 : decode cX4_ofGun 99 = .ok (.bipush (-2), 2) := by decide +kernel
theorem dX4_ofGun_101 : decode cX4_ofGun 101 = .ok (.ireturn, 1) := by decide +kernel
set_option maxRecDepth 20000 in
theorem ggX4_clay_X0_hasCell : GoodIn wsX4_clay wsX0_hasCell := goodIn_r _ [7, 8, 17, 18, 19, 20, 21, 22, 23, 24, 25, 26, 27, 28, 29, 30] (by decide +kernel) (by decide +kernel)
set_option maxRecDepth 20000 in
theorem gX4_clay_X0_hasCell : GoodIn wsX4_clay (wsV RX4 104 RX0 yX0_hasCell wsX0_hasCell) := goodIn_app (goodIn_of _ (by decide +kernel)) ggX4_clay_X0_hasCell
theorem dX4_clay_0 : decode cX4_clay 0 = .ok (.aload_n 0, 1) := by decide +kernel
theorem dX4_clay_1 : decode cX4_clay 1 = .ok (.getfield 20, 3) := by decide +kernel
theorem dX4_clay_4 : decode cX4_clay 4 = .ok (.iload_n 1, 1) := by decide +kernel
theorem dX4_clay_5 : decode cX4_clay 5 = .ok (.invokevirtual 104, 3) := by decide +kernel
theorem dX4_clay_8 : decode cX4_clay 8 = .ok (.ifCond .eq 15, 3) := by decide +kernel
theorem dX4_clay_11 : decode cX4_clay 11 = .ok (.aload_n 0, 1) := by decide +kernel
theorem dX4_clay_12 : decode cX4_clay 12 = .ok (.getfield 20, 3) := by decide +kernel
theorem dX4_clay_15 : decode cX4_clay 15 = .ok (.getfield 107, 3) := by decide +kernel
theorem dX4_clay_18 : decode cX4_clay 18 = .ok (.iload_n 1, 1) := by decide +kernel
theorem dX4_clay_19 : decode cX4_clay 19 = .ok (.iaload, 1) := by decide +kernel
theorem dX4_clay_20 : decode cX4_clay 20 = .ok (.goto 4, 3) := by decide +kernel
theorem dX4_clay_23 : decode cX4_clay 23 = .ok (.iconst (-1), 1) := by decide +kernel
theorem dX4_clay_24 : decode cX4_clay 24 = .ok (.ireturn, 1) := by decide +kernel
set_option maxRecDepth 20000 in
theorem ggX4_soak_X0_hasCell : GoodIn wsX4_soak wsX0_hasCell := goodIn_r _ [7, 8, 21, 22, 23, 24, 25, 26, 27, 28, 29, 30, 31, 32, 33, 34] (by decide +kernel) (by decide +kernel)
set_option maxRecDepth 20000 in
theorem gX4_soak_X0_hasCell : GoodIn wsX4_soak (wsV RX4 104 RX0 yX0_hasCell wsX0_hasCell) := goodIn_app (goodIn_of _ (by decide +kernel)) ggX4_soak_X0_hasCell
set_option maxRecDepth 20000 in
theorem ggX4_soak_X4_isWithin : GoodIn wsX4_soak wsX4_isWithin := goodIn_r _ [12] (by decide +kernel) (by decide +kernel)
set_option maxRecDepth 20000 in
theorem gX4_soak_X4_isWithin : GoodIn wsX4_soak (va_wsS RX4 54 yX4_isWithin wsX4_isWithin) := goodIn_app (goodIn_of _ (by decide +kernel)) ggX4_soak_X4_isWithin
theorem dX4_soak_0 : decode cX4_soak 0 = .ok (.aload_n 0, 1) := by decide +kernel
theorem dX4_soak_1 : decode cX4_soak 1 = .ok (.getfield 20, 3) := by decide +kernel
theorem dX4_soak_4 : decode cX4_soak 4 = .ok (.iload_n 1, 1) := by decide +kernel
theorem dX4_soak_5 : decode cX4_soak 5 = .ok (.invokevirtual 104, 3) := by decide +kernel
theorem dX4_soak_8 : decode cX4_soak 8 = .ok (.ifCond .ne 5, 3) := by decide +kernel
theorem dX4_soak_11 : decode cX4_soak 11 = .ok (.iconst (-1), 1) := by decide +kernel
theorem dX4_soak_12 : decode cX4_soak 12 = .ok (.ireturn, 1) := by decide +kernel
theorem dX4_soak_13 : decode cX4_soak 13 = .ok (.iload_n 2, 1) := by decide +kernel
theorem dX4_soak_14 : decode cX4_soak 14 = .ok (.bipush 9, 2) := by decide +kernel
theorem dX4_soak_16 : decode cX4_soak 16 = .ok (.invokestatic 54, 3) := by decide +kernel
theorem dX4_soak_19 : decode cX4_soak 19 = .ok (.ifCond .ne 6, 3) := by decide +kernel
theorem dX4_soak_22 : decode cX4_soak 22 = .ok (.bipush (-2), 2) := by decide +kernel
theorem dX4_soak_24 : decode cX4_soak 24 = .ok (.ireturn, 1) := by decide +kernel
theorem dX4_soak_25 : decode cX4_soak 25 = .ok (.aload_n 0, 1) := by decide +kernel
theorem dX4_soak_26 : decode cX4_soak 26 = .ok (.getfield 20, 3) := by decide +kernel
theorem dX4_soak_29 : decode cX4_soak 29 = .ok (.getfield 107, 3) := by decide +kernel
theorem dX4_soak_32 : decode cX4_soak 32 = .ok (.iload_n 1, 1) := by decide +kernel
theorem dX4_soak_33 : decode cX4_soak 33 = .ok (.iaload, 1) := by decide +kernel
theorem dX4_soak_34 : decode cX4_soak 34 = .ok (.istore_n 3, 1) := by decide +kernel
theorem dX4_soak_35 : decode cX4_soak 35 = .ok (.aload_n 0, 1) := by decide +kernel
theorem dX4_soak_36 : decode cX4_soak 36 = .ok (.getfield 20, 3) := by decide +kernel
theorem dX4_soak_39 : decode cX4_soak 39 = .ok (.getfield 107, 3) := by decide +kernel
theorem dX4_soak_42 : decode cX4_soak 42 = .ok (.iload_n 1, 1) := by decide +kernel
theorem dX4_soak_43 : decode cX4_soak 43 = .ok (.iload_n 2, 1) := by decide +kernel
theorem dX4_soak_44 : decode cX4_soak 44 = .ok (.iastore, 1) := by decide +kernel
theorem dX4_soak_45 : decode cX4_soak 45 = .ok (.iload_n 3, 1) := by decide +kernel
theorem dX4_soak_46 : decode cX4_soak 46 = .ok (.ireturn, 1) := by decide +kernel
set_option maxRecDepth 20000 in
theorem ggX4_charge_X0_hasGun : GoodIn wsX4_charge wsX0_hasGun := goodIn_r _ [7, 8, 21, 22, 23, 24, 25, 26, 27, 28, 29, 30, 31, 32, 33, 34] (by decide +kernel) (by decide +kernel)
set_option maxRecDepth 20000 in
theorem gX4_charge_X0_hasGun : GoodIn wsX4_charge (wsV RX4 86 RX0 yX0_hasGun wsX0_hasGun) := goodIn_app (goodIn_of _ (by decide +kernel)) ggX4_charge_X0_hasGun
set_option maxRecDepth 20000 in
theorem ggX4_charge_X4_isWithin : GoodIn wsX4_charge wsX4_isWithin := goodIn_r _ [12] (by decide +kernel) (by decide +kernel)
set_option maxRecDepth 20000 in
theorem gX4_charge_X4_isWithin : GoodIn wsX4_charge (va_wsS RX4 54 yX4_isWithin wsX4_isWithin) := goodIn_app (goodIn_of _ (by decide +kernel)) ggX4_charge_X4_isWithin
theorem dX4_charge_0 : decode cX4_charge 0 = .ok (.aload_n 0, 1) := by decide +kernel
theorem dX4_charge_1 : decode cX4_charge 1 = .ok (.getfield 20, 3) := by decide +kernel
theorem dX4_charge_4 : decode cX4_charge 4 = .ok (.iload_n 1, 1) := by decide +kernel
theorem dX4_charge_5 : decode cX4_charge 5 = .ok (.invokevirtual 86, 3) := by decide +kernel
theorem dX4_charge_8 : decode cX4_charge 8 = .ok (.ifCond .ne 5, 3) := by decide +kernel
theorem dX4_charge_11 : decode cX4_charge 11 = .ok (.iconst (-1), 1) := by decide +kernel
theorem dX4_charge_12 : decode cX4_charge 12 = .ok (.ireturn, 1) := by decide +kernel
theorem dX4_charge_13 : decode cX4_charge 13 = .ok (.iload_n 2, 1) := by decide +kernel
theorem dX4_charge_14 : decode cX4_charge 14 = .ok (.bipush 9, 2) := by decide +kernel
theorem dX4_charge_16 : decode cX4_charge 16 = .ok (.invokestatic 54, 3) := by decide +kernel
theorem dX4_charge_19 : decode cX4_charge 19 = .ok (.ifCond .ne 6, 3) := by decide +kernel
theorem dX4_charge_22 : decode cX4_charge 22 = .ok (.bipush (-2), 2) := by decide +kernel
theorem dX4_charge_24 : decode cX4_charge 24 = .ok (.ireturn, 1) := by decide +kernel
theorem dX4_charge_25 : decode cX4_charge 25 = .ok (.aload_n 0, 1) := by decide +kernel
theorem dX4_charge_26 : decode cX4_charge 26 = .ok (.getfield 20, 3) := by decide +kernel
theorem dX4_charge_29 : decode cX4_charge 29 = .ok (.getfield 95, 3) := by decide +kernel
theorem dX4_charge_32 : decode cX4_charge 32 = .ok (.iload_n 1, 1) := by decide +kernel
theorem dX4_charge_33 : decode cX4_charge 33 = .ok (.iaload, 1) := by decide +kernel
theorem dX4_charge_34 : decode cX4_charge 34 = .ok (.istore_n 3, 1) := by decide +kernel
theorem dX4_charge_35 : decode cX4_charge 35 = .ok (.aload_n 0, 1) := by decide +kernel
theorem dX4_charge_36 : decode cX4_charge 36 = .ok (.getfield 20, 3) := by decide +kernel
theorem dX4_charge_39 : decode cX4_charge 39 = .ok (.getfield 95, 3) := by decide +kernel
theorem dX4_charge_42 : decode cX4_charge 42 = .ok (.iload_n 1, 1) := by decide +kernel
theorem dX4_charge_43 : decode cX4_charge 43 = .ok (.iload_n 2, 1) := by decide +kernel
theorem dX4_charge_44 : decode cX4_charge 44 = .ok (.iastore, 1) := by decide +kernel
theorem dX4_charge_45 : decode cX4_charge 45 = .ok (.iload_n 3, 1) := by decide +kernel
theorem dX4_charge_46 : decode cX4_charge 46 = .ok (.ireturn, 1) := by decide +kernel
set_option maxRecDepth 20000 in
theorem ggX4_hush_X0_hasGun : GoodIn wsX4_hush wsX0_hasGun := goodIn_r _ [7, 8, 17, 18, 19, 20, 21, 22, 23, 24, 25, 26, 27, 28, 29, 30] (by decide +kernel) (by decide +kernel)
set_option maxRecDepth 20000 in
theorem gX4_hush_X0_hasGun : GoodIn wsX4_hush (wsV RX4 86 RX0 yX0_hasGun wsX0_hasGun) := goodIn_app (goodIn_of _ (by decide +kernel)) ggX4_hush_X0_hasGun
theorem dX4_hush_0 : decode cX4_hush 0 = .ok (.aload_n 0, 1) := by decide +kernel
theorem dX4_hush_1 : decode cX4_hush 1 = .ok (.getfield 20, 3) := by decide +kernel
theorem dX4_hush_4 : decode cX4_hush 4 = .ok (.iload_n 1, 1) := by decide +kernel
theorem dX4_hush_5 : decode cX4_hush 5 = .ok (.invokevirtual 86, 3) := by decide +kernel
theorem dX4_hush_8 : decode cX4_hush 8 = .ok (.ifCond .ne 5, 3) := by decide +kernel
theorem dX4_hush_11 : decode cX4_hush 11 = .ok (.iconst (-1), 1) := by decide +kernel
theorem dX4_hush_12 : decode cX4_hush 12 = .ok (.ireturn, 1) := by decide +kernel
theorem dX4_hush_13 : decode cX4_hush 13 = .ok (.aload_n 0, 1) := by decide +kernel
theorem dX4_hush_14 : decode cX4_hush 14 = .ok (.getfield 20, 3) := by decide +kernel
theorem dX4_hush_17 : decode cX4_hush 17 = .ok (.getfield 101, 3) := by decide +kernel
theorem dX4_hush_20 : decode cX4_hush 20 = .ok (.iload_n 1, 1) := by decide +kernel
theorem dX4_hush_21 : decode cX4_hush 21 = .ok (.ishr, 1) := by decide +kernel
theorem dX4_hush_22 : decode cX4_hush 22 = .ok (.iconst 1, 1) := by decide +kernel
theorem dX4_hush_23 : decode cX4_hush 23 = .ok (.iand, 1) := by decide +kernel
theorem dX4_hush_24 : decode cX4_hush 24 = .ok (.istore_n 3, 1) := by decide +kernel
theorem dX4_hush_25 : decode cX4_hush 25 = .ok (.iload_n 2, 1) := by decide +kernel
theorem dX4_hush_26 : decode cX4_hush 26 = .ok (.ifCond .eq 21, 3) := by decide +kernel
theorem dX4_hush_29 : decode cX4_hush 29 = .ok (.aload_n 0, 1) := by decide +kernel
theorem dX4_hush_30 : decode cX4_hush 30 = .ok (.getfield 20, 3) := by decide +kernel
theorem dX4_hush_33 : decode cX4_hush 33 = .ok (.dup, 1) := by decide +kernel
theorem dX4_hush_34 : decode cX4_hush 34 = .ok (.getfield 101, 3) := by decide +kernel
theorem dX4_hush_37 : decode cX4_hush 37 = .ok (.iconst 1, 1) := by decide +kernel
theorem dX4_hush_38 : decode cX4_hush 38 = .ok (.iload_n 1, 1) := by decide +kernel
theorem dX4_hush_39 : decode cX4_hush 39 = .ok (.ishl, 1) := by decide +kernel
theorem dX4_hush_40 : decode cX4_hush 40 = .ok (.ior, 1) := by decide +kernel
theorem dX4_hush_41 : decode cX4_hush 41 = .ok (.putfield 101, 3) := by decide +kernel
theorem dX4_hush_44 : decode cX4_hush 44 = .ok (.goto 20, 3) := by decide +kernel
theorem dX4_hush_47 : decode cX4_hush 47 = .ok (.aload_n 0, 1) := by decide +kernel
theorem dX4_hush_48 : decode cX4_hush 48 = .ok (.getfield 20, 3) := by decide +kernel
theorem dX4_hush_51 : decode cX4_hush 51 = .ok (.dup, 1) := by decide +kernel
theorem dX4_hush_52 : decode cX4_hush 52 = .ok (.getfield 101, 3) := by decide +kernel
theorem dX4_hush_55 : decode cX4_hush 55 = .ok (.iconst 1, 1) := by decide +kernel
theorem dX4_hush_56 : decode cX4_hush 56 = .ok (.iload_n 1, 1) := by decide +kernel
theorem dX4_hush_57 : decode cX4_hush 57 = .ok (.ishl, 1) := by decide +kernel
theorem dX4_hush_58 : decode cX4_hush 58 = .ok (.iconst (-1), 1) := by decide +kernel
theorem dX4_hush_59 : decode cX4_hush 59 = .ok (.ixor, 1) := by decide +kernel
theorem dX4_hush_60 : decode cX4_hush 60 = .ok (.iand, 1) := by decide +kernel
theorem dX4_hush_61 : decode cX4_hush 61 = .ok (.putfield 101, 3) := by decide +kernel
theorem dX4_hush_64 : decode cX4_hush 64 = .ok (.iload_n 3, 1) := by decide +kernel
theorem dX4_hush_65 : decode cX4_hush 65 = .ok (.ireturn, 1) := by decide +kernel
set_option maxRecDepth 20000 in
theorem ggX4_haul_X0_hasGun : GoodIn wsX4_haul wsX0_hasGun := goodIn_r _ [7, 8, 22, 23, 24, 25, 26, 27, 28, 29, 30, 31, 32, 33, 34, 35] (by decide +kernel) (by decide +kernel)
set_option maxRecDepth 20000 in
theorem gX4_haul_X0_hasGun : GoodIn wsX4_haul (wsV RX4 86 RX0 yX0_hasGun wsX0_hasGun) := goodIn_app (goodIn_of _ (by decide +kernel)) ggX4_haul_X0_hasGun
set_option maxRecDepth 20000 in
theorem ggX4_haul_X0_hasCell : GoodIn wsX4_haul wsX0_hasCell := goodIn_r _ [12, 13, 22, 23, 24, 25, 26, 27, 28, 29, 30, 31, 32, 33, 34, 35] (by decide +kernel) (by decide +kernel)
set_option maxRecDepth 20000 in
theorem gX4_haul_X0_hasCell : GoodIn wsX4_haul (wsV RX4 104 RX0 yX0_hasCell wsX0_hasCell) := goodIn_app (goodIn_of _ (by decide +kernel)) ggX4_haul_X0_hasCell
theorem dX4_haul_0 : decode cX4_haul 0 = .ok (.aload_n 0, 1) := by decide +kernel
theorem dX4_haul_1 : decode cX4_haul 1 = .ok (.getfield 20, 3) := by decide +kernel
theorem dX4_haul_4 : decode cX4_haul 4 = .ok (.iload_n 1, 1) := by decide +kernel
theorem dX4_haul_5 : decode cX4_haul 5 = .ok (.invokevirtual 86, 3) := by decide +kernel
theorem dX4_haul_8 : decode cX4_haul 8 = .ok (.ifCond .eq 14, 3) := by decide +kernel
theorem dX4_haul_11 : decode cX4_haul 11 = .ok (.aload_n 0, 1) := by decide +kernel
theorem dX4_haul_12 : decode cX4_haul 12 = .ok (.getfield 20, 3) := by decide +kernel
theorem dX4_haul_15 : decode cX4_haul 15 = .ok (.iload_n 2, 1) := by decide +kernel
theorem dX4_haul_16 : decode cX4_haul 16 = .ok (.invokevirtual 104, 3) := by decide +kernel
theorem dX4_haul_19 : decode cX4_haul 19 = .ok (.ifCond .ne 5, 3) := by decide +kernel
theorem dX4_haul_22 : decode cX4_haul 22 = .ok (.iconst (-1), 1) := by decide +kernel
theorem dX4_haul_23 : decode cX4_haul 23 = .ok (.ireturn, 1) := by decide +kernel
theorem dX4_haul_24 : decode cX4_haul 24 = .ok (.aload_n 0, 1) := by decide +kernel
theorem dX4_haul_25 : decode cX4_haul 25 = .ok (.getfield 20, 3) := by decide +kernel
theorem dX4_haul_28 : decode cX4_haul 28 = .ok (.getfield 92, 3) := by decide +kernel
theorem dX4_haul_31 : decode cX4_haul 31 = .ok (.iload_n 1, 1) := by decide +kernel
theorem dX4_haul_32 : decode cX4_haul 32 = .ok (.iaload, 1) := by decide +kernel
theorem dX4_haul_33 : decode cX4_haul 33 = .ok (.istore_n 3, 1) := by decide +kernel
theorem dX4_haul_34 : decode cX4_haul 34 = .ok (.aload_n 0, 1) := by decide +kernel
theorem dX4_haul_35 : decode cX4_haul 35 = .ok (.getfield 20, 3) := by decide +kernel
theorem dX4_haul_38 : decode cX4_haul 38 = .ok (.getfield 92, 3) := by decide +kernel
theorem dX4_haul_41 : decode cX4_haul 41 = .ok (.iload_n 1, 1) := by decide +kernel
theorem dX4_haul_42 : decode cX4_haul 42 = .ok (.iload_n 2, 1) := by decide +kernel
theorem dX4_haul_43 : decode cX4_haul 43 = .ok (.iastore, 1) := by decide +kernel
theorem dX4_haul_44 : decode cX4_haul 44 = .ok (.iload_n 3, 1) := by decide +kernel
theorem dX4_haul_45 : decode cX4_haul 45 = .ok (.ireturn, 1) := by decide +kernel
set_option maxRecDepth 20000 in
theorem ggX4_sees_X0_hasGun : GoodIn wsX4_sees wsX0_hasGun := goodIn_r _ [7, 8, 42, 43, 44, 45, 46, 47, 48, 49, 50, 51, 52, 53, 54, 55] (by decide +kernel) (by decide +kernel)
set_option maxRecDepth 20000 in
theorem gX4_sees_X0_hasGun : GoodIn wsX4_sees (wsV RX4 86 RX0 yX0_hasGun wsX0_hasGun) := goodIn_app (goodIn_of _ (by decide +kernel)) ggX4_sees_X0_hasGun
set_option maxRecDepth 20000 in
theorem ggX4_sees_X0_standing : GoodIn wsX4_sees wsX0_standing := goodIn_r _ [12, 8, 13, 42, 43, 44, 45, 46, 47, 48, 49, 50, 51, 52, 53, 54, 55] (by decide +kernel) (by decide +kernel)
set_option maxRecDepth 20000 in
theorem gX4_sees_X0_standing : GoodIn wsX4_sees (wsV RX4 110 RX0 yX0_standing wsX0_standing) := goodIn_app (goodIn_of _ (by decide +kernel)) ggX4_sees_X0_standing
set_option maxRecDepth 20000 in
theorem ggX4_sees_X0_seenBy : GoodIn wsX4_sees wsX0_seenBy := goodIn_r _ [17, 13, 18, 19, 20, 6, 21, 22, 23, 24, 25, 26, 27, 28, 29, 30, 31, 32, 33, 42, 43, 44, 45, 46, 47, 48, 49, 50, 51, 52, 53, 54, 55] (by decide +kernel) (by decide +kernel)
set_option maxRecDepth 20000 in
theorem gX4_sees_X0_seenBy : GoodIn wsX4_sees (wsV RX4 114 RX0 yX0_seenBy wsX0_seenBy) := goodIn_app (goodIn_of _ (by decide +kernel)) ggX4_sees_X0_seenBy
theorem dX4_sees_0 : decode cX4_sees 0 = .ok (.aload_n 0, 1) := by decide +kernel
theorem dX4_sees_1 : decode cX4_sees 1 = .ok (.getfield 20, 3) := by decide +kernel
theorem dX4_sees_4 : decode cX4_sees 4 = .ok (.iload_n 1, 1) := by decide +kernel
theorem dX4_sees_5 : decode cX4_sees 5 = .ok (.invokevirtual 86, 3) := by decide +kernel
theorem dX4_sees_8 : decode cX4_sees 8 = .ok (.ifCond .eq 21, 3) := by decide +kernel
theorem dX4_sees_11 : decode cX4_sees 11 = .ok (.aload_n 0, 1) := by decide +kernel
theorem dX4_sees_12 : decode cX4_sees 12 = .ok (.getfield 20, 3) := by decide +kernel
theorem dX4_sees_15 : decode cX4_sees 15 = .ok (.iload_n 1, 1) := by decide +kernel
theorem dX4_sees_16 : decode cX4_sees 16 = .ok (.aload_n 0, 1) := by decide +kernel
theorem dX4_sees_17 : decode cX4_sees 17 = .ok (.getfield 20, 3) := by decide +kernel
theorem dX4_sees_20 : decode cX4_sees 20 = .ok (.invokevirtual 110, 3) := by decide +kernel
theorem dX4_sees_23 : decode cX4_sees 23 = .ok (.invokevirtual 114, 3) := by decide +kernel
theorem dX4_sees_26 : decode cX4_sees 26 = .ok (.goto 6, 3) := by decide +kernel
theorem dX4_sees_29 : decode cX4_sees 29 = .ok (.ldc2_w 118, 3) := by decide +kernel
theorem dX4_sees_32 : decode cX4_sees 32 = .ok (.lreturn, 1) := by decide +kernel
set_option maxRecDepth 20000 in
theorem ggX4_shot_X0_hasCell : GoodIn wsX4_shot wsX0_hasCell := goodIn_r _ [6, 7, 47, 48, 49, 50, 51, 52, 53, 54, 55, 56, 57, 58, 59, 60] (by decide +kernel) (by decide +kernel)
set_option maxRecDepth 20000 in
theorem gX4_shot_X0_hasCell : GoodIn wsX4_shot (wsV RX4 104 RX0 yX0_hasCell wsX0_hasCell) := goodIn_app (goodIn_of _ (by decide +kernel)) ggX4_shot_X0_hasCell
set_option maxRecDepth 20000 in
theorem ggX4_shot_X0_shootersAt : GoodIn wsX4_shot wsX0_shootersAt := goodIn_r _ [11, 12, 13, 14, 15, 16, 5, 17, 18, 19, 20, 21, 22, 23, 24, 25, 26, 27, 28, 29, 30, 31, 32, 33, 34, 35, 36, 37, 38, 47, 48, 49, 50, 51, 52, 53, 54, 55, 56, 57, 58, 59, 60] (by decide +kernel) (by decide +kernel)
set_option maxRecDepth 20000 in
theorem gX4_shot_X0_shootersAt : GoodIn wsX4_shot (wsV RX4 120 RX0 yX0_shootersAt wsX0_shootersAt) := goodIn_app (goodIn_of _ (by decide +kernel)) ggX4_shot_X0_shootersAt
theorem dX4_shot_0 : decode cX4_shot 0 = .ok (.aload_n 0, 1) := by decide +kernel
theorem dX4_shot_1 : decode cX4_shot 1 = .ok (.getfield 20, 3) := by decide +kernel
theorem dX4_shot_4 : decode cX4_shot 4 = .ok (.iload_n 1, 1) := by decide +kernel
theorem dX4_shot_5 : decode cX4_shot 5 = .ok (.invokevirtual 104, 3) := by decide +kernel
theorem dX4_shot_8 : decode cX4_shot 8 = .ok (.ifCond .eq 16, 3) := by decide +kernel
theorem dX4_shot_11 : decode cX4_shot 11 = .ok (.aload_n 0, 1) := by decide +kernel
theorem dX4_shot_12 : decode cX4_shot 12 = .ok (.getfield 20, 3) := by decide +kernel
theorem dX4_shot_15 : decode cX4_shot 15 = .ok (.lconst 1, 1) := by decide +kernel
theorem dX4_shot_16 : decode cX4_shot 16 = .ok (.iload_n 1, 1) := by decide +kernel
theorem dX4_shot_17 : decode cX4_shot 17 = .ok (.lshl, 1) := by decide +kernel
theorem dX4_shot_18 : decode cX4_shot 18 = .ok (.invokevirtual 120, 3) := by decide +kernel
theorem dX4_shot_21 : decode cX4_shot 21 = .ok (.goto 4, 3) := by decide +kernel
theorem dX4_shot_24 : decode cX4_shot 24 = .ok (.iconst (-1), 1) := by decide +kernel
theorem dX4_shot_25 : decode cX4_shot 25 = .ok (.ireturn, 1) := by decide +kernel
set_option maxRecDepth 20000 in
theorem ggX4_is_X0_hasCell : GoodIn wsX4_is wsX0_hasCell := goodIn_r _ [7, 8, 33, 34, 35, 36, 37, 38, 39, 40, 41, 42, 43, 44, 45, 46] (by decide +kernel) (by decide +kernel)
set_option maxRecDepth 20000 in
theorem gX4_is_X0_hasCell : GoodIn wsX4_is (wsV RX4 104 RX0 yX0_hasCell wsX0_hasCell) := goodIn_app (goodIn_of _ (by decide +kernel)) ggX4_is_X0_hasCell
set_option maxRecDepth 20000 in
theorem ggX4_is_X0_soil : GoodIn wsX4_is wsX0_soil := goodIn_r _ [12, 8, 13, 14, 15, 16, 17, 6, 18, 19, 20, 33, 34, 35, 36, 37, 38, 39, 40, 41, 42, 43, 44, 45, 46] (by decide +kernel) (by decide +kernel)
set_option maxRecDepth 20000 in
theorem gX4_is_X0_soil : GoodIn wsX4_is (wsV RX4 124 RX0 yX0_soil wsX0_soil) := goodIn_app (goodIn_of _ (by decide +kernel)) ggX4_is_X0_soil
set_option maxRecDepth 20000 in
theorem ggX4_is_X4_isIn : GoodIn wsX4_is wsX4_isIn := goodIn_r _ [24] (by decide +kernel) (by decide +kernel)
set_option maxRecDepth 20000 in
theorem gX4_is_X4_isIn : GoodIn wsX4_is (va_wsS RX4 127 yX4_isIn wsX4_isIn) := goodIn_app (goodIn_of _ (by decide +kernel)) ggX4_is_X4_isIn
theorem dX4_is_0 : decode cX4_is 0 = .ok (.aload_n 0, 1) := by decide +kernel
theorem dX4_is_1 : decode cX4_is 1 = .ok (.getfield 20, 3) := by decide +kernel
theorem dX4_is_4 : decode cX4_is 4 = .ok (.iload_n 1, 1) := by decide +kernel
theorem dX4_is_5 : decode cX4_is 5 = .ok (.invokevirtual 104, 3) := by decide +kernel
theorem dX4_is_8 : decode cX4_is 8 = .ok (.ifCond .ne 5, 3) := by decide +kernel
theorem dX4_is_11 : decode cX4_is 11 = .ok (.iconst (-1), 1) := by decide +kernel
theorem dX4_is_12 : decode cX4_is 12 = .ok (.ireturn, 1) := by decide +kernel
theorem dX4_is_13 : decode cX4_is 13 = .ok (.iload_n 2, 1) := by decide +kernel
theorem dX4_is_14 : decode cX4_is 14 = .ok (.lookupswitch 66 #[(0, 26), (1, 46)], 26) := by decide +kernel
theorem dX4_is_40 : decode cX4_is 40 = .ok (.iload_n 1, 1) := by decide +kernel
theorem dX4_is_41 : decode cX4_is 41 = .ok (.aload_n 0, 1) := by decide +kernel
theorem dX4_is_42 : decode cX4_is 42 = .ok (.getfield 20, 3) := by decide +kernel
theorem dX4_is_45 : decode cX4_is 45 = .ok (.invokevirtual 124, 3) := by decide +kernel
theorem dX4_is_48 : decode cX4_is 48 = .ok (.invokestatic 127, 3) := by decide +kernel
theorem dX4_is_51 : decode cX4_is 51 = .ok (.ifCond .eq 7, 3) := by decide +kernel
theorem dX4_is_54 : decode cX4_is 54 = .ok (.iconst 1, 1) := by decide +kernel
theorem dX4_is_55 : decode cX4_is 55 = .ok (.goto 4, 3) := by decide +kernel
theorem dX4_is_58 : decode cX4_is 58 = .ok (.iconst 0, 1) := by decide +kernel
theorem dX4_is_59 : decode cX4_is 59 = .ok (.ireturn, 1) := by decide +kernel
theorem dX4_is_60 : decode cX4_is 60 = .ok (.iload_n 1, 1) := by decide +kernel
theorem dX4_is_61 : decode cX4_is 61 = .ok (.aload_n 0, 1) := by decide +kernel
theorem dX4_is_62 : decode cX4_is 62 = .ok (.getfield 20, 3) := by decide +kernel
theorem dX4_is_65 : decode cX4_is 65 = .ok (.getfield 131, 3) := by decide +kernel
theorem dX4_is_68 : decode cX4_is 68 = .ok (.invokestatic 127, 3) := by decide +kernel
theorem dX4_is_71 : decode cX4_is 71 = .ok (.ifCond .eq 7, 3) := by decide +kernel
theorem dX4_is_74 : decode cX4_is 74 = .ok (.iconst 1, 1) := by decide +kernel
theorem dX4_is_75 : decode cX4_is 75 = .ok (.goto 4, 3) := by decide +kernel
theorem dX4_is_78 : decode cX4_is 78 = .ok (.iconst 0, 1) := by decide +kernel
theorem dX4_is_79 : decode cX4_is 79 = .ok (.ireturn, 1) := by decide +kernel
theorem dX4_is_80 : decode cX4_is 80 = .ok (.bipush (-2), 2) := by decide +kernel
theorem dX4_is_82 : decode cX4_is 82 = .ok (.ireturn, 1) := by decide +kernel
set_option maxRecDepth 20000 in
theorem ggX4_cover_X0_hasGun : GoodIn wsX4_cover wsX0_hasGun := goodIn_r _ [6, 7, 48, 49, 50, 51, 52, 53, 54, 55, 56, 57, 58, 59, 60, 61] (by decide +kernel) (by decide +kernel)
set_option maxRecDepth 20000 in
theorem gX4_cover_X0_hasGun : GoodIn wsX4_cover (wsV RX4 86 RX0 yX0_hasGun wsX0_hasGun) := goodIn_app (goodIn_of _ (by decide +kernel)) ggX4_cover_X0_hasGun
set_option maxRecDepth 20000 in
theorem ggX4_cover_X0_coverersOf : GoodIn wsX4_cover wsX0_coverersOf := goodIn_r _ [11, 7, 12, 13, 14, 15, 5, 16, 17, 18, 19, 20, 21, 22, 23, 24, 25, 26, 27, 28, 29, 30, 31, 32, 33, 34, 35, 36, 37, 38, 39, 48, 49, 50, 51, 52, 53, 54, 55, 56, 57, 58, 59, 60, 61] (by decide +kernel) (by decide +kernel)
set_option maxRecDepth 20000 in
theorem gX4_cover_X0_coverersOf : GoodIn wsX4_cover (wsV RX4 135 RX0 yX0_coverersOf wsX0_coverersOf) := goodIn_app (goodIn_of _ (by decide +kernel)) ggX4_cover_X0_coverersOf
theorem dX4_cover_0 : decode cX4_cover 0 = .ok (.aload_n 0, 1) := by decide +kernel
theorem dX4_cover_1 : decode cX4_cover 1 = .ok (.getfield 20, 3) := by decide +kernel
theorem dX4_cover_4 : decode cX4_cover 4 = .ok (.iload_n 1, 1) := by decide +kernel
theorem dX4_cover_5 : decode cX4_cover 5 = .ok (.invokevirtual 86, 3) := by decide +kernel
theorem dX4_cover_8 : decode cX4_cover 8 = .ok (.ifCond .eq 14, 3) := by decide +kernel
theorem dX4_cover_11 : decode cX4_cover 11 = .ok (.aload_n 0, 1) := by decide +kernel
theorem dX4_cover_12 : decode cX4_cover 12 = .ok (.getfield 20, 3) := by decide +kernel
theorem dX4_cover_15 : decode cX4_cover 15 = .ok (.iload_n 1, 1) := by decide +kernel
theorem dX4_cover_16 : decode cX4_cover 16 = .ok (.invokevirtual 135, 3) := by decide +kernel
theorem dX4_cover_19 : decode cX4_cover 19 = .ok (.goto 4, 3) := by decide +kernel
theorem dX4_cover_22 : decode cX4_cover 22 = .ok (.iconst (-1), 1) := by decide +kernel
theorem dX4_cover_23 : decode cX4_cover 23 = .ok (.ireturn, 1) := by decide +kernel
set_option maxRecDepth 20000 in
theorem ggX4_bare_X0_coverersOf : GoodIn wsX4_bare wsX0_coverersOf := goodIn_r _ [8, 9, 10, 11, 12, 13, 7, 14, 15, 16, 17, 18, 19, 20, 21, 22, 23, 24, 25, 26, 27, 28, 29, 30, 31, 32, 33, 34, 35, 36, 37, 46, 47, 48, 49, 50, 51, 52, 53, 54, 55, 56, 57, 58, 59] (by decide +kernel) (by decide +kernel)
set_option maxRecDepth 20000 in
theorem gX4_bare_X0_coverersOf : GoodIn wsX4_bare (wsV RX4 135 RX0 yX0_coverersOf wsX0_coverersOf) := goodIn_app (goodIn_of _ (by decide +kernel)) ggX4_bare_X0_coverersOf
theorem dX4_bare_0 : decode cX4_bare 0 = .ok (.aload_n 0, 1) := by decide +kernel
theorem dX4_bare_1 : decode cX4_bare 1 = .ok (.getfield 20, 3) := by decide +kernel
theorem dX4_bare_4 : decode cX4_bare 4 = .ok (.getfield 138, 3) := by decide +kernel
theorem dX4_bare_7 : decode cX4_bare 7 = .ok (.ifCond .ne 6, 3) := by decide +kernel
theorem dX4_bare_10 : decode cX4_bare 10 = .ok (.bipush (-3), 2) := by decide +kernel
theorem dX4_bare_12 : decode cX4_bare 12 = .ok (.ireturn, 1) := by decide +kernel
theorem dX4_bare_13 : decode cX4_bare 13 = .ok (.iconst 0, 1) := by decide +kernel
theorem dX4_bare_14 : decode cX4_bare 14 = .ok (.istore_n 1, 1) := by decide +kernel
theorem dX4_bare_15 : decode cX4_bare 15 = .ok (.iconst 0, 1) := by decide +kernel
theorem dX4_bare_16 : decode cX4_bare 16 = .ok (.istore_n 2, 1) := by decide +kernel
theorem dX4_bare_17 : decode cX4_bare 17 = .ok (.iload_n 2, 1) := by decide +kernel
theorem dX4_bare_18 : decode cX4_bare 18 = .ok (.aload_n 0, 1) := by decide +kernel
theorem dX4_bare_19 : decode cX4_bare 19 = .ok (.getfield 20, 3) := by decide +kernel
theorem dX4_bare_22 : decode cX4_bare 22 = .ok (.getfield 83, 3) := by decide +kernel
theorem dX4_bare_25 : decode cX4_bare 25 = .ok (.if_icmp .ge 26, 3) := by decide +kernel
theorem dX4_bare_28 : decode cX4_bare 28 = .ok (.aload_n 0, 1) := by decide +kernel
theorem dX4_bare_29 : decode cX4_bare 29 = .ok (.getfield 20, 3) := by decide +kernel
theorem dX4_bare_32 : decode cX4_bare 32 = .ok (.iload_n 2, 1) := by decide +kernel
theorem dX4_bare_33 : decode cX4_bare 33 = .ok (.invokevirtual 135, 3) := by decide +kernel
theorem dX4_bare_36 : decode cX4_bare 36 = .ok (.ifCond .ne 9, 3) := by decide +kernel
theorem dX4_bare_39 : decode cX4_bare 39 = .ok (.iload_n 1, 1) := by decide +kernel
theorem dX4_bare_40 : decode cX4_bare 40 = .ok (.iconst 1, 1) := by decide +kernel
theorem dX4_bare_41 : decode cX4_bare 41 = .ok (.iload_n 2, 1) := by decide +kernel
theorem dX4_bare_42 : decode cX4_bare 42 = .ok (.ishl, 1) := by decide +kernel
theorem dX4_bare_43 : decode cX4_bare 43 = .ok (.ior, 1) := by decide +kernel
theorem dX4_bare_44 : decode cX4_bare 44 = .ok (.istore_n 1, 1) := by decide +kernel
theorem dX4_bare_45 : decode cX4_bare 45 = .ok (.iinc 2 1, 3) := by decide +kernel
theorem dX4_bare_48 : decode cX4_bare 48 = .ok (.goto (-31), 3) := by decide +kernel
theorem dX4_bare_51 : decode cX4_bare 51 = .ok (.iload_n 1, 1) := by decide +kernel
theorem dX4_bare_52 : decode cX4_bare 52 = .ok (.ireturn, 1) := by decide +kernel
set_option maxRecDepth 20000 in
theorem ggX4_dig_X0_hasCell : GoodIn wsX4_dig wsX0_hasCell := goodIn_r _ [9, 10, 74, 75, 76, 77, 78, 79, 80, 81, 82, 83, 84, 85, 86, 87] (by decide +kernel) (by decide +kernel)
set_option maxRecDepth 20000 in
theorem gX4_dig_X0_hasCell : GoodIn wsX4_dig (wsV RX4 104 RX0 yX0_hasCell wsX0_hasCell) := goodIn_app (goodIn_of _ (by decide +kernel)) ggX4_dig_X0_hasCell
set_option maxRecDepth 20000 in
theorem ggX4_dig_X0_nextTo : GoodIn wsX4_dig wsX0_nextTo := goodIn_r _ [14, 15, 16, 17, 18, 74, 75, 76, 77, 78, 79, 80, 81, 82, 83, 84, 85, 86, 87] (by decide +kernel) (by decide +kernel)
set_option maxRecDepth 20000 in
theorem gX4_dig_X0_nextTo : GoodIn wsX4_dig (wsV RX4 144 RX0 yX0_nextTo wsX0_nextTo) := goodIn_app (goodIn_of _ (by decide +kernel)) ggX4_dig_X0_nextTo
set_option maxRecDepth 20000 in
theorem ggX4_dig_X0_openCells : GoodIn wsX4_dig wsX0_openCells := goodIn_r _ [22, 16, 23, 24, 25, 8, 26, 10, 27, 28, 29, 30, 31, 32, 33, 34, 35, 36, 37, 38, 39, 40, 41, 42, 43, 44, 45, 46, 47, 48, 49, 50, 51, 52, 53, 54, 55, 18, 56, 74, 75, 76, 77, 78, 79, 80, 81, 82, 83, 84, 85, 86, 87] (by decide +kernel) (by decide +kernel)
set_option maxRecDepth 20000 in
theorem gX4_dig_X0_openCells : GoodIn wsX4_dig (wsV RX4 148 RX0 yX0_openCells wsX0_openCells) := goodIn_app (goodIn_of _ (by decide +kernel)) ggX4_dig_X0_openCells
set_option maxRecDepth 20000 in
theorem ggX4_dig_X4_isIn : GoodIn wsX4_dig wsX4_isIn := goodIn_r _ [60] (by decide +kernel) (by decide +kernel)
set_option maxRecDepth 20000 in
theorem gX4_dig_X4_isIn : GoodIn wsX4_dig (va_wsS RX4 127 yX4_isIn wsX4_isIn) := goodIn_app (goodIn_of _ (by decide +kernel)) ggX4_dig_X4_isIn
set_option maxRecDepth 20000 in
theorem ggX4_dig_X0_nightsOf : GoodIn wsX4_dig wsX0_nightsOf := goodIn_r _ [64, 65, 27, 58, 59, 60, 74, 75, 76, 77, 78, 79, 80, 81, 82, 83, 84, 85, 86, 87] (by decide +kernel) (by decide +kernel)
set_option maxRecDepth 20000 in
theorem gX4_dig_X0_nightsOf : GoodIn wsX4_dig (wsV RX4 152 RX0 yX0_nightsOf wsX0_nightsOf) := goodIn_app (goodIn_of _ (by decide +kernel)) ggX4_dig_X0_nightsOf
theorem dX4_dig_0 : decode cX4_dig 0 = .ok (.aload_n 0, 1) := by decide +kernel
theorem dX4_dig_1 : decode cX4_dig 1 = .ok (.getfield 20, 3) := by decide +kernel
theorem dX4_dig_4 : decode cX4_dig 4 = .ok (.iload_n 1, 1) := by decide +kernel
theorem dX4_dig_5 : decode cX4_dig 5 = .ok (.invokevirtual 104, 3) := by decide +kernel
theorem dX4_dig_8 : decode cX4_dig 8 = .ok (.ifCond .ne 5, 3) := by decide +kernel
theorem dX4_dig_11 : decode cX4_dig 11 = .ok (.iconst (-1), 1) := by decide +kernel
theorem dX4_dig_12 : decode cX4_dig 12 = .ok (.ireturn, 1) := by decide +kernel
theorem dX4_dig_13 : decode cX4_dig 13 = .ok (.aload_n 0, 1) := by decide +kernel
theorem dX4_dig_14 : decode cX4_dig 14 = .ok (.getfield 20, 3) := by decide +kernel
theorem dX4_dig_17 : decode cX4_dig 17 = .ok (.getfield 141, 3) := by decide +kernel
theorem dX4_dig_20 : decode cX4_dig 20 = .ok (.aload_n 0, 1) := by decide +kernel
theorem dX4_dig_21 : decode cX4_dig 21 = .ok (.getfield 20, 3) := by decide +kernel
theorem dX4_dig_24 : decode cX4_dig 24 = .ok (.aload_n 0, 1) := by decide +kernel
theorem dX4_dig_25 : decode cX4_dig 25 = .ok (.getfield 20, 3) := by decide +kernel
theorem dX4_dig_28 : decode cX4_dig 28 = .ok (.getfield 131, 3) := by decide +kernel
theorem dX4_dig_31 : decode cX4_dig 31 = .ok (.invokevirtual 144, 3) := by decide +kernel
theorem dX4_dig_34 : decode cX4_dig 34 = .ok (.lor, 1) := by decide +kernel
theorem dX4_dig_35 : decode cX4_dig 35 = .ok (.lstore_n 2, 1) := by decide +kernel
theorem dX4_dig_36 : decode cX4_dig 36 = .ok (.iload_n 1, 1) := by decide +kernel
theorem dX4_dig_37 : decode cX4_dig 37 = .ok (.aload_n 0, 1) := by decide +kernel
theorem dX4_dig_38 : decode cX4_dig 38 = .ok (.getfield 20, 3) := by decide +kernel
theorem dX4_dig_41 : decode cX4_dig 41 = .ok (.aload_n 0, 1) := by decide +kernel
theorem dX4_dig_42 : decode cX4_dig 42 = .ok (.getfield 20, 3) := by decide +kernel
theorem dX4_dig_45 : decode cX4_dig 45 = .ok (.getfield 101, 3) := by decide +kernel
theorem dX4_dig_48 : decode cX4_dig 48 = .ok (.invokevirtual 148, 3) := by decide +kernel
theorem dX4_dig_51 : decode cX4_dig 51 = .ok (.lload_n 2, 1) := by decide +kernel
theorem dX4_dig_52 : decode cX4_dig 52 = .ok (.land, 1) := by decide +kernel
theorem dX4_dig_53 : decode cX4_dig 53 = .ok (.invokestatic 127, 3) := by decide +kernel
theorem dX4_dig_56 : decode cX4_dig 56 = .ok (.ifCond .ne 6, 3) := by decide +kernel
theorem dX4_dig_59 : decode cX4_dig 59 = .ok (.bipush (-3), 2) := by decide +kernel
theorem dX4_dig_61 : decode cX4_dig 61 = .ok (.ireturn, 1) := by decide +kernel
theorem dX4_dig_62 : decode cX4_dig 62 = .ok (.aload_n 0, 1) := by decide +kernel
theorem dX4_dig_63 : decode cX4_dig 63 = .ok (.getfield 20, 3) := by decide +kernel
theorem dX4_dig_66 : decode cX4_dig 66 = .ok (.iload_n 1, 1) := by decide +kernel
theorem dX4_dig_67 : decode cX4_dig 67 = .ok (.invokevirtual 152, 3) := by decide +kernel
theorem dX4_dig_70 : decode cX4_dig 70 = .ok (.istore 4, 2) := by decide +kernel
theorem dX4_dig_72 : decode cX4_dig 72 = .ok (.aload_n 0, 1) := by decide +kernel
theorem dX4_dig_73 : decode cX4_dig 73 = .ok (.getfield 20, 3) := by decide +kernel
theorem dX4_dig_76 : decode cX4_dig 76 = .ok (.dup, 1) := by decide +kernel
theorem dX4_dig_77 : decode cX4_dig 77 = .ok (.getfield 131, 3) := by decide +kernel
theorem dX4_dig_80 : decode cX4_dig 80 = .ok (.lconst 1, 1) := by decide +kernel
theorem dX4_dig_81 : decode cX4_dig 81 = .ok (.iload_n 1, 1) := by decide +kernel
theorem dX4_dig_82 : decode cX4_dig 82 = .ok (.lshl, 1) := by decide +kernel
theorem dX4_dig_83 : decode cX4_dig 83 = .ok (.lor, 1) := by decide +kernel
theorem dX4_dig_84 : decode cX4_dig 84 = .ok (.putfield 131, 3) := by decide +kernel
theorem dX4_dig_87 : decode cX4_dig 87 = .ok (.iload 4, 2) := by decide +kernel
theorem dX4_dig_89 : decode cX4_dig 89 = .ok (.ireturn, 1) := by decide +kernel
set_option maxRecDepth 20000 in
theorem ggX4_fill_J13_bitCount_95d88 : GoodIn wsX4_fill wsJ13_bitCount_95d88 := goodIn_r _ [7, 8, 9, 10] (by decide +kernel) (by decide +kernel)
set_option maxRecDepth 20000 in
theorem gX4_fill_J13_bitCount_95d88 : GoodIn wsX4_fill (va_wsS RX4 155 yJ13_bitCount_95d88 wsJ13_bitCount_95d88) := goodIn_app (goodIn_of _ (by decide +kernel)) ggX4_fill_J13_bitCount_95d88
theorem dX4_fill_0 : decode cX4_fill 0 = .ok (.aload_n 0, 1) := by decide +kernel
theorem dX4_fill_1 : decode cX4_fill 1 = .ok (.getfield 20, 3) := by decide +kernel
theorem dX4_fill_4 : decode cX4_fill 4 = .ok (.getfield 138, 3) := by decide +kernel
theorem dX4_fill_7 : decode cX4_fill 7 = .ok (.ifCond .ne 6, 3) := by decide +kernel
theorem dX4_fill_10 : decode cX4_fill 10 = .ok (.bipush (-3), 2) := by decide +kernel
theorem dX4_fill_12 : decode cX4_fill 12 = .ok (.ireturn, 1) := by decide +kernel
theorem dX4_fill_13 : decode cX4_fill 13 = .ok (.aload_n 0, 1) := by decide +kernel
theorem dX4_fill_14 : decode cX4_fill 14 = .ok (.getfield 20, 3) := by decide +kernel
theorem dX4_fill_17 : decode cX4_fill 17 = .ok (.getfield 131, 3) := by decide +kernel
theorem dX4_fill_20 : decode cX4_fill 20 = .ok (.invokestatic 155, 3) := by decide +kernel
theorem dX4_fill_23 : decode cX4_fill 23 = .ok (.istore_n 1, 1) := by decide +kernel
theorem dX4_fill_24 : decode cX4_fill 24 = .ok (.aload_n 0, 1) := by decide +kernel
theorem dX4_fill_25 : decode cX4_fill 25 = .ok (.getfield 20, 3) := by decide +kernel
theorem dX4_fill_28 : decode cX4_fill 28 = .ok (.lconst 0, 1) := by decide +kernel
theorem dX4_fill_29 : decode cX4_fill 29 = .ok (.putfield 131, 3) := by decide +kernel
theorem dX4_fill_32 : decode cX4_fill 32 = .ok (.iload_n 1, 1) := by decide +kernel
theorem dX4_fill_33 : decode cX4_fill 33 = .ok (.ireturn, 1) := by decide +kernel
set_option maxRecDepth 20000 in
theorem ggX4_trench_X4_sheetOf : GoodIn wsX4_trench wsX4_sheetOf := goodIn_r _ [8, 9, 10, 11, 7, 12, 115, 116, 117, 118, 119, 120, 121, 122] (by decide +kernel) (by decide +kernel)
set_option maxRecDepth 20000 in
theorem gX4_trench_X4_sheetOf : GoodIn wsX4_trench (wsV RX4 50 RX4 yX4_sheetOf wsX4_sheetOf) := goodIn_app (goodIn_of _ (by decide +kernel)) ggX4_trench_X4_sheetOf
set_option maxRecDepth 20000 in
theorem ggX4_trench_X4_isWithin : GoodIn wsX4_trench wsX4_isWithin := goodIn_r _ [12] (by decide +kernel) (by decide +kernel)
set_option maxRecDepth 20000 in
theorem gX4_trench_X4_isWithin : GoodIn wsX4_trench (va_wsS RX4 54 yX4_isWithin wsX4_isWithin) := goodIn_app (goodIn_of _ (by decide +kernel)) ggX4_trench_X4_isWithin
set_option maxRecDepth 20000 in
theorem ggX4_trench_X1_isOfOther : GoodIn wsX4_trench wsX1_isOfOther := goodIn_r _ [17, 18, 137, 138, 139] (by decide +kernel) (by decide +kernel)
set_option maxRecDepth 20000 in
theorem gX4_trench_X1_isOfOther : GoodIn wsX4_trench (wsV RX4 58 RX1 yX1_isOfOther wsX1_isOfOther) := goodIn_app (goodIn_of _ (by decide +kernel)) ggX4_trench_X1_isOfOther
set_option maxRecDepth 20000 in
theorem ggX4_trench_X4_comeTo : GoodIn wsX4_trench wsX4_comeTo := goodIn_r _ [22, 1, 115, 116, 117, 118, 119, 120, 121, 122] (by decide +kernel) (by decide +kernel)
set_option maxRecDepth 20000 in
theorem gX4_trench_X4_comeTo : GoodIn wsX4_trench (wsV RX4 62 RX4 yX4_comeTo wsX4_comeTo) := goodIn_app (goodIn_of _ (by decide +kernel)) ggX4_trench_X4_comeTo
set_option maxRecDepth 20000 in
theorem ggX4_trench_X1_isNothing : GoodIn wsX4_trench wsX1_isNothing := goodIn_r _ [26, 18, 137, 138, 139] (by decide +kernel) (by decide +kernel)
set_option maxRecDepth 20000 in
theorem gX4_trench_X1_isNothing : GoodIn wsX4_trench (wsV RX4 66 RX1 yX1_isNothing wsX1_isNothing) := goodIn_app (goodIn_of _ (by decide +kernel)) ggX4_trench_X1_isNothing
set_option maxRecDepth 20000 in
theorem ggX4_trench_X1_holds : GoodIn wsX4_trench wsX1_holds := goodIn_r _ [30, 31, 137, 138, 139] (by decide +kernel) (by decide +kernel)
set_option maxRecDepth 20000 in
theorem gX4_trench_X1_holds : GoodIn wsX4_trench (wsV RX4 70 RX1 yX1_holds wsX1_holds) := goodIn_app (goodIn_of _ (by decide +kernel)) ggX4_trench_X1_holds
set_option maxRecDepth 20000 in
theorem ggX4_trench_X0_hasCells : GoodIn wsX4_trench wsX0_hasCells := goodIn_r _ [36, 37, 38, 39, 40, 35, 41, 42, 137, 138, 139, 123, 124, 125, 126, 127, 128, 129, 130, 131, 132, 133, 134, 135, 136] (by decide +kernel) (by decide +kernel)
set_option maxRecDepth 20000 in
theorem gX4_trench_X0_hasCells : GoodIn wsX4_trench (wsV RX4 158 RX0 yX0_hasCells wsX0_hasCells) := goodIn_app (goodIn_of _ (by decide +kernel)) ggX4_trench_X0_hasCells
set_option maxRecDepth 20000 in
theorem ggX4_trench_X0_firstWrong : GoodIn wsX4_trench wsX0_firstWrong := goodIn_r _ [46, 47, 37, 48, 49, 50, 35, 51, 42, 52, 53, 54, 55, 56, 57, 58, 59, 60, 7, 61, 62, 63, 64, 65, 66, 67, 123, 124, 125, 126, 127, 128, 129, 130, 131, 132, 133, 134, 135, 136, 137, 138, 139] (by decide +kernel) (by decide +kernel)
set_option maxRecDepth 20000 in
theorem gX4_trench_X0_firstWrong : GoodIn wsX4_trench (wsV RX4 162 RX0 yX0_firstWrong wsX0_firstWrong) := goodIn_app (goodIn_of _ (by decide +kernel)) ggX4_trench_X0_firstWrong
set_option maxRecDepth 20000 in
theorem ggX4_trench_X4_ofTrench : GoodIn wsX4_trench wsX4_ofTrench := goodIn_r _ [71, 2, 72, 73, 74, 75, 76, 35, 77, 58, 54, 55, 56, 57, 59, 78, 79, 80, 81, 82, 83, 84, 85, 86, 87, 88, 89, 90, 91, 92, 93, 94, 95, 67, 96, 97, 60, 7, 61, 98, 99, 100, 101, 102, 52, 103, 104, 105, 106, 107, 108, 109, 110, 111, 112, 113, 114, 115, 116, 117, 118, 119, 120, 121, 122, 123, 124, 125, 126, 127, 128, 129, 130, 131, 132, 133, 134, 135, 136, 137, 138, 139] (by decide +kernel) (by decide +kernel)
set_option maxRecDepth 20000 in
theorem gX4_trench_X4_ofTrench : GoodIn wsX4_trench (wsV RX4 165 RX4 yX4_ofTrench wsX4_ofTrench) := goodIn_app (goodIn_of _ (by decide +kernel)) ggX4_trench_X4_ofTrench
theorem dX4_trench_0 : decode cX4_trench 0 = .ok (.aload_n 0, 1) := by decide +kernel
theorem dX4_trench_1 : decode cX4_trench 1 = .ok (.iconst 0, 1) := by decide +kernel
theorem dX4_trench_2 : decode cX4_trench 2 = .ok (.putfield 46, 3) := by decide +kernel
theorem dX4_trench_5 : decode cX4_trench 5 = .ok (.aload_n 0, 1) := by decide +kernel
theorem dX4_trench_6 : decode cX4_trench 6 = .ok (.iload_n 1, 1) := by decide +kernel
theorem dX4_trench_7 : decode cX4_trench 7 = .ok (.invokevirtual 50, 3) := by decide +kernel
theorem dX4_trench_10 : decode cX4_trench 10 = .ok (.astore 6, 2) := by decide +kernel
theorem dX4_trench_12 : decode cX4_trench 12 = .ok (.aload 6, 2) := by decide +kernel
theorem dX4_trench_14 : decode cX4_trench 14 = .ok (.ifnonnull 5, 3) := by decide +kernel
theorem dX4_trench_17 : decode cX4_trench 17 = .ok (.iconst (-1), 1) := by decide +kernel
theorem dX4_trench_18 : decode cX4_trench 18 = .ok (.ireturn, 1) := by decide +kernel
theorem dX4_trench_19 : decode cX4_trench 19 = .ok (.iload_n 2, 1) := by decide +kernel
theorem dX4_trench_20 : decode cX4_trench 20 = .ok (.iconst 2, 1) := by decide +kernel
theorem dX4_trench_21 : decode cX4_trench 21 = .ok (.invokestatic 54, 3) := by decide +kernel
theorem dX4_trench_24 : decode cX4_trench 24 = .ok (.ifCond .eq 22, 3) := by decide +kernel
theorem dX4_trench_27 : decode cX4_trench 27 = .ok (.iload 4, 2) := by decide +kernel
theorem dX4_trench_29 : decode cX4_trench 29 = .ok (.bipush 40, 2) := by decide +kernel
theorem dX4_trench_31 : decode cX4_trench 31 = .ok (.invokestatic 54, 3) := by decide +kernel
theorem dX4_trench_34 : decode cX4_trench 34 = .ok (.ifCond .eq 12, 3) := by decide +kernel
theorem dX4_trench_37 : decode cX4_trench 37 = .ok (.iload 5, 2) := by decide +kernel
theorem dX4_trench_39 : decode cX4_trench 39 = .ok (.iconst 4, 1) := by decide +kernel
theorem dX4_trench_40 : decode cX4_trench 40 = .ok (.invokestatic 54, 3) := by decide +kernel
theorem dX4_trench_43 : decode cX4_trench 43 = .ok (.ifCond .ne 6, 3) := by decide +kernel
theorem dX4_trench_46 : decode cX4_trench 46 = .ok (.bipush (-2), 2) := by decide +kernel
theorem dX4_trench_48 : decode cX4_trench 48 = .ok (.ireturn, 1) := by decide +kernel
theorem dX4_trench_49 : decode cX4_trench 49 = .ok (.aload_n 0, 1) := by decide +kernel
theorem dX4_trench_50 : decode cX4_trench 50 = .ok (.getfield 20, 3) := by decide +kernel
theorem dX4_trench_53 : decode cX4_trench 53 = .ok (.getfield 138, 3) := by decide +kernel
theorem dX4_trench_56 : decode cX4_trench 56 = .ok (.ifCond .ne 6, 3) := by decide +kernel
theorem dX4_trench_59 : decode cX4_trench 59 = .ok (.bipush (-3), 2) := by decide +kernel
theorem dX4_trench_61 : decode cX4_trench 61 = .ok (.ireturn, 1) := by decide +kernel
theorem dX4_trench_62 : decode cX4_trench 62 = .ok (.aload 6, 2) := by decide +kernel
theorem dX4_trench_64 : decode cX4_trench 64 = .ok (.iload_n 2, 1) := by decide +kernel
theorem dX4_trench_65 : decode cX4_trench 65 = .ok (.invokevirtual 58, 3) := by decide +kernel
theorem dX4_trench_68 : decode cX4_trench 68 = .ok (.ifCond .eq 9, 3) := by decide +kernel
theorem dX4_trench_71 : decode cX4_trench 71 = .ok (.aload_n 0, 1) := by decide +kernel
theorem dX4_trench_72 : decode cX4_trench 72 = .ok (.iconst 2, 1) := by decide +kernel
theorem dX4_trench_73 : decode cX4_trench 73 = .ok (.invokevirtual 62, 3) := by decide +kernel
theorem dX4_trench_76 : decode cX4_trench 76 = .ok (.ireturn, 1) := by decide +kernel
theorem dX4_trench_77 : decode cX4_trench 77 = .ok (.aload 6, 2) := by decide +kernel
theorem dX4_trench_79 : decode cX4_trench 79 = .ok (.invokevirtual 66, 3) := by decide +kernel
theorem dX4_trench_82 : decode cX4_trench 82 = .ok (.ifCond .eq 9, 3) := by decide +kernel
theorem dX4_trench_85 : decode cX4_trench 85 = .ok (.aload_n 0, 1) := by decide +kernel
theorem dX4_trench_86 : decode cX4_trench 86 = .ok (.iconst 1, 1) := by decide +kernel
theorem dX4_trench_87 : decode cX4_trench 87 = .ok (.invokevirtual 62, 3) := by decide +kernel
theorem dX4_trench_90 : decode cX4_trench 90 = .ok (.ireturn, 1) := by decide +kernel
theorem dX4_trench_91 : decode cX4_trench 91 = .ok (.aload 6, 2) := by decide +kernel
theorem dX4_trench_93 : decode cX4_trench 93 = .ok (.iload_n 3, 1) := by decide +kernel
