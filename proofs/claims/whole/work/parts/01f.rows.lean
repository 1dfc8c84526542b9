theorem dX5_ground_197 : decode cX5_ground 197 = .ok (.putfield 137, 3) := by decide +kernel
theorem dX5_ground_200 : decode cX5_ground 200 = .ok (.aload_n 0, 1) := by decide +kernel
theorem dX5_ground_201 : decode cX5_ground 201 = .ok (.lconst 0, 1) := by decide +kernel
theorem dX5_ground_202 : decode cX5_ground 202 = .ok (.putfield 140, 3) := by decide +kernel
theorem dX5_ground_205 : decode cX5_ground 205 = .ok (.aload_n 0, 1) := by decide +kernel
theorem dX5_ground_206 : decode cX5_ground 206 = .ok (.iconst 0, 1) := by decide +kernel
theorem dX5_ground_207 : decode cX5_ground 207 = .ok (.putfield 144, 3) := by decide +kernel
theorem dX5_ground_210 : decode cX5_ground 210 = .ok (.aload_n 0, 1) := by decide +kernel
theorem dX5_ground_211 : decode cX5_ground 211 = .ok (.aload_n 0, 1) := by decide +kernel
theorem dX5_ground_212 : decode cX5_ground 212 = .ok (.getfield 83, 3) := by decide +kernel
theorem dX5_ground_215 : decode cX5_ground 215 = .ok (.invokevirtual 125, 3) := by decide +kernel
theorem dX5_ground_218 : decode cX5_ground 218 = .ok (.ireturn, 1) := by decide +kernel
theorem dX5_rangeOf_0 : decode cX5_rangeOf 0 = .ok (.aload_n 0, 1) := by decide +kernel
theorem dX5_rangeOf_1 : decode cX5_rangeOf 1 = .ok (.getfield 19, 3) := by decide +kernel
theorem dX5_rangeOf_4 : decode cX5_rangeOf 4 = .ok (.iload_n 1, 1) := by decide +kernel
theorem dX5_rangeOf_5 : decode cX5_rangeOf 5 = .ok (.iaload, 1) := by decide +kernel
theorem dX5_rangeOf_6 : decode cX5_rangeOf 6 = .ok (.iconst 1, 1) := by decide +kernel
theorem dX5_rangeOf_7 : decode cX5_rangeOf 7 = .ok (.iadd, 1) := by decide +kernel
theorem dX5_rangeOf_8 : decode cX5_rangeOf 8 = .ok (.istore_n 2, 1) := by decide +kernel
theorem dX5_rangeOf_9 : decode cX5_rangeOf 9 = .ok (.aload_n 0, 1) := by decide +kernel
theorem dX5_rangeOf_10 : decode cX5_rangeOf 10 = .ok (.getfield 13, 3) := by decide +kernel
theorem dX5_rangeOf_13 : decode cX5_rangeOf 13 = .ok (.iload_n 1, 1) := by decide +kernel
theorem dX5_rangeOf_14 : decode cX5_rangeOf 14 = .ok (.iaload, 1) := by decide +kernel
theorem dX5_rangeOf_15 : decode cX5_rangeOf 15 = .ok (.ifCond .ne 12, 3) := by decide +kernel
theorem dX5_rangeOf_18 : decode cX5_rangeOf 18 = .ok (.aload_n 0, 1) := by decide +kernel
theorem dX5_rangeOf_19 : decode cX5_rangeOf 19 = .ok (.getfield 19, 3) := by decide +kernel
theorem dX5_rangeOf_22 : decode cX5_rangeOf 22 = .ok (.iload_n 1, 1) := by decide +kernel
theorem dX5_rangeOf_23 : decode cX5_rangeOf 23 = .ok (.iaload, 1) := by decide +kernel
theorem dX5_rangeOf_24 : decode cX5_rangeOf 24 = .ok (.goto 20, 3) := by decide +kernel
theorem dX5_rangeOf_27 : decode cX5_rangeOf 27 = .ok (.aload_n 0, 1) := by decide +kernel
theorem dX5_rangeOf_28 : decode cX5_rangeOf 28 = .ok (.getfield 13, 3) := by decide +kernel
theorem dX5_rangeOf_31 : decode cX5_rangeOf 31 = .ok (.iload_n 1, 1) := by decide +kernel
theorem dX5_rangeOf_32 : decode cX5_rangeOf 32 = .ok (.iaload, 1) := by decide +kernel
theorem dX5_rangeOf_33 : decode cX5_rangeOf 33 = .ok (.iconst 1, 1) := by decide +kernel
theorem dX5_rangeOf_34 : decode cX5_rangeOf 34 = .ok (.if_icmp .ne 7, 3) := by decide +kernel
theorem dX5_rangeOf_37 : decode cX5_rangeOf 37 = .ok (.iload_n 2, 1) := by decide +kernel
theorem dX5_rangeOf_38 : decode cX5_rangeOf 38 = .ok (.goto 6, 3) := by decide +kernel
theorem dX5_rangeOf_41 : decode cX5_rangeOf 41 = .ok (.iload_n 2, 1) := by decide +kernel
theorem dX5_rangeOf_42 : decode cX5_rangeOf 42 = .ok (.iconst 2, 1) := by decide +kernel
theorem dX5_rangeOf_43 : decode cX5_rangeOf 43 = .ok (.idiv, 1) := by decide +kernel
theorem dX5_rangeOf_44 : decode cX5_rangeOf 44 = .ok (.ireturn, 1) := by decide +kernel
set_option maxRecDepth 20000 in
theorem ggX5_ofGun_X5_noGun : GoodIn wsX5_ofGun wsX5_noGun := goodIn_r _ [9, 10, 11, 12, 8, 13, 21, 22, 23, 24, 25, 26, 27, 28, 29, 30, 31, 32, 33, 34, 35, 36, 37, 38, 39, 40, 41, 42, 43, 44, 45, 46, 47, 48, 49] (by decide +kernel) (by decide +kernel)
set_option maxRecDepth 20000 in
theorem gX5_ofGun_X5_noGun : GoodIn wsX5_ofGun (wsV RX5 147 RX5 yX5_noGun wsX5_noGun) := goodIn_app (goodIn_of _ (by decide +kernel)) ggX5_ofGun_X5_noGun
set_option maxRecDepth 20000 in
theorem ggX5_ofGun_X5_rangeOf : GoodIn wsX5_ofGun wsX5_rangeOf := goodIn_r _ [17, 3, 1, 21, 22, 23, 24, 25, 26, 27, 28, 29, 30, 31, 32, 33, 34, 35, 36, 37, 38, 39, 40, 41, 42, 43, 44, 45, 46, 47, 48, 49] (by decide +kernel) (by decide +kernel)
set_option maxRecDepth 20000 in
theorem gX5_ofGun_X5_rangeOf : GoodIn wsX5_ofGun (wsV RX5 150 RX5 yX5_rangeOf wsX5_rangeOf) := goodIn_app (goodIn_of _ (by decide +kernel)) ggX5_ofGun_X5_rangeOf
set_option maxRecDepth 20000 in
theorem ggX5_ofGun_X5_isIn : GoodIn wsX5_ofGun wsX5_isIn := goodIn_r _ [20] (by decide +kernel) (by decide +kernel)
set_option maxRecDepth 20000 in
theorem gX5_ofGun_X5_isIn : GoodIn wsX5_ofGun (va_wsS RX5 153 yX5_isIn wsX5_isIn) := goodIn_app (goodIn_of _ (by decide +kernel)) ggX5_ofGun_X5_isIn
theorem dX5_ofGun_0 : decode cX5_ofGun 0 = .ok (.aload_n 0, 1) := by decide +kernel
theorem dX5_ofGun_1 : decode cX5_ofGun 1 = .ok (.iload_n 1, 1) := by decide +kernel
theorem dX5_ofGun_2 : decode cX5_ofGun 2 = .ok (.invokevirtual 147, 3) := by decide +kernel
theorem dX5_ofGun_5 : decode cX5_ofGun 5 = .ok (.ifCond .eq 5, 3) := by decide +kernel
theorem dX5_ofGun_8 : decode cX5_ofGun 8 = .ok (.iconst (-1), 1) := by decide +kernel
theorem dX5_ofGun_9 : decode cX5_ofGun 9 = .ok (.ireturn, 1) := by decide +kernel
theorem dX5_ofGun_10 : decode cX5_ofGun 10 = .ok (.iload_n 2, 1) := by decide +kernel
theorem dX5_ofGun_11 : decode cX5_ofGun 11 = .ok (.tableswitch 77 0 4 #[33, 40, 47, 54, 60], 33) := by decide +kernel
theorem dX5_ofGun_44 : decode cX5_ofGun 44 = .ok (.aload_n 0, 1) := by decide +kernel
theorem dX5_ofGun_45 : decode cX5_ofGun 45 = .ok (.getfield 13, 3) := by decide +kernel
theorem dX5_ofGun_48 : decode cX5_ofGun 48 = .ok (.iload_n 1, 1) := by decide +kernel
theorem dX5_ofGun_49 : decode cX5_ofGun 49 = .ok (.iaload, 1) := by decide +kernel
theorem dX5_ofGun_50 : decode cX5_ofGun 50 = .ok (.ireturn, 1) := by decide +kernel
theorem dX5_ofGun_51 : decode cX5_ofGun 51 = .ok (.aload_n 0, 1) := by decide +kernel
theorem dX5_ofGun_52 : decode cX5_ofGun 52 = .ok (.getfield 16, 3) := by decide +kernel
theorem dX5_ofGun_55 : decode cX5_ofGun 55 = .ok (.iload_n 1, 1) := by decide +kernel
theorem dX5_ofGun_56 : decode cX5_ofGun 56 = .ok (.iaload, 1) := by decide +kernel
theorem dX5_ofGun_57 : decode cX5_ofGun 57 = .ok (.ireturn, 1) := by decide +kernel
theorem dX5_ofGun_58 : decode cX5_ofGun 58 = .ok (.aload_n 0, 1) := by decide +kernel
theorem dX5_ofGun_59 : decode cX5_ofGun 59 = .ok (.getfield 19, 3) := by decide +kernel
theorem dX5_ofGun_62 : decode cX5_ofGun 62 = .ok (.iload_n 1, 1) := by decide +kernel
theorem dX5_ofGun_63 : decode cX5_ofGun 63 = .ok (.iaload, 1) := by decide +kernel
theorem dX5_ofGun_64 : decode cX5_ofGun 64 = .ok (.ireturn, 1) := by decide +kernel
theorem dX5_ofGun_65 : decode cX5_ofGun 65 = .ok (.aload_n 0, 1) := by decide +kernel
theorem dX5_ofGun_66 : decode cX5_ofGun 66 = .ok (.iload_n 1, 1) := by decide +kernel
theorem dX5_ofGun_67 : decode cX5_ofGun 67 = .ok (.invokevirtual 150, 3) := by decide +kernel
theorem dX5_ofGun_70 : decode cX5_ofGun 70 = .ok (.ireturn, 1) := by decide +kernel
theorem dX5_ofGun_71 : decode cX5_ofGun 71 = .ok (.aload_n 0, 1) := by decide +kernel
theorem dX5_ofGun_72 : decode cX5_ofGun 72 = .ok (.getfield 137, 3) := by decide +kernel
theorem dX5_ofGun_75 : decode cX5_ofGun 75 = .ok (.iload_n 1, 1) := by decide +kernel
theorem dX5_ofGun_76 : decode cX5_ofGun 76 = .ok (.invokestatic 153, 3) := by decide +kernel
theorem dX5_ofGun_79 : decode cX5_ofGun 79 = .ok (.ifCond .eq 7, 3) := by decide +kernel
theorem dX5_ofGun_82 : decode cX5_ofGun 82 = .ok (.iconst 1, 1) := by decide +kernel
theorem dX5_ofGun_83 : decode cX5_ofGun 83 = .ok (.goto 4, 3) := by decide +kernel
theorem dX5_ofGun_86 : decode cX5_ofGun 86 = .ok (.iconst 0, 1) := by decide +kernel
theorem dX5_ofGun_87 : decode cX5_ofGun 87 = .ok (.ireturn, 1) := by decide +kernel
theorem dX5_ofGun_88 : decode cX5_ofGun 88 = .ok (.bipush (-2), 2) := by decide +kernel
theorem dX5_ofGun_90 : decode cX5_ofGun 90 = .ok (.ireturn, 1) := by decide +kernel
set_option maxRecDepth 20000 in
theorem ggX5_clay_X5_noSquare : GoodIn wsX5_clay wsX5_noSquare := goodIn_r _ [6, 7, 8, 9, 5, 10, 11, 12, 13, 14, 15, 16, 17, 18, 19, 20, 21, 22, 23, 24, 25, 26, 27, 28, 29, 30, 31, 32, 33, 34, 35, 36, 37, 38, 39, 40, 41, 42, 43, 44] (by decide +kernel) (by decide +kernel)
set_option maxRecDepth 20000 in
theorem gX5_clay_X5_noSquare : GoodIn wsX5_clay (wsV RX5 156 RX5 yX5_noSquare wsX5_noSquare) := goodIn_app (goodIn_of _ (by decide +kernel)) ggX5_clay_X5_noSquare
theorem dX5_clay_0 : decode cX5_clay 0 = .ok (.aload_n 0, 1) := by decide +kernel
theorem dX5_clay_1 : decode cX5_clay 1 = .ok (.iload_n 1, 1) := by decide +kernel
theorem dX5_clay_2 : decode cX5_clay 2 = .ok (.invokevirtual 156, 3) := by decide +kernel
theorem dX5_clay_5 : decode cX5_clay 5 = .ok (.ifCond .eq 7, 3) := by decide +kernel
theorem dX5_clay_8 : decode cX5_clay 8 = .ok (.iconst (-1), 1) := by decide +kernel
theorem dX5_clay_9 : decode cX5_clay 9 = .ok (.goto 9, 3) := by decide +kernel
theorem dX5_clay_12 : decode cX5_clay 12 = .ok (.aload_n 0, 1) := by decide +kernel
theorem dX5_clay_13 : decode cX5_clay 13 = .ok (.getfield 7, 3) := by decide +kernel
theorem dX5_clay_16 : decode cX5_clay 16 = .ok (.iload_n 1, 1) := by decide +kernel
theorem dX5_clay_17 : decode cX5_clay 17 = .ok (.iaload, 1) := by decide +kernel
theorem dX5_clay_18 : decode cX5_clay 18 = .ok (.ireturn, 1) := by decide +kernel
set_option maxRecDepth 20000 in
theorem ggX5_soak_X5_noSquare : GoodIn wsX5_soak wsX5_noSquare := goodIn_r _ [7, 8, 9, 10, 6, 11, 12, 13, 14, 15, 16, 17, 18, 19, 20, 21, 22, 23, 24, 25, 26, 27, 28, 29, 30, 31, 32, 33, 34, 35, 36, 37, 38, 39, 40, 41, 42, 43, 44, 45] (by decide +kernel) (by decide +kernel)
set_option maxRecDepth 20000 in
theorem gX5_soak_X5_noSquare : GoodIn wsX5_soak (wsV RX5 156 RX5 yX5_noSquare wsX5_noSquare) := goodIn_app (goodIn_of _ (by decide +kernel)) ggX5_soak_X5_noSquare
set_option maxRecDepth 20000 in
theorem ggX5_soak_X5_in : GoodIn wsX5_soak wsX5_in := goodIn_r _ [16] (by decide +kernel) (by decide +kernel)
set_option maxRecDepth 20000 in
theorem gX5_soak_X5_in : GoodIn wsX5_soak (va_wsS RX5 79 yX5_in wsX5_in) := goodIn_app (goodIn_of _ (by decide +kernel)) ggX5_soak_X5_in
theorem dX5_soak_0 : decode cX5_soak 0 = .ok (.aload_n 0, 1) := by decide +kernel
theorem dX5_soak_1 : decode cX5_soak 1 = .ok (.iload_n 1, 1) := by decide +kernel
theorem dX5_soak_2 : decode cX5_soak 2 = .ok (.invokevirtual 156, 3) := by decide +kernel
theorem dX5_soak_5 : decode cX5_soak 5 = .ok (.ifCond .eq 5, 3) := by decide +kernel
theorem dX5_soak_8 : decode cX5_soak 8 = .ok (.iconst (-1), 1) := by decide +kernel
theorem dX5_soak_9 : decode cX5_soak 9 = .ok (.ireturn, 1) := by decide +kernel
theorem dX5_soak_10 : decode cX5_soak 10 = .ok (.iload_n 2, 1) := by decide +kernel
theorem dX5_soak_11 : decode cX5_soak 11 = .ok (.i2l, 1) := by decide +kernel
theorem dX5_soak_12 : decode cX5_soak 12 = .ok (.lconst 0, 1) := by decide +kernel
theorem dX5_soak_13 : decode cX5_soak 13 = .ok (.ldc2_w 159, 3) := by decide +kernel
theorem dX5_soak_16 : decode cX5_soak 16 = .ok (.invokestatic 79, 3) := by decide +kernel
theorem dX5_soak_19 : decode cX5_soak 19 = .ok (.ifCond .ne 6, 3) := by decide +kernel
theorem dX5_soak_22 : decode cX5_soak 22 = .ok (.bipush (-2), 2) := by decide +kernel
theorem dX5_soak_24 : decode cX5_soak 24 = .ok (.ireturn, 1) := by decide +kernel
theorem dX5_soak_25 : decode cX5_soak 25 = .ok (.aload_n 0, 1) := by decide +kernel
theorem dX5_soak_26 : decode cX5_soak 26 = .ok (.getfield 7, 3) := by decide +kernel
theorem dX5_soak_29 : decode cX5_soak 29 = .ok (.iload_n 1, 1) := by decide +kernel
theorem dX5_soak_30 : decode cX5_soak 30 = .ok (.iaload, 1) := by decide +kernel
theorem dX5_soak_31 : decode cX5_soak 31 = .ok (.istore_n 3, 1) := by decide +kernel
theorem dX5_soak_32 : decode cX5_soak 32 = .ok (.aload_n 0, 1) := by decide +kernel
theorem dX5_soak_33 : decode cX5_soak 33 = .ok (.getfield 7, 3) := by decide +kernel
theorem dX5_soak_36 : decode cX5_soak 36 = .ok (.iload_n 1, 1) := by decide +kernel
theorem dX5_soak_37 : decode cX5_soak 37 = .ok (.iload_n 2, 1) := by decide +kernel
theorem dX5_soak_38 : decode cX5_soak 38 = .ok (.iastore, 1) := by decide +kernel
theorem dX5_soak_39 : decode cX5_soak 39 = .ok (.iload_n 3, 1) := by decide +kernel
theorem dX5_soak_40 : decode cX5_soak 40 = .ok (.ireturn, 1) := by decide +kernel
set_option maxRecDepth 20000 in
theorem ggX5_charge_X5_noGun : GoodIn wsX5_charge wsX5_noGun := goodIn_r _ [7, 8, 9, 10, 6, 11, 12, 13, 14, 15, 16, 17, 18, 19, 20, 21, 22, 23, 24, 25, 26, 27, 28, 29, 30, 31, 32, 33, 34, 35, 36, 37, 38, 39, 40] (by decide +kernel) (by decide +kernel)
set_option maxRecDepth 20000 in
theorem gX5_charge_X5_noGun : GoodIn wsX5_charge (wsV RX5 147 RX5 yX5_noGun wsX5_noGun) := goodIn_app (goodIn_of _ (by decide +kernel)) ggX5_charge_X5_noGun
set_option maxRecDepth 20000 in
theorem ggX5_charge_X5_in : GoodIn wsX5_charge wsX5_in := goodIn_r _ [11] (by decide +kernel) (by decide +kernel)
set_option maxRecDepth 20000 in
theorem gX5_charge_X5_in : GoodIn wsX5_charge (va_wsS RX5 79 yX5_in wsX5_in) := goodIn_app (goodIn_of _ (by decide +kernel)) ggX5_charge_X5_in
theorem dX5_charge_0 : decode cX5_charge 0 = .ok (.aload_n 0, 1) := by decide +kernel
theorem dX5_charge_1 : decode cX5_charge 1 = .ok (.iload_n 1, 1) := by decide +kernel
theorem dX5_charge_2 : decode cX5_charge 2 = .ok (.invokevirtual 147, 3) := by decide +kernel
theorem dX5_charge_5 : decode cX5_charge 5 = .ok (.ifCond .eq 5, 3) := by decide +kernel
theorem dX5_charge_8 : decode cX5_charge 8 = .ok (.iconst (-1), 1) := by decide +kernel
theorem dX5_charge_9 : decode cX5_charge 9 = .ok (.ireturn, 1) := by decide +kernel
theorem dX5_charge_10 : decode cX5_charge 10 = .ok (.iload_n 2, 1) := by decide +kernel
theorem dX5_charge_11 : decode cX5_charge 11 = .ok (.i2l, 1) := by decide +kernel
theorem dX5_charge_12 : decode cX5_charge 12 = .ok (.lconst 0, 1) := by decide +kernel
theorem dX5_charge_13 : decode cX5_charge 13 = .ok (.ldc2_w 159, 3) := by decide +kernel
theorem dX5_charge_16 : decode cX5_charge 16 = .ok (.invokestatic 79, 3) := by decide +kernel
theorem dX5_charge_19 : decode cX5_charge 19 = .ok (.ifCond .ne 6, 3) := by decide +kernel
theorem dX5_charge_22 : decode cX5_charge 22 = .ok (.bipush (-2), 2) := by decide +kernel
theorem dX5_charge_24 : decode cX5_charge 24 = .ok (.ireturn, 1) := by decide +kernel
theorem dX5_charge_25 : decode cX5_charge 25 = .ok (.aload_n 0, 1) := by decide +kernel
theorem dX5_charge_26 : decode cX5_charge 26 = .ok (.getfield 19, 3) := by decide +kernel
theorem dX5_charge_29 : decode cX5_charge 29 = .ok (.iload_n 1, 1) := by decide +kernel
theorem dX5_charge_30 : decode cX5_charge 30 = .ok (.iaload, 1) := by decide +kernel
theorem dX5_charge_31 : decode cX5_charge 31 = .ok (.istore_n 3, 1) := by decide +kernel
theorem dX5_charge_32 : decode cX5_charge 32 = .ok (.aload_n 0, 1) := by decide +kernel
theorem dX5_charge_33 : decode cX5_charge 33 = .ok (.getfield 19, 3) := by decide +kernel
theorem dX5_charge_36 : decode cX5_charge 36 = .ok (.iload_n 1, 1) := by decide +kernel
theorem dX5_charge_37 : decode cX5_charge 37 = .ok (.iload_n 2, 1) := by decide +kernel
theorem dX5_charge_38 : decode cX5_charge 38 = .ok (.iastore, 1) := by decide +kernel
theorem dX5_charge_39 : decode cX5_charge 39 = .ok (.iload_n 3, 1) := by decide +kernel
theorem dX5_charge_40 : decode cX5_charge 40 = .ok (.ireturn, 1) := by decide +kernel
set_option maxRecDepth 20000 in
theorem ggX5_hush_X5_noGun : GoodIn wsX5_hush wsX5_noGun := goodIn_r _ [6, 7, 8, 9, 5, 10, 11, 12, 13, 14, 15, 16, 17, 18, 19, 20, 21, 22, 23, 24, 25, 26, 27, 28, 29, 30, 31, 32, 33, 34, 35, 36, 37, 38, 39] (by decide +kernel) (by decide +kernel)
set_option maxRecDepth 20000 in
theorem gX5_hush_X5_noGun : GoodIn wsX5_hush (wsV RX5 147 RX5 yX5_noGun wsX5_noGun) := goodIn_app (goodIn_of _ (by decide +kernel)) ggX5_hush_X5_noGun
theorem dX5_hush_0 : decode cX5_hush 0 = .ok (.aload_n 0, 1) := by decide +kernel
theorem dX5_hush_1 : decode cX5_hush 1 = .ok (.iload_n 1, 1) := by decide +kernel
theorem dX5_hush_2 : decode cX5_hush 2 = .ok (.invokevirtual 147, 3) := by decide +kernel
theorem dX5_hush_5 : decode cX5_hush 5 = .ok (.ifCond .eq 5, 3) := by decide +kernel
theorem dX5_hush_8 : decode cX5_hush 8 = .ok (.iconst (-1), 1) := by decide +kernel
theorem dX5_hush_9 : decode cX5_hush 9 = .ok (.ireturn, 1) := by decide +kernel
theorem dX5_hush_10 : decode cX5_hush 10 = .ok (.aload_n 0, 1) := by decide +kernel
theorem dX5_hush_11 : decode cX5_hush 11 = .ok (.getfield 137, 3) := by decide +kernel
theorem dX5_hush_14 : decode cX5_hush 14 = .ok (.iload_n 1, 1) := by decide +kernel
theorem dX5_hush_15 : decode cX5_hush 15 = .ok (.ishr, 1) := by decide +kernel
theorem dX5_hush_16 : decode cX5_hush 16 = .ok (.iconst 1, 1) := by decide +kernel
theorem dX5_hush_17 : decode cX5_hush 17 = .ok (.iand, 1) := by decide +kernel
theorem dX5_hush_18 : decode cX5_hush 18 = .ok (.istore_n 3, 1) := by decide +kernel
theorem dX5_hush_19 : decode cX5_hush 19 = .ok (.aload_n 0, 1) := by decide +kernel
theorem dX5_hush_20 : decode cX5_hush 20 = .ok (.iload_n 2, 1) := by decide +kernel
theorem dX5_hush_21 : decode cX5_hush 21 = .ok (.ifCond .eq 14, 3) := by decide +kernel
theorem dX5_hush_24 : decode cX5_hush 24 = .ok (.aload_n 0, 1) := by decide +kernel
theorem dX5_hush_25 : decode cX5_hush 25 = .ok (.getfield 137, 3) := by decide +kernel
theorem dX5_hush_28 : decode cX5_hush 28 = .ok (.iconst 1, 1) := by decide +kernel
theorem dX5_hush_29 : decode cX5_hush 29 = .ok (.iload_n 1, 1) := by decide +kernel
theorem dX5_hush_30 : decode cX5_hush 30 = .ok (.ishl, 1) := by decide +kernel
theorem dX5_hush_31 : decode cX5_hush 31 = .ok (.ior, 1) := by decide +kernel
theorem dX5_hush_32 : decode cX5_hush 32 = .ok (.goto 13, 3) := by decide +kernel
theorem dX5_hush_35 : decode cX5_hush 35 = .ok (.aload_n 0, 1) := by decide +kernel
theorem dX5_hush_36 : decode cX5_hush 36 = .ok (.getfield 137, 3) := by decide +kernel
theorem dX5_hush_39 : decode cX5_hush 39 = .ok (.iconst 1, 1) := by decide +kernel
theorem dX5_hush_40 : decode cX5_hush 40 = .ok (.iload_n 1, 1) := by decide +kernel
theorem dX5_hush_41 : decode cX5_hush 41 = .ok (.ishl, 1) := by decide +kernel
theorem dX5_hush_42 : decode cX5_hush 42 = .ok (.iconst (-1), 1) := by decide +kernel
theorem dX5_hush_43 : decode cX5_hush 43 = .ok (.ixor, 1) := by decide +kernel
theorem dX5_hush_44 : decode cX5_hush 44 = .ok (.iand, 1) := by decide +kernel
theorem dX5_hush_45 : decode cX5_hush 45 = .ok (.putfield 137, 3) := by decide +kernel
theorem dX5_hush_48 : decode cX5_hush 48 = .ok (.iload_n 3, 1) := by decide +kernel
theorem dX5_hush_49 : decode cX5_hush 49 = .ok (.ireturn, 1) := by decide +kernel
set_option maxRecDepth 20000 in
theorem ggX5_haul_X5_noGun : GoodIn wsX5_haul wsX5_noGun := goodIn_r _ [6, 7, 8, 9, 5, 10, 21, 22, 23, 24, 25, 26, 27, 28, 29, 30, 31, 32, 33, 34, 35, 36, 37, 38, 39, 40, 41, 42, 43, 44, 45, 46, 47, 48, 49] (by decide +kernel) (by decide +kernel)
set_option maxRecDepth 20000 in
theorem gX5_haul_X5_noGun : GoodIn wsX5_haul (wsV RX5 147 RX5 yX5_noGun wsX5_noGun) := goodIn_app (goodIn_of _ (by decide +kernel)) ggX5_haul_X5_noGun
set_option maxRecDepth 20000 in
theorem ggX5_haul_X5_noSquare : GoodIn wsX5_haul wsX5_noSquare := goodIn_r _ [14, 15, 16, 17, 5, 18, 19, 20, 8, 9, 10, 21, 22, 23, 24, 25, 26, 27, 28, 29, 30, 31, 32, 33, 34, 35, 36, 37, 38, 39, 40, 41, 42, 43, 44, 45, 46, 47, 48, 49] (by decide +kernel) (by decide +kernel)
set_option maxRecDepth 20000 in
theorem gX5_haul_X5_noSquare : GoodIn wsX5_haul (wsV RX5 156 RX5 yX5_noSquare wsX5_noSquare) := goodIn_app (goodIn_of _ (by decide +kernel)) ggX5_haul_X5_noSquare
theorem dX5_haul_0 : decode cX5_haul 0 = .ok (.aload_n 0, 1) := by decide +kernel
theorem dX5_haul_1 : decode cX5_haul 1 = .ok (.iload_n 1, 1) := by decide +kernel
theorem dX5_haul_2 : decode cX5_haul 2 = .ok (.invokevirtual 147, 3) := by decide +kernel
theorem dX5_haul_5 : decode cX5_haul 5 = .ok (.ifCond .ne 11, 3) := by decide +kernel
theorem dX5_haul_8 : decode cX5_haul 8 = .ok (.aload_n 0, 1) := by decide +kernel
theorem dX5_haul_9 : decode cX5_haul 9 = .ok (.iload_n 2, 1) := by decide +kernel
theorem dX5_haul_10 : decode cX5_haul 10 = .ok (.invokevirtual 156, 3) := by decide +kernel
theorem dX5_haul_13 : decode cX5_haul 13 = .ok (.ifCond .eq 5, 3) := by decide +kernel
theorem dX5_haul_16 : decode cX5_haul 16 = .ok (.iconst (-1), 1) := by decide +kernel
theorem dX5_haul_17 : decode cX5_haul 17 = .ok (.ireturn, 1) := by decide +kernel
theorem dX5_haul_18 : decode cX5_haul 18 = .ok (.aload_n 0, 1) := by decide +kernel
theorem dX5_haul_19 : decode cX5_haul 19 = .ok (.getfield 16, 3) := by decide +kernel
theorem dX5_haul_22 : decode cX5_haul 22 = .ok (.iload_n 1, 1) := by decide +kernel
theorem dX5_haul_23 : decode cX5_haul 23 = .ok (.iaload, 1) := by decide +kernel
theorem dX5_haul_24 : decode cX5_haul 24 = .ok (.istore_n 3, 1) := by decide +kernel
theorem dX5_haul_25 : decode cX5_haul 25 = .ok (.aload_n 0, 1) := by decide +kernel
theorem dX5_haul_26 : decode cX5_haul 26 = .ok (.getfield 16, 3) := by decide +kernel
theorem dX5_haul_29 : decode cX5_haul 29 = .ok (.iload_n 1, 1) := by decide +kernel
theorem dX5_haul_30 : decode cX5_haul 30 = .ok (.iload_n 2, 1) := by decide +kernel
theorem dX5_haul_31 : decode cX5_haul 31 = .ok (.iastore, 1) := by decide +kernel
theorem dX5_haul_32 : decode cX5_haul 32 = .ok (.iload_n 3, 1) := by decide +kernel
theorem dX5_haul_33 : decode cX5_haul 33 = .ok (.ireturn, 1) := by decide +kernel
theorem dX5_allGuns_0 : decode cX5_allGuns 0 = .ok (.aload_n 0, 1) := by decide +kernel
theorem dX5_allGuns_1 : decode cX5_allGuns 1 = .ok (.getfield 83, 3) := by decide +kernel
theorem dX5_allGuns_4 : decode cX5_allGuns 4 = .ok (.aload_n 0, 1) := by decide +kernel
theorem dX5_allGuns_5 : decode cX5_allGuns 5 = .ok (.getfield 161, 3) := by decide +kernel
theorem dX5_allGuns_8 : decode cX5_allGuns 8 = .ok (.iadd, 1) := by decide +kernel
theorem dX5_allGuns_9 : decode cX5_allGuns 9 = .ok (.ireturn, 1) := by decide +kernel
set_option maxRecDepth 20000 in
theorem ggX5_hasGun_X5_allGuns : GoodIn wsX5_hasGun wsX5_allGuns := goodIn_r _ [6, 7, 8, 9, 10, 11, 12, 13, 14, 15, 16, 17, 18, 19, 20, 21, 22, 23, 24, 25, 26, 27, 28, 29, 30, 31, 32, 33, 34, 35, 36, 37] (by decide +kernel) (by decide +kernel)
set_option maxRecDepth 20000 in
theorem gX5_hasGun_X5_allGuns : GoodIn wsX5_hasGun (wsV RX5 164 RX5 yX5_allGuns wsX5_allGuns) := goodIn_app (goodIn_of _ (by decide +kernel)) ggX5_hasGun_X5_allGuns
theorem dX5_hasGun_0 : decode cX5_hasGun 0 = .ok (.iconst 0, 1) := by decide +kernel
theorem dX5_hasGun_1 : decode cX5_hasGun 1 = .ok (.istore_n 2, 1) := by decide +kernel
theorem dX5_hasGun_2 : decode cX5_hasGun 2 = .ok (.iconst 0, 1) := by decide +kernel
theorem dX5_hasGun_3 : decode cX5_hasGun 3 = .ok (.istore_n 3, 1) := by decide +kernel
theorem dX5_hasGun_4 : decode cX5_hasGun 4 = .ok (.iload_n 3, 1) := by decide +kernel
theorem dX5_hasGun_5 : decode cX5_hasGun 5 = .ok (.aload_n 0, 1) := by decide +kernel
theorem dX5_hasGun_6 : decode cX5_hasGun 6 = .ok (.invokevirtual 164, 3) := by decide +kernel
theorem dX5_hasGun_9 : decode cX5_hasGun 9 = .ok (.if_icmp .ge 29, 3) := by decide +kernel
theorem dX5_hasGun_12 : decode cX5_hasGun 12 = .ok (.iload_n 2, 1) := by decide +kernel
theorem dX5_hasGun_13 : decode cX5_hasGun 13 = .ok (.ifCond .ne 13, 3) := by decide +kernel
theorem dX5_hasGun_16 : decode cX5_hasGun 16 = .ok (.aload_n 0, 1) := by decide +kernel
theorem dX5_hasGun_17 : decode cX5_hasGun 17 = .ok (.getfield 16, 3) := by decide +kernel
theorem dX5_hasGun_20 : decode cX5_hasGun 20 = .ok (.iload_n 3, 1) := by decide +kernel
theorem dX5_hasGun_21 : decode cX5_hasGun 21 = .ok (.iaload, 1) := by decide +kernel
theorem dX5_hasGun_22 : decode cX5_hasGun 22 = .ok (.iload_n 1, 1) := by decide +kernel
theorem dX5_hasGun_23 : decode cX5_hasGun 23 = .ok (.if_icmp .ne 7, 3) := by decide +kernel
theorem dX5_hasGun_26 : decode cX5_hasGun 26 = .ok (.iconst 1, 1) := by decide +kernel
theorem dX5_hasGun_27 : decode cX5_hasGun 27 = .ok (.goto 4, 3) := by decide +kernel
theorem dX5_hasGun_30 : decode cX5_hasGun 30 = .ok (.iconst 0, 1) := by decide +kernel
theorem dX5_hasGun_31 : decode cX5_hasGun 31 = .ok (.istore_n 2, 1) := by decide +kernel
theorem dX5_hasGun_32 : decode cX5_hasGun 32 = .ok (.iinc 3 1, 3) := by decide +kernel
theorem dX5_hasGun_35 : decode cX5_hasGun 35 = .ok (.goto (-31), 3) := by decide +kernel
theorem dX5_hasGun_38 : decode cX5_hasGun 38 = .ok (.iload_n 2, 1) := by decide +kernel
theorem dX5_hasGun_39 : decode cX5_hasGun 39 = .ok (.ireturn, 1) := by decide +kernel
theorem dX5_sign_0 : decode cX5_sign 0 = .ok (.iload_n 0, 1) := by decide +kernel
theorem dX5_sign_1 : decode cX5_sign 1 = .ok (.ifCond .le 7, 3) := by decide +kernel
theorem dX5_sign_4 : decode cX5_sign 4 = .ok (.iconst 1, 1) := by decide +kernel
theorem dX5_sign_5 : decode cX5_sign 5 = .ok (.goto 12, 3) := by decide +kernel
theorem dX5_sign_8 : decode cX5_sign 8 = .ok (.iload_n 0, 1) := by decide +kernel
theorem dX5_sign_9 : decode cX5_sign 9 = .ok (.ifCond .ge 7, 3) := by decide +kernel
theorem dX5_sign_12 : decode cX5_sign 12 = .ok (.iconst (-1), 1) := by decide +kernel
theorem dX5_sign_13 : decode cX5_sign 13 = .ok (.goto 4, 3) := by decide +kernel
theorem dX5_sign_16 : decode cX5_sign 16 = .ok (.iconst 0, 1) := by decide +kernel
theorem dX5_sign_17 : decode cX5_sign 17 = .ok (.ireturn, 1) := by decide +kernel
set_option maxRecDepth 20000 in
theorem ggX5_looks_X5_offBy : GoodIn wsX5_looks wsX5_offBy := goodIn_r _ [5] (by decide +kernel) (by decide +kernel)
set_option maxRecDepth 20000 in
theorem gX5_looks_X5_offBy : GoodIn wsX5_looks (va_wsS RX5 167 yX5_offBy wsX5_offBy) := goodIn_app (goodIn_of _ (by decide +kernel)) ggX5_looks_X5_offBy
set_option maxRecDepth 20000 in
theorem ggX5_looks_X5_in : GoodIn wsX5_looks wsX5_in := goodIn_r _ [8] (by decide +kernel) (by decide +kernel)
set_option maxRecDepth 20000 in
theorem gX5_looks_X5_in : GoodIn wsX5_looks (va_wsS RX5 79 yX5_in wsX5_in) := goodIn_app (goodIn_of _ (by decide +kernel)) ggX5_looks_X5_in
set_option maxRecDepth 20000 in
theorem ggX5_looks_X5_sign : GoodIn wsX5_looks wsX5_sign := goodIn_r _ [11] (by decide +kernel) (by decide +kernel)
set_option maxRecDepth 20000 in
theorem gX5_looks_X5_sign : GoodIn wsX5_looks (va_wsS RX5 170 yX5_sign wsX5_sign) := goodIn_app (goodIn_of _ (by decide +kernel)) ggX5_looks_X5_sign
set_option maxRecDepth 20000 in
theorem ggX5_looks_X5_hasGun : GoodIn wsX5_looks wsX5_hasGun := goodIn_r _ [15, 16, 17, 18, 19, 4, 20, 21, 22, 23, 24, 25, 26, 27, 28, 29, 30, 31, 32, 33, 34, 35, 36, 37, 38, 39, 40, 41, 42, 43, 44, 45, 46, 47, 48, 49, 50, 51] (by decide +kernel) (by decide +kernel)
set_option maxRecDepth 20000 in
theorem gX5_looks_X5_hasGun : GoodIn wsX5_looks (wsV RX5 173 RX5 yX5_hasGun wsX5_hasGun) := goodIn_app (goodIn_of _ (by decide +kernel)) ggX5_looks_X5_hasGun
theorem dX5_looks_0 : decode cX5_looks 0 = .ok (.iload_n 2, 1) := by decide +kernel
theorem dX5_looks_1 : decode cX5_looks 1 = .ok (.aload_n 0, 1) := by decide +kernel
theorem dX5_looks_2 : decode cX5_looks 2 = .ok (.getfield 69, 3) := by decide +kernel
theorem dX5_looks_5 : decode cX5_looks 5 = .ok (.irem, 1) := by decide +kernel
theorem dX5_looks_6 : decode cX5_looks 6 = .ok (.iload_n 1, 1) := by decide +kernel
theorem dX5_looks_7 : decode cX5_looks 7 = .ok (.aload_n 0, 1) := by decide +kernel
theorem dX5_looks_8 : decode cX5_looks 8 = .ok (.getfield 69, 3) := by decide +kernel
theorem dX5_looks_11 : decode cX5_looks 11 = .ok (.irem, 1) := by decide +kernel
theorem dX5_looks_12 : decode cX5_looks 12 = .ok (.isub, 1) := by decide +kernel
theorem dX5_looks_13 : decode cX5_looks 13 = .ok (.istore 4, 2) := by decide +kernel
theorem dX5_looks_15 : decode cX5_looks 15 = .ok (.iload_n 2, 1) := by decide +kernel
theorem dX5_looks_16 : decode cX5_looks 16 = .ok (.aload_n 0, 1) := by decide +kernel
theorem dX5_looks_17 : decode cX5_looks 17 = .ok (.getfield 69, 3) := by decide +kernel
theorem dX5_looks_20 : decode cX5_looks 20 = .ok (.idiv, 1) := by decide +kernel
theorem dX5_looks_21 : decode cX5_looks 21 = .ok (.iload_n 1, 1) := by decide +kernel
theorem dX5_looks_22 : decode cX5_looks 22 = .ok (.aload_n 0, 1) := by decide +kernel
theorem dX5_looks_23 : decode cX5_looks 23 = .ok (.getfield 69, 3) := by decide +kernel
theorem dX5_looks_26 : decode cX5_looks 26 = .ok (.idiv, 1) := by decide +kernel
theorem dX5_looks_27 : decode cX5_looks 27 = .ok (.isub, 1) := by decide +kernel
theorem dX5_looks_28 : decode cX5_looks 28 = .ok (.istore 5, 2) := by decide +kernel
theorem dX5_looks_30 : decode cX5_looks 30 = .ok (.iload 4, 2) := by decide +kernel
theorem dX5_looks_32 : decode cX5_looks 32 = .ok (.iconst 0, 1) := by decide +kernel
theorem dX5_looks_33 : decode cX5_looks 33 = .ok (.invokestatic 167, 3) := by decide +kernel
theorem dX5_looks_36 : decode cX5_looks 36 = .ok (.iload 5, 2) := by decide +kernel
theorem dX5_looks_38 : decode cX5_looks 38 = .ok (.iconst 0, 1) := by decide +kernel
theorem dX5_looks_39 : decode cX5_looks 39 = .ok (.invokestatic 167, 3) := by decide +kernel
theorem dX5_looks_42 : decode cX5_looks 42 = .ok (.if_icmp .le 12, 3) := by decide +kernel
theorem dX5_looks_45 : decode cX5_looks 45 = .ok (.iload 4, 2) := by decide +kernel
theorem dX5_looks_47 : decode cX5_looks 47 = .ok (.iconst 0, 1) := by decide +kernel
theorem dX5_looks_48 : decode cX5_looks 48 = .ok (.invokestatic 167, 3) := by decide +kernel
theorem dX5_looks_51 : decode cX5_looks 51 = .ok (.goto 9, 3) := by decide +kernel
theorem dX5_looks_54 : decode cX5_looks 54 = .ok (.iload 5, 2) := by decide +kernel
theorem dX5_looks_56 : decode cX5_looks 56 = .ok (.iconst 0, 1) := by decide +kernel
theorem dX5_looks_57 : decode cX5_looks 57 = .ok (.invokestatic 167, 3) := by decide +kernel
theorem dX5_looks_60 : decode cX5_looks 60 = .ok (.istore 6, 2) := by decide +kernel
theorem dX5_looks_62 : decode cX5_looks 62 = .ok (.iload 6, 2) := by decide +kernel
theorem dX5_looks_64 : decode cX5_looks 64 = .ok (.i2l, 1) := by decide +kernel
theorem dX5_looks_65 : decode cX5_looks 65 = .ok (.lconst 1, 1) := by decide +kernel
theorem dX5_looks_66 : decode cX5_looks 66 = .ok (.iload_n 3, 1) := by decide +kernel
theorem dX5_looks_67 : decode cX5_looks 67 = .ok (.i2l, 1) := by decide +kernel
theorem dX5_looks_68 : decode cX5_looks 68 = .ok (.invokestatic 79, 3) := by decide +kernel
theorem dX5_looks_71 : decode cX5_looks 71 = .ok (.ifCond .eq 32, 3) := by decide +kernel
theorem dX5_looks_74 : decode cX5_looks 74 = .ok (.iload 4, 2) := by decide +kernel
theorem dX5_looks_76 : decode cX5_looks 76 = .ok (.ifCond .eq 23, 3) := by decide +kernel
theorem dX5_looks_79 : decode cX5_looks 79 = .ok (.iload 5, 2) := by decide +kernel
theorem dX5_looks_81 : decode cX5_looks 81 = .ok (.ifCond .eq 18, 3) := by decide +kernel
theorem dX5_looks_84 : decode cX5_looks 84 = .ok (.iload 4, 2) := by decide +kernel
theorem dX5_looks_86 : decode cX5_looks 86 = .ok (.iconst 0, 1) := by decide +kernel
theorem dX5_looks_87 : decode cX5_looks 87 = .ok (.invokestatic 167, 3) := by decide +kernel
theorem dX5_looks_90 : decode cX5_looks 90 = .ok (.iload 5, 2) := by decide +kernel
theorem dX5_looks_92 : decode cX5_looks 92 = .ok (.iconst 0, 1) := by decide +kernel
theorem dX5_looks_93 : decode cX5_looks 93 = .ok (.invokestatic 167, 3) := by decide +kernel
theorem dX5_looks_96 : decode cX5_looks 96 = .ok (.if_icmp .ne 7, 3) := by decide +kernel
theorem dX5_looks_99 : decode cX5_looks 99 = .ok (.iconst 1, 1) := by decide +kernel
theorem dX5_looks_100 : decode cX5_looks 100 = .ok (.goto 4, 3) := by decide +kernel
theorem dX5_looks_103 : decode cX5_looks 103 = .ok (.iconst 0, 1) := by decide +kernel
theorem dX5_looks_104 : decode cX5_looks 104 = .ok (.istore 7, 2) := by decide +kernel
theorem dX5_looks_106 : decode cX5_looks 106 = .ok (.aload_n 0, 1) := by decide +kernel
theorem dX5_looks_107 : decode cX5_looks 107 = .ok (.getfield 69, 3) := by decide +kernel
theorem dX5_looks_110 : decode cX5_looks 110 = .ok (.iload 5, 2) := by decide +kernel
theorem dX5_looks_112 : decode cX5_looks 112 = .ok (.invokestatic 170, 3) := by decide +kernel
theorem dX5_looks_115 : decode cX5_looks 115 = .ok (.imul, 1) := by decide +kernel
theorem dX5_looks_116 : decode cX5_looks 116 = .ok (.iload 4, 2) := by decide +kernel
theorem dX5_looks_118 : decode cX5_looks 118 = .ok (.invokestatic 170, 3) := by decide +kernel
theorem dX5_looks_121 : decode cX5_looks 121 = .ok (.iadd, 1) := by decide +kernel
theorem dX5_looks_122 : decode cX5_looks 122 = .ok (.istore 8, 2) := by decide +kernel
theorem dX5_looks_124 : decode cX5_looks 124 = .ok (.iconst 1, 1) := by decide +kernel
theorem dX5_looks_125 : decode cX5_looks 125 = .ok (.istore 9, 2) := by decide +kernel
theorem dX5_looks_127 : decode cX5_looks 127 = .ok (.iload 7, 2) := by decide +kernel
theorem dX5_looks_129 : decode cX5_looks 129 = .ok (.ifCond .eq 37, 3) := by decide +kernel
theorem dX5_looks_132 : decode cX5_looks 132 = .ok (.iload 9, 2) := by decide +kernel
theorem dX5_looks_134 : decode cX5_looks 134 = .ok (.iload 6, 2) := by decide +kernel
theorem dX5_looks_136 : decode cX5_looks 136 = .ok (.if_icmp .ge 30, 3) := by decide +kernel
theorem dX5_looks_139 : decode cX5_looks 139 = .ok (.aload_n 0, 1) := by decide +kernel
theorem dX5_looks_140 : decode cX5_looks 140 = .ok (.iload_n 1, 1) := by decide +kernel
theorem dX5_looks_141 : decode cX5_looks 141 = .ok (.iload 9, 2) := by decide +kernel
theorem dX5_looks_143 : decode cX5_looks 143 = .ok (.iload 8, 2) := by decide +kernel
theorem dX5_looks_145 : decode cX5_looks 145 = .ok (.imul, 1) := by decide +kernel
theorem dX5_looks_146 : decode cX5_looks 146 = .ok (.iadd, 1) := by decide +kernel
theorem dX5_looks_147 : decode cX5_looks 147 = .ok (.invokevirtual 173, 3) := by decide +kernel
theorem dX5_looks_150 : decode cX5_looks 150 = .ok (.ifCond .ne 7, 3) := by decide +kernel
theorem dX5_looks_153 : decode cX5_looks 153 = .ok (.iconst 1, 1) := by decide +kernel
theorem dX5_looks_154 : decode cX5_looks 154 = .ok (.goto 4, 3) := by decide +kernel
theorem dX5_looks_157 : decode cX5_looks 157 = .ok (.iconst 0, 1) := by decide +kernel
theorem dX5_looks_158 : decode cX5_looks 158 = .ok (.istore 7, 2) := by decide +kernel
theorem dX5_looks_160 : decode cX5_looks 160 = .ok (.iinc 9 1, 3) := by decide +kernel
theorem dX5_looks_163 : decode cX5_looks 163 = .ok (.goto (-36), 3) := by decide +kernel
theorem dX5_looks_166 : decode cX5_looks 166 = .ok (.iload 7, 2) := by decide +kernel
theorem dX5_looks_168 : decode cX5_looks 168 = .ok (.ireturn, 1) := by decide +kernel
set_option maxRecDepth 20000 in
theorem ggX5_seesOne_X5_rangeOf : GoodIn wsX5_seesOne wsX5_rangeOf := goodIn_r _ [6, 7, 8, 33, 34, 35, 36, 37, 38, 39, 40, 41, 42, 43, 44, 45, 46, 47, 48, 49, 50, 51, 52, 53, 54, 55, 56, 57, 58, 59, 60, 61] (by decide +kernel) (by decide +kernel)
set_option maxRecDepth 20000 in
theorem gX5_seesOne_X5_rangeOf : GoodIn wsX5_seesOne (wsV RX5 150 RX5 yX5_rangeOf wsX5_rangeOf) := goodIn_app (goodIn_of _ (by decide +kernel)) ggX5_seesOne_X5_rangeOf
set_option maxRecDepth 20000 in
theorem ggX5_seesOne_X5_looks : GoodIn wsX5_seesOne wsX5_looks := goodIn_r _ [12, 13, 14, 15, 5, 16, 17, 18, 19, 20, 21, 22, 23, 24, 25, 26, 1, 27, 28, 29, 30, 31, 32, 33, 34, 35, 36, 37, 38, 39, 40, 41, 42, 43, 44, 45, 46, 47, 48, 49, 50, 51, 52, 53, 54, 55, 56, 57, 58, 59, 60, 61] (by decide +kernel) (by decide +kernel)
set_option maxRecDepth 20000 in
theorem gX5_seesOne_X5_looks : GoodIn wsX5_seesOne (wsV RX5 176 RX5 yX5_looks wsX5_looks) := goodIn_app (goodIn_of _ (by decide +kernel)) ggX5_seesOne_X5_looks
theorem dX5_seesOne_0 : decode cX5_seesOne 0 = .ok (.aload_n 0, 1) := by decide +kernel
theorem dX5_seesOne_1 : decode cX5_seesOne 1 = .ok (.aload_n 0, 1) := by decide +kernel
theorem dX5_seesOne_2 : decode cX5_seesOne 2 = .ok (.getfield 16, 3) := by decide +kernel
theorem dX5_seesOne_5 : decode cX5_seesOne 5 = .ok (.iload_n 1, 1) := by decide +kernel
theorem dX5_seesOne_6 : decode cX5_seesOne 6 = .ok (.iaload, 1) := by decide +kernel
theorem dX5_seesOne_7 : decode cX5_seesOne 7 = .ok (.iload_n 2, 1) := by decide +kernel
theorem dX5_seesOne_8 : decode cX5_seesOne 8 = .ok (.aload_n 0, 1) := by decide +kernel
theorem dX5_seesOne_9 : decode cX5_seesOne 9 = .ok (.iload_n 1, 1) := by decide +kernel
theorem dX5_seesOne_10 : decode cX5_seesOne 10 = .ok (.invokevirtual 150, 3) := by decide +kernel
theorem dX5_seesOne_13 : decode cX5_seesOne 13 = .ok (.invokevirtual 176, 3) := by decide +kernel
theorem dX5_seesOne_16 : decode cX5_seesOne 16 = .ok (.ireturn, 1) := by decide +kernel
set_option maxRecDepth 20000 in
theorem ggX5_shotBy_X5_allGuns : GoodIn wsX5_shotBy wsX5_allGuns := goodIn_r _ [6, 7, 8, 41, 42, 43, 44, 45, 46, 47, 48, 49, 50, 51, 52, 53, 54, 55, 56, 57, 58, 59, 60, 61, 62, 63, 64, 65, 66, 67, 68, 69] (by decide +kernel) (by decide +kernel)
set_option maxRecDepth 20000 in
theorem gX5_shotBy_X5_allGuns : GoodIn wsX5_shotBy (wsV RX5 164 RX5 yX5_allGuns wsX5_allGuns) := goodIn_app (goodIn_of _ (by decide +kernel)) ggX5_shotBy_X5_allGuns
set_option maxRecDepth 20000 in
theorem ggX5_shotBy_X5_isIn : GoodIn wsX5_shotBy wsX5_isIn := goodIn_r _ [11] (by decide +kernel) (by decide +kernel)
set_option maxRecDepth 20000 in
theorem gX5_shotBy_X5_isIn : GoodIn wsX5_shotBy (va_wsS RX5 153 yX5_isIn wsX5_isIn) := goodIn_app (goodIn_of _ (by decide +kernel)) ggX5_shotBy_X5_isIn
set_option maxRecDepth 20000 in
theorem ggX5_shotBy_X5_seesOne : GoodIn wsX5_shotBy wsX5_seesOne := goodIn_r _ [15, 16, 17, 18, 19, 5, 20, 21, 22, 23, 24, 25, 26, 27, 28, 29, 30, 31, 32, 33, 34, 35, 36, 37, 38, 39, 40, 2, 3, 4, 6, 7, 8, 41, 42, 43, 44, 45, 46, 47, 48, 49, 50, 51, 52, 53, 54, 55, 56, 57, 58, 59, 60, 61, 62, 63, 64, 65, 66, 67, 68, 69] (by decide +kernel) (by decide +kernel)
set_option maxRecDepth 20000 in
theorem gX5_shotBy_X5_seesOne : GoodIn wsX5_shotBy (wsV RX5 180 RX5 yX5_seesOne wsX5_seesOne) := goodIn_app (goodIn_of _ (by decide +kernel)) ggX5_shotBy_X5_seesOne
theorem dX5_shotBy_0 : decode cX5_shotBy 0 = .ok (.iconst 0, 1) := by decide +kernel
theorem dX5_shotBy_1 : decode cX5_shotBy 1 = .ok (.istore_n 2, 1) := by decide +kernel
theorem dX5_shotBy_2 : decode cX5_shotBy 2 = .ok (.iconst 0, 1) := by decide +kernel
theorem dX5_shotBy_3 : decode cX5_shotBy 3 = .ok (.istore_n 3, 1) := by decide +kernel
theorem dX5_shotBy_4 : decode cX5_shotBy 4 = .ok (.iload_n 3, 1) := by decide +kernel
theorem dX5_shotBy_5 : decode cX5_shotBy 5 = .ok (.aload_n 0, 1) := by decide +kernel
theorem dX5_shotBy_6 : decode cX5_shotBy 6 = .ok (.invokevirtual 164, 3) := by decide +kernel
theorem dX5_shotBy_9 : decode cX5_shotBy 9 = .ok (.if_icmp .ge 39, 3) := by decide +kernel
theorem dX5_shotBy_12 : decode cX5_shotBy 12 = .ok (.iload_n 2, 1) := by decide +kernel
theorem dX5_shotBy_13 : decode cX5_shotBy 13 = .ok (.aload_n 0, 1) := by decide +kernel
theorem dX5_shotBy_14 : decode cX5_shotBy 14 = .ok (.getfield 137, 3) := by decide +kernel
theorem dX5_shotBy_17 : decode cX5_shotBy 17 = .ok (.iload_n 3, 1) := by decide +kernel
theorem dX5_shotBy_18 : decode cX5_shotBy 18 = .ok (.invokestatic 153, 3) := by decide +kernel
theorem dX5_shotBy_21 : decode cX5_shotBy 21 = .ok (.ifCond .ne 18, 3) := by decide +kernel
theorem dX5_shotBy_24 : decode cX5_shotBy 24 = .ok (.aload_n 0, 1) := by decide +kernel
theorem dX5_shotBy_25 : decode cX5_shotBy 25 = .ok (.iload_n 3, 1) := by decide +kernel
theorem dX5_shotBy_26 : decode cX5_shotBy 26 = .ok (.iload_n 1, 1) := by decide +kernel
theorem dX5_shotBy_27 : decode cX5_shotBy 27 = .ok (.invokevirtual 180, 3) := by decide +kernel
theorem dX5_shotBy_30 : decode cX5_shotBy 30 = .ok (.ifCond .eq 9, 3) := by decide +kernel
theorem dX5_shotBy_33 : decode cX5_shotBy 33 = .ok (.iconst 1, 1) := by decide +kernel
theorem dX5_shotBy_34 : decode cX5_shotBy 34 = .ok (.iload_n 3, 1) := by decide +kernel
theorem dX5_shotBy_35 : decode cX5_shotBy 35 = .ok (.ishl, 1) := by decide +kernel
theorem dX5_shotBy_36 : decode cX5_shotBy 36 = .ok (.goto 4, 3) := by decide +kernel
theorem dX5_shotBy_39 : decode cX5_shotBy 39 = .ok (.iconst 0, 1) := by decide +kernel
theorem dX5_shotBy_40 : decode cX5_shotBy 40 = .ok (.ior, 1) := by decide +kernel
theorem dX5_shotBy_41 : decode cX5_shotBy 41 = .ok (.istore_n 2, 1) := by decide +kernel
theorem dX5_shotBy_42 : decode cX5_shotBy 42 = .ok (.iinc 3 1, 3) := by decide +kernel
theorem dX5_shotBy_45 : decode cX5_shotBy 45 = .ok (.goto (-41), 3) := by decide +kernel
theorem dX5_shotBy_48 : decode cX5_shotBy 48 = .ok (.iload_n 2, 1) := by decide +kernel
theorem dX5_shotBy_49 : decode cX5_shotBy 49 = .ok (.ireturn, 1) := by decide +kernel
set_option maxRecDepth 20000 in
theorem ggX5_isSoil_X5_hasGun : GoodIn wsX5_isSoil wsX5_hasGun := goodIn_r _ [6, 7, 8, 9, 10, 5, 11, 12, 13, 14, 15, 16, 17, 18, 19, 20, 21, 22, 23, 24, 25, 26, 27, 28, 29, 30, 31, 32, 33, 34, 35, 36, 37, 38, 39, 40, 41, 42] (by decide +kernel) (by decide +kernel)
set_option maxRecDepth 20000 in
theorem gX5_isSoil_X5_hasGun : GoodIn wsX5_isSoil (wsV RX5 173 RX5 yX5_hasGun wsX5_hasGun) := goodIn_app (goodIn_of _ (by decide +kernel)) ggX5_isSoil_X5_hasGun
theorem dX5_isSoil_0 : decode cX5_isSoil 0 = .ok (.aload_n 0, 1) := by decide +kernel
theorem dX5_isSoil_1 : decode cX5_isSoil 1 = .ok (.getfield 7, 3) := by decide +kernel
theorem dX5_isSoil_4 : decode cX5_isSoil 4 = .ok (.iload_n 1, 1) := by decide +kernel
theorem dX5_isSoil_5 : decode cX5_isSoil 5 = .ok (.iaload, 1) := by decide +kernel
theorem dX5_isSoil_6 : decode cX5_isSoil 6 = .ok (.ifCond .le 15, 3) := by decide +kernel
theorem dX5_isSoil_9 : decode cX5_isSoil 9 = .ok (.aload_n 0, 1) := by decide +kernel
theorem dX5_isSoil_10 : decode cX5_isSoil 10 = .ok (.iload_n 1, 1) := by decide +kernel
theorem dX5_isSoil_11 : decode cX5_isSoil 11 = .ok (.invokevirtual 173, 3) := by decide +kernel
theorem dX5_isSoil_14 : decode cX5_isSoil 14 = .ok (.ifCond .ne 7, 3) := by decide +kernel
theorem dX5_isSoil_17 : decode cX5_isSoil 17 = .ok (.iconst 1, 1) := by decide +kernel
theorem dX5_isSoil_18 : decode cX5_isSoil 18 = .ok (.goto 4, 3) := by decide +kernel
theorem dX5_isSoil_21 : decode cX5_isSoil 21 = .ok (.iconst 0, 1) := by decide +kernel
theorem dX5_isSoil_22 : decode cX5_isSoil 22 = .ok (.ireturn, 1) := by decide +kernel
set_option maxRecDepth 20000 in
theorem ggX5_areNext_X5_offBy : GoodIn wsX5_areNext wsX5_offBy := goodIn_r _ [5] (by decide +kernel) (by decide +kernel)
set_option maxRecDepth 20000 in
theorem gX5_areNext_X5_offBy : GoodIn wsX5_areNext (va_wsS RX5 167 yX5_offBy wsX5_offBy) := goodIn_app (goodIn_of _ (by decide +kernel)) ggX5_areNext_X5_offBy
theorem dX5_areNext_0 : decode cX5_areNext 0 = .ok (.iload_n 1, 1) := by decide +kernel
theorem dX5_areNext_1 : decode cX5_areNext 1 = .ok (.aload_n 0, 1) := by decide +kernel
theorem dX5_areNext_2 : decode cX5_areNext 2 = .ok (.getfield 69, 3) := by decide +kernel
theorem dX5_areNext_5 : decode cX5_areNext 5 = .ok (.irem, 1) := by decide +kernel
theorem dX5_areNext_6 : decode cX5_areNext 6 = .ok (.iload_n 2, 1) := by decide +kernel
theorem dX5_areNext_7 : decode cX5_areNext 7 = .ok (.aload_n 0, 1) := by decide +kernel
theorem dX5_areNext_8 : decode cX5_areNext 8 = .ok (.getfield 69, 3) := by decide +kernel
theorem dX5_areNext_11 : decode cX5_areNext 11 = .ok (.irem, 1) := by decide +kernel
theorem dX5_areNext_12 : decode cX5_areNext 12 = .ok (.invokestatic 167, 3) := by decide +kernel
theorem dX5_areNext_15 : decode cX5_areNext 15 = .ok (.iload_n 1, 1) := by decide +kernel
theorem dX5_areNext_16 : decode cX5_areNext 16 = .ok (.aload_n 0, 1) := by decide +kernel
theorem dX5_areNext_17 : decode cX5_areNext 17 = .ok (.getfield 69, 3) := by decide +kernel
theorem dX5_areNext_20 : decode cX5_areNext 20 = .ok (.idiv, 1) := by decide +kernel
theorem dX5_areNext_21 : decode cX5_areNext 21 = .ok (.iload_n 2, 1) := by decide +kernel
theorem dX5_areNext_22 : decode cX5_areNext 22 = .ok (.aload_n 0, 1) := by decide +kernel
theorem dX5_areNext_23 : decode cX5_areNext 23 = .ok (.getfield 69, 3) := by decide +kernel
theorem dX5_areNext_26 : decode cX5_areNext 26 = .ok (.idiv, 1) := by decide +kernel
theorem dX5_areNext_27 : decode cX5_areNext 27 = .ok (.invokestatic 167, 3) := by decide +kernel
theorem dX5_areNext_30 : decode cX5_areNext 30 = .ok (.iadd, 1) := by decide +kernel
theorem dX5_areNext_31 : decode cX5_areNext 31 = .ok (.iconst 1, 1) := by decide +kernel
theorem dX5_areNext_32 : decode cX5_areNext 32 = .ok (.if_icmp .ne 7, 3) := by decide +kernel
theorem dX5_areNext_35 : decode cX5_areNext 35 = .ok (.iconst 1, 1) := by decide +kernel
theorem dX5_areNext_36 : decode cX5_areNext 36 = .ok (.goto 4, 3) := by decide +kernel
theorem dX5_areNext_39 : decode cX5_areNext 39 = .ok (.iconst 0, 1) := by decide +kernel
theorem dX5_areNext_40 : decode cX5_areNext 40 = .ok (.ireturn, 1) := by decide +kernel
set_option maxRecDepth 20000 in
theorem ggX5_sees_X5_noGun : GoodIn wsX5_sees wsX5_noGun := goodIn_r _ [5, 6, 7, 8, 4, 9, 50, 51, 52, 53, 54, 55, 56, 57, 58, 59, 60, 61, 62, 63, 64, 65, 66, 67, 68, 69, 70, 71, 72, 73, 74, 75, 76, 77, 78] (by decide +kernel) (by decide +kernel)
set_option maxRecDepth 20000 in
theorem gX5_sees_X5_noGun : GoodIn wsX5_sees (wsV RX5 147 RX5 yX5_noGun wsX5_noGun) := goodIn_app (goodIn_of _ (by decide +kernel)) ggX5_sees_X5_noGun
set_option maxRecDepth 20000 in
theorem ggX5_sees_X5_lost : GoodIn wsX5_sees wsX5_lost := goodIn_r _ [12, 13] (by decide +kernel) (by decide +kernel)
set_option maxRecDepth 20000 in
theorem gX5_sees_X5_lost : GoodIn wsX5_sees (va_wsS RX5 65 yX5_lost wsX5_lost) := goodIn_app (goodIn_of _ (by decide +kernel)) ggX5_sees_X5_lost
set_option maxRecDepth 20000 in
theorem ggX5_sees_X5_squares : GoodIn wsX5_sees wsX5_squares := goodIn_r _ [17, 18, 19, 50, 51, 52, 53, 54, 55, 56, 57, 58, 59, 60, 61, 62, 63, 64, 65, 66, 67, 68, 69, 70, 71, 72, 73, 74, 75, 76, 77, 78] (by decide +kernel) (by decide +kernel)
set_option maxRecDepth 20000 in
theorem gX5_sees_X5_squares : GoodIn wsX5_sees (wsV RX5 75 RX5 yX5_squares wsX5_squares) := goodIn_app (goodIn_of _ (by decide +kernel)) ggX5_sees_X5_squares
set_option maxRecDepth 20000 in
theorem ggX5_sees_X5_seesOne : GoodIn wsX5_sees wsX5_seesOne := goodIn_r _ [23, 24, 25, 26, 27, 4, 28, 29, 30, 31, 32, 33, 34, 18, 35, 36, 37, 7, 8, 9, 38, 39, 40, 41, 42, 43, 44, 45, 46, 47, 48, 6, 49, 50, 51, 52, 53, 54, 55, 56, 57, 58, 59, 60, 61, 62, 63, 64, 65, 66, 67, 68, 69, 70, 71, 72, 73, 74, 75, 76, 77, 78] (by decide +kernel) (by decide +kernel)
set_option maxRecDepth 20000 in
theorem gX5_sees_X5_seesOne : GoodIn wsX5_sees (wsV RX5 180 RX5 yX5_seesOne wsX5_seesOne) := goodIn_app (goodIn_of _ (by decide +kernel)) ggX5_sees_X5_seesOne
theorem dX5_sees_0 : decode cX5_sees 0 = .ok (.aload_n 0, 1) := by decide +kernel
theorem dX5_sees_1 : decode cX5_sees 1 = .ok (.iload_n 1, 1) := by decide +kernel
theorem dX5_sees_2 : decode cX5_sees 2 = .ok (.invokevirtual 147, 3) := by decide +kernel
theorem dX5_sees_5 : decode cX5_sees 5 = .ok (.ifCond .eq 7, 3) := by decide +kernel
theorem dX5_sees_8 : decode cX5_sees 8 = .ok (.invokestatic 65, 3) := by decide +kernel
theorem dX5_sees_11 : decode cX5_sees 11 = .ok (.lreturn, 1) := by decide +kernel
theorem dX5_sees_12 : decode cX5_sees 12 = .ok (.lconst 0, 1) := by decide +kernel
theorem dX5_sees_13 : decode cX5_sees 13 = .ok (.lstore_n 2, 1) := by decide +kernel
theorem dX5_sees_14 : decode cX5_sees 14 = .ok (.iconst 0, 1) := by decide +kernel
theorem dX5_sees_15 : decode cX5_sees 15 = .ok (.istore 4, 2) := by decide +kernel
theorem dX5_sees_17 : decode cX5_sees 17 = .ok (.iload 4, 2) := by decide +kernel
theorem dX5_sees_19 : decode cX5_sees 19 = .ok (.aload_n 0, 1) := by decide +kernel
theorem dX5_sees_20 : decode cX5_sees 20 = .ok (.invokevirtual 75, 3) := by decide +kernel
theorem dX5_sees_23 : decode cX5_sees 23 = .ok (.if_icmp .ge 30, 3) := by decide +kernel
theorem dX5_sees_26 : decode cX5_sees 26 = .ok (.lload_n 2, 1) := by decide +kernel
theorem dX5_sees_27 : decode cX5_sees 27 = .ok (.aload_n 0, 1) := by decide +kernel
theorem dX5_sees_28 : decode cX5_sees 28 = .ok (.iload_n 1, 1) := by decide +kernel
theorem dX5_sees_29 : decode cX5_sees 29 = .ok (.iload 4, 2) := by decide +kernel
theorem dX5_sees_31 : decode cX5_sees 31 = .ok (.invokevirtual 180, 3) := by decide +kernel
theorem dX5_sees_34 : decode cX5_sees 34 = .ok (.ifCond .eq 10, 3) := by decide +kernel
theorem dX5_sees_37 : decode cX5_sees 37 = .ok (.lconst 1, 1) := by decide +kernel
theorem dX5_sees_38 : decode cX5_sees 38 = .ok (.iload 4, 2) := by decide +kernel
theorem dX5_sees_40 : decode cX5_sees 40 = .ok (.lshl, 1) := by decide +kernel
theorem dX5_sees_41 : decode cX5_sees 41 = .ok (.goto 4, 3) := by decide +kernel
theorem dX5_sees_44 : decode cX5_sees 44 = .ok (.lconst 0, 1) := by decide +kernel
theorem dX5_sees_45 : decode cX5_sees 45 = .ok (.lor, 1) := by decide +kernel
theorem dX5_sees_46 : decode cX5_sees 46 = .ok (.lstore_n 2, 1) := by decide +kernel
theorem dX5_sees_47 : decode cX5_sees 47 = .ok (.iinc 4 1, 3) := by decide +kernel
theorem dX5_sees_50 : decode cX5_sees 50 = .ok (.goto (-33), 3) := by decide +kernel
theorem dX5_sees_53 : decode cX5_sees 53 = .ok (.lload_n 2, 1) := by decide +kernel
theorem dX5_sees_54 : decode cX5_sees 54 = .ok (.lreturn, 1) := by decide +kernel
set_option maxRecDepth 20000 in
theorem ggX5_shot_X5_noSquare : GoodIn wsX5_shot wsX5_noSquare := goodIn_r _ [5, 6, 7, 8, 4, 9, 10, 11, 12, 13, 14, 54, 55, 56, 57, 58, 59, 60, 61, 62, 63, 64, 65, 66, 67, 68, 69, 70, 71, 72, 73, 74, 75, 76, 77, 78, 79, 80, 81, 82] (by decide +kernel) (by decide +kernel)
set_option maxRecDepth 20000 in
theorem gX5_shot_X5_noSquare : GoodIn wsX5_shot (wsV RX5 156 RX5 yX5_noSquare wsX5_noSquare) := goodIn_app (goodIn_of _ (by decide +kernel)) ggX5_shot_X5_noSquare
set_option maxRecDepth 20000 in
theorem ggX5_shot_X5_shotBy : GoodIn wsX5_shot wsX5_shotBy := goodIn_r _ [18, 19, 20, 21, 22, 4, 23, 24, 25, 26, 27, 28, 29, 30, 31, 32, 33, 34, 35, 36, 37, 38, 39, 40, 41, 42, 43, 10, 44, 45, 46, 12, 13, 14, 47, 48, 49, 50, 51, 52, 53, 54, 55, 56, 57, 58, 59, 60, 61, 62, 63, 64, 65, 66, 67, 68, 69, 70, 71, 72, 73, 74, 75, 76, 77, 78, 79, 80, 81, 82] (by decide +kernel) (by decide +kernel)
set_option maxRecDepth 20000 in
theorem gX5_shot_X5_shotBy : GoodIn wsX5_shot (wsV RX5 183 RX5 yX5_shotBy wsX5_shotBy) := goodIn_app (goodIn_of _ (by decide +kernel)) ggX5_shot_X5_shotBy
theorem dX5_shot_0 : decode cX5_shot 0 = .ok (.aload_n 0, 1) := by decide +kernel
theorem dX5_shot_1 : decode cX5_shot 1 = .ok (.iload_n 1, 1) := by decide +kernel
theorem dX5_shot_2 : decode cX5_shot 2 = .ok (.invokevirtual 156, 3) := by decide +kernel
theorem dX5_shot_5 : decode cX5_shot 5 = .ok (.ifCond .eq 7, 3) := by decide +kernel
theorem dX5_shot_8 : decode cX5_shot 8 = .ok (.iconst (-1), 1) := by decide +kernel
theorem dX5_shot_9 : decode cX5_shot 9 = .ok (.goto 8, 3) := by decide +kernel
theorem dX5_shot_12 : decode cX5_shot 12 = .ok (.aload_n 0, 1) := by decide +kernel
theorem dX5_shot_13 : decode cX5_shot 13 = .ok (.iload_n 1, 1) := by decide +kernel
theorem dX5_shot_14 : decode cX5_shot 14 = .ok (.invokevirtual 183, 3) := by decide +kernel
theorem dX5_shot_17 : decode cX5_shot 17 = .ok (.ireturn, 1) := by decide +kernel
set_option maxRecDepth 20000 in
theorem ggX5_is_X5_noSquare : GoodIn wsX5_is wsX5_noSquare := goodIn_r _ [6, 7, 8, 9, 5, 10, 11, 12, 13, 14, 15, 35, 36, 37, 38, 39, 40, 41, 42, 43, 44, 45, 46, 47, 48, 49, 50, 51, 52, 53, 54, 55, 56, 57, 58, 59, 60, 61, 62, 63] (by decide +kernel) (by decide +kernel)
set_option maxRecDepth 20000 in
theorem gX5_is_X5_noSquare : GoodIn wsX5_is (wsV RX5 156 RX5 yX5_noSquare wsX5_noSquare) := goodIn_app (goodIn_of _ (by decide +kernel)) ggX5_is_X5_noSquare
set_option maxRecDepth 20000 in
theorem ggX5_is_X5_in : GoodIn wsX5_is wsX5_in := goodIn_r _ [15] (by decide +kernel) (by decide +kernel)
set_option maxRecDepth 20000 in
theorem gX5_is_X5_in : GoodIn wsX5_is (va_wsS RX5 79 yX5_in wsX5_in) := goodIn_app (goodIn_of _ (by decide +kernel)) ggX5_is_X5_in
set_option maxRecDepth 20000 in
theorem ggX5_is_X5_isSoil : GoodIn wsX5_is wsX5_isSoil := goodIn_r _ [19, 20, 21, 22, 23, 5, 24, 25, 26, 27, 28, 29, 30, 31, 35, 36, 37, 38, 39, 40, 41, 42, 43, 44, 45, 46, 47, 48, 49, 50, 51, 52, 53, 54, 55, 56, 57, 58, 59, 60, 61, 62, 63] (by decide +kernel) (by decide +kernel)
set_option maxRecDepth 20000 in
theorem gX5_is_X5_isSoil : GoodIn wsX5_is (wsV RX5 186 RX5 yX5_isSoil wsX5_isSoil) := goodIn_app (goodIn_of _ (by decide +kernel)) ggX5_is_X5_isSoil
set_option maxRecDepth 20000 in
theorem ggX5_is_X5_isInLong : GoodIn wsX5_is wsX5_isInLong := goodIn_r _ [34] (by decide +kernel) (by decide +kernel)
set_option maxRecDepth 20000 in
theorem gX5_is_X5_isInLong : GoodIn wsX5_is (va_wsS RX5 189 yX5_isInLong wsX5_isInLong) := goodIn_app (goodIn_of _ (by decide +kernel)) ggX5_is_X5_isInLong
theorem dX5_is_0 : decode cX5_is 0 = .ok (.aload_n 0, 1) := by decide +kernel
theorem dX5_is_1 : decode cX5_is 1 = .ok (.iload_n 1, 1) := by decide +kernel
theorem dX5_is_2 : decode cX5_is 2 = .ok (.invokevirtual 156, 3) := by decide +kernel
theorem dX5_is_5 : decode cX5_is 5 = .ok (.ifCond .eq 5, 3) := by decide +kernel
theorem dX5_is_8 : decode cX5_is 8 = .ok (.iconst (-1), 1) := by decide +kernel
theorem dX5_is_9 : decode cX5_is 9 = .ok (.ireturn, 1) := by decide +kernel
theorem dX5_is_10 : decode cX5_is 10 = .ok (.iload_n 2, 1) := by decide +kernel
theorem dX5_is_11 : decode cX5_is 11 = .ok (.i2l, 1) := by decide +kernel
theorem dX5_is_12 : decode cX5_is 12 = .ok (.lconst 0, 1) := by decide +kernel
theorem dX5_is_13 : decode cX5_is 13 = .ok (.lconst 1, 1) := by decide +kernel
theorem dX5_is_14 : decode cX5_is 14 = .ok (.invokestatic 79, 3) := by decide +kernel
theorem dX5_is_17 : decode cX5_is 17 = .ok (.ifCond .ne 6, 3) := by decide +kernel
theorem dX5_is_20 : decode cX5_is 20 = .ok (.bipush (-2), 2) := by decide +kernel
theorem dX5_is_22 : decode cX5_is 22 = .ok (.ireturn, 1) := by decide +kernel
theorem dX5_is_23 : decode cX5_is 23 = .ok (.iload_n 2, 1) := by decide +kernel
theorem dX5_is_24 : decode cX5_is 24 = .ok (.ifCond .ne 11, 3) := by decide +kernel
theorem dX5_is_27 : decode cX5_is 27 = .ok (.aload_n 0, 1) := by decide +kernel
theorem dX5_is_28 : decode cX5_is 28 = .ok (.iload_n 1, 1) := by decide +kernel
theorem dX5_is_29 : decode cX5_is 29 = .ok (.invokevirtual 186, 3) := by decide +kernel
theorem dX5_is_32 : decode cX5_is 32 = .ok (.goto 11, 3) := by decide +kernel
theorem dX5_is_35 : decode cX5_is 35 = .ok (.aload_n 0, 1) := by decide +kernel
theorem dX5_is_36 : decode cX5_is 36 = .ok (.getfield 140, 3) := by decide +kernel
theorem dX5_is_39 : decode cX5_is 39 = .ok (.iload_n 1, 1) := by decide +kernel
theorem dX5_is_40 : decode cX5_is 40 = .ok (.invokestatic 189, 3) := by decide +kernel
theorem dX5_is_43 : decode cX5_is 43 = .ok (.istore_n 3, 1) := by decide +kernel
theorem dX5_is_44 : decode cX5_is 44 = .ok (.iload_n 3, 1) := by decide +kernel
theorem dX5_is_45 : decode cX5_is 45 = .ok (.ifCond .eq 7, 3) := by decide +kernel
theorem dX5_is_48 : decode cX5_is 48 = .ok (.iconst 1, 1) := by decide +kernel
theorem dX5_is_49 : decode cX5_is 49 = .ok (.goto 4, 3) := by decide +kernel
theorem dX5_is_52 : decode cX5_is 52 = .ok (.iconst 0, 1) := by decide +kernel
theorem dX5_is_53 : decode cX5_is 53 = .ok (.ireturn, 1) := by decide +kernel
set_option maxRecDepth 20000 in
theorem ggX5_coveredBy_X5_seesOne : GoodIn wsX5_coveredBy wsX5_seesOne := goodIn_r _ [7, 2, 8, 9, 10, 6, 11, 12, 13, 14, 15, 16, 17, 18, 19, 20, 21, 22, 23, 24, 25, 26, 27, 28, 29, 30, 31, 32, 33, 34, 35, 1, 36, 37, 38, 39, 40, 41, 42, 43, 44, 45, 46, 47, 48, 49, 50, 51, 52, 53, 54, 55, 56, 57, 58, 59, 60, 61, 62, 63, 64, 65] (by decide +kernel) (by decide +kernel)
set_option maxRecDepth 20000 in
theorem gX5_coveredBy_X5_seesOne : GoodIn wsX5_coveredBy (wsV RX5 180 RX5 yX5_seesOne wsX5_seesOne) := goodIn_app (goodIn_of _ (by decide +kernel)) ggX5_coveredBy_X5_seesOne
theorem dX5_coveredBy_0 : decode cX5_coveredBy 0 = .ok (.iconst 0, 1) := by decide +kernel
theorem dX5_coveredBy_1 : decode cX5_coveredBy 1 = .ok (.istore_n 2, 1) := by decide +kernel
theorem dX5_coveredBy_2 : decode cX5_coveredBy 2 = .ok (.iconst 0, 1) := by decide +kernel
theorem dX5_coveredBy_3 : decode cX5_coveredBy 3 = .ok (.istore_n 3, 1) := by decide +kernel
theorem dX5_coveredBy_4 : decode cX5_coveredBy 4 = .ok (.iload_n 3, 1) := by decide +kernel
theorem dX5_coveredBy_5 : decode cX5_coveredBy 5 = .ok (.aload_n 0, 1) := by decide +kernel
theorem dX5_coveredBy_6 : decode cX5_coveredBy 6 = .ok (.getfield 83, 3) := by decide +kernel
theorem dX5_coveredBy_9 : decode cX5_coveredBy 9 = .ok (.if_icmp .ge 33, 3) := by decide +kernel
theorem dX5_coveredBy_12 : decode cX5_coveredBy 12 = .ok (.iload_n 2, 1) := by decide +kernel
theorem dX5_coveredBy_13 : decode cX5_coveredBy 13 = .ok (.aload_n 0, 1) := by decide +kernel
theorem dX5_coveredBy_14 : decode cX5_coveredBy 14 = .ok (.iload_n 3, 1) := by decide +kernel
theorem dX5_coveredBy_15 : decode cX5_coveredBy 15 = .ok (.aload_n 0, 1) := by decide +kernel
theorem dX5_coveredBy_16 : decode cX5_coveredBy 16 = .ok (.getfield 16, 3) := by decide +kernel
theorem dX5_coveredBy_19 : decode cX5_coveredBy 19 = .ok (.iload_n 1, 1) := by decide +kernel
theorem dX5_coveredBy_20 : decode cX5_coveredBy 20 = .ok (.iaload, 1) := by decide +kernel
theorem dX5_coveredBy_21 : decode cX5_coveredBy 21 = .ok (.invokevirtual 180, 3) := by decide +kernel
theorem dX5_coveredBy_24 : decode cX5_coveredBy 24 = .ok (.ifCond .eq 9, 3) := by decide +kernel
theorem dX5_coveredBy_27 : decode cX5_coveredBy 27 = .ok (.iconst 1, 1) := by decide +kernel
theorem dX5_coveredBy_28 : decode cX5_coveredBy 28 = .ok (.iload_n 3, 1) := by decide +kernel
theorem dX5_coveredBy_29 : decode cX5_coveredBy 29 = .ok (.ishl, 1) := by decide +kernel
theorem dX5_coveredBy_30 : decode cX5_coveredBy 30 = .ok (.goto 4, 3) := by decide +kernel
theorem dX5_coveredBy_33 : decode cX5_coveredBy 33 = .ok (.iconst 0, 1) := by decide +kernel
theorem dX5_coveredBy_34 : decode cX5_coveredBy 34 = .ok (.ior, 1) := by decide +kernel
theorem dX5_coveredBy_35 : decode cX5_coveredBy 35 = .ok (.istore_n 2, 1) := by decide +kernel
theorem dX5_coveredBy_36 : decode cX5_coveredBy 36 = .ok (.iinc 3 1, 3) := by decide +kernel
theorem dX5_coveredBy_39 : decode cX5_coveredBy 39 = .ok (.goto (-35), 3) := by decide +kernel
theorem dX5_coveredBy_42 : decode cX5_coveredBy 42 = .ok (.iload_n 2, 1) := by decide +kernel
theorem dX5_coveredBy_43 : decode cX5_coveredBy 43 = .ok (.ireturn, 1) := by decide +kernel
set_option maxRecDepth 20000 in
theorem ggX5_cover_X5_noGun : GoodIn wsX5_cover wsX5_noGun := goodIn_r _ [5, 6, 7, 8, 4, 9, 45, 46, 47, 48, 49, 50, 51, 52, 53, 54, 55, 56, 57, 58, 59, 60, 61, 62, 63, 64, 65, 66, 67, 68, 69, 70, 71, 72, 73] (by decide +kernel) (by decide +kernel)
set_option maxRecDepth 20000 in
theorem gX5_cover_X5_noGun : GoodIn wsX5_cover (wsV RX5 147 RX5 yX5_noGun wsX5_noGun) := goodIn_app (goodIn_of _ (by decide +kernel)) ggX5_cover_X5_noGun
set_option maxRecDepth 20000 in
theorem ggX5_cover_X5_coveredBy : GoodIn wsX5_cover wsX5_coveredBy := goodIn_r _ [13, 6, 14, 15, 16, 17, 4, 18, 19, 20, 21, 22, 23, 24, 25, 26, 27, 28, 29, 30, 31, 32, 7, 8, 9, 33, 34, 35, 36, 37, 38, 39, 40, 41, 42, 43, 44, 45, 46, 47, 48, 49, 50, 51, 52, 53, 54, 55, 56, 57, 58, 59, 60, 61, 62, 63, 64, 65, 66, 67, 68, 69, 70, 71, 72, 73] (by decide +kernel) (by decide +kernel)
set_option maxRecDepth 20000 in
theorem gX5_cover_X5_coveredBy : GoodIn wsX5_cover (wsV RX5 193 RX5 yX5_coveredBy wsX5_coveredBy) := goodIn_app (goodIn_of _ (by decide +kernel)) ggX5_cover_X5_coveredBy
theorem dX5_cover_0 : decode cX5_cover 0 = .ok (.aload_n 0, 1) := by decide +kernel
theorem dX5_cover_1 : decode cX5_cover 1 = .ok (.iload_n 1, 1) := by decide +kernel
theorem dX5_cover_2 : decode cX5_cover 2 = .ok (.invokevirtual 147, 3) := by decide +kernel
theorem dX5_cover_5 : decode cX5_cover 5 = .ok (.ifCond .eq 7, 3) := by decide +kernel
theorem dX5_cover_8 : decode cX5_cover 8 = .ok (.iconst (-1), 1) := by decide +kernel
theorem dX5_cover_9 : decode cX5_cover 9 = .ok (.goto 8, 3) := by decide +kernel
theorem dX5_cover_12 : decode cX5_cover 12 = .ok (.aload_n 0, 1) := by decide +kernel
theorem dX5_cover_13 : decode cX5_cover 13 = .ok (.iload_n 1, 1) := by decide +kernel
theorem dX5_cover_14 : decode cX5_cover 14 = .ok (.invokevirtual 193, 3) := by decide +kernel
theorem dX5_cover_17 : decode cX5_cover 17 = .ok (.ireturn, 1) := by decide +kernel
set_option maxRecDepth 20000 in
theorem ggX5_bare_X5_coveredBy : GoodIn wsX5_bare wsX5_coveredBy := goodIn_r _ [6, 1, 7, 8, 9, 10, 5, 11, 12, 13, 14, 15, 16, 17, 18, 19, 20, 21, 22, 23, 24, 25, 26, 27, 28, 29, 30, 31, 32, 33, 34, 35, 36, 37, 38, 39, 40, 41, 42, 43, 44, 45, 46, 47, 48, 49, 50, 51, 52, 53, 54, 55, 56, 57, 58, 59, 60, 61, 62, 63, 64, 65, 66, 67, 68, 69] (by decide +kernel) (by decide +kernel)
set_option maxRecDepth 20000 in
theorem gX5_bare_X5_coveredBy : GoodIn wsX5_bare (wsV RX5 193 RX5 yX5_coveredBy wsX5_coveredBy) := goodIn_app (goodIn_of _ (by decide +kernel)) ggX5_bare_X5_coveredBy
theorem dX5_bare_0 : decode cX5_bare 0 = .ok (.aload_n 0, 1) := by decide +kernel
theorem dX5_bare_1 : decode cX5_bare 1 = .ok (.getfield 83, 3) := by decide +kernel
theorem dX5_bare_4 : decode cX5_bare 4 = .ok (.ifCond .ne 6, 3) := by decide +kernel
theorem dX5_bare_7 : decode cX5_bare 7 = .ok (.bipush (-3), 2) := by decide +kernel
theorem dX5_bare_9 : decode cX5_bare 9 = .ok (.ireturn, 1) := by decide +kernel
theorem dX5_bare_10 : decode cX5_bare 10 = .ok (.iconst 0, 1) := by decide +kernel
theorem dX5_bare_11 : decode cX5_bare 11 = .ok (.istore_n 1, 1) := by decide +kernel
theorem dX5_bare_12 : decode cX5_bare 12 = .ok (.iconst 0, 1) := by decide +kernel
theorem dX5_bare_13 : decode cX5_bare 13 = .ok (.istore_n 2, 1) := by decide +kernel
theorem dX5_bare_14 : decode cX5_bare 14 = .ok (.iload_n 2, 1) := by decide +kernel
theorem dX5_bare_15 : decode cX5_bare 15 = .ok (.aload_n 0, 1) := by decide +kernel
theorem dX5_bare_16 : decode cX5_bare 16 = .ok (.getfield 83, 3) := by decide +kernel
theorem dX5_bare_19 : decode cX5_bare 19 = .ok (.if_icmp .ge 27, 3) := by decide +kernel
theorem dX5_bare_22 : decode cX5_bare 22 = .ok (.iload_n 1, 1) := by decide +kernel
theorem dX5_bare_23 : decode cX5_bare 23 = .ok (.aload_n 0, 1) := by decide +kernel
theorem dX5_bare_24 : decode cX5_bare 24 = .ok (.iload_n 2, 1) := by decide +kernel
theorem dX5_bare_25 : decode cX5_bare 25 = .ok (.invokevirtual 193, 3) := by decide +kernel
theorem dX5_bare_28 : decode cX5_bare 28 = .ok (.ifCond .ne 9, 3) := by decide +kernel
theorem dX5_bare_31 : decode cX5_bare 31 = .ok (.iconst 1, 1) := by decide +kernel
theorem dX5_bare_32 : decode cX5_bare 32 = .ok (.iload_n 2, 1) := by decide +kernel
theorem dX5_bare_33 : decode cX5_bare 33 = .ok (.ishl, 1) := by decide +kernel
theorem dX5_bare_34 : decode cX5_bare 34 = .ok (.goto 4, 3) := by decide +kernel
theorem dX5_bare_37 : decode cX5_bare 37 = .ok (.iconst 0, 1) := by decide +kernel
theorem dX5_bare_38 : decode cX5_bare 38 = .ok (.ior, 1) := by decide +kernel
theorem dX5_bare_39 : decode cX5_bare 39 = .ok (.istore_n 1, 1) := by decide +kernel
theorem dX5_bare_40 : decode cX5_bare 40 = .ok (.iinc 2 1, 3) := by decide +kernel
theorem dX5_bare_43 : decode cX5_bare 43 = .ok (.goto (-29), 3) := by decide +kernel
theorem dX5_bare_46 : decode cX5_bare 46 = .ok (.iload_n 1, 1) := by decide +kernel
theorem dX5_bare_47 : decode cX5_bare 47 = .ok (.ireturn, 1) := by decide +kernel
set_option maxRecDepth 20000 in
theorem ggX5_isByDug_X5_squares : GoodIn wsX5_isByDug wsX5_squares := goodIn_r _ [7, 1, 8, 19, 20, 21, 22, 23, 24, 25, 26, 27, 28, 29, 30, 31, 32, 33, 34, 35, 36, 37, 38, 39, 40, 41, 42, 43, 44, 45, 46, 47] (by decide +kernel) (by decide +kernel)
set_option maxRecDepth 20000 in
theorem gX5_isByDug_X5_squares : GoodIn wsX5_isByDug (wsV RX5 75 RX5 yX5_squares wsX5_squares) := goodIn_app (goodIn_of _ (by decide +kernel)) ggX5_isByDug_X5_squares
set_option maxRecDepth 20000 in
theorem ggX5_isByDug_X5_isInLong : GoodIn wsX5_isByDug wsX5_isInLong := goodIn_r _ [11] (by decide +kernel) (by decide +kernel)
set_option maxRecDepth 20000 in
theorem gX5_isByDug_X5_isInLong : GoodIn wsX5_isByDug (va_wsS RX5 189 yX5_isInLong wsX5_isInLong) := goodIn_app (goodIn_of _ (by decide +kernel)) ggX5_isByDug_X5_isInLong
set_option maxRecDepth 20000 in
theorem ggX5_isByDug_X5_areNext : GoodIn wsX5_isByDug wsX5_areNext := goodIn_r _ [15, 1, 16, 17, 6, 18, 19, 20, 21, 22, 23, 24, 25, 26, 27, 28, 29, 30, 31, 32, 33, 34, 35, 36, 37, 38, 39, 40, 41, 42, 43, 44, 45, 46, 47] (by decide +kernel) (by decide +kernel)
set_option maxRecDepth 20000 in
theorem gX5_isByDug_X5_areNext : GoodIn wsX5_isByDug (wsV RX5 196 RX5 yX5_areNext wsX5_areNext) := goodIn_app (goodIn_of _ (by decide +kernel)) ggX5_isByDug_X5_areNext
theorem dX5_isByDug_0 : decode cX5_isByDug 0 = .ok (.iload_n 1, 1) := by decide +kernel
theorem dX5_isByDug_1 : decode cX5_isByDug 1 = .ok (.aload_n 0, 1) := by decide +kernel
theorem dX5_isByDug_2 : decode cX5_isByDug 2 = .ok (.getfield 69, 3) := by decide +kernel
theorem dX5_isByDug_5 : decode cX5_isByDug 5 = .ok (.irem, 1) := by decide +kernel
theorem dX5_isByDug_6 : decode cX5_isByDug 6 = .ok (.ifCond .ne 7, 3) := by decide +kernel
theorem dX5_isByDug_9 : decode cX5_isByDug 9 = .ok (.iconst 1, 1) := by decide +kernel
theorem dX5_isByDug_10 : decode cX5_isByDug 10 = .ok (.goto 4, 3) := by decide +kernel
theorem dX5_isByDug_13 : decode cX5_isByDug 13 = .ok (.iconst 0, 1) := by decide +kernel
theorem dX5_isByDug_14 : decode cX5_isByDug 14 = .ok (.istore_n 2, 1) := by decide +kernel
theorem dX5_isByDug_15 : decode cX5_isByDug 15 = .ok (.iconst 0, 1) := by decide +kernel
theorem dX5_isByDug_16 : decode cX5_isByDug 16 = .ok (.istore_n 3, 1) := by decide +kernel
theorem dX5_isByDug_17 : decode cX5_isByDug 17 = .ok (.iload_n 3, 1) := by decide +kernel
theorem dX5_isByDug_18 : decode cX5_isByDug 18 = .ok (.aload_n 0, 1) := by decide +kernel
theorem dX5_isByDug_19 : decode cX5_isByDug 19 = .ok (.invokevirtual 75, 3) := by decide +kernel
theorem dX5_isByDug_22 : decode cX5_isByDug 22 = .ok (.if_icmp .ge 39, 3) := by decide +kernel
theorem dX5_isByDug_25 : decode cX5_isByDug 25 = .ok (.iload_n 2, 1) := by decide +kernel
theorem dX5_isByDug_26 : decode cX5_isByDug 26 = .ok (.ifCond .ne 23, 3) := by decide +kernel
theorem dX5_isByDug_29 : decode cX5_isByDug 29 = .ok (.aload_n 0, 1) := by decide +kernel
theorem dX5_isByDug_30 : decode cX5_isByDug 30 = .ok (.getfield 140, 3) := by decide +kernel
theorem dX5_isByDug_33 : decode cX5_isByDug 33 = .ok (.iload_n 3, 1) := by decide +kernel
theorem dX5_isByDug_34 : decode cX5_isByDug 34 = .ok (.invokestatic 189, 3) := by decide +kernel
theorem dX5_isByDug_37 : decode cX5_isByDug 37 = .ok (.ifCond .eq 16, 3) := by decide +kernel
theorem dX5_isByDug_40 : decode cX5_isByDug 40 = .ok (.aload_n 0, 1) := by decide +kernel
theorem dX5_isByDug_41 : decode cX5_isByDug 41 = .ok (.iload_n 1, 1) := by decide +kernel
theorem dX5_isByDug_42 : decode cX5_isByDug 42 = .ok (.iload_n 3, 1) := by decide +kernel
theorem dX5_isByDug_43 : decode cX5_isByDug 43 = .ok (.invokevirtual 196, 3) := by decide +kernel
theorem dX5_isByDug_46 : decode cX5_isByDug 46 = .ok (.ifCond .eq 7, 3) := by decide +kernel
theorem dX5_isByDug_49 : decode cX5_isByDug 49 = .ok (.iconst 1, 1) := by decide +kernel
theorem dX5_isByDug_50 : decode cX5_isByDug 50 = .ok (.goto 4, 3) := by decide +kernel
theorem dX5_isByDug_53 : decode cX5_isByDug 53 = .ok (.iconst 0, 1) := by decide +kernel
theorem dX5_isByDug_54 : decode cX5_isByDug 54 = .ok (.istore_n 2, 1) := by decide +kernel
theorem dX5_isByDug_55 : decode cX5_isByDug 55 = .ok (.iinc 3 1, 3) := by decide +kernel
theorem dX5_isByDug_58 : decode cX5_isByDug 58 = .ok (.goto (-41), 3) := by decide +kernel
theorem dX5_isByDug_61 : decode cX5_isByDug 61 = .ok (.iload_n 2, 1) := by decide +kernel
theorem dX5_isByDug_62 : decode cX5_isByDug 62 = .ok (.ireturn, 1) := by decide +kernel
set_option maxRecDepth 20000 in
theorem ggX5_dig_X5_noSquare : GoodIn wsX5_dig wsX5_noSquare := goodIn_r _ [7, 8, 9, 10, 6, 11, 12, 13, 14, 15, 16, 71, 72, 73, 74, 75, 76, 77, 78, 79, 80, 81, 82, 83, 84, 85, 86, 87, 88, 89, 90, 91, 92, 93, 94, 95, 96, 97, 98, 99] (by decide +kernel) (by decide +kernel)
set_option maxRecDepth 20000 in
theorem gX5_dig_X5_noSquare : GoodIn wsX5_dig (wsV RX5 156 RX5 yX5_noSquare wsX5_noSquare) := goodIn_app (goodIn_of _ (by decide +kernel)) ggX5_dig_X5_noSquare
set_option maxRecDepth 20000 in
theorem ggX5_dig_X5_isSoil : GoodIn wsX5_dig wsX5_isSoil := goodIn_r _ [20, 2, 21, 22, 23, 6, 24, 25, 26, 27, 28, 29, 30, 31, 71, 72, 73, 74, 75, 76, 77, 78, 79, 80, 81, 82, 83, 84, 85, 86, 87, 88, 89, 90, 91, 92, 93, 94, 95, 96, 97, 98, 99] (by decide +kernel) (by decide +kernel)
set_option maxRecDepth 20000 in
theorem gX5_dig_X5_isSoil : GoodIn wsX5_dig (wsV RX5 186 RX5 yX5_isSoil wsX5_isSoil) := goodIn_app (goodIn_of _ (by decide +kernel)) ggX5_dig_X5_isSoil
set_option maxRecDepth 20000 in
theorem ggX5_dig_X5_shotBy : GoodIn wsX5_dig wsX5_shotBy := goodIn_r _ [35, 36, 26, 27, 28, 6, 29, 30, 31, 37, 38, 39, 40, 41, 42, 43, 25, 44, 45, 46, 47, 48, 49, 50, 51, 52, 53, 12, 54, 55, 56, 14, 15, 16, 57, 58, 59, 21, 22, 23, 24, 71, 72, 73, 74, 75, 76, 77, 78, 79, 80, 81, 82, 83, 84, 85, 86, 87, 88, 89, 90, 91, 92, 93, 94, 95, 96, 97, 98, 99] (by decide +kernel) (by decide +kernel)
set_option maxRecDepth 20000 in
theorem gX5_dig_X5_shotBy : GoodIn wsX5_dig (wsV RX5 183 RX5 yX5_shotBy wsX5_shotBy) := goodIn_app (goodIn_of _ (by decide +kernel)) ggX5_dig_X5_shotBy
set_option maxRecDepth 20000 in
theorem ggX5_dig_X5_isByDug : GoodIn wsX5_dig wsX5_isByDug := goodIn_r _ [63, 12, 1, 8, 9, 10, 6, 11, 13, 64, 65, 66, 67, 68, 69, 70, 54, 55, 56, 71, 72, 73, 74, 75, 76, 77, 78, 79, 80, 81, 82, 83, 84, 85, 86, 87, 88, 89, 90, 91, 92, 93, 94, 95, 96, 97, 98, 99] (by decide +kernel) (by decide +kernel)
set_option maxRecDepth 20000 in
theorem gX5_dig_X5_isByDug : GoodIn wsX5_dig (wsV RX5 199 RX5 yX5_isByDug wsX5_isByDug) := goodIn_app (goodIn_of _ (by decide +kernel)) ggX5_dig_X5_isByDug
set_option maxRecDepth 20000 in
theorem ggX5_dig_X5_isInLong : GoodIn wsX5_dig wsX5_isInLong := goodIn_r _ [66] (by decide +kernel) (by decide +kernel)
set_option maxRecDepth 20000 in
theorem gX5_dig_X5_isInLong : GoodIn wsX5_dig (va_wsS RX5 189 yX5_isInLong wsX5_isInLong) := goodIn_app (goodIn_of _ (by decide +kernel)) ggX5_dig_X5_isInLong
theorem dX5_dig_0 : decode cX5_dig 0 = .ok (.aload_n 0, 1) := by decide +kernel
theorem dX5_dig_1 : decode cX5_dig 1 = .ok (.iload_n 1, 1) := by decide +kernel
theorem dX5_dig_2 : decode cX5_dig 2 = .ok (.invokevirtual 156, 3) := by decide +kernel
theorem dX5_dig_5 : decode cX5_dig 5 = .ok (.ifCond .eq 5, 3) := by decide +kernel
theorem dX5_dig_8 : decode cX5_dig 8 = .ok (.iconst (-1), 1) := by decide +kernel
theorem dX5_dig_9 : decode cX5_dig 9 = .ok (.ireturn, 1) := by decide +kernel
theorem dX5_dig_10 : decode cX5_dig 10 = .ok (.aload_n 0, 1) := by decide +kernel
theorem dX5_dig_11 : decode cX5_dig 11 = .ok (.iload_n 1, 1) := by decide +kernel
theorem dX5_dig_12 : decode cX5_dig 12 = .ok (.invokevirtual 186, 3) := by decide +kernel
theorem dX5_dig_15 : decode cX5_dig 15 = .ok (.ifCond .eq 19, 3) := by decide +kernel
theorem dX5_dig_18 : decode cX5_dig 18 = .ok (.aload_n 0, 1) := by decide +kernel
theorem dX5_dig_19 : decode cX5_dig 19 = .ok (.iload_n 1, 1) := by decide +kernel
theorem dX5_dig_20 : decode cX5_dig 20 = .ok (.invokevirtual 183, 3) := by decide +kernel
theorem dX5_dig_23 : decode cX5_dig 23 = .ok (.ifCond .ne 11, 3) := by decide +kernel
theorem dX5_dig_26 : decode cX5_dig 26 = .ok (.aload_n 0, 1) := by decide +kernel
theorem dX5_dig_27 : decode cX5_dig 27 = .ok (.iload_n 1, 1) := by decide +kernel
theorem dX5_dig_28 : decode cX5_dig 28 = .ok (.invokevirtual 199, 3) := by decide +kernel
theorem dX5_dig_31 : decode cX5_dig 31 = .ok (.ifCond .ne 6, 3) := by decide +kernel
theorem dX5_dig_34 : decode cX5_dig 34 = .ok (.bipush (-3), 2) := by decide +kernel
theorem dX5_dig_36 : decode cX5_dig 36 = .ok (.ireturn, 1) := by decide +kernel
theorem dX5_dig_37 : decode cX5_dig 37 = .ok (.aload_n 0, 1) := by decide +kernel
theorem dX5_dig_38 : decode cX5_dig 38 = .ok (.getfield 140, 3) := by decide +kernel
theorem dX5_dig_41 : decode cX5_dig 41 = .ok (.iload_n 1, 1) := by decide +kernel
theorem dX5_dig_42 : decode cX5_dig 42 = .ok (.invokestatic 189, 3) := by decide +kernel
theorem dX5_dig_45 : decode cX5_dig 45 = .ok (.ifCond .eq 7, 3) := by decide +kernel
theorem dX5_dig_48 : decode cX5_dig 48 = .ok (.iconst 0, 1) := by decide +kernel
theorem dX5_dig_49 : decode cX5_dig 49 = .ok (.goto 9, 3) := by decide +kernel
theorem dX5_dig_52 : decode cX5_dig 52 = .ok (.aload_n 0, 1) := by decide +kernel
theorem dX5_dig_53 : decode cX5_dig 53 = .ok (.getfield 7, 3) := by decide +kernel
theorem dX5_dig_56 : decode cX5_dig 56 = .ok (.iload_n 1, 1) := by decide +kernel
theorem dX5_dig_57 : decode cX5_dig 57 = .ok (.iaload, 1) := by decide +kernel
theorem dX5_dig_58 : decode cX5_dig 58 = .ok (.istore_n 2, 1) := by decide +kernel
theorem dX5_dig_59 : decode cX5_dig 59 = .ok (.aload_n 0, 1) := by decide +kernel
theorem dX5_dig_60 : decode cX5_dig 60 = .ok (.dup, 1) := by decide +kernel
theorem dX5_dig_61 : decode cX5_dig 61 = .ok (.getfield 140, 3) := by decide +kernel
theorem dX5_dig_64 : decode cX5_dig 64 = .ok (.lconst 1, 1) := by decide +kernel
theorem dX5_dig_65 : decode cX5_dig 65 = .ok (.iload_n 1, 1) := by decide +kernel
theorem dX5_dig_66 : decode cX5_dig 66 = .ok (.lshl, 1) := by decide +kernel
theorem dX5_dig_67 : decode cX5_dig 67 = .ok (.lor, 1) := by decide +kernel
theorem dX5_dig_68 : decode cX5_dig 68 = .ok (.putfield 140, 3) := by decide +kernel
theorem dX5_dig_71 : decode cX5_dig 71 = .ok (.iload_n 2, 1) := by decide +kernel
theorem dX5_dig_72 : decode cX5_dig 72 = .ok (.ireturn, 1) := by decide +kernel
set_option maxRecDepth 20000 in
theorem ggX5_fill_X5_bits : GoodIn wsX5_fill wsX5_bits := goodIn_r _ [6] (by decide +kernel) (by decide +kernel)
set_option maxRecDepth 20000 in
theorem gX5_fill_X5_bits : GoodIn wsX5_fill (va_wsS RX5 202 yX5_bits wsX5_bits) := goodIn_app (goodIn_of _ (by decide +kernel)) ggX5_fill_X5_bits
theorem dX5_fill_0 : decode cX5_fill 0 = .ok (.aload_n 0, 1) := by decide +kernel
theorem dX5_fill_1 : decode cX5_fill 1 = .ok (.getfield 83, 3) := by decide +kernel
theorem dX5_fill_4 : decode cX5_fill 4 = .ok (.ifCond .ne 6, 3) := by decide +kernel
theorem dX5_fill_7 : decode cX5_fill 7 = .ok (.bipush (-3), 2) := by decide +kernel
theorem dX5_fill_9 : decode cX5_fill 9 = .ok (.ireturn, 1) := by decide +kernel
theorem dX5_fill_10 : decode cX5_fill 10 = .ok (.aload_n 0, 1) := by decide +kernel
theorem dX5_fill_11 : decode cX5_fill 11 = .ok (.getfield 140, 3) := by decide +kernel
theorem dX5_fill_14 : decode cX5_fill 14 = .ok (.invokestatic 202, 3) := by decide +kernel
theorem dX5_fill_17 : decode cX5_fill 17 = .ok (.istore_n 1, 1) := by decide +kernel
theorem dX5_fill_18 : decode cX5_fill 18 = .ok (.aload_n 0, 1) := by decide +kernel
theorem dX5_fill_19 : decode cX5_fill 19 = .ok (.lconst 0, 1) := by decide +kernel
theorem dX5_fill_20 : decode cX5_fill 20 = .ok (.putfield 140, 3) := by decide +kernel
theorem dX5_fill_23 : decode cX5_fill 23 = .ok (.iload_n 1, 1) := by decide +kernel
theorem dX5_fill_24 : decode cX5_fill 24 = .ok (.ireturn, 1) := by decide +kernel
set_option maxRecDepth 20000 in
theorem ggX5_goesOn_X5_isSoil : GoodIn wsX5_goesOn wsX5_isSoil := goodIn_r _ [7, 8, 9, 10, 11, 6, 12, 13, 14, 15, 16, 17, 18, 19, 27, 28, 29, 30, 31, 32, 33, 34, 35, 36, 37, 38, 39, 40, 41, 42, 43, 44, 45, 46, 47, 48, 49, 50, 51, 52, 53, 54, 55] (by decide +kernel) (by decide +kernel)
set_option maxRecDepth 20000 in
theorem gX5_goesOn_X5_isSoil : GoodIn wsX5_goesOn (wsV RX5 186 RX5 yX5_isSoil wsX5_isSoil) := goodIn_app (goodIn_of _ (by decide +kernel)) ggX5_goesOn_X5_isSoil
set_option maxRecDepth 20000 in
theorem ggX5_goesOn_X5_areNext : GoodIn wsX5_goesOn wsX5_areNext := goodIn_r _ [23, 2, 24, 25, 6, 26, 27, 28, 29, 30, 31, 32, 33, 34, 35, 36, 37, 38, 39, 40, 41, 42, 43, 44, 45, 46, 47, 48, 49, 50, 51, 52, 53, 54, 55] (by decide +kernel) (by decide +kernel)
set_option maxRecDepth 20000 in
theorem gX5_goesOn_X5_areNext : GoodIn wsX5_goesOn (wsV RX5 196 RX5 yX5_areNext wsX5_areNext) := goodIn_app (goodIn_of _ (by decide +kernel)) ggX5_goesOn_X5_areNext
theorem dX5_goesOn_0 : decode cX5_goesOn 0 = .ok (.aload_n 0, 1) := by decide +kernel
theorem dX5_goesOn_1 : decode cX5_goesOn 1 = .ok (.getfield 53, 3) := by decide +kernel
theorem dX5_goesOn_4 : decode cX5_goesOn 4 = .ok (.iload_n 1, 1) := by decide +kernel
theorem dX5_goesOn_5 : decode cX5_goesOn 5 = .ok (.iload_n 2, 1) := by decide +kernel
theorem dX5_goesOn_6 : decode cX5_goesOn 6 = .ok (.iadd, 1) := by decide +kernel
theorem dX5_goesOn_7 : decode cX5_goesOn 7 = .ok (.iaload, 1) := by decide +kernel
theorem dX5_goesOn_8 : decode cX5_goesOn 8 = .ok (.istore_n 3, 1) := by decide +kernel
theorem dX5_goesOn_9 : decode cX5_goesOn 9 = .ok (.aload_n 0, 1) := by decide +kernel
theorem dX5_goesOn_10 : decode cX5_goesOn 10 = .ok (.iload_n 3, 1) := by decide +kernel
theorem dX5_goesOn_11 : decode cX5_goesOn 11 = .ok (.invokevirtual 186, 3) := by decide +kernel
theorem dX5_goesOn_14 : decode cX5_goesOn 14 = .ok (.ifCond .eq 41, 3) := by decide +kernel
theorem dX5_goesOn_17 : decode cX5_goesOn 17 = .ok (.iload_n 2, 1) := by decide +kernel
theorem dX5_goesOn_18 : decode cX5_goesOn 18 = .ok (.ifCond .ne 15, 3) := by decide +kernel
theorem dX5_goesOn_21 : decode cX5_goesOn 21 = .ok (.iload_n 3, 1) := by decide +kernel
theorem dX5_goesOn_22 : decode cX5_goesOn 22 = .ok (.aload_n 0, 1) := by decide +kernel
theorem dX5_goesOn_23 : decode cX5_goesOn 23 = .ok (.getfield 69, 3) := by decide +kernel
theorem dX5_goesOn_26 : decode cX5_goesOn 26 = .ok (.irem, 1) := by decide +kernel
theorem dX5_goesOn_27 : decode cX5_goesOn 27 = .ok (.ifCond .ne 28, 3) := by decide +kernel
theorem dX5_goesOn_30 : decode cX5_goesOn 30 = .ok (.goto 21, 3) := by decide +kernel
theorem dX5_goesOn_33 : decode cX5_goesOn 33 = .ok (.aload_n 0, 1) := by decide +kernel
theorem dX5_goesOn_34 : decode cX5_goesOn 34 = .ok (.aload_n 0, 1) := by decide +kernel
theorem dX5_goesOn_35 : decode cX5_goesOn 35 = .ok (.getfield 53, 3) := by decide +kernel
theorem dX5_goesOn_38 : decode cX5_goesOn 38 = .ok (.iload_n 1, 1) := by decide +kernel
theorem dX5_goesOn_39 : decode cX5_goesOn 39 = .ok (.iload_n 2, 1) := by decide +kernel
theorem dX5_goesOn_40 : decode cX5_goesOn 40 = .ok (.iadd, 1) := by decide +kernel
theorem dX5_goesOn_41 : decode cX5_goesOn 41 = .ok (.iconst 1, 1) := by decide +kernel
theorem dX5_goesOn_42 : decode cX5_goesOn 42 = .ok (.isub, 1) := by decide +kernel
theorem dX5_goesOn_43 : decode cX5_goesOn 43 = .ok (.iaload, 1) := by decide +kernel
theorem dX5_goesOn_44 : decode cX5_goesOn 44 = .ok (.iload_n 3, 1) := by decide +kernel
theorem dX5_goesOn_45 : decode cX5_goesOn 45 = .ok (.invokevirtual 196, 3) := by decide +kernel
theorem dX5_goesOn_48 : decode cX5_goesOn 48 = .ok (.ifCond .eq 7, 3) := by decide +kernel
theorem dX5_goesOn_51 : decode cX5_goesOn 51 = .ok (.iconst 1, 1) := by decide +kernel
theorem dX5_goesOn_52 : decode cX5_goesOn 52 = .ok (.goto 4, 3) := by decide +kernel
theorem dX5_goesOn_55 : decode cX5_goesOn 55 = .ok (.iconst 0, 1) := by decide +kernel
theorem dX5_goesOn_56 : decode cX5_goesOn 56 = .ok (.ireturn, 1) := by decide +kernel
set_option maxRecDepth 20000 in
theorem ggX5_trenchBy_X5_goesOn : GoodIn wsX5_trenchBy wsX5_goesOn := goodIn_r _ [8, 1, 9, 10, 11, 12, 7, 13, 3, 14, 15, 16, 17, 18, 19, 20, 21, 22, 23, 24, 25, 26, 27, 28, 29, 30, 31, 66, 67, 68, 69, 70, 71, 72, 73, 74, 75, 76, 77, 78, 79, 80, 81, 82, 83, 84, 85, 86, 87, 88, 89, 90, 91, 92, 93, 94] (by decide +kernel) (by decide +kernel)
set_option maxRecDepth 20000 in
theorem gX5_trenchBy_X5_goesOn : GoodIn wsX5_trenchBy (wsV RX5 206 RX5 yX5_goesOn wsX5_goesOn) := goodIn_app (goodIn_of _ (by decide +kernel)) ggX5_trenchBy_X5_goesOn
set_option maxRecDepth 20000 in
theorem ggX5_trenchBy_X5_isInLong : GoodIn wsX5_trenchBy wsX5_isInLong := goodIn_r _ [34] (by decide +kernel) (by decide +kernel)
set_option maxRecDepth 20000 in
theorem gX5_trenchBy_X5_isInLong : GoodIn wsX5_trenchBy (va_wsS RX5 189 yX5_isInLong wsX5_isInLong) := goodIn_app (goodIn_of _ (by decide +kernel)) ggX5_trenchBy_X5_isInLong
set_option maxRecDepth 20000 in
theorem ggX5_trenchBy_X5_shotBy : GoodIn wsX5_trenchBy wsX5_shotBy := goodIn_r _ [38, 39, 19, 20, 21, 7, 22, 23, 24, 40, 41, 42, 43, 44, 45, 46, 18, 47, 48, 49, 50, 51, 52, 53, 54, 55, 56, 9, 29, 30, 31, 57, 58, 59, 60, 61, 62, 14, 15, 16, 17, 66, 67, 68, 69, 70, 71, 72, 73, 74, 75, 76, 77, 78, 79, 80, 81, 82, 83, 84, 85, 86, 87, 88, 89, 90, 91, 92, 93, 94] (by decide +kernel) (by decide +kernel)
set_option maxRecDepth 20000 in
theorem gX5_trenchBy_X5_shotBy : GoodIn wsX5_trenchBy (wsV RX5 183 RX5 yX5_shotBy wsX5_shotBy) := goodIn_app (goodIn_of _ (by decide +kernel)) ggX5_trenchBy_X5_shotBy
set_option maxRecDepth 20000 in
theorem ggX5_trenchBy_X5_bits : GoodIn wsX5_trenchBy wsX5_bits := goodIn_r _ [65] (by decide +kernel) (by decide +kernel)
set_option maxRecDepth 20000 in
theorem gX5_trenchBy_X5_bits : GoodIn wsX5_trenchBy (va_wsS RX5 202 yX5_bits wsX5_bits) := goodIn_app (goodIn_of _ (by decide +kernel)) ggX5_trenchBy_X5_bits
theorem dX5_trenchBy_0 : decode cX5_trenchBy 0 = .ok (.bipush (-9), 2) := by decide +kernel
theorem dX5_trenchBy_2 : decode cX5_trenchBy 2 = .ok (.istore 4, 2) := by decide +kernel
theorem dX5_trenchBy_4 : decode cX5_trenchBy 4 = .ok (.lconst 0, 1) := by decide +kernel
theorem dX5_trenchBy_5 : decode cX5_trenchBy 5 = .ok (.lstore 5, 2) := by decide +kernel
theorem dX5_trenchBy_7 : decode cX5_trenchBy 7 = .ok (.iconst 0, 1) := by decide +kernel
theorem dX5_trenchBy_8 : decode cX5_trenchBy 8 = .ok (.istore 7, 2) := by decide +kernel
theorem dX5_trenchBy_10 : decode cX5_trenchBy 10 = .ok (.iconst 0, 1) := by decide +kernel
theorem dX5_trenchBy_11 : decode cX5_trenchBy 11 = .ok (.istore 8, 2) := by decide +kernel
theorem dX5_trenchBy_13 : decode cX5_trenchBy 13 = .ok (.iconst 0, 1) := by decide +kernel
theorem dX5_trenchBy_14 : decode cX5_trenchBy 14 = .ok (.istore 9, 2) := by decide +kernel
theorem dX5_trenchBy_16 : decode cX5_trenchBy 16 = .ok (.iconst 0, 1) := by decide +kernel
theorem dX5_trenchBy_17 : decode cX5_trenchBy 17 = .ok (.istore 10, 2) := by decide +kernel
theorem dX5_trenchBy_19 : decode cX5_trenchBy 19 = .ok (.iload 10, 2) := by decide +kernel
theorem dX5_trenchBy_21 : decode cX5_trenchBy 21 = .ok (.iload_n 2, 1) := by decide +kernel
theorem dX5_trenchBy_22 : decode cX5_trenchBy 22 = .ok (.if_icmp .ge 114, 3) := by decide +kernel
theorem dX5_trenchBy_25 : decode cX5_trenchBy 25 = .ok (.iload 4, 2) := by decide +kernel
theorem dX5_trenchBy_27 : decode cX5_trenchBy 27 = .ok (.ifCond .ge 109, 3) := by decide +kernel
theorem dX5_trenchBy_30 : decode cX5_trenchBy 30 = .ok (.aload_n 0, 1) := by decide +kernel
theorem dX5_trenchBy_31 : decode cX5_trenchBy 31 = .ok (.getfield 53, 3) := by decide +kernel
theorem dX5_trenchBy_34 : decode cX5_trenchBy 34 = .ok (.iload_n 1, 1) := by decide +kernel
theorem dX5_trenchBy_35 : decode cX5_trenchBy 35 = .ok (.iload 10, 2) := by decide +kernel
theorem dX5_trenchBy_37 : decode cX5_trenchBy 37 = .ok (.iadd, 1) := by decide +kernel
theorem dX5_trenchBy_38 : decode cX5_trenchBy 38 = .ok (.iaload, 1) := by decide +kernel
theorem dX5_trenchBy_39 : decode cX5_trenchBy 39 = .ok (.istore 11, 2) := by decide +kernel
theorem dX5_trenchBy_41 : decode cX5_trenchBy 41 = .ok (.aload_n 0, 1) := by decide +kernel
theorem dX5_trenchBy_42 : decode cX5_trenchBy 42 = .ok (.iload_n 1, 1) := by decide +kernel
theorem dX5_trenchBy_43 : decode cX5_trenchBy 43 = .ok (.iload 10, 2) := by decide +kernel
theorem dX5_trenchBy_45 : decode cX5_trenchBy 45 = .ok (.invokevirtual 206, 3) := by decide +kernel
theorem dX5_trenchBy_48 : decode cX5_trenchBy 48 = .ok (.ifCond .eq 8, 3) := by decide +kernel
theorem dX5_trenchBy_51 : decode cX5_trenchBy 51 = .ok (.bipush (-9), 2) := by decide +kernel
theorem dX5_trenchBy_53 : decode cX5_trenchBy 53 = .ok (.goto 5, 3) := by decide +kernel
theorem dX5_trenchBy_56 : decode cX5_trenchBy 56 = .ok (.iload 10, 2) := by decide +kernel
theorem dX5_trenchBy_58 : decode cX5_trenchBy 58 = .ok (.istore 4, 2) := by decide +kernel
theorem dX5_trenchBy_60 : decode cX5_trenchBy 60 = .ok (.iload 7, 2) := by decide +kernel
theorem dX5_trenchBy_62 : decode cX5_trenchBy 62 = .ok (.lload 5, 2) := by decide +kernel
theorem dX5_trenchBy_64 : decode cX5_trenchBy 64 = .ok (.aload_n 0, 1) := by decide +kernel
theorem dX5_trenchBy_65 : decode cX5_trenchBy 65 = .ok (.getfield 140, 3) := by decide +kernel
theorem dX5_trenchBy_68 : decode cX5_trenchBy 68 = .ok (.lor, 1) := by decide +kernel
theorem dX5_trenchBy_69 : decode cX5_trenchBy 69 = .ok (.iload 11, 2) := by decide +kernel
theorem dX5_trenchBy_71 : decode cX5_trenchBy 71 = .ok (.invokestatic 189, 3) := by decide +kernel
theorem dX5_trenchBy_74 : decode cX5_trenchBy 74 = .ok (.ifCond .eq 7, 3) := by decide +kernel
theorem dX5_trenchBy_77 : decode cX5_trenchBy 77 = .ok (.iconst 0, 1) := by decide +kernel
theorem dX5_trenchBy_78 : decode cX5_trenchBy 78 = .ok (.goto 10, 3) := by decide +kernel
theorem dX5_trenchBy_81 : decode cX5_trenchBy 81 = .ok (.aload_n 0, 1) := by decide +kernel
theorem dX5_trenchBy_82 : decode cX5_trenchBy 82 = .ok (.getfield 7, 3) := by decide +kernel
theorem dX5_trenchBy_85 : decode cX5_trenchBy 85 = .ok (.iload 11, 2) := by decide +kernel
theorem dX5_trenchBy_87 : decode cX5_trenchBy 87 = .ok (.iaload, 1) := by decide +kernel
theorem dX5_trenchBy_88 : decode cX5_trenchBy 88 = .ok (.iadd, 1) := by decide +kernel
theorem dX5_trenchBy_89 : decode cX5_trenchBy 89 = .ok (.istore 7, 2) := by decide +kernel
theorem dX5_trenchBy_91 : decode cX5_trenchBy 91 = .ok (.lload 5, 2) := by decide +kernel
theorem dX5_trenchBy_93 : decode cX5_trenchBy 93 = .ok (.lconst 1, 1) := by decide +kernel
theorem dX5_trenchBy_94 : decode cX5_trenchBy 94 = .ok (.iload 11, 2) := by decide +kernel
theorem dX5_trenchBy_96 : decode cX5_trenchBy 96 = .ok (.lshl, 1) := by decide +kernel
theorem dX5_trenchBy_97 : decode cX5_trenchBy 97 = .ok (.lor, 1) := by decide +kernel
theorem dX5_trenchBy_98 : decode cX5_trenchBy 98 = .ok (.lstore 5, 2) := by decide +kernel
theorem dX5_trenchBy_100 : decode cX5_trenchBy 100 = .ok (.iload 8, 2) := by decide +kernel
theorem dX5_trenchBy_102 : decode cX5_trenchBy 102 = .ok (.aload_n 0, 1) := by decide +kernel
theorem dX5_trenchBy_103 : decode cX5_trenchBy 103 = .ok (.iload 11, 2) := by decide +kernel
theorem dX5_trenchBy_105 : decode cX5_trenchBy 105 = .ok (.invokevirtual 183, 3) := by decide +kernel
theorem dX5_trenchBy_108 : decode cX5_trenchBy 108 = .ok (.ifCond .eq 7, 3) := by decide +kernel
theorem dX5_trenchBy_111 : decode cX5_trenchBy 111 = .ok (.iconst 1, 1) := by decide +kernel
theorem dX5_trenchBy_112 : decode cX5_trenchBy 112 = .ok (.goto 4, 3) := by decide +kernel
theorem dX5_trenchBy_115 : decode cX5_trenchBy 115 = .ok (.iconst 0, 1) := by decide +kernel
theorem dX5_trenchBy_116 : decode cX5_trenchBy 116 = .ok (.iadd, 1) := by decide +kernel
theorem dX5_trenchBy_117 : decode cX5_trenchBy 117 = .ok (.istore 8, 2) := by decide +kernel
theorem dX5_trenchBy_119 : decode cX5_trenchBy 119 = .ok (.iload 9, 2) := by decide +kernel
theorem dX5_trenchBy_121 : decode cX5_trenchBy 121 = .ok (.aload_n 0, 1) := by decide +kernel
theorem dX5_trenchBy_122 : decode cX5_trenchBy 122 = .ok (.iload 11, 2) := by decide +kernel
theorem dX5_trenchBy_124 : decode cX5_trenchBy 124 = .ok (.invokevirtual 183, 3) := by decide +kernel
theorem dX5_trenchBy_127 : decode cX5_trenchBy 127 = .ok (.ior, 1) := by decide +kernel
theorem dX5_trenchBy_128 : decode cX5_trenchBy 128 = .ok (.istore 9, 2) := by decide +kernel
theorem dX5_trenchBy_130 : decode cX5_trenchBy 130 = .ok (.iinc 10 1, 3) := by decide +kernel
theorem dX5_trenchBy_133 : decode cX5_trenchBy 133 = .ok (.goto (-114), 3) := by decide +kernel
theorem dX5_trenchBy_136 : decode cX5_trenchBy 136 = .ok (.iload_n 3, 1) := by decide +kernel
theorem dX5_trenchBy_137 : decode cX5_trenchBy 137 = .ok (.iconst 1, 1) := by decide +kernel
theorem dX5_trenchBy_138 : decode cX5_trenchBy 138 = .ok (.if_icmp .ne 6, 3) := by decide +kernel
theorem dX5_trenchBy_141 : decode cX5_trenchBy 141 = .ok (.iload 4, 2) := by decide +kernel
theorem dX5_trenchBy_143 : decode cX5_trenchBy 143 = .ok (.ireturn, 1) := by decide +kernel
theorem dX5_trenchBy_144 : decode cX5_trenchBy 144 = .ok (.iload 4, 2) := by decide +kernel
theorem dX5_trenchBy_146 : decode cX5_trenchBy 146 = .ok (.ifCond .lt 9, 3) := by decide +kernel
theorem dX5_trenchBy_149 : decode cX5_trenchBy 149 = .ok (.bipush (-100), 2) := by decide +kernel
theorem dX5_trenchBy_151 : decode cX5_trenchBy 151 = .ok (.iload 4, 2) := by decide +kernel
theorem dX5_trenchBy_153 : decode cX5_trenchBy 153 = .ok (.isub, 1) := by decide +kernel
theorem dX5_trenchBy_154 : decode cX5_trenchBy 154 = .ok (.ireturn, 1) := by decide +kernel
theorem dX5_trenchBy_155 : decode cX5_trenchBy 155 = .ok (.iload_n 3, 1) := by decide +kernel
theorem dX5_trenchBy_156 : decode cX5_trenchBy 156 = .ok (.ifCond .ne 8, 3) := by decide +kernel
theorem dX5_trenchBy_159 : decode cX5_trenchBy 159 = .ok (.iload 7, 2) := by decide +kernel
theorem dX5_trenchBy_161 : decode cX5_trenchBy 161 = .ok (.goto 28, 3) := by decide +kernel
theorem dX5_trenchBy_164 : decode cX5_trenchBy 164 = .ok (.iload_n 3, 1) := by decide +kernel
theorem dX5_trenchBy_165 : decode cX5_trenchBy 165 = .ok (.iconst 2, 1) := by decide +kernel
theorem dX5_trenchBy_166 : decode cX5_trenchBy 166 = .ok (.if_icmp .ne 8, 3) := by decide +kernel
theorem dX5_trenchBy_169 : decode cX5_trenchBy 169 = .ok (.iload 8, 2) := by decide +kernel
theorem dX5_trenchBy_171 : decode cX5_trenchBy 171 = .ok (.goto 18, 3) := by decide +kernel
theorem dX5_trenchBy_174 : decode cX5_trenchBy 174 = .ok (.iload_n 3, 1) := by decide +kernel
theorem dX5_trenchBy_175 : decode cX5_trenchBy 175 = .ok (.iconst 3, 1) := by decide +kernel
theorem dX5_trenchBy_176 : decode cX5_trenchBy 176 = .ok (.if_icmp .ne 8, 3) := by decide +kernel
theorem dX5_trenchBy_179 : decode cX5_trenchBy 179 = .ok (.iload 9, 2) := by decide +kernel
theorem dX5_trenchBy_181 : decode cX5_trenchBy 181 = .ok (.goto 8, 3) := by decide +kernel
theorem dX5_trenchBy_184 : decode cX5_trenchBy 184 = .ok (.lload 5, 2) := by decide +kernel
theorem dX5_trenchBy_186 : decode cX5_trenchBy 186 = .ok (.invokestatic 202, 3) := by decide +kernel
theorem dX5_trenchBy_189 : decode cX5_trenchBy 189 = .ok (.ireturn, 1) := by decide +kernel
set_option maxRecDepth 20000 in
theorem ggX5_trench_X5_noSheet : GoodIn wsX5_trench wsX5_noSheet := goodIn_r _ [9, 10, 11, 12, 8, 13] (by decide +kernel) (by decide +kernel)
set_option maxRecDepth 20000 in
theorem gX5_trench_X5_noSheet : GoodIn wsX5_trench (va_wsS RX5 121 yX5_noSheet wsX5_noSheet) := goodIn_app (goodIn_of _ (by decide +kernel)) ggX5_trench_X5_noSheet
set_option maxRecDepth 20000 in
theorem ggX5_trench_X5_refused : GoodIn wsX5_trench wsX5_refused := goodIn_r _ [17, 18, 104, 105, 106, 107, 108, 109, 110, 111, 112, 113, 114, 115, 116, 117, 118, 119, 120, 121, 122, 123, 124, 125, 126, 127, 128, 129, 130, 131, 132] (by decide +kernel) (by decide +kernel)
set_option maxRecDepth 20000 in
theorem gX5_trench_X5_refused : GoodIn wsX5_trench (wsV RX5 125 RX5 yX5_refused wsX5_refused) := goodIn_app (goodIn_of _ (by decide +kernel)) ggX5_trench_X5_refused
set_option maxRecDepth 20000 in
theorem ggX5_trench_X5_in : GoodIn wsX5_trench wsX5_in := goodIn_r _ [13] (by decide +kernel) (by decide +kernel)
set_option maxRecDepth 20000 in
theorem gX5_trench_X5_in : GoodIn wsX5_trench (va_wsS RX5 79 yX5_in wsX5_in) := goodIn_app (goodIn_of _ (by decide +kernel)) ggX5_trench_X5_in
set_option maxRecDepth 20000 in
theorem ggX5_trench_X5_cellsBarred : GoodIn wsX5_trench wsX5_cellsBarred := goodIn_r _ [22, 23, 24, 25, 26, 27, 8, 28, 18, 29, 30, 31, 104, 105, 106, 107, 108, 109, 110, 111, 112, 113, 114, 115, 116, 117, 118, 119, 120, 121, 122, 123, 124, 125, 126, 127, 128, 129, 130, 131, 132] (by decide +kernel) (by decide +kernel)
set_option maxRecDepth 20000 in
theorem gX5_trench_X5_cellsBarred : GoodIn wsX5_trench (wsV RX5 130 RX5 yX5_cellsBarred wsX5_cellsBarred) := goodIn_app (goodIn_of _ (by decide +kernel)) ggX5_trench_X5_cellsBarred
set_option maxRecDepth 20000 in
theorem ggX5_trench_X5_noSquare : GoodIn wsX5_trench wsX5_noSquare := goodIn_r _ [35, 36, 37, 38, 8, 39, 40, 41, 11, 12, 13, 104, 105, 106, 107, 108, 109, 110, 111, 112, 113, 114, 115, 116, 117, 118, 119, 120, 121, 122, 123, 124, 125, 126, 127, 128, 129, 130, 131, 132] (by decide +kernel) (by decide +kernel)
set_option maxRecDepth 20000 in
theorem gX5_trench_X5_noSquare : GoodIn wsX5_trench (wsV RX5 156 RX5 yX5_noSquare wsX5_noSquare) := goodIn_app (goodIn_of _ (by decide +kernel)) ggX5_trench_X5_noSquare
set_option maxRecDepth 20000 in
theorem ggX5_trench_X5_trenchBy : GoodIn wsX5_trench wsX5_trenchBy := goodIn_r _ [45, 5, 46, 47, 48, 49, 50, 8, 51, 40, 52, 53, 54, 55, 56, 57, 58, 59, 60, 61, 62, 63, 64, 4, 65, 66, 67, 68, 69, 70, 71, 72, 73, 74, 75, 76, 77, 78, 79, 80, 81, 82, 83, 84, 85, 86, 87, 88, 89, 90, 91, 92, 93, 94, 95, 96, 97, 11, 12, 13, 98, 99, 100, 101, 102, 103, 104, 105, 106, 107, 108, 109, 110, 111, 112, 113, 114, 115, 116, 117, 118, 119, 120, 121, 122, 123, 124, 125, 126, 127, 128, 129, 130, 131, 132] (by decide +kernel) (by decide +kernel)
set_option maxRecDepth 20000 in
theorem gX5_trench_X5_trenchBy : GoodIn wsX5_trench (wsV RX5 213 RX5 yX5_trenchBy wsX5_trenchBy) := goodIn_app (goodIn_of _ (by decide +kernel)) ggX5_trench_X5_trenchBy
theorem dX5_trench_0 : decode cX5_trench 0 = .ok (.iload_n 1, 1) := by decide +kernel
theorem dX5_trench_1 : decode cX5_trench 1 = .ok (.invokestatic 121, 3) := by decide +kernel
theorem dX5_trench_4 : decode cX5_trench 4 = .ok (.ifCond .eq 9, 3) := by decide +kernel
theorem dX5_trench_7 : decode cX5_trench 7 = .ok (.aload_n 0, 1) := by decide +kernel
theorem dX5_trench_8 : decode cX5_trench 8 = .ok (.iconst (-1), 1) := by decide +kernel
theorem dX5_trench_9 : decode cX5_trench 9 = .ok (.invokevirtual 125, 3) := by decide +kernel
theorem dX5_trench_12 : decode cX5_trench 12 = .ok (.ireturn, 1) := by decide +kernel
theorem dX5_trench_13 : decode cX5_trench 13 = .ok (.iload_n 2, 1) := by decide +kernel
theorem dX5_trench_14 : decode cX5_trench 14 = .ok (.i2l, 1) := by decide +kernel
theorem dX5_trench_15 : decode cX5_trench 15 = .ok (.lconst 0, 1) := by decide +kernel
theorem dX5_trench_16 : decode cX5_trench 16 = .ok (.ldc2_w 128, 3) := by decide +kernel
theorem dX5_trench_19 : decode cX5_trench 19 = .ok (.invokestatic 79, 3) := by decide +kernel
theorem dX5_trench_22 : decode cX5_trench 22 = .ok (.ifCond .eq 29, 3) := by decide +kernel
theorem dX5_trench_25 : decode cX5_trench 25 = .ok (.iload 4, 2) := by decide +kernel
theorem dX5_trench_27 : decode cX5_trench 27 = .ok (.i2l, 1) := by decide +kernel
theorem dX5_trench_28 : decode cX5_trench 28 = .ok (.lconst 0, 1) := by decide +kernel
theorem dX5_trench_29 : decode cX5_trench 29 = .ok (.ldc2_w 209, 3) := by decide +kernel
theorem dX5_trench_32 : decode cX5_trench 32 = .ok (.invokestatic 79, 3) := by decide +kernel
theorem dX5_trench_35 : decode cX5_trench 35 = .ok (.ifCond .eq 16, 3) := by decide +kernel
theorem dX5_trench_38 : decode cX5_trench 38 = .ok (.iload 5, 2) := by decide +kernel
theorem dX5_trench_40 : decode cX5_trench 40 = .ok (.i2l, 1) := by decide +kernel
theorem dX5_trench_41 : decode cX5_trench 41 = .ok (.lconst 0, 1) := by decide +kernel
theorem dX5_trench_42 : decode cX5_trench 42 = .ok (.ldc2_w 211, 3) := by decide +kernel
theorem dX5_trench_45 : decode cX5_trench 45 = .ok (.invokestatic 79, 3) := by decide +kernel
theorem dX5_trench_48 : decode cX5_trench 48 = .ok (.ifCond .ne 10, 3) := by decide +kernel
theorem dX5_trench_51 : decode cX5_trench 51 = .ok (.aload_n 0, 1) := by decide +kernel
theorem dX5_trench_52 : decode cX5_trench 52 = .ok (.bipush (-2), 2) := by decide +kernel
theorem dX5_trench_54 : decode cX5_trench 54 = .ok (.invokevirtual 125, 3) := by decide +kernel
theorem dX5_trench_57 : decode cX5_trench 57 = .ok (.ireturn, 1) := by decide +kernel
theorem dX5_trench_58 : decode cX5_trench 58 = .ok (.aload_n 0, 1) := by decide +kernel
theorem dX5_trench_59 : decode cX5_trench 59 = .ok (.getfield 83, 3) := by decide +kernel
theorem dX5_trench_62 : decode cX5_trench 62 = .ok (.ifCond .ne 10, 3) := by decide +kernel
theorem dX5_trench_65 : decode cX5_trench 65 = .ok (.aload_n 0, 1) := by decide +kernel
theorem dX5_trench_66 : decode cX5_trench 66 = .ok (.bipush (-3), 2) := by decide +kernel
theorem dX5_trench_68 : decode cX5_trench 68 = .ok (.invokevirtual 125, 3) := by decide +kernel
theorem dX5_trench_71 : decode cX5_trench 71 = .ok (.ireturn, 1) := by decide +kernel
theorem dX5_trench_72 : decode cX5_trench 72 = .ok (.aload_n 0, 1) := by decide +kernel
theorem dX5_trench_73 : decode cX5_trench 73 = .ok (.iload_n 1, 1) := by decide +kernel
theorem dX5_trench_74 : decode cX5_trench 74 = .ok (.iload_n 2, 1) := by decide +kernel
theorem dX5_trench_75 : decode cX5_trench 75 = .ok (.iload_n 3, 1) := by decide +kernel
theorem dX5_trench_76 : decode cX5_trench 76 = .ok (.iload 4, 2) := by decide +kernel
theorem dX5_trench_78 : decode cX5_trench 78 = .ok (.i2l, 1) := by decide +kernel
theorem dX5_trench_79 : decode cX5_trench 79 = .ok (.invokevirtual 130, 3) := by decide +kernel
theorem dX5_trench_82 : decode cX5_trench 82 = .ok (.istore 6, 2) := by decide +kernel
theorem dX5_trench_84 : decode cX5_trench 84 = .ok (.iload 6, 2) := by decide +kernel
theorem dX5_trench_86 : decode cX5_trench 86 = .ok (.ifCond .ge 6, 3) := by decide +kernel
theorem dX5_trench_89 : decode cX5_trench 89 = .ok (.iload 6, 2) := by decide +kernel
theorem dX5_trench_91 : decode cX5_trench 91 = .ok (.ireturn, 1) := by decide +kernel
theorem dX5_trench_92 : decode cX5_trench 92 = .ok (.iconst 0, 1) := by decide +kernel
theorem dX5_trench_93 : decode cX5_trench 93 = .ok (.istore 7, 2) := by decide +kernel
theorem dX5_trench_95 : decode cX5_trench 95 = .ok (.iload 7, 2) := by decide +kernel
theorem dX5_trench_97 : decode cX5_trench 97 = .ok (.iload 4, 2) := by decide +kernel
theorem dX5_trench_99 : decode cX5_trench 99 = .ok (.if_icmp .ge 36, 3) := by decide +kernel
theorem dX5_trench_102 : decode cX5_trench 102 = .ok (.aload_n 0, 1) := by decide +kernel
theorem dX5_trench_103 : decode cX5_trench 103 = .ok (.aload_n 0, 1) := by decide +kernel
theorem dX5_trench_104 : decode cX5_trench 104 = .ok (.getfield 53, 3) := by decide +kernel
theorem dX5_trench_107 : decode cX5_trench 107 = .ok (.bipush 60, 2) := by decide +kernel
theorem dX5_trench_109 : decode cX5_trench 109 = .ok (.iload_n 1, 1) := by decide +kernel
theorem dX5_trench_110 : decode cX5_trench 110 = .ok (.imul, 1) := by decide +kernel
theorem dX5_trench_111 : decode cX5_trench 111 = .ok (.iload_n 3, 1) := by decide +kernel
theorem dX5_trench_112 : decode cX5_trench 112 = .ok (.iadd, 1) := by decide +kernel
theorem dX5_trench_113 : decode cX5_trench 113 = .ok (.iload 7, 2) := by decide +kernel
theorem dX5_trench_115 : decode cX5_trench 115 = .ok (.iadd, 1) := by decide +kernel
theorem dX5_trench_116 : decode cX5_trench 116 = .ok (.iaload, 1) := by decide +kernel
theorem dX5_trench_117 : decode cX5_trench 117 = .ok (.invokevirtual 156, 3) := by decide +kernel
theorem dX5_trench_120 : decode cX5_trench 120 = .ok (.ifCond .eq 9, 3) := by decide +kernel
theorem dX5_trench_123 : decode cX5_trench 123 = .ok (.aload_n 0, 1) := by decide +kernel
theorem dX5_trench_124 : decode cX5_trench 124 = .ok (.iconst (-1), 1) := by decide +kernel
theorem dX5_trench_125 : decode cX5_trench 125 = .ok (.invokevirtual 125, 3) := by decide +kernel
theorem dX5_trench_128 : decode cX5_trench 128 = .ok (.ireturn, 1) := by decide +kernel
theorem dX5_trench_129 : decode cX5_trench 129 = .ok (.iinc 7 1, 3) := by decide +kernel
theorem dX5_trench_132 : decode cX5_trench 132 = .ok (.goto (-37), 3) := by decide +kernel
theorem dX5_trench_135 : decode cX5_trench 135 = .ok (.aload_n 0, 1) := by decide +kernel
theorem dX5_trench_136 : decode cX5_trench 136 = .ok (.aload_n 0, 1) := by decide +kernel
theorem dX5_trench_137 : decode cX5_trench 137 = .ok (.bipush 60, 2) := by decide +kernel
theorem dX5_trench_139 : decode cX5_trench 139 = .ok (.iload_n 1, 1) := by decide +kernel
theorem dX5_trench_140 : decode cX5_trench 140 = .ok (.imul, 1) := by decide +kernel
theorem dX5_trench_141 : decode cX5_trench 141 = .ok (.iload_n 3, 1) := by decide +kernel
theorem dX5_trench_142 : decode cX5_trench 142 = .ok (.iadd, 1) := by decide +kernel
theorem dX5_trench_143 : decode cX5_trench 143 = .ok (.iload 4, 2) := by decide +kernel
theorem dX5_trench_145 : decode cX5_trench 145 = .ok (.iload 5, 2) := by decide +kernel
theorem dX5_trench_147 : decode cX5_trench 147 = .ok (.invokevirtual 213, 3) := by decide +kernel
theorem dX5_trench_150 : decode cX5_trench 150 = .ok (.invokevirtual 125, 3) := by decide +kernel
theorem dX5_trench_153 : decode cX5_trench 153 = .ok (.ireturn, 1) := by decide +kernel
set_option maxRecDepth 20000 in
theorem ggX5_weight_X5_shotBy : GoodIn wsX5_weight wsX5_shotBy := goodIn_r _ [9, 10, 11, 12, 13, 8, 14, 15, 16, 17, 18, 19, 20, 21, 22, 23, 24, 25, 26, 27, 28, 29, 30, 31, 32, 33, 34, 35, 36, 37, 38, 39, 40, 41, 42, 43, 44, 45, 46, 47, 48, 56, 57, 58, 59, 60, 61, 62, 63, 64, 65, 66, 67, 68, 69, 70, 71, 72, 73, 74, 75, 76, 77, 78, 79, 80, 81, 82, 83, 84] (by decide +kernel) (by decide +kernel)
set_option maxRecDepth 20000 in
theorem gX5_weight_X5_shotBy : GoodIn wsX5_weight (wsV RX5 183 RX5 yX5_shotBy wsX5_shotBy) := goodIn_app (goodIn_of _ (by decide +kernel)) ggX5_weight_X5_shotBy
set_option maxRecDepth 20000 in
theorem ggX5_weight_X5_isSoil : GoodIn wsX5_weight wsX5_isSoil := goodIn_r _ [52, 3, 45, 46, 47, 8, 48, 24, 11, 12, 13, 14, 15, 16, 56, 57, 58, 59, 60, 61, 62, 63, 64, 65, 66, 67, 68, 69, 70, 71, 72, 73, 74, 75, 76, 77, 78, 79, 80, 81, 82, 83, 84] (by decide +kernel) (by decide +kernel)
set_option maxRecDepth 20000 in
theorem gX5_weight_X5_isSoil : GoodIn wsX5_weight (wsV RX5 186 RX5 yX5_isSoil wsX5_isSoil) := goodIn_app (goodIn_of _ (by decide +kernel)) ggX5_weight_X5_isSoil
set_option maxRecDepth 20000 in
theorem ggX5_weight_X5_isInLong : GoodIn wsX5_weight wsX5_isInLong := goodIn_r _ [55] (by decide +kernel) (by decide +kernel)
set_option maxRecDepth 20000 in
theorem gX5_weight_X5_isInLong : GoodIn wsX5_weight (va_wsS RX5 189 yX5_isInLong wsX5_isInLong) := goodIn_app (goodIn_of _ (by decide +kernel)) ggX5_weight_X5_isInLong
theorem dX5_weight_0 : decode cX5_weight 0 = .ok (.aload_n 0, 1) := by decide +kernel
theorem dX5_weight_1 : decode cX5_weight 1 = .ok (.iload_n 1, 1) := by decide +kernel
theorem dX5_weight_2 : decode cX5_weight 2 = .ok (.invokevirtual 183, 3) := by decide +kernel
theorem dX5_weight_5 : decode cX5_weight 5 = .ok (.ifCond .eq 7, 3) := by decide +kernel
theorem dX5_weight_8 : decode cX5_weight 8 = .ok (.iconst 1, 1) := by decide +kernel
theorem dX5_weight_9 : decode cX5_weight 9 = .ok (.goto 4, 3) := by decide +kernel
theorem dX5_weight_12 : decode cX5_weight 12 = .ok (.iconst 0, 1) := by decide +kernel
theorem dX5_weight_13 : decode cX5_weight 13 = .ok (.istore_n 3, 1) := by decide +kernel
theorem dX5_weight_14 : decode cX5_weight 14 = .ok (.aload_n 0, 1) := by decide +kernel
theorem dX5_weight_15 : decode cX5_weight 15 = .ok (.iload_n 1, 1) := by decide +kernel
theorem dX5_weight_16 : decode cX5_weight 16 = .ok (.invokevirtual 186, 3) := by decide +kernel
theorem dX5_weight_19 : decode cX5_weight 19 = .ok (.ifCond .eq 11, 3) := by decide +kernel
theorem dX5_weight_22 : decode cX5_weight 22 = .ok (.iload_n 3, 1) := by decide +kernel
theorem dX5_weight_23 : decode cX5_weight 23 = .ok (.ifCond .eq 10, 3) := by decide +kernel
theorem dX5_weight_26 : decode cX5_weight 26 = .ok (.iload_n 2, 1) := by decide +kernel
theorem dX5_weight_27 : decode cX5_weight 27 = .ok (.ifCond .ne 6, 3) := by decide +kernel
theorem dX5_weight_30 : decode cX5_weight 30 = .ok (.ldc 217, 2) := by decide +kernel
theorem dX5_weight_32 : decode cX5_weight 32 = .ok (.ireturn, 1) := by decide +kernel
theorem dX5_weight_33 : decode cX5_weight 33 = .ok (.aload_n 0, 1) := by decide +kernel
theorem dX5_weight_34 : decode cX5_weight 34 = .ok (.getfield 140, 3) := by decide +kernel
theorem dX5_weight_37 : decode cX5_weight 37 = .ok (.iload_n 1, 1) := by decide +kernel
theorem dX5_weight_38 : decode cX5_weight 38 = .ok (.invokestatic 189, 3) := by decide +kernel
