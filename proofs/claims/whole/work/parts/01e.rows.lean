theorem dX4_copy_2 : decode cX4_copy 2 = .ok (.putfield 46, 3) := by decide +kernel
theorem dX4_copy_5 : decode cX4_copy 5 = .ok (.aload_n 0, 1) := by decide +kernel
theorem dX4_copy_6 : decode cX4_copy 6 = .ok (.iload_n 1, 1) := by decide +kernel
theorem dX4_copy_7 : decode cX4_copy 7 = .ok (.invokevirtual 50, 3) := by decide +kernel
theorem dX4_copy_10 : decode cX4_copy 10 = .ok (.astore 6, 2) := by decide +kernel
theorem dX4_copy_12 : decode cX4_copy 12 = .ok (.aload_n 0, 1) := by decide +kernel
theorem dX4_copy_13 : decode cX4_copy 13 = .ok (.iload_n 3, 1) := by decide +kernel
theorem dX4_copy_14 : decode cX4_copy 14 = .ok (.invokevirtual 50, 3) := by decide +kernel
theorem dX4_copy_17 : decode cX4_copy 17 = .ok (.astore 7, 2) := by decide +kernel
theorem dX4_copy_19 : decode cX4_copy 19 = .ok (.aload 6, 2) := by decide +kernel
theorem dX4_copy_21 : decode cX4_copy 21 = .ok (.ifnull 8, 3) := by decide +kernel
theorem dX4_copy_24 : decode cX4_copy 24 = .ok (.aload 7, 2) := by decide +kernel
theorem dX4_copy_26 : decode cX4_copy 26 = .ok (.ifnonnull 5, 3) := by decide +kernel
theorem dX4_copy_29 : decode cX4_copy 29 = .ok (.iconst (-1), 1) := by decide +kernel
theorem dX4_copy_30 : decode cX4_copy 30 = .ok (.ireturn, 1) := by decide +kernel
theorem dX4_copy_31 : decode cX4_copy 31 = .ok (.aload 6, 2) := by decide +kernel
theorem dX4_copy_33 : decode cX4_copy 33 = .ok (.invokevirtual 66, 3) := by decide +kernel
theorem dX4_copy_36 : decode cX4_copy 36 = .ok (.ifCond .ne 11, 3) := by decide +kernel
theorem dX4_copy_39 : decode cX4_copy 39 = .ok (.aload 7, 2) := by decide +kernel
theorem dX4_copy_41 : decode cX4_copy 41 = .ok (.invokevirtual 66, 3) := by decide +kernel
theorem dX4_copy_44 : decode cX4_copy 44 = .ok (.ifCond .eq 9, 3) := by decide +kernel
theorem dX4_copy_47 : decode cX4_copy 47 = .ok (.aload_n 0, 1) := by decide +kernel
theorem dX4_copy_48 : decode cX4_copy 48 = .ok (.iconst 1, 1) := by decide +kernel
theorem dX4_copy_49 : decode cX4_copy 49 = .ok (.invokevirtual 62, 3) := by decide +kernel
theorem dX4_copy_52 : decode cX4_copy 52 = .ok (.ireturn, 1) := by decide +kernel
theorem dX4_copy_53 : decode cX4_copy 53 = .ok (.aload 6, 2) := by decide +kernel
theorem dX4_copy_55 : decode cX4_copy 55 = .ok (.aload 7, 2) := by decide +kernel
theorem dX4_copy_57 : decode cX4_copy 57 = .ok (.getfield 237, 3) := by decide +kernel
theorem dX4_copy_60 : decode cX4_copy 60 = .ok (.invokevirtual 58, 3) := by decide +kernel
theorem dX4_copy_63 : decode cX4_copy 63 = .ok (.ifCond .eq 9, 3) := by decide +kernel
theorem dX4_copy_66 : decode cX4_copy 66 = .ok (.aload_n 0, 1) := by decide +kernel
theorem dX4_copy_67 : decode cX4_copy 67 = .ok (.iconst 2, 1) := by decide +kernel
theorem dX4_copy_68 : decode cX4_copy 68 = .ok (.invokevirtual 62, 3) := by decide +kernel
theorem dX4_copy_71 : decode cX4_copy 71 = .ok (.ireturn, 1) := by decide +kernel
theorem dX4_copy_72 : decode cX4_copy 72 = .ok (.aload 6, 2) := by decide +kernel
theorem dX4_copy_74 : decode cX4_copy 74 = .ok (.iload_n 2, 1) := by decide +kernel
theorem dX4_copy_75 : decode cX4_copy 75 = .ok (.iload 5, 2) := by decide +kernel
theorem dX4_copy_77 : decode cX4_copy 77 = .ok (.invokevirtual 70, 3) := by decide +kernel
theorem dX4_copy_80 : decode cX4_copy 80 = .ok (.ifCond .eq 15, 3) := by decide +kernel
theorem dX4_copy_83 : decode cX4_copy 83 = .ok (.aload 7, 2) := by decide +kernel
theorem dX4_copy_85 : decode cX4_copy 85 = .ok (.iload 4, 2) := by decide +kernel
theorem dX4_copy_87 : decode cX4_copy 87 = .ok (.iload 5, 2) := by decide +kernel
theorem dX4_copy_89 : decode cX4_copy 89 = .ok (.invokevirtual 70, 3) := by decide +kernel
theorem dX4_copy_92 : decode cX4_copy 92 = .ok (.ifCond .ne 9, 3) := by decide +kernel
theorem dX4_copy_95 : decode cX4_copy 95 = .ok (.aload_n 0, 1) := by decide +kernel
theorem dX4_copy_96 : decode cX4_copy 96 = .ok (.iconst 3, 1) := by decide +kernel
theorem dX4_copy_97 : decode cX4_copy 97 = .ok (.invokevirtual 62, 3) := by decide +kernel
theorem dX4_copy_100 : decode cX4_copy 100 = .ok (.ireturn, 1) := by decide +kernel
theorem dX4_copy_101 : decode cX4_copy 101 = .ok (.aload 6, 2) := by decide +kernel
theorem dX4_copy_103 : decode cX4_copy 103 = .ok (.getfield 172, 3) := by decide +kernel
theorem dX4_copy_106 : decode cX4_copy 106 = .ok (.iload_n 2, 1) := by decide +kernel
theorem dX4_copy_107 : decode cX4_copy 107 = .ok (.aload 7, 2) := by decide +kernel
theorem dX4_copy_109 : decode cX4_copy 109 = .ok (.getfield 172, 3) := by decide +kernel
theorem dX4_copy_112 : decode cX4_copy 112 = .ok (.iload 4, 2) := by decide +kernel
theorem dX4_copy_114 : decode cX4_copy 114 = .ok (.iload 5, 2) := by decide +kernel
theorem dX4_copy_116 : decode cX4_copy 116 = .ok (.invokestatic 240, 3) := by decide +kernel
theorem dX4_copy_119 : decode cX4_copy 119 = .ok (.iload 5, 2) := by decide +kernel
theorem dX4_copy_121 : decode cX4_copy 121 = .ok (.ireturn, 1) := by decide +kernel
set_option maxRecDepth 20000 in
theorem ggX4_tell_X0_hasGun : GoodIn wsX4_tell wsX0_hasGun := goodIn_r _ [7, 8, 36, 37, 38, 39, 40, 41, 42, 43, 44, 45, 46, 47, 48, 49] (by decide +kernel) (by decide +kernel)
set_option maxRecDepth 20000 in
theorem gX4_tell_X0_hasGun : GoodIn wsX4_tell (wsV RX4 86 RX0 yX0_hasGun wsX0_hasGun) := goodIn_app (goodIn_of _ (by decide +kernel)) ggX4_tell_X0_hasGun
set_option maxRecDepth 20000 in
theorem ggX4_tell_X4_tellMortar : GoodIn wsX4_tell wsX4_tellMortar := goodIn_r _ [13, 14, 15, 16, 12, 17, 18, 19, 20, 21, 22, 23, 24, 25, 26, 1, 27, 28, 29, 30, 31, 32, 33, 34, 35, 36, 37, 38, 39, 40, 41, 42, 43, 44, 45, 46, 47, 48, 49] (by decide +kernel) (by decide +kernel)
set_option maxRecDepth 20000 in
theorem gX4_tell_X4_tellMortar : GoodIn wsX4_tell (wsV RX4 246 RX4 yX4_tellMortar wsX4_tellMortar) := goodIn_app (goodIn_of _ (by decide +kernel)) ggX4_tell_X4_tellMortar
set_option maxRecDepth 20000 in
theorem ggX4_tell_X4_tellHowitzer : GoodIn wsX4_tell wsX4_tellHowitzer := goodIn_r _ [22, 14, 15, 16, 12, 17, 18, 23, 24, 25, 26, 1, 27, 28, 29, 30, 31, 32, 33, 34, 35, 36, 37, 38, 39, 40, 41, 42, 43, 44, 45, 46, 47, 48, 49] (by decide +kernel) (by decide +kernel)
set_option maxRecDepth 20000 in
theorem gX4_tell_X4_tellHowitzer : GoodIn wsX4_tell (wsV RX4 249 RX4 yX4_tellHowitzer wsX4_tellHowitzer) := goodIn_app (goodIn_of _ (by decide +kernel)) ggX4_tell_X4_tellHowitzer
set_option maxRecDepth 20000 in
theorem ggX4_tell_X4_tellGun : GoodIn wsX4_tell wsX4_tellGun := goodIn_r _ [26, 1, 27, 14, 15, 16, 12, 17, 18, 28, 29, 30, 31, 32, 33, 34, 35, 36, 37, 38, 39, 40, 41, 42, 43, 44, 45, 46, 47, 48, 49] (by decide +kernel) (by decide +kernel)
set_option maxRecDepth 20000 in
theorem gX4_tell_X4_tellGun : GoodIn wsX4_tell (wsV RX4 252 RX4 yX4_tellGun wsX4_tellGun) := goodIn_app (goodIn_of _ (by decide +kernel)) ggX4_tell_X4_tellGun
theorem dX4_tell_0 : decode cX4_tell 0 = .ok (.aload_n 0, 1) := by decide +kernel
theorem dX4_tell_1 : decode cX4_tell 1 = .ok (.getfield 20, 3) := by decide +kernel
theorem dX4_tell_4 : decode cX4_tell 4 = .ok (.iload_n 1, 1) := by decide +kernel
theorem dX4_tell_5 : decode cX4_tell 5 = .ok (.invokevirtual 86, 3) := by decide +kernel
theorem dX4_tell_8 : decode cX4_tell 8 = .ok (.ifCond .ne 5, 3) := by decide +kernel
theorem dX4_tell_11 : decode cX4_tell 11 = .ok (.iconst (-1), 1) := by decide +kernel
theorem dX4_tell_12 : decode cX4_tell 12 = .ok (.ireturn, 1) := by decide +kernel
theorem dX4_tell_13 : decode cX4_tell 13 = .ok (.aload_n 0, 1) := by decide +kernel
theorem dX4_tell_14 : decode cX4_tell 14 = .ok (.getfield 20, 3) := by decide +kernel
theorem dX4_tell_17 : decode cX4_tell 17 = .ok (.getfield 89, 3) := by decide +kernel
theorem dX4_tell_20 : decode cX4_tell 20 = .ok (.iload_n 1, 1) := by decide +kernel
theorem dX4_tell_21 : decode cX4_tell 21 = .ok (.iaload, 1) := by decide +kernel
theorem dX4_tell_22 : decode cX4_tell 22 = .ok (.lookupswitch 38 #[(1, 32), (2, 26)], 26) := by decide +kernel
theorem dX4_tell_48 : decode cX4_tell 48 = .ok (.aload_n 0, 1) := by decide +kernel
theorem dX4_tell_49 : decode cX4_tell 49 = .ok (.iload_n 1, 1) := by decide +kernel
theorem dX4_tell_50 : decode cX4_tell 50 = .ok (.invokevirtual 246, 3) := by decide +kernel
theorem dX4_tell_53 : decode cX4_tell 53 = .ok (.ireturn, 1) := by decide +kernel
theorem dX4_tell_54 : decode cX4_tell 54 = .ok (.aload_n 0, 1) := by decide +kernel
theorem dX4_tell_55 : decode cX4_tell 55 = .ok (.iload_n 1, 1) := by decide +kernel
theorem dX4_tell_56 : decode cX4_tell 56 = .ok (.invokevirtual 249, 3) := by decide +kernel
theorem dX4_tell_59 : decode cX4_tell 59 = .ok (.ireturn, 1) := by decide +kernel
theorem dX4_tell_60 : decode cX4_tell 60 = .ok (.aload_n 0, 1) := by decide +kernel
theorem dX4_tell_61 : decode cX4_tell 61 = .ok (.iload_n 1, 1) := by decide +kernel
theorem dX4_tell_62 : decode cX4_tell 62 = .ok (.invokevirtual 252, 3) := by decide +kernel
theorem dX4_tell_65 : decode cX4_tell 65 = .ok (.ireturn, 1) := by decide +kernel
set_option maxRecDepth 20000 in
theorem ggX4_fire_X0_hasGun : GoodIn wsX4_fire wsX0_hasGun := goodIn_r _ [7, 8, 31, 32, 33, 34, 35, 36, 37, 38, 39, 40, 41, 42, 43, 44] (by decide +kernel) (by decide +kernel)
set_option maxRecDepth 20000 in
theorem gX4_fire_X0_hasGun : GoodIn wsX4_fire (wsV RX4 86 RX0 yX0_hasGun wsX0_hasGun) := goodIn_app (goodIn_of _ (by decide +kernel)) ggX4_fire_X0_hasGun
set_option maxRecDepth 20000 in
theorem ggX4_fire_X4_fireMortar : GoodIn wsX4_fire wsX4_fireMortar := goodIn_r _ [13, 14, 15, 16, 12, 17, 18, 23, 24, 25, 26, 27, 28, 29, 30] (by decide +kernel) (by decide +kernel)
set_option maxRecDepth 20000 in
theorem gX4_fire_X4_fireMortar : GoodIn wsX4_fire (wsV RX4 255 RX4 yX4_fireMortar wsX4_fireMortar) := goodIn_app (goodIn_of _ (by decide +kernel)) ggX4_fire_X4_fireMortar
set_option maxRecDepth 20000 in
theorem ggX4_fire_X4_fireLent : GoodIn wsX4_fire wsX4_fireLent := goodIn_r _ [22, 14, 15, 16, 12, 17, 18, 23, 24, 25, 26, 27, 28, 29, 30] (by decide +kernel) (by decide +kernel)
set_option maxRecDepth 20000 in
theorem gX4_fire_X4_fireLent : GoodIn wsX4_fire (wsV RX4 259 RX4 yX4_fireLent wsX4_fireLent) := goodIn_app (goodIn_of _ (by decide +kernel)) ggX4_fire_X4_fireLent
theorem dX4_fire_0 : decode cX4_fire 0 = .ok (.aload_n 0, 1) := by decide +kernel
theorem dX4_fire_1 : decode cX4_fire 1 = .ok (.getfield 20, 3) := by decide +kernel
theorem dX4_fire_4 : decode cX4_fire 4 = .ok (.iload_n 1, 1) := by decide +kernel
theorem dX4_fire_5 : decode cX4_fire 5 = .ok (.invokevirtual 86, 3) := by decide +kernel
theorem dX4_fire_8 : decode cX4_fire 8 = .ok (.ifCond .ne 5, 3) := by decide +kernel
theorem dX4_fire_11 : decode cX4_fire 11 = .ok (.iconst (-1), 1) := by decide +kernel
theorem dX4_fire_12 : decode cX4_fire 12 = .ok (.ireturn, 1) := by decide +kernel
theorem dX4_fire_13 : decode cX4_fire 13 = .ok (.aload_n 0, 1) := by decide +kernel
theorem dX4_fire_14 : decode cX4_fire 14 = .ok (.getfield 20, 3) := by decide +kernel
theorem dX4_fire_17 : decode cX4_fire 17 = .ok (.getfield 89, 3) := by decide +kernel
theorem dX4_fire_20 : decode cX4_fire 20 = .ok (.iload_n 1, 1) := by decide +kernel
theorem dX4_fire_21 : decode cX4_fire 21 = .ok (.iaload, 1) := by decide +kernel
theorem dX4_fire_22 : decode cX4_fire 22 = .ok (.iconst 2, 1) := by decide +kernel
theorem dX4_fire_23 : decode cX4_fire 23 = .ok (.if_icmp .ne 10, 3) := by decide +kernel
theorem dX4_fire_26 : decode cX4_fire 26 = .ok (.aload_n 0, 1) := by decide +kernel
theorem dX4_fire_27 : decode cX4_fire 27 = .ok (.invokevirtual 255, 3) := by decide +kernel
theorem dX4_fire_30 : decode cX4_fire 30 = .ok (.goto 8, 3) := by decide +kernel
theorem dX4_fire_33 : decode cX4_fire 33 = .ok (.aload_n 0, 1) := by decide +kernel
theorem dX4_fire_34 : decode cX4_fire 34 = .ok (.iload_n 1, 1) := by decide +kernel
theorem dX4_fire_35 : decode cX4_fire 35 = .ok (.invokevirtual 259, 3) := by decide +kernel
theorem dX4_fire_38 : decode cX4_fire 38 = .ok (.ireturn, 1) := by decide +kernel
set_option maxRecDepth 20000 in
theorem ggX4_as_X0_hasGun : GoodIn wsX4_as wsX0_hasGun := goodIn_r _ [8, 9, 26, 27, 28, 29, 30, 31, 32, 33, 34, 35, 36, 37, 38, 39] (by decide +kernel) (by decide +kernel)
set_option maxRecDepth 20000 in
theorem gX4_as_X0_hasGun : GoodIn wsX4_as (wsV RX4 86 RX0 yX0_hasGun wsX0_hasGun) := goodIn_app (goodIn_of _ (by decide +kernel)) ggX4_as_X0_hasGun
set_option maxRecDepth 20000 in
theorem ggX4_as_X4_isWithin : GoodIn wsX4_as wsX4_isWithin := goodIn_r _ [13] (by decide +kernel) (by decide +kernel)
set_option maxRecDepth 20000 in
theorem gX4_as_X4_isWithin : GoodIn wsX4_as (va_wsS RX4 54 yX4_isWithin wsX4_isWithin) := goodIn_app (goodIn_of _ (by decide +kernel)) ggX4_as_X4_isWithin
set_option maxRecDepth 20000 in
theorem ggX4_as_X4_comeTo : GoodIn wsX4_as wsX4_comeTo := goodIn_r _ [17, 1, 18, 19, 20, 21, 22, 23, 24, 25] (by decide +kernel) (by decide +kernel)
set_option maxRecDepth 20000 in
theorem gX4_as_X4_comeTo : GoodIn wsX4_as (wsV RX4 62 RX4 yX4_comeTo wsX4_comeTo) := goodIn_app (goodIn_of _ (by decide +kernel)) ggX4_as_X4_comeTo
theorem dX4_as_0 : decode cX4_as 0 = .ok (.aload_n 0, 1) := by decide +kernel
theorem dX4_as_1 : decode cX4_as 1 = .ok (.iconst 0, 1) := by decide +kernel
theorem dX4_as_2 : decode cX4_as 2 = .ok (.putfield 46, 3) := by decide +kernel
theorem dX4_as_5 : decode cX4_as 5 = .ok (.aload_n 0, 1) := by decide +kernel
theorem dX4_as_6 : decode cX4_as 6 = .ok (.getfield 20, 3) := by decide +kernel
theorem dX4_as_9 : decode cX4_as 9 = .ok (.iload_n 1, 1) := by decide +kernel
theorem dX4_as_10 : decode cX4_as 10 = .ok (.invokevirtual 86, 3) := by decide +kernel
theorem dX4_as_13 : decode cX4_as 13 = .ok (.ifCond .ne 5, 3) := by decide +kernel
theorem dX4_as_16 : decode cX4_as 16 = .ok (.iconst (-1), 1) := by decide +kernel
theorem dX4_as_17 : decode cX4_as 17 = .ok (.ireturn, 1) := by decide +kernel
theorem dX4_as_18 : decode cX4_as 18 = .ok (.iload_n 2, 1) := by decide +kernel
theorem dX4_as_19 : decode cX4_as 19 = .ok (.iconst 2, 1) := by decide +kernel
theorem dX4_as_20 : decode cX4_as 20 = .ok (.invokestatic 54, 3) := by decide +kernel
theorem dX4_as_23 : decode cX4_as 23 = .ok (.ifCond .ne 6, 3) := by decide +kernel
theorem dX4_as_26 : decode cX4_as 26 = .ok (.bipush (-2), 2) := by decide +kernel
theorem dX4_as_28 : decode cX4_as 28 = .ok (.ireturn, 1) := by decide +kernel
theorem dX4_as_29 : decode cX4_as 29 = .ok (.aload_n 0, 1) := by decide +kernel
theorem dX4_as_30 : decode cX4_as 30 = .ok (.getfield 20, 3) := by decide +kernel
theorem dX4_as_33 : decode cX4_as 33 = .ok (.getfield 89, 3) := by decide +kernel
theorem dX4_as_36 : decode cX4_as 36 = .ok (.iload_n 1, 1) := by decide +kernel
theorem dX4_as_37 : decode cX4_as 37 = .ok (.iaload, 1) := by decide +kernel
theorem dX4_as_38 : decode cX4_as 38 = .ok (.iload_n 2, 1) := by decide +kernel
theorem dX4_as_39 : decode cX4_as 39 = .ok (.if_icmp .ge 11, 3) := by decide +kernel
theorem dX4_as_42 : decode cX4_as 42 = .ok (.aload_n 0, 1) := by decide +kernel
theorem dX4_as_43 : decode cX4_as 43 = .ok (.iconst 2, 1) := by decide +kernel
theorem dX4_as_44 : decode cX4_as 44 = .ok (.invokevirtual 62, 3) := by decide +kernel
theorem dX4_as_47 : decode cX4_as 47 = .ok (.goto 4, 3) := by decide +kernel
theorem dX4_as_50 : decode cX4_as 50 = .ok (.iconst 1, 1) := by decide +kernel
theorem dX4_as_51 : decode cX4_as 51 = .ok (.ireturn, 1) := by decide +kernel
theorem dX4_trace_0 : decode cX4_trace 0 = .ok (.aload_n 0, 1) := by decide +kernel
theorem dX4_trace_1 : decode cX4_trace 1 = .ok (.getfield 43, 3) := by decide +kernel
theorem dX4_trace_4 : decode cX4_trace 4 = .ok (.ireturn, 1) := by decide +kernel
theorem dX4_fault_0 : decode cX4_fault 0 = .ok (.aload_n 0, 1) := by decide +kernel
theorem dX4_fault_1 : decode cX4_fault 1 = .ok (.getfield 46, 3) := by decide +kernel
theorem dX4_fault_4 : decode cX4_fault 4 = .ok (.ireturn, 1) := by decide +kernel
set_option maxRecDepth 20000 in
theorem ggX4_many_J13_bitCount_95d88 : GoodIn wsX4_many wsJ13_bitCount_95d88 := goodIn_r _ [10, 11, 12, 13] (by decide +kernel) (by decide +kernel)
set_option maxRecDepth 20000 in
theorem gX4_many_J13_bitCount_95d88 : GoodIn wsX4_many (va_wsS RX4 155 yJ13_bitCount_95d88 wsJ13_bitCount_95d88) := goodIn_app (goodIn_of _ (by decide +kernel)) ggX4_many_J13_bitCount_95d88
theorem dX4_many_0 : decode cX4_many 0 = .ok (.iload_n 1, 1) := by decide +kernel
theorem dX4_many_1 : decode cX4_many 1 = .ok (.tableswitch 75 0 4 #[35, 43, 51, 59, 70], 35) := by decide +kernel
theorem dX4_many_36 : decode cX4_many 36 = .ok (.aload_n 0, 1) := by decide +kernel
theorem dX4_many_37 : decode cX4_many 37 = .ok (.getfield 20, 3) := by decide +kernel
theorem dX4_many_40 : decode cX4_many 40 = .ok (.getfield 83, 3) := by decide +kernel
theorem dX4_many_43 : decode cX4_many 43 = .ok (.ireturn, 1) := by decide +kernel
theorem dX4_many_44 : decode cX4_many 44 = .ok (.aload_n 0, 1) := by decide +kernel
theorem dX4_many_45 : decode cX4_many 45 = .ok (.getfield 20, 3) := by decide +kernel
theorem dX4_many_48 : decode cX4_many 48 = .ok (.getfield 262, 3) := by decide +kernel
theorem dX4_many_51 : decode cX4_many 51 = .ok (.ireturn, 1) := by decide +kernel
theorem dX4_many_52 : decode cX4_many 52 = .ok (.aload_n 0, 1) := by decide +kernel
theorem dX4_many_53 : decode cX4_many 53 = .ok (.getfield 20, 3) := by decide +kernel
theorem dX4_many_56 : decode cX4_many 56 = .ok (.getfield 265, 3) := by decide +kernel
theorem dX4_many_59 : decode cX4_many 59 = .ok (.ireturn, 1) := by decide +kernel
theorem dX4_many_60 : decode cX4_many 60 = .ok (.aload_n 0, 1) := by decide +kernel
theorem dX4_many_61 : decode cX4_many 61 = .ok (.getfield 20, 3) := by decide +kernel
theorem dX4_many_64 : decode cX4_many 64 = .ok (.getfield 131, 3) := by decide +kernel
theorem dX4_many_67 : decode cX4_many 67 = .ok (.invokestatic 155, 3) := by decide +kernel
theorem dX4_many_70 : decode cX4_many 70 = .ok (.ireturn, 1) := by decide +kernel
theorem dX4_many_71 : decode cX4_many 71 = .ok (.aload_n 0, 1) := by decide +kernel
theorem dX4_many_72 : decode cX4_many 72 = .ok (.getfield 39, 3) := by decide +kernel
theorem dX4_many_75 : decode cX4_many 75 = .ok (.ireturn, 1) := by decide +kernel
theorem dX4_many_76 : decode cX4_many 76 = .ok (.bipush (-2), 2) := by decide +kernel
theorem dX4_many_78 : decode cX4_many 78 = .ok (.ireturn, 1) := by decide +kernel
set_option maxRecDepth 20000 in
theorem ggX4_tellGun_X4_leave : GoodIn wsX4_tellGun wsX4_leave := goodIn_r _ [7, 8, 9, 10, 11, 12, 13, 14, 15, 16] (by decide +kernel) (by decide +kernel)
set_option maxRecDepth 20000 in
theorem gX4_tellGun_X4_leave : GoodIn wsX4_tellGun (wsV RX4 268 RX4 yX4_leave wsX4_leave) := goodIn_app (goodIn_of _ (by decide +kernel)) ggX4_tellGun_X4_leave
theorem dX4_tellGun_0 : decode cX4_tellGun 0 = .ok (.aload_n 0, 1) := by decide +kernel
theorem dX4_tellGun_1 : decode cX4_tellGun 1 = .ok (.iconst 1, 1) := by decide +kernel
theorem dX4_tellGun_2 : decode cX4_tellGun 2 = .ok (.invokevirtual 268, 3) := by decide +kernel
theorem dX4_tellGun_5 : decode cX4_tellGun 5 = .ok (.aload_n 0, 1) := by decide +kernel
theorem dX4_tellGun_6 : decode cX4_tellGun 6 = .ok (.getfield 20, 3) := by decide +kernel
theorem dX4_tellGun_9 : decode cX4_tellGun 9 = .ok (.getfield 95, 3) := by decide +kernel
theorem dX4_tellGun_12 : decode cX4_tellGun 12 = .ok (.iload_n 1, 1) := by decide +kernel
theorem dX4_tellGun_13 : decode cX4_tellGun 13 = .ok (.iaload, 1) := by decide +kernel
theorem dX4_tellGun_14 : decode cX4_tellGun 14 = .ok (.ireturn, 1) := by decide +kernel
set_option maxRecDepth 20000 in
theorem ggX4_tellHowitzer_X4_leave : GoodIn wsX4_tellHowitzer wsX4_leave := goodIn_r _ [5, 6, 13, 14, 15, 16, 17, 18, 19, 20] (by decide +kernel) (by decide +kernel)
set_option maxRecDepth 20000 in
theorem gX4_tellHowitzer_X4_leave : GoodIn wsX4_tellHowitzer (wsV RX4 268 RX4 yX4_leave wsX4_leave) := goodIn_app (goodIn_of _ (by decide +kernel)) ggX4_tellHowitzer_X4_leave
set_option maxRecDepth 20000 in
theorem ggX4_tellHowitzer_X4_tellGun : GoodIn wsX4_tellHowitzer wsX4_tellGun := goodIn_r _ [10, 11, 12, 1, 2, 3, 4, 5, 6, 13, 14, 15, 16, 17, 18, 19, 20, 21, 22, 23, 24, 25, 26, 27, 28, 29, 30, 31, 32, 33, 34] (by decide +kernel) (by decide +kernel)
set_option maxRecDepth 20000 in
theorem gX4_tellHowitzer_X4_tellGun : GoodIn wsX4_tellHowitzer (wsV RX4 252 RX4 yX4_tellGun wsX4_tellGun) := goodIn_app (goodIn_of _ (by decide +kernel)) ggX4_tellHowitzer_X4_tellGun
theorem dX4_tellHowitzer_0 : decode cX4_tellHowitzer 0 = .ok (.aload_n 0, 1) := by decide +kernel
theorem dX4_tellHowitzer_1 : decode cX4_tellHowitzer 1 = .ok (.iconst 2, 1) := by decide +kernel
theorem dX4_tellHowitzer_2 : decode cX4_tellHowitzer 2 = .ok (.invokevirtual 268, 3) := by decide +kernel
theorem dX4_tellHowitzer_5 : decode cX4_tellHowitzer 5 = .ok (.aload_n 0, 1) := by decide +kernel
theorem dX4_tellHowitzer_6 : decode cX4_tellHowitzer 6 = .ok (.iload_n 1, 1) := by decide +kernel
theorem dX4_tellHowitzer_7 : decode cX4_tellHowitzer 7 = .ok (.invokevirtual 252, 3) := by decide +kernel
theorem dX4_tellHowitzer_10 : decode cX4_tellHowitzer 10 = .ok (.bipush 100, 2) := by decide +kernel
theorem dX4_tellHowitzer_12 : decode cX4_tellHowitzer 12 = .ok (.iadd, 1) := by decide +kernel
theorem dX4_tellHowitzer_13 : decode cX4_tellHowitzer 13 = .ok (.ireturn, 1) := by decide +kernel
set_option maxRecDepth 20000 in
theorem ggX4_tellMortar_X4_leave : GoodIn wsX4_tellMortar wsX4_leave := goodIn_r _ [5, 6, 17, 18, 19, 20, 21, 22, 23, 24] (by decide +kernel) (by decide +kernel)
set_option maxRecDepth 20000 in
theorem gX4_tellMortar_X4_leave : GoodIn wsX4_tellMortar (wsV RX4 268 RX4 yX4_leave wsX4_leave) := goodIn_app (goodIn_of _ (by decide +kernel)) ggX4_tellMortar_X4_leave
set_option maxRecDepth 20000 in
theorem ggX4_tellMortar_X4_tellHowitzer : GoodIn wsX4_tellMortar wsX4_tellHowitzer := goodIn_r _ [10, 1, 2, 3, 4, 5, 6, 11, 12, 13, 14, 15, 16, 17, 18, 19, 20, 21, 22, 23, 24, 25, 26, 27, 28, 29, 30, 31, 32, 33, 34, 35, 36, 37, 38] (by decide +kernel) (by decide +kernel)
set_option maxRecDepth 20000 in
theorem gX4_tellMortar_X4_tellHowitzer : GoodIn wsX4_tellMortar (wsV RX4 249 RX4 yX4_tellHowitzer wsX4_tellHowitzer) := goodIn_app (goodIn_of _ (by decide +kernel)) ggX4_tellMortar_X4_tellHowitzer
set_option maxRecDepth 20000 in
theorem ggX4_tellMortar_X4_tellGun : GoodIn wsX4_tellMortar wsX4_tellGun := goodIn_r _ [14, 15, 16, 1, 2, 3, 4, 5, 6, 17, 18, 19, 20, 21, 22, 23, 24, 25, 26, 27, 28, 29, 30, 31, 32, 33, 34, 35, 36, 37, 38] (by decide +kernel) (by decide +kernel)
set_option maxRecDepth 20000 in
theorem gX4_tellMortar_X4_tellGun : GoodIn wsX4_tellMortar (wsV RX4 252 RX4 yX4_tellGun wsX4_tellGun) := goodIn_app (goodIn_of _ (by decide +kernel)) ggX4_tellMortar_X4_tellGun
theorem dX4_tellMortar_0 : decode cX4_tellMortar 0 = .ok (.aload_n 0, 1) := by decide +kernel
theorem dX4_tellMortar_1 : decode cX4_tellMortar 1 = .ok (.iconst 3, 1) := by decide +kernel
theorem dX4_tellMortar_2 : decode cX4_tellMortar 2 = .ok (.invokevirtual 268, 3) := by decide +kernel
theorem dX4_tellMortar_5 : decode cX4_tellMortar 5 = .ok (.aload_n 0, 1) := by decide +kernel
theorem dX4_tellMortar_6 : decode cX4_tellMortar 6 = .ok (.iload_n 1, 1) := by decide +kernel
theorem dX4_tellMortar_7 : decode cX4_tellMortar 7 = .ok (.invokevirtual 249, 3) := by decide +kernel
theorem dX4_tellMortar_10 : decode cX4_tellMortar 10 = .ok (.istore_n 2, 1) := by decide +kernel
theorem dX4_tellMortar_11 : decode cX4_tellMortar 11 = .ok (.iload_n 2, 1) := by decide +kernel
theorem dX4_tellMortar_12 : decode cX4_tellMortar 12 = .ok (.aload_n 0, 1) := by decide +kernel
theorem dX4_tellMortar_13 : decode cX4_tellMortar 13 = .ok (.iload_n 1, 1) := by decide +kernel
theorem dX4_tellMortar_14 : decode cX4_tellMortar 14 = .ok (.invokevirtual 252, 3) := by decide +kernel
theorem dX4_tellMortar_17 : decode cX4_tellMortar 17 = .ok (.iadd, 1) := by decide +kernel
theorem dX4_tellMortar_18 : decode cX4_tellMortar 18 = .ok (.ireturn, 1) := by decide +kernel
set_option maxRecDepth 20000 in
theorem ggX4_fireLent_X4_leave : GoodIn wsX4_fireLent wsX4_leave := goodIn_r _ [5, 6, 7, 8, 9, 10, 11, 12, 13, 14] (by decide +kernel) (by decide +kernel)
set_option maxRecDepth 20000 in
theorem gX4_fireLent_X4_leave : GoodIn wsX4_fireLent (wsV RX4 268 RX4 yX4_leave wsX4_leave) := goodIn_app (goodIn_of _ (by decide +kernel)) ggX4_fireLent_X4_leave
theorem dX4_fireLent_0 : decode cX4_fireLent 0 = .ok (.aload_n 0, 1) := by decide +kernel
theorem dX4_fireLent_1 : decode cX4_fireLent 1 = .ok (.iconst 4, 1) := by decide +kernel
theorem dX4_fireLent_2 : decode cX4_fireLent 2 = .ok (.invokevirtual 268, 3) := by decide +kernel
theorem dX4_fireLent_5 : decode cX4_fireLent 5 = .ok (.iload_n 1, 1) := by decide +kernel
theorem dX4_fireLent_6 : decode cX4_fireLent 6 = .ok (.ireturn, 1) := by decide +kernel
set_option maxRecDepth 20000 in
theorem ggX4_fireMortar_X4_leave : GoodIn wsX4_fireMortar wsX4_leave := goodIn_r _ [5, 6, 7, 8, 9, 10, 11, 12, 13, 14] (by decide +kernel) (by decide +kernel)
set_option maxRecDepth 20000 in
theorem gX4_fireMortar_X4_leave : GoodIn wsX4_fireMortar (wsV RX4 268 RX4 yX4_leave wsX4_leave) := goodIn_app (goodIn_of _ (by decide +kernel)) ggX4_fireMortar_X4_leave
theorem dX4_fireMortar_0 : decode cX4_fireMortar 0 = .ok (.aload_n 0, 1) := by decide +kernel
theorem dX4_fireMortar_1 : decode cX4_fireMortar 1 = .ok (.iconst 5, 1) := by decide +kernel
theorem dX4_fireMortar_2 : decode cX4_fireMortar 2 = .ok (.invokevirtual 268, 3) := by decide +kernel
theorem dX4_fireMortar_5 : decode cX4_fireMortar 5 = .ok (.bipush 90, 2) := by decide +kernel
theorem dX4_fireMortar_7 : decode cX4_fireMortar 7 = .ok (.ireturn, 1) := by decide +kernel
theorem dX4_leave_0 : decode cX4_leave 0 = .ok (.aload_n 0, 1) := by decide +kernel
theorem dX4_leave_1 : decode cX4_leave 1 = .ok (.aload_n 0, 1) := by decide +kernel
theorem dX4_leave_2 : decode cX4_leave 2 = .ok (.getfield 43, 3) := by decide +kernel
theorem dX4_leave_5 : decode cX4_leave 5 = .ok (.bipush 31, 2) := by decide +kernel
theorem dX4_leave_7 : decode cX4_leave 7 = .ok (.imul, 1) := by decide +kernel
theorem dX4_leave_8 : decode cX4_leave 8 = .ok (.iload_n 1, 1) := by decide +kernel
theorem dX4_leave_9 : decode cX4_leave 9 = .ok (.iadd, 1) := by decide +kernel
theorem dX4_leave_10 : decode cX4_leave 10 = .ok (.putfield 43, 3) := by decide +kernel
theorem dX4_leave_13 : decode cX4_leave 13 = .ok (.return_, 1) := by decide +kernel
theorem dX4_comeTo_0 : decode cX4_comeTo 0 = .ok (.aload_n 0, 1) := by decide +kernel
theorem dX4_comeTo_1 : decode cX4_comeTo 1 = .ok (.iload_n 1, 1) := by decide +kernel
theorem dX4_comeTo_2 : decode cX4_comeTo 2 = .ok (.putfield 46, 3) := by decide +kernel
theorem dX4_comeTo_5 : decode cX4_comeTo 5 = .ok (.bipush (-10), 2) := by decide +kernel
theorem dX4_comeTo_7 : decode cX4_comeTo 7 = .ok (.iload_n 1, 1) := by decide +kernel
theorem dX4_comeTo_8 : decode cX4_comeTo 8 = .ok (.isub, 1) := by decide +kernel
theorem dX4_comeTo_9 : decode cX4_comeTo 9 = .ok (.ireturn, 1) := by decide +kernel
set_option maxRecDepth 20000 in
theorem ggX4_sheetOf_X4_isWithin : GoodIn wsX4_sheetOf wsX4_isWithin := goodIn_r _ [5] (by decide +kernel) (by decide +kernel)
set_option maxRecDepth 20000 in
theorem gX4_sheetOf_X4_isWithin : GoodIn wsX4_sheetOf (va_wsS RX4 54 yX4_isWithin wsX4_isWithin) := goodIn_app (goodIn_of _ (by decide +kernel)) ggX4_sheetOf_X4_isWithin
theorem dX4_sheetOf_0 : decode cX4_sheetOf 0 = .ok (.iload_n 1, 1) := by decide +kernel
theorem dX4_sheetOf_1 : decode cX4_sheetOf 1 = .ok (.aload_n 0, 1) := by decide +kernel
theorem dX4_sheetOf_2 : decode cX4_sheetOf 2 = .ok (.getfield 11, 3) := by decide +kernel
theorem dX4_sheetOf_5 : decode cX4_sheetOf 5 = .ok (.arraylength, 1) := by decide +kernel
theorem dX4_sheetOf_6 : decode cX4_sheetOf 6 = .ok (.iconst 1, 1) := by decide +kernel
theorem dX4_sheetOf_7 : decode cX4_sheetOf 7 = .ok (.isub, 1) := by decide +kernel
theorem dX4_sheetOf_8 : decode cX4_sheetOf 8 = .ok (.invokestatic 54, 3) := by decide +kernel
theorem dX4_sheetOf_11 : decode cX4_sheetOf 11 = .ok (.ifCond .eq 12, 3) := by decide +kernel
theorem dX4_sheetOf_14 : decode cX4_sheetOf 14 = .ok (.aload_n 0, 1) := by decide +kernel
theorem dX4_sheetOf_15 : decode cX4_sheetOf 15 = .ok (.getfield 11, 3) := by decide +kernel
theorem dX4_sheetOf_18 : decode cX4_sheetOf 18 = .ok (.iload_n 1, 1) := by decide +kernel
theorem dX4_sheetOf_19 : decode cX4_sheetOf 19 = .ok (.aaload, 1) := by decide +kernel
theorem dX4_sheetOf_20 : decode cX4_sheetOf 20 = .ok (.goto 4, 3) := by decide +kernel
theorem dX4_sheetOf_23 : decode cX4_sheetOf 23 = .ok (.aconst_null, 1) := by decide +kernel
theorem dX4_sheetOf_24 : decode cX4_sheetOf 24 = .ok (.areturn, 1) := by decide +kernel
theorem dX4_isWithin_0 : decode cX4_isWithin 0 = .ok (.iload_n 0, 1) := by decide +kernel
theorem dX4_isWithin_1 : decode cX4_isWithin 1 = .ok (.ifCond .lt 12, 3) := by decide +kernel
theorem dX4_isWithin_4 : decode cX4_isWithin 4 = .ok (.iload_n 0, 1) := by decide +kernel
theorem dX4_isWithin_5 : decode cX4_isWithin 5 = .ok (.iload_n 1, 1) := by decide +kernel
theorem dX4_isWithin_6 : decode cX4_isWithin 6 = .ok (.if_icmp .gt 7, 3) := by decide +kernel
theorem dX4_isWithin_9 : decode cX4_isWithin 9 = .ok (.iconst 1, 1) := by decide +kernel
theorem dX4_isWithin_10 : decode cX4_isWithin 10 = .ok (.goto 4, 3) := by decide +kernel
theorem dX4_isWithin_13 : decode cX4_isWithin 13 = .ok (.iconst 0, 1) := by decide +kernel
theorem dX4_isWithin_14 : decode cX4_isWithin 14 = .ok (.ireturn, 1) := by decide +kernel
theorem dX4_isIn_0 : decode cX4_isIn 0 = .ok (.lload_n 1, 1) := by decide +kernel
theorem dX4_isIn_1 : decode cX4_isIn 1 = .ok (.iload_n 0, 1) := by decide +kernel
theorem dX4_isIn_2 : decode cX4_isIn 2 = .ok (.lshr, 1) := by decide +kernel
theorem dX4_isIn_3 : decode cX4_isIn 3 = .ok (.lconst 1, 1) := by decide +kernel
theorem dX4_isIn_4 : decode cX4_isIn 4 = .ok (.land, 1) := by decide +kernel
theorem dX4_isIn_5 : decode cX4_isIn 5 = .ok (.lconst 0, 1) := by decide +kernel
theorem dX4_isIn_6 : decode cX4_isIn 6 = .ok (.lcmp, 1) := by decide +kernel
theorem dX4_isIn_7 : decode cX4_isIn 7 = .ok (.ifCond .eq 7, 3) := by decide +kernel
theorem dX4_isIn_10 : decode cX4_isIn 10 = .ok (.iconst 1, 1) := by decide +kernel
theorem dX4_isIn_11 : decode cX4_isIn 11 = .ok (.goto 4, 3) := by decide +kernel
theorem dX4_isIn_14 : decode cX4_isIn 14 = .ok (.iconst 0, 1) := by decide +kernel
theorem dX4_isIn_15 : decode cX4_isIn 15 = .ok (.ireturn, 1) := by decide +kernel
theorem dX5_init_0 : decode cX5_init 0 = .ok (.aload_n 0, 1) := by decide +kernel
theorem dX5_init_1 : decode cX5_init 1 = .ok (.invokespecial 1, 3) := by decide +kernel
theorem dX5_init_4 : decode cX5_init 4 = .ok (.aload_n 0, 1) := by decide +kernel
theorem dX5_init_5 : decode cX5_init 5 = .ok (.bipush 36, 2) := by decide +kernel
theorem dX5_init_7 : decode cX5_init 7 = .ok (.newarray .int, 2) := by decide +kernel
theorem dX5_init_9 : decode cX5_init 9 = .ok (.putfield 7, 3) := by decide +kernel
theorem dX5_init_12 : decode cX5_init 12 = .ok (.aload_n 0, 1) := by decide +kernel
theorem dX5_init_13 : decode cX5_init 13 = .ok (.iconst 5, 1) := by decide +kernel
theorem dX5_init_14 : decode cX5_init 14 = .ok (.newarray .int, 2) := by decide +kernel
theorem dX5_init_16 : decode cX5_init 16 = .ok (.putfield 13, 3) := by decide +kernel
theorem dX5_init_19 : decode cX5_init 19 = .ok (.aload_n 0, 1) := by decide +kernel
theorem dX5_init_20 : decode cX5_init 20 = .ok (.iconst 5, 1) := by decide +kernel
theorem dX5_init_21 : decode cX5_init 21 = .ok (.newarray .int, 2) := by decide +kernel
theorem dX5_init_23 : decode cX5_init 23 = .ok (.putfield 16, 3) := by decide +kernel
theorem dX5_init_26 : decode cX5_init 26 = .ok (.aload_n 0, 1) := by decide +kernel
theorem dX5_init_27 : decode cX5_init 27 = .ok (.iconst 5, 1) := by decide +kernel
theorem dX5_init_28 : decode cX5_init 28 = .ok (.newarray .int, 2) := by decide +kernel
theorem dX5_init_30 : decode cX5_init 30 = .ok (.putfield 19, 3) := by decide +kernel
theorem dX5_init_33 : decode cX5_init 33 = .ok (.aload_n 0, 1) := by decide +kernel
theorem dX5_init_34 : decode cX5_init 34 = .ok (.bipush 36, 2) := by decide +kernel
theorem dX5_init_36 : decode cX5_init 36 = .ok (.newarray .int, 2) := by decide +kernel
theorem dX5_init_38 : decode cX5_init 38 = .ok (.putfield 22, 3) := by decide +kernel
theorem dX5_init_41 : decode cX5_init 41 = .ok (.aload_n 0, 1) := by decide +kernel
theorem dX5_init_42 : decode cX5_init 42 = .ok (.iconst 4, 1) := by decide +kernel
theorem dX5_init_43 : decode cX5_init 43 = .ok (.newarray .int, 2) := by decide +kernel
theorem dX5_init_45 : decode cX5_init 45 = .ok (.putfield 25, 3) := by decide +kernel
theorem dX5_init_48 : decode cX5_init 48 = .ok (.aload_n 0, 1) := by decide +kernel
theorem dX5_init_49 : decode cX5_init 49 = .ok (.iconst 4, 1) := by decide +kernel
theorem dX5_init_50 : decode cX5_init 50 = .ok (.newarray .int, 2) := by decide +kernel
theorem dX5_init_52 : decode cX5_init 52 = .ok (.putfield 28, 3) := by decide +kernel
theorem dX5_init_55 : decode cX5_init 55 = .ok (.aload_n 0, 1) := by decide +kernel
theorem dX5_init_56 : decode cX5_init 56 = .ok (.iconst 4, 1) := by decide +kernel
theorem dX5_init_57 : decode cX5_init 57 = .ok (.newarray .int, 2) := by decide +kernel
theorem dX5_init_59 : decode cX5_init 59 = .ok (.putfield 31, 3) := by decide +kernel
theorem dX5_init_62 : decode cX5_init 62 = .ok (.aload_n 0, 1) := by decide +kernel
theorem dX5_init_63 : decode cX5_init 63 = .ok (.bipush 36, 2) := by decide +kernel
theorem dX5_init_65 : decode cX5_init 65 = .ok (.newarray .int, 2) := by decide +kernel
theorem dX5_init_67 : decode cX5_init 67 = .ok (.putfield 34, 3) := by decide +kernel
theorem dX5_init_70 : decode cX5_init 70 = .ok (.aload_n 0, 1) := by decide +kernel
theorem dX5_init_71 : decode cX5_init 71 = .ok (.bipush 36, 2) := by decide +kernel
theorem dX5_init_73 : decode cX5_init 73 = .ok (.newarray .int, 2) := by decide +kernel
theorem dX5_init_75 : decode cX5_init 75 = .ok (.putfield 37, 3) := by decide +kernel
theorem dX5_init_78 : decode cX5_init 78 = .ok (.aload_n 0, 1) := by decide +kernel
theorem dX5_init_79 : decode cX5_init 79 = .ok (.bipush 8, 2) := by decide +kernel
theorem dX5_init_81 : decode cX5_init 81 = .ok (.newarray .int, 2) := by decide +kernel
theorem dX5_init_83 : decode cX5_init 83 = .ok (.putfield 40, 3) := by decide +kernel
theorem dX5_init_86 : decode cX5_init 86 = .ok (.aload_n 0, 1) := by decide +kernel
theorem dX5_init_87 : decode cX5_init 87 = .ok (.bipush 8, 2) := by decide +kernel
theorem dX5_init_89 : decode cX5_init 89 = .ok (.newarray .boolean, 2) := by decide +kernel
theorem dX5_init_91 : decode cX5_init 91 = .ok (.putfield 43, 3) := by decide +kernel
theorem dX5_init_94 : decode cX5_init 94 = .ok (.aload_n 0, 1) := by decide +kernel
theorem dX5_init_95 : decode cX5_init 95 = .ok (.iconst 4, 1) := by decide +kernel
theorem dX5_init_96 : decode cX5_init 96 = .ok (.newarray .int, 2) := by decide +kernel
theorem dX5_init_98 : decode cX5_init 98 = .ok (.putfield 47, 3) := by decide +kernel
theorem dX5_init_101 : decode cX5_init 101 = .ok (.aload_n 0, 1) := by decide +kernel
theorem dX5_init_102 : decode cX5_init 102 = .ok (.iconst 4, 1) := by decide +kernel
theorem dX5_init_103 : decode cX5_init 103 = .ok (.newarray .int, 2) := by decide +kernel
theorem dX5_init_105 : decode cX5_init 105 = .ok (.putfield 50, 3) := by decide +kernel
theorem dX5_init_108 : decode cX5_init 108 = .ok (.aload_n 0, 1) := by decide +kernel
theorem dX5_init_109 : decode cX5_init 109 = .ok (.sipush 240, 3) := by decide +kernel
theorem dX5_init_112 : decode cX5_init 112 = .ok (.newarray .int, 2) := by decide +kernel
theorem dX5_init_114 : decode cX5_init 114 = .ok (.putfield 53, 3) := by decide +kernel
theorem dX5_init_117 : decode cX5_init 117 = .ok (.aload_n 0, 1) := by decide +kernel
theorem dX5_init_118 : decode cX5_init 118 = .ok (.bipush 60, 2) := by decide +kernel
theorem dX5_init_120 : decode cX5_init 120 = .ok (.newarray .int, 2) := by decide +kernel
theorem dX5_init_122 : decode cX5_init 122 = .ok (.putfield 56, 3) := by decide +kernel
theorem dX5_init_125 : decode cX5_init 125 = .ok (.iconst 0, 1) := by decide +kernel
theorem dX5_init_126 : decode cX5_init 126 = .ok (.istore_n 1, 1) := by decide +kernel
theorem dX5_init_127 : decode cX5_init 127 = .ok (.iload_n 1, 1) := by decide +kernel
theorem dX5_init_128 : decode cX5_init 128 = .ok (.iconst 4, 1) := by decide +kernel
theorem dX5_init_129 : decode cX5_init 129 = .ok (.if_icmp .ge 16, 3) := by decide +kernel
theorem dX5_init_132 : decode cX5_init 132 = .ok (.aload_n 0, 1) := by decide +kernel
theorem dX5_init_133 : decode cX5_init 133 = .ok (.getfield 47, 3) := by decide +kernel
theorem dX5_init_136 : decode cX5_init 136 = .ok (.iload_n 1, 1) := by decide +kernel
theorem dX5_init_137 : decode cX5_init 137 = .ok (.iconst (-1), 1) := by decide +kernel
theorem dX5_init_138 : decode cX5_init 138 = .ok (.iastore, 1) := by decide +kernel
theorem dX5_init_139 : decode cX5_init 139 = .ok (.iinc 1 1, 3) := by decide +kernel
theorem dX5_init_142 : decode cX5_init 142 = .ok (.goto (-15), 3) := by decide +kernel
theorem dX5_init_145 : decode cX5_init 145 = .ok (.return_, 1) := by decide +kernel
theorem dX5_in_0 : decode cX5_in 0 = .ok (.lload_n 0, 1) := by decide +kernel
theorem dX5_in_1 : decode cX5_in 1 = .ok (.lload_n 2, 1) := by decide +kernel
theorem dX5_in_2 : decode cX5_in 2 = .ok (.lcmp, 1) := by decide +kernel
theorem dX5_in_3 : decode cX5_in 3 = .ok (.ifCond .lt 14, 3) := by decide +kernel
theorem dX5_in_6 : decode cX5_in 6 = .ok (.lload_n 0, 1) := by decide +kernel
theorem dX5_in_7 : decode cX5_in 7 = .ok (.lload 4, 2) := by decide +kernel
theorem dX5_in_9 : decode cX5_in 9 = .ok (.lcmp, 1) := by decide +kernel
theorem dX5_in_10 : decode cX5_in 10 = .ok (.ifCond .gt 7, 3) := by decide +kernel
theorem dX5_in_13 : decode cX5_in 13 = .ok (.iconst 1, 1) := by decide +kernel
theorem dX5_in_14 : decode cX5_in 14 = .ok (.goto 4, 3) := by decide +kernel
theorem dX5_in_17 : decode cX5_in 17 = .ok (.iconst 0, 1) := by decide +kernel
theorem dX5_in_18 : decode cX5_in 18 = .ok (.ireturn, 1) := by decide +kernel
theorem dX5_lost_0 : decode cX5_lost 0 = .ok (.ldc2_w 59, 3) := by decide +kernel
theorem dX5_lost_3 : decode cX5_lost 3 = .ok (.lreturn, 1) := by decide +kernel
theorem dX5_isIn_0 : decode cX5_isIn 0 = .ok (.iload_n 0, 1) := by decide +kernel
theorem dX5_isIn_1 : decode cX5_isIn 1 = .ok (.iload_n 1, 1) := by decide +kernel
theorem dX5_isIn_2 : decode cX5_isIn 2 = .ok (.ishr, 1) := by decide +kernel
theorem dX5_isIn_3 : decode cX5_isIn 3 = .ok (.iconst 1, 1) := by decide +kernel
theorem dX5_isIn_4 : decode cX5_isIn 4 = .ok (.iand, 1) := by decide +kernel
theorem dX5_isIn_5 : decode cX5_isIn 5 = .ok (.iconst 1, 1) := by decide +kernel
theorem dX5_isIn_6 : decode cX5_isIn 6 = .ok (.if_icmp .ne 7, 3) := by decide +kernel
theorem dX5_isIn_9 : decode cX5_isIn 9 = .ok (.iconst 1, 1) := by decide +kernel
theorem dX5_isIn_10 : decode cX5_isIn 10 = .ok (.goto 4, 3) := by decide +kernel
theorem dX5_isIn_13 : decode cX5_isIn 13 = .ok (.iconst 0, 1) := by decide +kernel
theorem dX5_isIn_14 : decode cX5_isIn 14 = .ok (.ireturn, 1) := by decide +kernel
theorem dX5_isInLong_0 : decode cX5_isInLong 0 = .ok (.lload_n 0, 1) := by decide +kernel
theorem dX5_isInLong_1 : decode cX5_isInLong 1 = .ok (.iload_n 2, 1) := by decide +kernel
theorem dX5_isInLong_2 : decode cX5_isInLong 2 = .ok (.lshr, 1) := by decide +kernel
theorem dX5_isInLong_3 : decode cX5_isInLong 3 = .ok (.lconst 1, 1) := by decide +kernel
theorem dX5_isInLong_4 : decode cX5_isInLong 4 = .ok (.land, 1) := by decide +kernel
theorem dX5_isInLong_5 : decode cX5_isInLong 5 = .ok (.lconst 1, 1) := by decide +kernel
theorem dX5_isInLong_6 : decode cX5_isInLong 6 = .ok (.lcmp, 1) := by decide +kernel
theorem dX5_isInLong_7 : decode cX5_isInLong 7 = .ok (.ifCond .ne 7, 3) := by decide +kernel
theorem dX5_isInLong_10 : decode cX5_isInLong 10 = .ok (.iconst 1, 1) := by decide +kernel
theorem dX5_isInLong_11 : decode cX5_isInLong 11 = .ok (.goto 4, 3) := by decide +kernel
theorem dX5_isInLong_14 : decode cX5_isInLong 14 = .ok (.iconst 0, 1) := by decide +kernel
theorem dX5_isInLong_15 : decode cX5_isInLong 15 = .ok (.ireturn, 1) := by decide +kernel
theorem dX5_bits_0 : decode cX5_bits 0 = .ok (.iconst 0, 1) := by decide +kernel
theorem dX5_bits_1 : decode cX5_bits 1 = .ok (.istore_n 2, 1) := by decide +kernel
theorem dX5_bits_2 : decode cX5_bits 2 = .ok (.lload_n 0, 1) := by decide +kernel
theorem dX5_bits_3 : decode cX5_bits 3 = .ok (.lstore_n 3, 1) := by decide +kernel
theorem dX5_bits_4 : decode cX5_bits 4 = .ok (.lload_n 3, 1) := by decide +kernel
theorem dX5_bits_5 : decode cX5_bits 5 = .ok (.lconst 0, 1) := by decide +kernel
theorem dX5_bits_6 : decode cX5_bits 6 = .ok (.lcmp, 1) := by decide +kernel
theorem dX5_bits_7 : decode cX5_bits 7 = .ok (.ifCond .le 26, 3) := by decide +kernel
theorem dX5_bits_10 : decode cX5_bits 10 = .ok (.iload_n 2, 1) := by decide +kernel
theorem dX5_bits_11 : decode cX5_bits 11 = .ok (.lload_n 3, 1) := by decide +kernel
theorem dX5_bits_12 : decode cX5_bits 12 = .ok (.lconst 1, 1) := by decide +kernel
theorem dX5_bits_13 : decode cX5_bits 13 = .ok (.land, 1) := by decide +kernel
theorem dX5_bits_14 : decode cX5_bits 14 = .ok (.lconst 1, 1) := by decide +kernel
theorem dX5_bits_15 : decode cX5_bits 15 = .ok (.lcmp, 1) := by decide +kernel
theorem dX5_bits_16 : decode cX5_bits 16 = .ok (.ifCond .ne 7, 3) := by decide +kernel
theorem dX5_bits_19 : decode cX5_bits 19 = .ok (.iconst 1, 1) := by decide +kernel
theorem dX5_bits_20 : decode cX5_bits 20 = .ok (.goto 4, 3) := by decide +kernel
theorem dX5_bits_23 : decode cX5_bits 23 = .ok (.iconst 0, 1) := by decide +kernel
theorem dX5_bits_24 : decode cX5_bits 24 = .ok (.iadd, 1) := by decide +kernel
theorem dX5_bits_25 : decode cX5_bits 25 = .ok (.istore_n 2, 1) := by decide +kernel
theorem dX5_bits_26 : decode cX5_bits 26 = .ok (.lload_n 3, 1) := by decide +kernel
theorem dX5_bits_27 : decode cX5_bits 27 = .ok (.iconst 1, 1) := by decide +kernel
theorem dX5_bits_28 : decode cX5_bits 28 = .ok (.lshr, 1) := by decide +kernel
theorem dX5_bits_29 : decode cX5_bits 29 = .ok (.lstore_n 3, 1) := by decide +kernel
theorem dX5_bits_30 : decode cX5_bits 30 = .ok (.goto (-26), 3) := by decide +kernel
theorem dX5_bits_33 : decode cX5_bits 33 = .ok (.iload_n 2, 1) := by decide +kernel
theorem dX5_bits_34 : decode cX5_bits 34 = .ok (.ireturn, 1) := by decide +kernel
theorem dX5_offBy_0 : decode cX5_offBy 0 = .ok (.iload_n 0, 1) := by decide +kernel
theorem dX5_offBy_1 : decode cX5_offBy 1 = .ok (.iload_n 1, 1) := by decide +kernel
theorem dX5_offBy_2 : decode cX5_offBy 2 = .ok (.if_icmp .ge 9, 3) := by decide +kernel
theorem dX5_offBy_5 : decode cX5_offBy 5 = .ok (.iload_n 1, 1) := by decide +kernel
theorem dX5_offBy_6 : decode cX5_offBy 6 = .ok (.iload_n 0, 1) := by decide +kernel
theorem dX5_offBy_7 : decode cX5_offBy 7 = .ok (.isub, 1) := by decide +kernel
theorem dX5_offBy_8 : decode cX5_offBy 8 = .ok (.goto 6, 3) := by decide +kernel
theorem dX5_offBy_11 : decode cX5_offBy 11 = .ok (.iload_n 0, 1) := by decide +kernel
theorem dX5_offBy_12 : decode cX5_offBy 12 = .ok (.iload_n 1, 1) := by decide +kernel
theorem dX5_offBy_13 : decode cX5_offBy 13 = .ok (.isub, 1) := by decide +kernel
theorem dX5_offBy_14 : decode cX5_offBy 14 = .ok (.ireturn, 1) := by decide +kernel
theorem dX5_share_0 : decode cX5_share 0 = .ok (.lload_n 0, 1) := by decide +kernel
theorem dX5_share_1 : decode cX5_share 1 = .ok (.lstore 5, 2) := by decide +kernel
theorem dX5_share_3 : decode cX5_share 3 = .ok (.lload_n 2, 1) := by decide +kernel
theorem dX5_share_4 : decode cX5_share 4 = .ok (.lstore 7, 2) := by decide +kernel
theorem dX5_share_6 : decode cX5_share 6 = .ok (.lload 7, 2) := by decide +kernel
theorem dX5_share_8 : decode cX5_share 8 = .ok (.lconst 0, 1) := by decide +kernel
theorem dX5_share_9 : decode cX5_share 9 = .ok (.lcmp, 1) := by decide +kernel
theorem dX5_share_10 : decode cX5_share 10 = .ok (.ifCond .eq 21, 3) := by decide +kernel
theorem dX5_share_13 : decode cX5_share 13 = .ok (.lload 5, 2) := by decide +kernel
theorem dX5_share_15 : decode cX5_share 15 = .ok (.lload 7, 2) := by decide +kernel
theorem dX5_share_17 : decode cX5_share 17 = .ok (.lrem, 1) := by decide +kernel
theorem dX5_share_18 : decode cX5_share 18 = .ok (.lstore 9, 2) := by decide +kernel
theorem dX5_share_20 : decode cX5_share 20 = .ok (.lload 7, 2) := by decide +kernel
theorem dX5_share_22 : decode cX5_share 22 = .ok (.lstore 5, 2) := by decide +kernel
theorem dX5_share_24 : decode cX5_share 24 = .ok (.lload 9, 2) := by decide +kernel
theorem dX5_share_26 : decode cX5_share 26 = .ok (.lstore 7, 2) := by decide +kernel
theorem dX5_share_28 : decode cX5_share 28 = .ok (.goto (-22), 3) := by decide +kernel
theorem dX5_share_31 : decode cX5_share 31 = .ok (.iload 4, 2) := by decide +kernel
theorem dX5_share_33 : decode cX5_share 33 = .ok (.ifCond .ne 7, 3) := by decide +kernel
theorem dX5_share_36 : decode cX5_share 36 = .ok (.lload_n 0, 1) := by decide +kernel
theorem dX5_share_37 : decode cX5_share 37 = .ok (.goto 4, 3) := by decide +kernel
theorem dX5_share_40 : decode cX5_share 40 = .ok (.lload_n 2, 1) := by decide +kernel
theorem dX5_share_41 : decode cX5_share 41 = .ok (.lload 5, 2) := by decide +kernel
theorem dX5_share_43 : decode cX5_share 43 = .ok (.ldiv, 1) := by decide +kernel
theorem dX5_share_44 : decode cX5_share 44 = .ok (.lreturn, 1) := by decide +kernel
theorem dX5_refused_0 : decode cX5_refused 0 = .ok (.aload_n 0, 1) := by decide +kernel
theorem dX5_refused_1 : decode cX5_refused 1 = .ok (.iconst 0, 1) := by decide +kernel
theorem dX5_refused_2 : decode cX5_refused 2 = .ok (.putfield 61, 3) := by decide +kernel
theorem dX5_refused_5 : decode cX5_refused 5 = .ok (.iload_n 1, 1) := by decide +kernel
theorem dX5_refused_6 : decode cX5_refused 6 = .ok (.ireturn, 1) := by decide +kernel
theorem dX5_failed_0 : decode cX5_failed 0 = .ok (.aload_n 0, 1) := by decide +kernel
theorem dX5_failed_1 : decode cX5_failed 1 = .ok (.iload_n 1, 1) := by decide +kernel
theorem dX5_failed_2 : decode cX5_failed 2 = .ok (.putfield 61, 3) := by decide +kernel
theorem dX5_failed_5 : decode cX5_failed 5 = .ok (.bipush (-10), 2) := by decide +kernel
theorem dX5_failed_7 : decode cX5_failed 7 = .ok (.iload_n 1, 1) := by decide +kernel
theorem dX5_failed_8 : decode cX5_failed 8 = .ok (.isub, 1) := by decide +kernel
theorem dX5_failed_9 : decode cX5_failed 9 = .ok (.ireturn, 1) := by decide +kernel
set_option maxRecDepth 20000 in
theorem ggX5_failedLong_X5_lost : GoodIn wsX5_failedLong wsX5_lost := goodIn_r _ [5, 6] (by decide +kernel) (by decide +kernel)
set_option maxRecDepth 20000 in
theorem gX5_failedLong_X5_lost : GoodIn wsX5_failedLong (va_wsS RX5 65 yX5_lost wsX5_lost) := goodIn_app (goodIn_of _ (by decide +kernel)) ggX5_failedLong_X5_lost
theorem dX5_failedLong_0 : decode cX5_failedLong 0 = .ok (.aload_n 0, 1) := by decide +kernel
theorem dX5_failedLong_1 : decode cX5_failedLong 1 = .ok (.iload_n 1, 1) := by decide +kernel
theorem dX5_failedLong_2 : decode cX5_failedLong 2 = .ok (.putfield 61, 3) := by decide +kernel
theorem dX5_failedLong_5 : decode cX5_failedLong 5 = .ok (.invokestatic 65, 3) := by decide +kernel
theorem dX5_failedLong_8 : decode cX5_failedLong 8 = .ok (.lreturn, 1) := by decide +kernel
theorem dX5_squares_0 : decode cX5_squares 0 = .ok (.aload_n 0, 1) := by decide +kernel
theorem dX5_squares_1 : decode cX5_squares 1 = .ok (.getfield 69, 3) := by decide +kernel
theorem dX5_squares_4 : decode cX5_squares 4 = .ok (.aload_n 0, 1) := by decide +kernel
theorem dX5_squares_5 : decode cX5_squares 5 = .ok (.getfield 72, 3) := by decide +kernel
theorem dX5_squares_8 : decode cX5_squares 8 = .ok (.imul, 1) := by decide +kernel
theorem dX5_squares_9 : decode cX5_squares 9 = .ok (.ireturn, 1) := by decide +kernel
set_option maxRecDepth 20000 in
theorem ggX5_noSquare_X5_squares : GoodIn wsX5_noSquare wsX5_squares := goodIn_r _ [5, 6, 7, 11, 12, 13, 14, 15, 16, 17, 18, 19, 20, 21, 22, 23, 24, 25, 26, 27, 28, 29, 30, 31, 32, 33, 34, 35, 36, 37, 38, 39] (by decide +kernel) (by decide +kernel)
set_option maxRecDepth 20000 in
theorem gX5_noSquare_X5_squares : GoodIn wsX5_noSquare (wsV RX5 75 RX5 yX5_squares wsX5_squares) := goodIn_app (goodIn_of _ (by decide +kernel)) ggX5_noSquare_X5_squares
set_option maxRecDepth 20000 in
theorem ggX5_noSquare_X5_in : GoodIn wsX5_noSquare wsX5_in := goodIn_r _ [10] (by decide +kernel) (by decide +kernel)
set_option maxRecDepth 20000 in
theorem gX5_noSquare_X5_in : GoodIn wsX5_noSquare (va_wsS RX5 79 yX5_in wsX5_in) := goodIn_app (goodIn_of _ (by decide +kernel)) ggX5_noSquare_X5_in
theorem dX5_noSquare_0 : decode cX5_noSquare 0 = .ok (.iload_n 1, 1) := by decide +kernel
theorem dX5_noSquare_1 : decode cX5_noSquare 1 = .ok (.i2l, 1) := by decide +kernel
theorem dX5_noSquare_2 : decode cX5_noSquare 2 = .ok (.lconst 0, 1) := by decide +kernel
theorem dX5_noSquare_3 : decode cX5_noSquare 3 = .ok (.aload_n 0, 1) := by decide +kernel
theorem dX5_noSquare_4 : decode cX5_noSquare 4 = .ok (.invokevirtual 75, 3) := by decide +kernel
theorem dX5_noSquare_7 : decode cX5_noSquare 7 = .ok (.i2l, 1) := by decide +kernel
theorem dX5_noSquare_8 : decode cX5_noSquare 8 = .ok (.lconst 1, 1) := by decide +kernel
theorem dX5_noSquare_9 : decode cX5_noSquare 9 = .ok (.lsub, 1) := by decide +kernel
theorem dX5_noSquare_10 : decode cX5_noSquare 10 = .ok (.invokestatic 79, 3) := by decide +kernel
theorem dX5_noSquare_13 : decode cX5_noSquare 13 = .ok (.ifCond .ne 7, 3) := by decide +kernel
theorem dX5_noSquare_16 : decode cX5_noSquare 16 = .ok (.iconst 1, 1) := by decide +kernel
theorem dX5_noSquare_17 : decode cX5_noSquare 17 = .ok (.goto 4, 3) := by decide +kernel
theorem dX5_noSquare_20 : decode cX5_noSquare 20 = .ok (.iconst 0, 1) := by decide +kernel
theorem dX5_noSquare_21 : decode cX5_noSquare 21 = .ok (.ireturn, 1) := by decide +kernel
set_option maxRecDepth 20000 in
theorem ggX5_noGun_X5_in : GoodIn wsX5_noGun wsX5_in := goodIn_r _ [5] (by decide +kernel) (by decide +kernel)
set_option maxRecDepth 20000 in
theorem gX5_noGun_X5_in : GoodIn wsX5_noGun (va_wsS RX5 79 yX5_in wsX5_in) := goodIn_app (goodIn_of _ (by decide +kernel)) ggX5_noGun_X5_in
theorem dX5_noGun_0 : decode cX5_noGun 0 = .ok (.iload_n 1, 1) := by decide +kernel
theorem dX5_noGun_1 : decode cX5_noGun 1 = .ok (.i2l, 1) := by decide +kernel
theorem dX5_noGun_2 : decode cX5_noGun 2 = .ok (.lconst 0, 1) := by decide +kernel
theorem dX5_noGun_3 : decode cX5_noGun 3 = .ok (.aload_n 0, 1) := by decide +kernel
theorem dX5_noGun_4 : decode cX5_noGun 4 = .ok (.getfield 83, 3) := by decide +kernel
theorem dX5_noGun_7 : decode cX5_noGun 7 = .ok (.i2l, 1) := by decide +kernel
theorem dX5_noGun_8 : decode cX5_noGun 8 = .ok (.lconst 1, 1) := by decide +kernel
theorem dX5_noGun_9 : decode cX5_noGun 9 = .ok (.lsub, 1) := by decide +kernel
theorem dX5_noGun_10 : decode cX5_noGun 10 = .ok (.invokestatic 79, 3) := by decide +kernel
theorem dX5_noGun_13 : decode cX5_noGun 13 = .ok (.ifCond .ne 7, 3) := by decide +kernel
theorem dX5_noGun_16 : decode cX5_noGun 16 = .ok (.iconst 1, 1) := by decide +kernel
theorem dX5_noGun_17 : decode cX5_noGun 17 = .ok (.goto 4, 3) := by decide +kernel
theorem dX5_noGun_20 : decode cX5_noGun 20 = .ok (.iconst 0, 1) := by decide +kernel
theorem dX5_noGun_21 : decode cX5_noGun 21 = .ok (.ireturn, 1) := by decide +kernel
theorem dX5_codeAt_0 : decode cX5_codeAt 0 = .ok (.aload_n 0, 1) := by decide +kernel
theorem dX5_codeAt_1 : decode cX5_codeAt 1 = .ok (.getfield 86, 3) := by decide +kernel
theorem dX5_codeAt_4 : decode cX5_codeAt 4 = .ok (.iload_n 2, 1) := by decide +kernel
theorem dX5_codeAt_5 : decode cX5_codeAt 5 = .ok (.if_icmp .ge 17, 3) := by decide +kernel
theorem dX5_codeAt_8 : decode cX5_codeAt 8 = .ok (.aload_n 0, 1) := by decide +kernel
theorem dX5_codeAt_9 : decode cX5_codeAt 9 = .ok (.getfield 53, 3) := by decide +kernel
theorem dX5_codeAt_12 : decode cX5_codeAt 12 = .ok (.iload_n 1, 1) := by decide +kernel
theorem dX5_codeAt_13 : decode cX5_codeAt 13 = .ok (.aload_n 0, 1) := by decide +kernel
theorem dX5_codeAt_14 : decode cX5_codeAt 14 = .ok (.getfield 86, 3) := by decide +kernel
theorem dX5_codeAt_17 : decode cX5_codeAt 17 = .ok (.iadd, 1) := by decide +kernel
theorem dX5_codeAt_18 : decode cX5_codeAt 18 = .ok (.iaload, 1) := by decide +kernel
theorem dX5_codeAt_19 : decode cX5_codeAt 19 = .ok (.goto 5, 3) := by decide +kernel
theorem dX5_codeAt_22 : decode cX5_codeAt 22 = .ok (.bipush (-9), 2) := by decide +kernel
theorem dX5_codeAt_24 : decode cX5_codeAt 24 = .ok (.ireturn, 1) := by decide +kernel
set_option maxRecDepth 20000 in
theorem ggX5_figure_X5_codeAt : GoodIn wsX5_figure wsX5_codeAt := goodIn_r _ [6, 1, 7, 11, 12, 13, 14, 15, 16, 17, 18, 19, 20, 21, 22, 23, 24, 25, 26, 27, 28, 29, 30, 31, 32, 33, 34, 35, 36, 37, 38, 39] (by decide +kernel) (by decide +kernel)
set_option maxRecDepth 20000 in
theorem gX5_figure_X5_codeAt : GoodIn wsX5_figure (wsV RX5 89 RX5 yX5_codeAt wsX5_codeAt) := goodIn_app (goodIn_of _ (by decide +kernel)) ggX5_figure_X5_codeAt
set_option maxRecDepth 20000 in
theorem ggX5_figure_X5_in : GoodIn wsX5_figure wsX5_in := goodIn_r _ [10] (by decide +kernel) (by decide +kernel)
set_option maxRecDepth 20000 in
theorem gX5_figure_X5_in : GoodIn wsX5_figure (va_wsS RX5 79 yX5_in wsX5_in) := goodIn_app (goodIn_of _ (by decide +kernel)) ggX5_figure_X5_in
theorem dX5_figure_0 : decode cX5_figure 0 = .ok (.aload_n 0, 1) := by decide +kernel
theorem dX5_figure_1 : decode cX5_figure 1 = .ok (.iload_n 1, 1) := by decide +kernel
theorem dX5_figure_2 : decode cX5_figure 2 = .ok (.iload_n 2, 1) := by decide +kernel
theorem dX5_figure_3 : decode cX5_figure 3 = .ok (.invokevirtual 89, 3) := by decide +kernel
theorem dX5_figure_6 : decode cX5_figure 6 = .ok (.bipush 48, 2) := by decide +kernel
theorem dX5_figure_8 : decode cX5_figure 8 = .ok (.isub, 1) := by decide +kernel
theorem dX5_figure_9 : decode cX5_figure 9 = .ok (.istore 5, 2) := by decide +kernel
theorem dX5_figure_11 : decode cX5_figure 11 = .ok (.iload 5, 2) := by decide +kernel
theorem dX5_figure_13 : decode cX5_figure 13 = .ok (.i2l, 1) := by decide +kernel
theorem dX5_figure_14 : decode cX5_figure 14 = .ok (.iload_n 3, 1) := by decide +kernel
theorem dX5_figure_15 : decode cX5_figure 15 = .ok (.i2l, 1) := by decide +kernel
theorem dX5_figure_16 : decode cX5_figure 16 = .ok (.iload 4, 2) := by decide +kernel
theorem dX5_figure_18 : decode cX5_figure 18 = .ok (.i2l, 1) := by decide +kernel
theorem dX5_figure_19 : decode cX5_figure 19 = .ok (.invokestatic 79, 3) := by decide +kernel
theorem dX5_figure_22 : decode cX5_figure 22 = .ok (.istore 6, 2) := by decide +kernel
theorem dX5_figure_24 : decode cX5_figure 24 = .ok (.aload_n 0, 1) := by decide +kernel
theorem dX5_figure_25 : decode cX5_figure 25 = .ok (.dup, 1) := by decide +kernel
theorem dX5_figure_26 : decode cX5_figure 26 = .ok (.getfield 86, 3) := by decide +kernel
theorem dX5_figure_29 : decode cX5_figure 29 = .ok (.iload 6, 2) := by decide +kernel
theorem dX5_figure_31 : decode cX5_figure 31 = .ok (.ifCond .eq 7, 3) := by decide +kernel
theorem dX5_figure_34 : decode cX5_figure 34 = .ok (.iconst 1, 1) := by decide +kernel
theorem dX5_figure_35 : decode cX5_figure 35 = .ok (.goto 4, 3) := by decide +kernel
theorem dX5_figure_38 : decode cX5_figure 38 = .ok (.iconst 0, 1) := by decide +kernel
theorem dX5_figure_39 : decode cX5_figure 39 = .ok (.iadd, 1) := by decide +kernel
theorem dX5_figure_40 : decode cX5_figure 40 = .ok (.putfield 86, 3) := by decide +kernel
theorem dX5_figure_43 : decode cX5_figure 43 = .ok (.iload 6, 2) := by decide +kernel
theorem dX5_figure_45 : decode cX5_figure 45 = .ok (.ifCond .eq 8, 3) := by decide +kernel
theorem dX5_figure_48 : decode cX5_figure 48 = .ok (.iload 5, 2) := by decide +kernel
theorem dX5_figure_50 : decode cX5_figure 50 = .ok (.goto 5, 3) := by decide +kernel
theorem dX5_figure_53 : decode cX5_figure 53 = .ok (.bipush (-9), 2) := by decide +kernel
theorem dX5_figure_55 : decode cX5_figure 55 = .ok (.ireturn, 1) := by decide +kernel
set_option maxRecDepth 20000 in
theorem ggX5_readsSquares_X5_figure : GoodIn wsX5_readsSquares wsX5_figure := goodIn_r _ [8, 9, 10, 11, 12, 7, 13, 14, 15, 16, 17, 18, 19, 20, 21, 22, 23, 24, 25, 26, 27, 28, 29, 30, 31, 32, 33, 34, 35, 36, 37, 38, 39, 40, 41, 42, 43, 44, 45, 46] (by decide +kernel) (by decide +kernel)
set_option maxRecDepth 20000 in
theorem gX5_readsSquares_X5_figure : GoodIn wsX5_readsSquares (wsV RX5 93 RX5 yX5_figure wsX5_figure) := goodIn_app (goodIn_of _ (by decide +kernel)) ggX5_readsSquares_X5_figure
theorem dX5_readsSquares_0 : decode cX5_readsSquares 0 = .ok (.aload_n 0, 1) := by decide +kernel
theorem dX5_readsSquares_1 : decode cX5_readsSquares 1 = .ok (.aload_n 0, 1) := by decide +kernel
theorem dX5_readsSquares_2 : decode cX5_readsSquares 2 = .ok (.iload_n 1, 1) := by decide +kernel
theorem dX5_readsSquares_3 : decode cX5_readsSquares 3 = .ok (.iload_n 2, 1) := by decide +kernel
theorem dX5_readsSquares_4 : decode cX5_readsSquares 4 = .ok (.iconst 2, 1) := by decide +kernel
theorem dX5_readsSquares_5 : decode cX5_readsSquares 5 = .ok (.bipush 6, 2) := by decide +kernel
theorem dX5_readsSquares_7 : decode cX5_readsSquares 7 = .ok (.invokevirtual 93, 3) := by decide +kernel
theorem dX5_readsSquares_10 : decode cX5_readsSquares 10 = .ok (.putfield 97, 3) := by decide +kernel
theorem dX5_readsSquares_13 : decode cX5_readsSquares 13 = .ok (.aload_n 0, 1) := by decide +kernel
theorem dX5_readsSquares_14 : decode cX5_readsSquares 14 = .ok (.aload_n 0, 1) := by decide +kernel
theorem dX5_readsSquares_15 : decode cX5_readsSquares 15 = .ok (.getfield 97, 3) := by decide +kernel
theorem dX5_readsSquares_18 : decode cX5_readsSquares 18 = .ok (.ifCond .ge 8, 3) := by decide +kernel
theorem dX5_readsSquares_21 : decode cX5_readsSquares 21 = .ok (.bipush (-9), 2) := by decide +kernel
theorem dX5_readsSquares_23 : decode cX5_readsSquares 23 = .ok (.goto 12, 3) := by decide +kernel
theorem dX5_readsSquares_26 : decode cX5_readsSquares 26 = .ok (.aload_n 0, 1) := by decide +kernel
theorem dX5_readsSquares_27 : decode cX5_readsSquares 27 = .ok (.iload_n 1, 1) := by decide +kernel
theorem dX5_readsSquares_28 : decode cX5_readsSquares 28 = .ok (.iload_n 2, 1) := by decide +kernel
theorem dX5_readsSquares_29 : decode cX5_readsSquares 29 = .ok (.iconst 2, 1) := by decide +kernel
theorem dX5_readsSquares_30 : decode cX5_readsSquares 30 = .ok (.bipush 6, 2) := by decide +kernel
theorem dX5_readsSquares_32 : decode cX5_readsSquares 32 = .ok (.invokevirtual 93, 3) := by decide +kernel
theorem dX5_readsSquares_35 : decode cX5_readsSquares 35 = .ok (.putfield 100, 3) := by decide +kernel
theorem dX5_readsSquares_38 : decode cX5_readsSquares 38 = .ok (.aload_n 0, 1) := by decide +kernel
theorem dX5_readsSquares_39 : decode cX5_readsSquares 39 = .ok (.getfield 100, 3) := by decide +kernel
theorem dX5_readsSquares_42 : decode cX5_readsSquares 42 = .ok (.ifCond .le 7, 3) := by decide +kernel
theorem dX5_readsSquares_45 : decode cX5_readsSquares 45 = .ok (.iconst 1, 1) := by decide +kernel
theorem dX5_readsSquares_46 : decode cX5_readsSquares 46 = .ok (.goto 4, 3) := by decide +kernel
theorem dX5_readsSquares_49 : decode cX5_readsSquares 49 = .ok (.iconst 0, 1) := by decide +kernel
theorem dX5_readsSquares_50 : decode cX5_readsSquares 50 = .ok (.istore_n 3, 1) := by decide +kernel
theorem dX5_readsSquares_51 : decode cX5_readsSquares 51 = .ok (.iconst 0, 1) := by decide +kernel
theorem dX5_readsSquares_52 : decode cX5_readsSquares 52 = .ok (.istore 4, 2) := by decide +kernel
theorem dX5_readsSquares_54 : decode cX5_readsSquares 54 = .ok (.iload_n 3, 1) := by decide +kernel
theorem dX5_readsSquares_55 : decode cX5_readsSquares 55 = .ok (.ifCond .eq 55, 3) := by decide +kernel
theorem dX5_readsSquares_58 : decode cX5_readsSquares 58 = .ok (.iload 4, 2) := by decide +kernel
theorem dX5_readsSquares_60 : decode cX5_readsSquares 60 = .ok (.aload_n 0, 1) := by decide +kernel
theorem dX5_readsSquares_61 : decode cX5_readsSquares 61 = .ok (.getfield 97, 3) := by decide +kernel
theorem dX5_readsSquares_64 : decode cX5_readsSquares 64 = .ok (.aload_n 0, 1) := by decide +kernel
theorem dX5_readsSquares_65 : decode cX5_readsSquares 65 = .ok (.getfield 100, 3) := by decide +kernel
theorem dX5_readsSquares_68 : decode cX5_readsSquares 68 = .ok (.imul, 1) := by decide +kernel
theorem dX5_readsSquares_69 : decode cX5_readsSquares 69 = .ok (.if_icmp .ge 41, 3) := by decide +kernel
theorem dX5_readsSquares_72 : decode cX5_readsSquares 72 = .ok (.aload_n 0, 1) := by decide +kernel
theorem dX5_readsSquares_73 : decode cX5_readsSquares 73 = .ok (.getfield 22, 3) := by decide +kernel
theorem dX5_readsSquares_76 : decode cX5_readsSquares 76 = .ok (.iload 4, 2) := by decide +kernel
theorem dX5_readsSquares_78 : decode cX5_readsSquares 78 = .ok (.aload_n 0, 1) := by decide +kernel
theorem dX5_readsSquares_79 : decode cX5_readsSquares 79 = .ok (.iload_n 1, 1) := by decide +kernel
theorem dX5_readsSquares_80 : decode cX5_readsSquares 80 = .ok (.iload_n 2, 1) := by decide +kernel
theorem dX5_readsSquares_81 : decode cX5_readsSquares 81 = .ok (.iconst 0, 1) := by decide +kernel
theorem dX5_readsSquares_82 : decode cX5_readsSquares 82 = .ok (.bipush 9, 2) := by decide +kernel
theorem dX5_readsSquares_84 : decode cX5_readsSquares 84 = .ok (.invokevirtual 93, 3) := by decide +kernel
theorem dX5_readsSquares_87 : decode cX5_readsSquares 87 = .ok (.iastore, 1) := by decide +kernel
theorem dX5_readsSquares_88 : decode cX5_readsSquares 88 = .ok (.aload_n 0, 1) := by decide +kernel
theorem dX5_readsSquares_89 : decode cX5_readsSquares 89 = .ok (.getfield 22, 3) := by decide +kernel
theorem dX5_readsSquares_92 : decode cX5_readsSquares 92 = .ok (.iload 4, 2) := by decide +kernel
theorem dX5_readsSquares_94 : decode cX5_readsSquares 94 = .ok (.iaload, 1) := by decide +kernel
theorem dX5_readsSquares_95 : decode cX5_readsSquares 95 = .ok (.ifCond .lt 7, 3) := by decide +kernel
theorem dX5_readsSquares_98 : decode cX5_readsSquares 98 = .ok (.iconst 1, 1) := by decide +kernel
theorem dX5_readsSquares_99 : decode cX5_readsSquares 99 = .ok (.goto 4, 3) := by decide +kernel
theorem dX5_readsSquares_102 : decode cX5_readsSquares 102 = .ok (.iconst 0, 1) := by decide +kernel
theorem dX5_readsSquares_103 : decode cX5_readsSquares 103 = .ok (.istore_n 3, 1) := by decide +kernel
theorem dX5_readsSquares_104 : decode cX5_readsSquares 104 = .ok (.iinc 4 1, 3) := by decide +kernel
theorem dX5_readsSquares_107 : decode cX5_readsSquares 107 = .ok (.goto (-53), 3) := by decide +kernel
theorem dX5_readsSquares_110 : decode cX5_readsSquares 110 = .ok (.iload_n 3, 1) := by decide +kernel
theorem dX5_readsSquares_111 : decode cX5_readsSquares 111 = .ok (.ireturn, 1) := by decide +kernel
set_option maxRecDepth 20000 in
theorem ggX5_readsGun_X5_codeAt : GoodIn wsX5_readsGun wsX5_codeAt := goodIn_r _ [12, 2, 13, 21, 22, 23, 24, 25, 26, 27, 28, 29, 30, 31, 32, 33, 34, 35, 36, 37, 38, 39, 40, 41, 42, 43, 44, 45, 46, 47, 48, 49] (by decide +kernel) (by decide +kernel)
set_option maxRecDepth 20000 in
theorem gX5_readsGun_X5_codeAt : GoodIn wsX5_readsGun (wsV RX5 89 RX5 yX5_codeAt wsX5_codeAt) := goodIn_app (goodIn_of _ (by decide +kernel)) ggX5_readsGun_X5_codeAt
set_option maxRecDepth 20000 in
theorem ggX5_readsGun_X5_figure : GoodIn wsX5_readsGun wsX5_figure := goodIn_r _ [17, 2, 8, 9, 10, 11, 12, 13, 18, 19, 20, 21, 22, 23, 24, 25, 26, 27, 28, 29, 30, 31, 32, 33, 34, 35, 36, 37, 38, 39, 40, 41, 42, 43, 44, 45, 46, 47, 48, 49] (by decide +kernel) (by decide +kernel)
set_option maxRecDepth 20000 in
theorem gX5_readsGun_X5_figure : GoodIn wsX5_readsGun (wsV RX5 93 RX5 yX5_figure wsX5_figure) := goodIn_app (goodIn_of _ (by decide +kernel)) ggX5_readsGun_X5_figure
theorem dX5_readsGun_0 : decode cX5_readsGun 0 = .ok (.aload_n 0, 1) := by decide +kernel
theorem dX5_readsGun_1 : decode cX5_readsGun 1 = .ok (.getfield 103, 3) := by decide +kernel
theorem dX5_readsGun_4 : decode cX5_readsGun 4 = .ok (.iconst 4, 1) := by decide +kernel
theorem dX5_readsGun_5 : decode cX5_readsGun 5 = .ok (.if_icmp .eq 14, 3) := by decide +kernel
theorem dX5_readsGun_8 : decode cX5_readsGun 8 = .ok (.aload_n 0, 1) := by decide +kernel
theorem dX5_readsGun_9 : decode cX5_readsGun 9 = .ok (.iload_n 1, 1) := by decide +kernel
theorem dX5_readsGun_10 : decode cX5_readsGun 10 = .ok (.iload_n 2, 1) := by decide +kernel
theorem dX5_readsGun_11 : decode cX5_readsGun 11 = .ok (.invokevirtual 89, 3) := by decide +kernel
theorem dX5_readsGun_14 : decode cX5_readsGun 14 = .ok (.bipush 59, 2) := by decide +kernel
theorem dX5_readsGun_16 : decode cX5_readsGun 16 = .ok (.if_icmp .eq 5, 3) := by decide +kernel
theorem dX5_readsGun_19 : decode cX5_readsGun 19 = .ok (.iconst 0, 1) := by decide +kernel
theorem dX5_readsGun_20 : decode cX5_readsGun 20 = .ok (.ireturn, 1) := by decide +kernel
theorem dX5_readsGun_21 : decode cX5_readsGun 21 = .ok (.aload_n 0, 1) := by decide +kernel
theorem dX5_readsGun_22 : decode cX5_readsGun 22 = .ok (.dup, 1) := by decide +kernel
theorem dX5_readsGun_23 : decode cX5_readsGun 23 = .ok (.getfield 86, 3) := by decide +kernel
theorem dX5_readsGun_26 : decode cX5_readsGun 26 = .ok (.iconst 1, 1) := by decide +kernel
theorem dX5_readsGun_27 : decode cX5_readsGun 27 = .ok (.iadd, 1) := by decide +kernel
theorem dX5_readsGun_28 : decode cX5_readsGun 28 = .ok (.putfield 86, 3) := by decide +kernel
theorem dX5_readsGun_31 : decode cX5_readsGun 31 = .ok (.aload_n 0, 1) := by decide +kernel
theorem dX5_readsGun_32 : decode cX5_readsGun 32 = .ok (.iload_n 1, 1) := by decide +kernel
theorem dX5_readsGun_33 : decode cX5_readsGun 33 = .ok (.iload_n 2, 1) := by decide +kernel
theorem dX5_readsGun_34 : decode cX5_readsGun 34 = .ok (.invokevirtual 89, 3) := by decide +kernel
theorem dX5_readsGun_37 : decode cX5_readsGun 37 = .ok (.istore_n 3, 1) := by decide +kernel
theorem dX5_readsGun_38 : decode cX5_readsGun 38 = .ok (.iload_n 3, 1) := by decide +kernel
theorem dX5_readsGun_39 : decode cX5_readsGun 39 = .ok (.bipush 103, 2) := by decide +kernel
theorem dX5_readsGun_41 : decode cX5_readsGun 41 = .ok (.if_icmp .eq 17, 3) := by decide +kernel
theorem dX5_readsGun_44 : decode cX5_readsGun 44 = .ok (.iload_n 3, 1) := by decide +kernel
theorem dX5_readsGun_45 : decode cX5_readsGun 45 = .ok (.bipush 104, 2) := by decide +kernel
theorem dX5_readsGun_47 : decode cX5_readsGun 47 = .ok (.if_icmp .eq 11, 3) := by decide +kernel
theorem dX5_readsGun_50 : decode cX5_readsGun 50 = .ok (.iload_n 3, 1) := by decide +kernel
theorem dX5_readsGun_51 : decode cX5_readsGun 51 = .ok (.bipush 109, 2) := by decide +kernel
theorem dX5_readsGun_53 : decode cX5_readsGun 53 = .ok (.if_icmp .eq 5, 3) := by decide +kernel
theorem dX5_readsGun_56 : decode cX5_readsGun 56 = .ok (.iconst 0, 1) := by decide +kernel
theorem dX5_readsGun_57 : decode cX5_readsGun 57 = .ok (.ireturn, 1) := by decide +kernel
theorem dX5_readsGun_58 : decode cX5_readsGun 58 = .ok (.aload_n 0, 1) := by decide +kernel
theorem dX5_readsGun_59 : decode cX5_readsGun 59 = .ok (.dup, 1) := by decide +kernel
theorem dX5_readsGun_60 : decode cX5_readsGun 60 = .ok (.getfield 86, 3) := by decide +kernel
theorem dX5_readsGun_63 : decode cX5_readsGun 63 = .ok (.iconst 1, 1) := by decide +kernel
theorem dX5_readsGun_64 : decode cX5_readsGun 64 = .ok (.iadd, 1) := by decide +kernel
theorem dX5_readsGun_65 : decode cX5_readsGun 65 = .ok (.putfield 86, 3) := by decide +kernel
theorem dX5_readsGun_68 : decode cX5_readsGun 68 = .ok (.aload_n 0, 1) := by decide +kernel
theorem dX5_readsGun_69 : decode cX5_readsGun 69 = .ok (.iload_n 1, 1) := by decide +kernel
theorem dX5_readsGun_70 : decode cX5_readsGun 70 = .ok (.iload_n 2, 1) := by decide +kernel
theorem dX5_readsGun_71 : decode cX5_readsGun 71 = .ok (.iconst 0, 1) := by decide +kernel
theorem dX5_readsGun_72 : decode cX5_readsGun 72 = .ok (.aload_n 0, 1) := by decide +kernel
theorem dX5_readsGun_73 : decode cX5_readsGun 73 = .ok (.getfield 97, 3) := by decide +kernel
theorem dX5_readsGun_76 : decode cX5_readsGun 76 = .ok (.iconst 1, 1) := by decide +kernel
theorem dX5_readsGun_77 : decode cX5_readsGun 77 = .ok (.isub, 1) := by decide +kernel
theorem dX5_readsGun_78 : decode cX5_readsGun 78 = .ok (.invokevirtual 93, 3) := by decide +kernel
theorem dX5_readsGun_81 : decode cX5_readsGun 81 = .ok (.istore 4, 2) := by decide +kernel
theorem dX5_readsGun_83 : decode cX5_readsGun 83 = .ok (.iload 4, 2) := by decide +kernel
theorem dX5_readsGun_85 : decode cX5_readsGun 85 = .ok (.ifCond .ge 8, 3) := by decide +kernel
theorem dX5_readsGun_88 : decode cX5_readsGun 88 = .ok (.bipush (-9), 2) := by decide +kernel
theorem dX5_readsGun_90 : decode cX5_readsGun 90 = .ok (.goto 16, 3) := by decide +kernel
theorem dX5_readsGun_93 : decode cX5_readsGun 93 = .ok (.aload_n 0, 1) := by decide +kernel
theorem dX5_readsGun_94 : decode cX5_readsGun 94 = .ok (.iload_n 1, 1) := by decide +kernel
theorem dX5_readsGun_95 : decode cX5_readsGun 95 = .ok (.iload_n 2, 1) := by decide +kernel
theorem dX5_readsGun_96 : decode cX5_readsGun 96 = .ok (.iconst 0, 1) := by decide +kernel
theorem dX5_readsGun_97 : decode cX5_readsGun 97 = .ok (.aload_n 0, 1) := by decide +kernel
theorem dX5_readsGun_98 : decode cX5_readsGun 98 = .ok (.getfield 100, 3) := by decide +kernel
theorem dX5_readsGun_101 : decode cX5_readsGun 101 = .ok (.iconst 1, 1) := by decide +kernel
theorem dX5_readsGun_102 : decode cX5_readsGun 102 = .ok (.isub, 1) := by decide +kernel
theorem dX5_readsGun_103 : decode cX5_readsGun 103 = .ok (.invokevirtual 93, 3) := by decide +kernel
theorem dX5_readsGun_106 : decode cX5_readsGun 106 = .ok (.istore 5, 2) := by decide +kernel
theorem dX5_readsGun_108 : decode cX5_readsGun 108 = .ok (.iload 5, 2) := by decide +kernel
theorem dX5_readsGun_110 : decode cX5_readsGun 110 = .ok (.ifCond .ge 8, 3) := by decide +kernel
theorem dX5_readsGun_113 : decode cX5_readsGun 113 = .ok (.bipush (-9), 2) := by decide +kernel
theorem dX5_readsGun_115 : decode cX5_readsGun 115 = .ok (.goto 12, 3) := by decide +kernel
theorem dX5_readsGun_118 : decode cX5_readsGun 118 = .ok (.aload_n 0, 1) := by decide +kernel
theorem dX5_readsGun_119 : decode cX5_readsGun 119 = .ok (.iload_n 1, 1) := by decide +kernel
theorem dX5_readsGun_120 : decode cX5_readsGun 120 = .ok (.iload_n 2, 1) := by decide +kernel
theorem dX5_readsGun_121 : decode cX5_readsGun 121 = .ok (.iconst 0, 1) := by decide +kernel
theorem dX5_readsGun_122 : decode cX5_readsGun 122 = .ok (.bipush 9, 2) := by decide +kernel
theorem dX5_readsGun_124 : decode cX5_readsGun 124 = .ok (.invokevirtual 93, 3) := by decide +kernel
theorem dX5_readsGun_127 : decode cX5_readsGun 127 = .ok (.istore 6, 2) := by decide +kernel
theorem dX5_readsGun_129 : decode cX5_readsGun 129 = .ok (.iload 6, 2) := by decide +kernel
theorem dX5_readsGun_131 : decode cX5_readsGun 131 = .ok (.ifCond .ge 5, 3) := by decide +kernel
theorem dX5_readsGun_134 : decode cX5_readsGun 134 = .ok (.iconst 0, 1) := by decide +kernel
theorem dX5_readsGun_135 : decode cX5_readsGun 135 = .ok (.ireturn, 1) := by decide +kernel
theorem dX5_readsGun_136 : decode cX5_readsGun 136 = .ok (.aload_n 0, 1) := by decide +kernel
theorem dX5_readsGun_137 : decode cX5_readsGun 137 = .ok (.getfield 25, 3) := by decide +kernel
theorem dX5_readsGun_140 : decode cX5_readsGun 140 = .ok (.aload_n 0, 1) := by decide +kernel
theorem dX5_readsGun_141 : decode cX5_readsGun 141 = .ok (.getfield 103, 3) := by decide +kernel
theorem dX5_readsGun_144 : decode cX5_readsGun 144 = .ok (.iload_n 3, 1) := by decide +kernel
theorem dX5_readsGun_145 : decode cX5_readsGun 145 = .ok (.bipush 103, 2) := by decide +kernel
theorem dX5_readsGun_147 : decode cX5_readsGun 147 = .ok (.if_icmp .ne 7, 3) := by decide +kernel
theorem dX5_readsGun_150 : decode cX5_readsGun 150 = .ok (.iconst 0, 1) := by decide +kernel
theorem dX5_readsGun_151 : decode cX5_readsGun 151 = .ok (.goto 14, 3) := by decide +kernel
theorem dX5_readsGun_154 : decode cX5_readsGun 154 = .ok (.iload_n 3, 1) := by decide +kernel
theorem dX5_readsGun_155 : decode cX5_readsGun 155 = .ok (.bipush 104, 2) := by decide +kernel
theorem dX5_readsGun_157 : decode cX5_readsGun 157 = .ok (.if_icmp .ne 7, 3) := by decide +kernel
theorem dX5_readsGun_160 : decode cX5_readsGun 160 = .ok (.iconst 1, 1) := by decide +kernel
theorem dX5_readsGun_161 : decode cX5_readsGun 161 = .ok (.goto 4, 3) := by decide +kernel
theorem dX5_readsGun_164 : decode cX5_readsGun 164 = .ok (.iconst 2, 1) := by decide +kernel
theorem dX5_readsGun_165 : decode cX5_readsGun 165 = .ok (.iastore, 1) := by decide +kernel
theorem dX5_readsGun_166 : decode cX5_readsGun 166 = .ok (.aload_n 0, 1) := by decide +kernel
theorem dX5_readsGun_167 : decode cX5_readsGun 167 = .ok (.getfield 28, 3) := by decide +kernel
theorem dX5_readsGun_170 : decode cX5_readsGun 170 = .ok (.aload_n 0, 1) := by decide +kernel
theorem dX5_readsGun_171 : decode cX5_readsGun 171 = .ok (.getfield 103, 3) := by decide +kernel
theorem dX5_readsGun_174 : decode cX5_readsGun 174 = .ok (.aload_n 0, 1) := by decide +kernel
theorem dX5_readsGun_175 : decode cX5_readsGun 175 = .ok (.getfield 97, 3) := by decide +kernel
theorem dX5_readsGun_178 : decode cX5_readsGun 178 = .ok (.iload 5, 2) := by decide +kernel
theorem dX5_readsGun_180 : decode cX5_readsGun 180 = .ok (.imul, 1) := by decide +kernel
theorem dX5_readsGun_181 : decode cX5_readsGun 181 = .ok (.iload 4, 2) := by decide +kernel
theorem dX5_readsGun_183 : decode cX5_readsGun 183 = .ok (.iadd, 1) := by decide +kernel
theorem dX5_readsGun_184 : decode cX5_readsGun 184 = .ok (.iastore, 1) := by decide +kernel
theorem dX5_readsGun_185 : decode cX5_readsGun 185 = .ok (.aload_n 0, 1) := by decide +kernel
theorem dX5_readsGun_186 : decode cX5_readsGun 186 = .ok (.getfield 31, 3) := by decide +kernel
theorem dX5_readsGun_189 : decode cX5_readsGun 189 = .ok (.aload_n 0, 1) := by decide +kernel
theorem dX5_readsGun_190 : decode cX5_readsGun 190 = .ok (.getfield 103, 3) := by decide +kernel
theorem dX5_readsGun_193 : decode cX5_readsGun 193 = .ok (.iload 6, 2) := by decide +kernel
theorem dX5_readsGun_195 : decode cX5_readsGun 195 = .ok (.iastore, 1) := by decide +kernel
theorem dX5_readsGun_196 : decode cX5_readsGun 196 = .ok (.aload_n 0, 1) := by decide +kernel
theorem dX5_readsGun_197 : decode cX5_readsGun 197 = .ok (.dup, 1) := by decide +kernel
theorem dX5_readsGun_198 : decode cX5_readsGun 198 = .ok (.getfield 103, 3) := by decide +kernel
theorem dX5_readsGun_201 : decode cX5_readsGun 201 = .ok (.iconst 1, 1) := by decide +kernel
theorem dX5_readsGun_202 : decode cX5_readsGun 202 = .ok (.iadd, 1) := by decide +kernel
theorem dX5_readsGun_203 : decode cX5_readsGun 203 = .ok (.putfield 103, 3) := by decide +kernel
theorem dX5_readsGun_206 : decode cX5_readsGun 206 = .ok (.iconst 1, 1) := by decide +kernel
theorem dX5_readsGun_207 : decode cX5_readsGun 207 = .ok (.ireturn, 1) := by decide +kernel
set_option maxRecDepth 20000 in
theorem ggX5_readsGround_X5_codeAt : GoodIn wsX5_readsGround wsX5_codeAt := goodIn_r _ [7, 1, 8, 30, 31, 32, 33, 34, 35, 36, 37, 38, 39, 40, 41, 42, 43, 44, 45, 46, 47, 48, 49, 50, 51, 52, 53, 54, 55, 56, 57, 58] (by decide +kernel) (by decide +kernel)
set_option maxRecDepth 20000 in
theorem gX5_readsGround_X5_codeAt : GoodIn wsX5_readsGround (wsV RX5 89 RX5 yX5_codeAt wsX5_codeAt) := goodIn_app (goodIn_of _ (by decide +kernel)) ggX5_readsGround_X5_codeAt
set_option maxRecDepth 20000 in
theorem ggX5_readsGround_X5_readsSquares : GoodIn wsX5_readsGround wsX5_readsSquares := goodIn_r _ [12, 13, 14, 15, 16, 17, 18, 6, 19, 1, 3, 4, 5, 7, 8, 20, 21, 22, 30, 31, 32, 33, 34, 35, 36, 37, 38, 39, 40, 41, 42, 43, 44, 45, 46, 47, 48, 49, 50, 51, 52, 53, 54, 55, 56, 57, 58] (by decide +kernel) (by decide +kernel)
set_option maxRecDepth 20000 in
theorem gX5_readsGround_X5_readsSquares : GoodIn wsX5_readsGround (wsV RX5 106 RX5 yX5_readsSquares wsX5_readsSquares) := goodIn_app (goodIn_of _ (by decide +kernel)) ggX5_readsGround_X5_readsSquares
set_option maxRecDepth 20000 in
theorem ggX5_readsGround_X5_readsGun : GoodIn wsX5_readsGround wsX5_readsGun := goodIn_r _ [26, 2, 1, 13, 14, 27, 28, 29, 3, 4, 5, 6, 7, 8, 16, 17, 18, 19, 20, 21, 22, 30, 31, 32, 33, 34, 35, 36, 37, 38, 39, 40, 41, 42, 43, 44, 45, 46, 47, 48, 49, 50, 51, 52, 53, 54, 55, 56, 57, 58] (by decide +kernel) (by decide +kernel)
set_option maxRecDepth 20000 in
theorem gX5_readsGround_X5_readsGun : GoodIn wsX5_readsGround (wsV RX5 110 RX5 yX5_readsGun wsX5_readsGun) := goodIn_app (goodIn_of _ (by decide +kernel)) ggX5_readsGround_X5_readsGun
theorem dX5_readsGround_0 : decode cX5_readsGround 0 = .ok (.aload_n 0, 1) := by decide +kernel
theorem dX5_readsGround_1 : decode cX5_readsGround 1 = .ok (.iconst 0, 1) := by decide +kernel
theorem dX5_readsGround_2 : decode cX5_readsGround 2 = .ok (.putfield 86, 3) := by decide +kernel
theorem dX5_readsGround_5 : decode cX5_readsGround 5 = .ok (.aload_n 0, 1) := by decide +kernel
theorem dX5_readsGround_6 : decode cX5_readsGround 6 = .ok (.iconst 0, 1) := by decide +kernel
theorem dX5_readsGround_7 : decode cX5_readsGround 7 = .ok (.putfield 103, 3) := by decide +kernel
theorem dX5_readsGround_10 : decode cX5_readsGround 10 = .ok (.aload_n 0, 1) := by decide +kernel
theorem dX5_readsGround_11 : decode cX5_readsGround 11 = .ok (.iload_n 1, 1) := by decide +kernel
theorem dX5_readsGround_12 : decode cX5_readsGround 12 = .ok (.iload_n 2, 1) := by decide +kernel
theorem dX5_readsGround_13 : decode cX5_readsGround 13 = .ok (.invokevirtual 89, 3) := by decide +kernel
theorem dX5_readsGround_16 : decode cX5_readsGround 16 = .ok (.bipush 112, 2) := by decide +kernel
theorem dX5_readsGround_18 : decode cX5_readsGround 18 = .ok (.if_icmp .ne 7, 3) := by decide +kernel
theorem dX5_readsGround_21 : decode cX5_readsGround 21 = .ok (.iconst 1, 1) := by decide +kernel
theorem dX5_readsGround_22 : decode cX5_readsGround 22 = .ok (.goto 4, 3) := by decide +kernel
theorem dX5_readsGround_25 : decode cX5_readsGround 25 = .ok (.iconst 0, 1) := by decide +kernel
theorem dX5_readsGround_26 : decode cX5_readsGround 26 = .ok (.istore_n 3, 1) := by decide +kernel
theorem dX5_readsGround_27 : decode cX5_readsGround 27 = .ok (.aload_n 0, 1) := by decide +kernel
theorem dX5_readsGround_28 : decode cX5_readsGround 28 = .ok (.dup, 1) := by decide +kernel
theorem dX5_readsGround_29 : decode cX5_readsGround 29 = .ok (.getfield 86, 3) := by decide +kernel
theorem dX5_readsGround_32 : decode cX5_readsGround 32 = .ok (.iload_n 3, 1) := by decide +kernel
theorem dX5_readsGround_33 : decode cX5_readsGround 33 = .ok (.ifCond .eq 7, 3) := by decide +kernel
theorem dX5_readsGround_36 : decode cX5_readsGround 36 = .ok (.iconst 1, 1) := by decide +kernel
theorem dX5_readsGround_37 : decode cX5_readsGround 37 = .ok (.goto 4, 3) := by decide +kernel
theorem dX5_readsGround_40 : decode cX5_readsGround 40 = .ok (.iconst 0, 1) := by decide +kernel
theorem dX5_readsGround_41 : decode cX5_readsGround 41 = .ok (.iadd, 1) := by decide +kernel
theorem dX5_readsGround_42 : decode cX5_readsGround 42 = .ok (.putfield 86, 3) := by decide +kernel
theorem dX5_readsGround_45 : decode cX5_readsGround 45 = .ok (.iload_n 3, 1) := by decide +kernel
theorem dX5_readsGround_46 : decode cX5_readsGround 46 = .ok (.ifCond .eq 16, 3) := by decide +kernel
theorem dX5_readsGround_49 : decode cX5_readsGround 49 = .ok (.aload_n 0, 1) := by decide +kernel
theorem dX5_readsGround_50 : decode cX5_readsGround 50 = .ok (.iload_n 1, 1) := by decide +kernel
theorem dX5_readsGround_51 : decode cX5_readsGround 51 = .ok (.iload_n 2, 1) := by decide +kernel
theorem dX5_readsGround_52 : decode cX5_readsGround 52 = .ok (.invokevirtual 106, 3) := by decide +kernel
theorem dX5_readsGround_55 : decode cX5_readsGround 55 = .ok (.ifCond .eq 7, 3) := by decide +kernel
theorem dX5_readsGround_58 : decode cX5_readsGround 58 = .ok (.iconst 1, 1) := by decide +kernel
theorem dX5_readsGround_59 : decode cX5_readsGround 59 = .ok (.goto 4, 3) := by decide +kernel
theorem dX5_readsGround_62 : decode cX5_readsGround 62 = .ok (.iconst 0, 1) := by decide +kernel
theorem dX5_readsGround_63 : decode cX5_readsGround 63 = .ok (.istore_n 3, 1) := by decide +kernel
theorem dX5_readsGround_64 : decode cX5_readsGround 64 = .ok (.iload_n 3, 1) := by decide +kernel
theorem dX5_readsGround_65 : decode cX5_readsGround 65 = .ok (.ifCond .eq 28, 3) := by decide +kernel
theorem dX5_readsGround_68 : decode cX5_readsGround 68 = .ok (.aload_n 0, 1) := by decide +kernel
theorem dX5_readsGround_69 : decode cX5_readsGround 69 = .ok (.getfield 103, 3) := by decide +kernel
theorem dX5_readsGround_72 : decode cX5_readsGround 72 = .ok (.ifCond .eq 11, 3) := by decide +kernel
theorem dX5_readsGround_75 : decode cX5_readsGround 75 = .ok (.aload_n 0, 1) := by decide +kernel
theorem dX5_readsGround_76 : decode cX5_readsGround 76 = .ok (.getfield 86, 3) := by decide +kernel
theorem dX5_readsGround_79 : decode cX5_readsGround 79 = .ok (.iload_n 2, 1) := by decide +kernel
theorem dX5_readsGround_80 : decode cX5_readsGround 80 = .ok (.if_icmp .ge 13, 3) := by decide +kernel
theorem dX5_readsGround_83 : decode cX5_readsGround 83 = .ok (.aload_n 0, 1) := by decide +kernel
theorem dX5_readsGround_84 : decode cX5_readsGround 84 = .ok (.iload_n 1, 1) := by decide +kernel
theorem dX5_readsGround_85 : decode cX5_readsGround 85 = .ok (.iload_n 2, 1) := by decide +kernel
theorem dX5_readsGround_86 : decode cX5_readsGround 86 = .ok (.invokevirtual 110, 3) := by decide +kernel
theorem dX5_readsGround_89 : decode cX5_readsGround 89 = .ok (.istore_n 3, 1) := by decide +kernel
theorem dX5_readsGround_90 : decode cX5_readsGround 90 = .ok (.goto (-26), 3) := by decide +kernel
theorem dX5_readsGround_93 : decode cX5_readsGround 93 = .ok (.iload_n 3, 1) := by decide +kernel
theorem dX5_readsGround_94 : decode cX5_readsGround 94 = .ok (.ireturn, 1) := by decide +kernel
set_option maxRecDepth 20000 in
theorem ggX5_cellsBarred_X5_failed : GoodIn wsX5_cellsBarred wsX5_failed := goodIn_r _ [7, 8, 12, 13, 14, 15, 16, 17, 18, 19, 20, 21, 22, 23, 24, 25, 26, 27, 28, 29, 30, 31, 32, 33, 34, 35, 36, 37, 38, 39, 40] (by decide +kernel) (by decide +kernel)
set_option maxRecDepth 20000 in
theorem gX5_cellsBarred_X5_failed : GoodIn wsX5_cellsBarred (wsV RX5 113 RX5 yX5_failed wsX5_failed) := goodIn_app (goodIn_of _ (by decide +kernel)) ggX5_cellsBarred_X5_failed
set_option maxRecDepth 20000 in
theorem ggX5_cellsBarred_X5_isBeyond : GoodIn wsX5_cellsBarred wsX5_isBeyond := goodIn_r _ [11] (by decide +kernel) (by decide +kernel)
set_option maxRecDepth 20000 in
theorem gX5_cellsBarred_X5_isBeyond : GoodIn wsX5_cellsBarred (va_wsS RX5 117 yX5_isBeyond wsX5_isBeyond) := goodIn_app (goodIn_of _ (by decide +kernel)) ggX5_cellsBarred_X5_isBeyond
theorem dX5_cellsBarred_0 : decode cX5_cellsBarred 0 = .ok (.aload_n 0, 1) := by decide +kernel
theorem dX5_cellsBarred_1 : decode cX5_cellsBarred 1 = .ok (.getfield 47, 3) := by decide +kernel
theorem dX5_cellsBarred_4 : decode cX5_cellsBarred 4 = .ok (.iload_n 1, 1) := by decide +kernel
theorem dX5_cellsBarred_5 : decode cX5_cellsBarred 5 = .ok (.iaload, 1) := by decide +kernel
theorem dX5_cellsBarred_6 : decode cX5_cellsBarred 6 = .ok (.ifCond .lt 19, 3) := by decide +kernel
theorem dX5_cellsBarred_9 : decode cX5_cellsBarred 9 = .ok (.aload_n 0, 1) := by decide +kernel
theorem dX5_cellsBarred_10 : decode cX5_cellsBarred 10 = .ok (.getfield 50, 3) := by decide +kernel
theorem dX5_cellsBarred_13 : decode cX5_cellsBarred 13 = .ok (.iload_n 1, 1) := by decide +kernel
theorem dX5_cellsBarred_14 : decode cX5_cellsBarred 14 = .ok (.iaload, 1) := by decide +kernel
theorem dX5_cellsBarred_15 : decode cX5_cellsBarred 15 = .ok (.iload_n 2, 1) := by decide +kernel
theorem dX5_cellsBarred_16 : decode cX5_cellsBarred 16 = .ok (.if_icmp .eq 9, 3) := by decide +kernel
theorem dX5_cellsBarred_19 : decode cX5_cellsBarred 19 = .ok (.aload_n 0, 1) := by decide +kernel
theorem dX5_cellsBarred_20 : decode cX5_cellsBarred 20 = .ok (.iconst 2, 1) := by decide +kernel
theorem dX5_cellsBarred_21 : decode cX5_cellsBarred 21 = .ok (.invokevirtual 113, 3) := by decide +kernel
theorem dX5_cellsBarred_24 : decode cX5_cellsBarred 24 = .ok (.ireturn, 1) := by decide +kernel
theorem dX5_cellsBarred_25 : decode cX5_cellsBarred 25 = .ok (.aload_n 0, 1) := by decide +kernel
theorem dX5_cellsBarred_26 : decode cX5_cellsBarred 26 = .ok (.getfield 47, 3) := by decide +kernel
theorem dX5_cellsBarred_29 : decode cX5_cellsBarred 29 = .ok (.iload_n 1, 1) := by decide +kernel
theorem dX5_cellsBarred_30 : decode cX5_cellsBarred 30 = .ok (.iaload, 1) := by decide +kernel
theorem dX5_cellsBarred_31 : decode cX5_cellsBarred 31 = .ok (.ifCond .ge 9, 3) := by decide +kernel
theorem dX5_cellsBarred_34 : decode cX5_cellsBarred 34 = .ok (.aload_n 0, 1) := by decide +kernel
theorem dX5_cellsBarred_35 : decode cX5_cellsBarred 35 = .ok (.iconst 1, 1) := by decide +kernel
theorem dX5_cellsBarred_36 : decode cX5_cellsBarred 36 = .ok (.invokevirtual 113, 3) := by decide +kernel
theorem dX5_cellsBarred_39 : decode cX5_cellsBarred 39 = .ok (.ireturn, 1) := by decide +kernel
theorem dX5_cellsBarred_40 : decode cX5_cellsBarred 40 = .ok (.lload 4, 2) := by decide +kernel
theorem dX5_cellsBarred_42 : decode cX5_cellsBarred 42 = .ok (.lconst 0, 1) := by decide +kernel
theorem dX5_cellsBarred_43 : decode cX5_cellsBarred 43 = .ok (.lcmp, 1) := by decide +kernel
theorem dX5_cellsBarred_44 : decode cX5_cellsBarred 44 = .ok (.ifCond .ge 9, 3) := by decide +kernel
theorem dX5_cellsBarred_47 : decode cX5_cellsBarred 47 = .ok (.aload_n 0, 1) := by decide +kernel
theorem dX5_cellsBarred_48 : decode cX5_cellsBarred 48 = .ok (.iconst 4, 1) := by decide +kernel
theorem dX5_cellsBarred_49 : decode cX5_cellsBarred 49 = .ok (.invokevirtual 113, 3) := by decide +kernel
theorem dX5_cellsBarred_52 : decode cX5_cellsBarred 52 = .ok (.ireturn, 1) := by decide +kernel
theorem dX5_cellsBarred_53 : decode cX5_cellsBarred 53 = .ok (.iload_n 3, 1) := by decide +kernel
theorem dX5_cellsBarred_54 : decode cX5_cellsBarred 54 = .ok (.lload 4, 2) := by decide +kernel
theorem dX5_cellsBarred_56 : decode cX5_cellsBarred 56 = .ok (.aload_n 0, 1) := by decide +kernel
theorem dX5_cellsBarred_57 : decode cX5_cellsBarred 57 = .ok (.getfield 47, 3) := by decide +kernel
theorem dX5_cellsBarred_60 : decode cX5_cellsBarred 60 = .ok (.iload_n 1, 1) := by decide +kernel
theorem dX5_cellsBarred_61 : decode cX5_cellsBarred 61 = .ok (.iaload, 1) := by decide +kernel
theorem dX5_cellsBarred_62 : decode cX5_cellsBarred 62 = .ok (.invokestatic 117, 3) := by decide +kernel
theorem dX5_cellsBarred_65 : decode cX5_cellsBarred 65 = .ok (.ifCond .eq 11, 3) := by decide +kernel
theorem dX5_cellsBarred_68 : decode cX5_cellsBarred 68 = .ok (.aload_n 0, 1) := by decide +kernel
theorem dX5_cellsBarred_69 : decode cX5_cellsBarred 69 = .ok (.iconst 3, 1) := by decide +kernel
theorem dX5_cellsBarred_70 : decode cX5_cellsBarred 70 = .ok (.invokevirtual 113, 3) := by decide +kernel
theorem dX5_cellsBarred_73 : decode cX5_cellsBarred 73 = .ok (.goto 4, 3) := by decide +kernel
theorem dX5_cellsBarred_76 : decode cX5_cellsBarred 76 = .ok (.iconst 0, 1) := by decide +kernel
theorem dX5_cellsBarred_77 : decode cX5_cellsBarred 77 = .ok (.ireturn, 1) := by decide +kernel
set_option maxRecDepth 20000 in
theorem ggX5_ground_X5_noSheet : GoodIn wsX5_ground wsX5_noSheet := goodIn_r _ [23, 24, 25, 26, 22, 27] (by decide +kernel) (by decide +kernel)
set_option maxRecDepth 20000 in
theorem gX5_ground_X5_noSheet : GoodIn wsX5_ground (va_wsS RX5 121 yX5_noSheet wsX5_noSheet) := goodIn_app (goodIn_of _ (by decide +kernel)) ggX5_ground_X5_noSheet
set_option maxRecDepth 20000 in
theorem ggX5_ground_X5_refused : GoodIn wsX5_ground wsX5_refused := goodIn_r _ [31, 32, 71, 72, 73, 74, 75, 76, 77, 78, 79, 80, 81, 82, 83, 84, 85, 86, 87, 88, 89, 90, 91, 92, 93, 94, 95, 96, 97, 98, 99] (by decide +kernel) (by decide +kernel)
set_option maxRecDepth 20000 in
theorem gX5_ground_X5_refused : GoodIn wsX5_ground (wsV RX5 125 RX5 yX5_refused wsX5_refused) := goodIn_app (goodIn_of _ (by decide +kernel)) ggX5_ground_X5_refused
set_option maxRecDepth 20000 in
theorem ggX5_ground_X5_in : GoodIn wsX5_ground wsX5_in := goodIn_r _ [27] (by decide +kernel) (by decide +kernel)
set_option maxRecDepth 20000 in
theorem gX5_ground_X5_in : GoodIn wsX5_ground (va_wsS RX5 79 yX5_in wsX5_in) := goodIn_app (goodIn_of _ (by decide +kernel)) ggX5_ground_X5_in
set_option maxRecDepth 20000 in
theorem ggX5_ground_X5_cellsBarred : GoodIn wsX5_ground wsX5_cellsBarred := goodIn_r _ [36, 37, 38, 39, 40, 41, 22, 42, 32, 43, 44, 45, 71, 72, 73, 74, 75, 76, 77, 78, 79, 80, 81, 82, 83, 84, 85, 86, 87, 88, 89, 90, 91, 92, 93, 94, 95, 96, 97, 98, 99] (by decide +kernel) (by decide +kernel)
set_option maxRecDepth 20000 in
theorem gX5_ground_X5_cellsBarred : GoodIn wsX5_ground (wsV RX5 130 RX5 yX5_cellsBarred wsX5_cellsBarred) := goodIn_app (goodIn_of _ (by decide +kernel)) ggX5_ground_X5_cellsBarred
set_option maxRecDepth 20000 in
theorem ggX5_ground_X5_readsGround : GoodIn wsX5_ground wsX5_readsGround := goodIn_r _ [49, 2, 7, 50, 51, 52, 22, 53, 54, 55, 56, 57, 58, 3, 5, 10, 59, 60, 61, 62, 25, 26, 27, 63, 64, 65, 66, 12, 14, 16, 71, 72, 73, 74, 75, 76, 77, 78, 79, 80, 81, 82, 83, 84, 85, 86, 87, 88, 89, 90, 91, 92, 93, 94, 95, 96, 97, 98, 99] (by decide +kernel) (by decide +kernel)
set_option maxRecDepth 20000 in
theorem gX5_ground_X5_readsGround : GoodIn wsX5_ground (wsV RX5 134 RX5 yX5_readsGround wsX5_readsGround) := goodIn_app (goodIn_of _ (by decide +kernel)) ggX5_ground_X5_readsGround
set_option maxRecDepth 20000 in
theorem ggX5_ground_X5_squares : GoodIn wsX5_ground wsX5_squares := goodIn_r _ [70, 4, 6, 71, 72, 73, 74, 75, 76, 77, 78, 79, 80, 81, 82, 83, 84, 85, 86, 87, 88, 89, 90, 91, 92, 93, 94, 95, 96, 97, 98, 99] (by decide +kernel) (by decide +kernel)
set_option maxRecDepth 20000 in
theorem gX5_ground_X5_squares : GoodIn wsX5_ground (wsV RX5 75 RX5 yX5_squares wsX5_squares) := goodIn_app (goodIn_of _ (by decide +kernel)) ggX5_ground_X5_squares
theorem dX5_ground_0 : decode cX5_ground 0 = .ok (.iload_n 1, 1) := by decide +kernel
theorem dX5_ground_1 : decode cX5_ground 1 = .ok (.invokestatic 121, 3) := by decide +kernel
theorem dX5_ground_4 : decode cX5_ground 4 = .ok (.ifCond .eq 9, 3) := by decide +kernel
theorem dX5_ground_7 : decode cX5_ground 7 = .ok (.aload_n 0, 1) := by decide +kernel
theorem dX5_ground_8 : decode cX5_ground 8 = .ok (.iconst (-1), 1) := by decide +kernel
theorem dX5_ground_9 : decode cX5_ground 9 = .ok (.invokevirtual 125, 3) := by decide +kernel
theorem dX5_ground_12 : decode cX5_ground 12 = .ok (.ireturn, 1) := by decide +kernel
theorem dX5_ground_13 : decode cX5_ground 13 = .ok (.iload_n 2, 1) := by decide +kernel
theorem dX5_ground_14 : decode cX5_ground 14 = .ok (.i2l, 1) := by decide +kernel
theorem dX5_ground_15 : decode cX5_ground 15 = .ok (.lconst 0, 1) := by decide +kernel
theorem dX5_ground_16 : decode cX5_ground 16 = .ok (.ldc2_w 128, 3) := by decide +kernel
theorem dX5_ground_19 : decode cX5_ground 19 = .ok (.invokestatic 79, 3) := by decide +kernel
theorem dX5_ground_22 : decode cX5_ground 22 = .ok (.ifCond .ne 10, 3) := by decide +kernel
theorem dX5_ground_25 : decode cX5_ground 25 = .ok (.aload_n 0, 1) := by decide +kernel
theorem dX5_ground_26 : decode cX5_ground 26 = .ok (.bipush (-2), 2) := by decide +kernel
theorem dX5_ground_28 : decode cX5_ground 28 = .ok (.invokevirtual 125, 3) := by decide +kernel
theorem dX5_ground_31 : decode cX5_ground 31 = .ok (.ireturn, 1) := by decide +kernel
theorem dX5_ground_32 : decode cX5_ground 32 = .ok (.aload_n 0, 1) := by decide +kernel
theorem dX5_ground_33 : decode cX5_ground 33 = .ok (.iload_n 1, 1) := by decide +kernel
theorem dX5_ground_34 : decode cX5_ground 34 = .ok (.iload_n 2, 1) := by decide +kernel
theorem dX5_ground_35 : decode cX5_ground 35 = .ok (.iload_n 3, 1) := by decide +kernel
theorem dX5_ground_36 : decode cX5_ground 36 = .ok (.iload 4, 2) := by decide +kernel
theorem dX5_ground_38 : decode cX5_ground 38 = .ok (.i2l, 1) := by decide +kernel
theorem dX5_ground_39 : decode cX5_ground 39 = .ok (.invokevirtual 130, 3) := by decide +kernel
theorem dX5_ground_42 : decode cX5_ground 42 = .ok (.istore 5, 2) := by decide +kernel
theorem dX5_ground_44 : decode cX5_ground 44 = .ok (.iload 5, 2) := by decide +kernel
theorem dX5_ground_46 : decode cX5_ground 46 = .ok (.ifCond .ge 6, 3) := by decide +kernel
theorem dX5_ground_49 : decode cX5_ground 49 = .ok (.iload 5, 2) := by decide +kernel
theorem dX5_ground_51 : decode cX5_ground 51 = .ok (.ireturn, 1) := by decide +kernel
theorem dX5_ground_52 : decode cX5_ground 52 = .ok (.aload_n 0, 1) := by decide +kernel
theorem dX5_ground_53 : decode cX5_ground 53 = .ok (.bipush 60, 2) := by decide +kernel
theorem dX5_ground_55 : decode cX5_ground 55 = .ok (.iload_n 1, 1) := by decide +kernel
theorem dX5_ground_56 : decode cX5_ground 56 = .ok (.imul, 1) := by decide +kernel
theorem dX5_ground_57 : decode cX5_ground 57 = .ok (.iload_n 3, 1) := by decide +kernel
theorem dX5_ground_58 : decode cX5_ground 58 = .ok (.iadd, 1) := by decide +kernel
theorem dX5_ground_59 : decode cX5_ground 59 = .ok (.iload 4, 2) := by decide +kernel
theorem dX5_ground_61 : decode cX5_ground 61 = .ok (.invokevirtual 134, 3) := by decide +kernel
theorem dX5_ground_64 : decode cX5_ground 64 = .ok (.ifCond .ne 15, 3) := by decide +kernel
theorem dX5_ground_67 : decode cX5_ground 67 = .ok (.aload_n 0, 1) := by decide +kernel
theorem dX5_ground_68 : decode cX5_ground 68 = .ok (.bipush (-100), 2) := by decide +kernel
theorem dX5_ground_70 : decode cX5_ground 70 = .ok (.aload_n 0, 1) := by decide +kernel
theorem dX5_ground_71 : decode cX5_ground 71 = .ok (.getfield 86, 3) := by decide +kernel
theorem dX5_ground_74 : decode cX5_ground 74 = .ok (.isub, 1) := by decide +kernel
theorem dX5_ground_75 : decode cX5_ground 75 = .ok (.invokevirtual 125, 3) := by decide +kernel
theorem dX5_ground_78 : decode cX5_ground 78 = .ok (.ireturn, 1) := by decide +kernel
theorem dX5_ground_79 : decode cX5_ground 79 = .ok (.aload_n 0, 1) := by decide +kernel
theorem dX5_ground_80 : decode cX5_ground 80 = .ok (.aload_n 0, 1) := by decide +kernel
theorem dX5_ground_81 : decode cX5_ground 81 = .ok (.getfield 97, 3) := by decide +kernel
theorem dX5_ground_84 : decode cX5_ground 84 = .ok (.putfield 69, 3) := by decide +kernel
theorem dX5_ground_87 : decode cX5_ground 87 = .ok (.aload_n 0, 1) := by decide +kernel
theorem dX5_ground_88 : decode cX5_ground 88 = .ok (.aload_n 0, 1) := by decide +kernel
theorem dX5_ground_89 : decode cX5_ground 89 = .ok (.getfield 100, 3) := by decide +kernel
theorem dX5_ground_92 : decode cX5_ground 92 = .ok (.putfield 72, 3) := by decide +kernel
theorem dX5_ground_95 : decode cX5_ground 95 = .ok (.aload_n 0, 1) := by decide +kernel
theorem dX5_ground_96 : decode cX5_ground 96 = .ok (.aload_n 0, 1) := by decide +kernel
theorem dX5_ground_97 : decode cX5_ground 97 = .ok (.getfield 103, 3) := by decide +kernel
theorem dX5_ground_100 : decode cX5_ground 100 = .ok (.putfield 83, 3) := by decide +kernel
theorem dX5_ground_103 : decode cX5_ground 103 = .ok (.iconst 0, 1) := by decide +kernel
theorem dX5_ground_104 : decode cX5_ground 104 = .ok (.istore 6, 2) := by decide +kernel
theorem dX5_ground_106 : decode cX5_ground 106 = .ok (.iload 6, 2) := by decide +kernel
theorem dX5_ground_108 : decode cX5_ground 108 = .ok (.aload_n 0, 1) := by decide +kernel
theorem dX5_ground_109 : decode cX5_ground 109 = .ok (.invokevirtual 75, 3) := by decide +kernel
theorem dX5_ground_112 : decode cX5_ground 112 = .ok (.if_icmp .ge 23, 3) := by decide +kernel
theorem dX5_ground_115 : decode cX5_ground 115 = .ok (.aload_n 0, 1) := by decide +kernel
theorem dX5_ground_116 : decode cX5_ground 116 = .ok (.getfield 7, 3) := by decide +kernel
theorem dX5_ground_119 : decode cX5_ground 119 = .ok (.iload 6, 2) := by decide +kernel
theorem dX5_ground_121 : decode cX5_ground 121 = .ok (.aload_n 0, 1) := by decide +kernel
theorem dX5_ground_122 : decode cX5_ground 122 = .ok (.getfield 22, 3) := by decide +kernel
theorem dX5_ground_125 : decode cX5_ground 125 = .ok (.iload 6, 2) := by decide +kernel
theorem dX5_ground_127 : decode cX5_ground 127 = .ok (.iaload, 1) := by decide +kernel
theorem dX5_ground_128 : decode cX5_ground 128 = .ok (.iastore, 1) := by decide +kernel
theorem dX5_ground_129 : decode cX5_ground 129 = .ok (.iinc 6 1, 3) := by decide +kernel
theorem dX5_ground_132 : decode cX5_ground 132 = .ok (.goto (-26), 3) := by decide +kernel
theorem dX5_ground_135 : decode cX5_ground 135 = .ok (.iconst 0, 1) := by decide +kernel
theorem dX5_ground_136 : decode cX5_ground 136 = .ok (.istore 6, 2) := by decide +kernel
theorem dX5_ground_138 : decode cX5_ground 138 = .ok (.iload 6, 2) := by decide +kernel
theorem dX5_ground_140 : decode cX5_ground 140 = .ok (.aload_n 0, 1) := by decide +kernel
theorem dX5_ground_141 : decode cX5_ground 141 = .ok (.getfield 83, 3) := by decide +kernel
theorem dX5_ground_144 : decode cX5_ground 144 = .ok (.if_icmp .ge 51, 3) := by decide +kernel
theorem dX5_ground_147 : decode cX5_ground 147 = .ok (.aload_n 0, 1) := by decide +kernel
theorem dX5_ground_148 : decode cX5_ground 148 = .ok (.getfield 13, 3) := by decide +kernel
theorem dX5_ground_151 : decode cX5_ground 151 = .ok (.iload 6, 2) := by decide +kernel
theorem dX5_ground_153 : decode cX5_ground 153 = .ok (.aload_n 0, 1) := by decide +kernel
theorem dX5_ground_154 : decode cX5_ground 154 = .ok (.getfield 25, 3) := by decide +kernel
theorem dX5_ground_157 : decode cX5_ground 157 = .ok (.iload 6, 2) := by decide +kernel
theorem dX5_ground_159 : decode cX5_ground 159 = .ok (.iaload, 1) := by decide +kernel
theorem dX5_ground_160 : decode cX5_ground 160 = .ok (.iastore, 1) := by decide +kernel
theorem dX5_ground_161 : decode cX5_ground 161 = .ok (.aload_n 0, 1) := by decide +kernel
theorem dX5_ground_162 : decode cX5_ground 162 = .ok (.getfield 16, 3) := by decide +kernel
theorem dX5_ground_165 : decode cX5_ground 165 = .ok (.iload 6, 2) := by decide +kernel
theorem dX5_ground_167 : decode cX5_ground 167 = .ok (.aload_n 0, 1) := by decide +kernel
theorem dX5_ground_168 : decode cX5_ground 168 = .ok (.getfield 28, 3) := by decide +kernel
theorem dX5_ground_171 : decode cX5_ground 171 = .ok (.iload 6, 2) := by decide +kernel
theorem dX5_ground_173 : decode cX5_ground 173 = .ok (.iaload, 1) := by decide +kernel
theorem dX5_ground_174 : decode cX5_ground 174 = .ok (.iastore, 1) := by decide +kernel
theorem dX5_ground_175 : decode cX5_ground 175 = .ok (.aload_n 0, 1) := by decide +kernel
theorem dX5_ground_176 : decode cX5_ground 176 = .ok (.getfield 19, 3) := by decide +kernel
theorem dX5_ground_179 : decode cX5_ground 179 = .ok (.iload 6, 2) := by decide +kernel
theorem dX5_ground_181 : decode cX5_ground 181 = .ok (.aload_n 0, 1) := by decide +kernel
theorem dX5_ground_182 : decode cX5_ground 182 = .ok (.getfield 31, 3) := by decide +kernel
theorem dX5_ground_185 : decode cX5_ground 185 = .ok (.iload 6, 2) := by decide +kernel
theorem dX5_ground_187 : decode cX5_ground 187 = .ok (.iaload, 1) := by decide +kernel
theorem dX5_ground_188 : decode cX5_ground 188 = .ok (.iastore, 1) := by decide +kernel
theorem dX5_ground_189 : decode cX5_ground 189 = .ok (.iinc 6 1, 3) := by decide +kernel
theorem dX5_ground_192 : decode cX5_ground 192 = .ok (.goto (-54), 3) := by decide +kernel
theorem dX5_ground_195 : decode cX5_ground 195 = .ok (.aload_n 0, 1) := by decide +kernel
theorem dX5_ground_196 : decode cX5_ground 196 = .ok (.iconst 0, 1) := by decide +kernel
