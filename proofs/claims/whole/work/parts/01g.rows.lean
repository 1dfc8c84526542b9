theorem dX5_weight_41 : decode cX5_weight 41 = .ok (.ifCond .eq 7, 3) := by decide +kernel
theorem dX5_weight_44 : decode cX5_weight 44 = .ok (.iconst 0, 1) := by decide +kernel
theorem dX5_weight_45 : decode cX5_weight 45 = .ok (.goto 9, 3) := by decide +kernel
theorem dX5_weight_48 : decode cX5_weight 48 = .ok (.aload_n 0, 1) := by decide +kernel
theorem dX5_weight_49 : decode cX5_weight 49 = .ok (.getfield 7, 3) := by decide +kernel
theorem dX5_weight_52 : decode cX5_weight 52 = .ok (.iload_n 1, 1) := by decide +kernel
theorem dX5_weight_53 : decode cX5_weight 53 = .ok (.iaload, 1) := by decide +kernel
theorem dX5_weight_54 : decode cX5_weight 54 = .ok (.istore 4, 2) := by decide +kernel
theorem dX5_weight_56 : decode cX5_weight 56 = .ok (.iload_n 3, 1) := by decide +kernel
theorem dX5_weight_57 : decode cX5_weight 57 = .ok (.ifCond .eq 8, 3) := by decide +kernel
theorem dX5_weight_60 : decode cX5_weight 60 = .ok (.ldc 218, 2) := by decide +kernel
theorem dX5_weight_62 : decode cX5_weight 62 = .ok (.goto 4, 3) := by decide +kernel
theorem dX5_weight_65 : decode cX5_weight 65 = .ok (.iconst 0, 1) := by decide +kernel
theorem dX5_weight_66 : decode cX5_weight 66 = .ok (.bipush 64, 2) := by decide +kernel
theorem dX5_weight_68 : decode cX5_weight 68 = .ok (.iload 4, 2) := by decide +kernel
theorem dX5_weight_70 : decode cX5_weight 70 = .ok (.imul, 1) := by decide +kernel
theorem dX5_weight_71 : decode cX5_weight 71 = .ok (.iadd, 1) := by decide +kernel
theorem dX5_weight_72 : decode cX5_weight 72 = .ok (.iconst 1, 1) := by decide +kernel
theorem dX5_weight_73 : decode cX5_weight 73 = .ok (.iadd, 1) := by decide +kernel
theorem dX5_weight_74 : decode cX5_weight 74 = .ok (.ireturn, 1) := by decide +kernel
set_option maxRecDepth 20000 in
theorem ggX5_leastNext_X5_squares : GoodIn wsX5_leastNext wsX5_squares := goodIn_r _ [7, 8, 9, 17, 18, 19, 20, 21, 22, 23, 24, 25, 26, 27, 28, 29, 30, 31, 32, 33, 34, 35, 36, 37, 38, 39, 40, 41, 42, 43, 44, 45] (by decide +kernel) (by decide +kernel)
set_option maxRecDepth 20000 in
theorem gX5_leastNext_X5_squares : GoodIn wsX5_leastNext (wsV RX5 75 RX5 yX5_squares wsX5_squares) := goodIn_app (goodIn_of _ (by decide +kernel)) ggX5_leastNext_X5_squares
set_option maxRecDepth 20000 in
theorem ggX5_leastNext_X5_areNext : GoodIn wsX5_leastNext wsX5_areNext := goodIn_r _ [13, 8, 14, 15, 6, 16, 17, 18, 19, 20, 21, 22, 23, 24, 25, 26, 27, 28, 29, 30, 31, 32, 33, 34, 35, 36, 37, 38, 39, 40, 41, 42, 43, 44, 45] (by decide +kernel) (by decide +kernel)
set_option maxRecDepth 20000 in
theorem gX5_leastNext_X5_areNext : GoodIn wsX5_leastNext (wsV RX5 196 RX5 yX5_areNext wsX5_areNext) := goodIn_app (goodIn_of _ (by decide +kernel)) ggX5_leastNext_X5_areNext
theorem dX5_leastNext_0 : decode cX5_leastNext 0 = .ok (.ldc 217, 2) := by decide +kernel
theorem dX5_leastNext_2 : decode cX5_leastNext 2 = .ok (.istore_n 2, 1) := by decide +kernel
theorem dX5_leastNext_3 : decode cX5_leastNext 3 = .ok (.iconst 0, 1) := by decide +kernel
theorem dX5_leastNext_4 : decode cX5_leastNext 4 = .ok (.istore_n 3, 1) := by decide +kernel
theorem dX5_leastNext_5 : decode cX5_leastNext 5 = .ok (.iload_n 3, 1) := by decide +kernel
theorem dX5_leastNext_6 : decode cX5_leastNext 6 = .ok (.aload_n 0, 1) := by decide +kernel
theorem dX5_leastNext_7 : decode cX5_leastNext 7 = .ok (.invokevirtual 75, 3) := by decide +kernel
theorem dX5_leastNext_10 : decode cX5_leastNext 10 = .ok (.if_icmp .ge 39, 3) := by decide +kernel
theorem dX5_leastNext_13 : decode cX5_leastNext 13 = .ok (.aload_n 0, 1) := by decide +kernel
theorem dX5_leastNext_14 : decode cX5_leastNext 14 = .ok (.iload_n 1, 1) := by decide +kernel
theorem dX5_leastNext_15 : decode cX5_leastNext 15 = .ok (.iload_n 3, 1) := by decide +kernel
theorem dX5_leastNext_16 : decode cX5_leastNext 16 = .ok (.invokevirtual 196, 3) := by decide +kernel
theorem dX5_leastNext_19 : decode cX5_leastNext 19 = .ok (.ifCond .eq 22, 3) := by decide +kernel
theorem dX5_leastNext_22 : decode cX5_leastNext 22 = .ok (.aload_n 0, 1) := by decide +kernel
theorem dX5_leastNext_23 : decode cX5_leastNext 23 = .ok (.getfield 34, 3) := by decide +kernel
theorem dX5_leastNext_26 : decode cX5_leastNext 26 = .ok (.iload_n 3, 1) := by decide +kernel
theorem dX5_leastNext_27 : decode cX5_leastNext 27 = .ok (.iaload, 1) := by decide +kernel
theorem dX5_leastNext_28 : decode cX5_leastNext 28 = .ok (.iload_n 2, 1) := by decide +kernel
theorem dX5_leastNext_29 : decode cX5_leastNext 29 = .ok (.if_icmp .ge 12, 3) := by decide +kernel
theorem dX5_leastNext_32 : decode cX5_leastNext 32 = .ok (.aload_n 0, 1) := by decide +kernel
theorem dX5_leastNext_33 : decode cX5_leastNext 33 = .ok (.getfield 34, 3) := by decide +kernel
theorem dX5_leastNext_36 : decode cX5_leastNext 36 = .ok (.iload_n 3, 1) := by decide +kernel
theorem dX5_leastNext_37 : decode cX5_leastNext 37 = .ok (.iaload, 1) := by decide +kernel
theorem dX5_leastNext_38 : decode cX5_leastNext 38 = .ok (.goto 4, 3) := by decide +kernel
theorem dX5_leastNext_41 : decode cX5_leastNext 41 = .ok (.iload_n 2, 1) := by decide +kernel
theorem dX5_leastNext_42 : decode cX5_leastNext 42 = .ok (.istore_n 2, 1) := by decide +kernel
theorem dX5_leastNext_43 : decode cX5_leastNext 43 = .ok (.iinc 3 1, 3) := by decide +kernel
theorem dX5_leastNext_46 : decode cX5_leastNext 46 = .ok (.goto (-41), 3) := by decide +kernel
theorem dX5_leastNext_49 : decode cX5_leastNext 49 = .ok (.iload_n 2, 1) := by decide +kernel
theorem dX5_leastNext_50 : decode cX5_leastNext 50 = .ok (.ireturn, 1) := by decide +kernel
set_option maxRecDepth 20000 in
theorem ggX5_measure_X5_squares : GoodIn wsX5_measure wsX5_squares := goodIn_r _ [8, 9, 10, 75, 76, 77, 78, 79, 80, 81, 82, 83, 84, 85, 86, 87, 88, 89, 90, 91, 92, 93, 94, 95, 96, 97, 98, 99, 100, 101, 102, 103] (by decide +kernel) (by decide +kernel)
set_option maxRecDepth 20000 in
theorem gX5_measure_X5_squares : GoodIn wsX5_measure (wsV RX5 75 RX5 yX5_squares wsX5_squares) := goodIn_app (goodIn_of _ (by decide +kernel)) ggX5_measure_X5_squares
set_option maxRecDepth 20000 in
theorem ggX5_measure_X5_weight : GoodIn wsX5_measure wsX5_weight := goodIn_r _ [14, 3, 15, 16, 17, 18, 19, 20, 7, 21, 22, 23, 24, 25, 26, 27, 28, 29, 30, 31, 32, 33, 34, 35, 36, 37, 38, 39, 40, 41, 42, 43, 44, 45, 46, 9, 47, 48, 49, 50, 51, 52, 53, 54, 55, 56, 57, 58, 59, 60, 61, 62, 63, 64, 65, 66, 75, 76, 77, 78, 79, 80, 81, 82, 83, 84, 85, 86, 87, 88, 89, 90, 91, 92, 93, 94, 95, 96, 97, 98, 99, 100, 101, 102, 103] (by decide +kernel) (by decide +kernel)
set_option maxRecDepth 20000 in
theorem gX5_measure_X5_weight : GoodIn wsX5_measure (wsV RX5 219 RX5 yX5_weight wsX5_weight) := goodIn_app (goodIn_of _ (by decide +kernel)) ggX5_measure_X5_weight
set_option maxRecDepth 20000 in
theorem ggX5_measure_X5_leastNext : GoodIn wsX5_measure wsX5_leastNext := goodIn_r _ [70, 3, 2, 4, 5, 6, 7, 8, 9, 10, 71, 72, 73, 74, 47, 48, 49, 75, 76, 77, 78, 79, 80, 81, 82, 83, 84, 85, 86, 87, 88, 89, 90, 91, 92, 93, 94, 95, 96, 97, 98, 99, 100, 101, 102, 103] (by decide +kernel) (by decide +kernel)
set_option maxRecDepth 20000 in
theorem gX5_measure_X5_leastNext : GoodIn wsX5_measure (wsV RX5 223 RX5 yX5_leastNext wsX5_leastNext) := goodIn_app (goodIn_of _ (by decide +kernel)) ggX5_measure_X5_leastNext
theorem dX5_measure_0 : decode cX5_measure 0 = .ok (.iconst 0, 1) := by decide +kernel
theorem dX5_measure_1 : decode cX5_measure 1 = .ok (.istore_n 3, 1) := by decide +kernel
theorem dX5_measure_2 : decode cX5_measure 2 = .ok (.iload_n 3, 1) := by decide +kernel
theorem dX5_measure_3 : decode cX5_measure 3 = .ok (.aload_n 0, 1) := by decide +kernel
theorem dX5_measure_4 : decode cX5_measure 4 = .ok (.invokevirtual 75, 3) := by decide +kernel
theorem dX5_measure_7 : decode cX5_measure 7 = .ok (.if_icmp .ge 43, 3) := by decide +kernel
theorem dX5_measure_10 : decode cX5_measure 10 = .ok (.aload_n 0, 1) := by decide +kernel
theorem dX5_measure_11 : decode cX5_measure 11 = .ok (.getfield 37, 3) := by decide +kernel
theorem dX5_measure_14 : decode cX5_measure 14 = .ok (.iload_n 3, 1) := by decide +kernel
theorem dX5_measure_15 : decode cX5_measure 15 = .ok (.aload_n 0, 1) := by decide +kernel
theorem dX5_measure_16 : decode cX5_measure 16 = .ok (.iload_n 3, 1) := by decide +kernel
theorem dX5_measure_17 : decode cX5_measure 17 = .ok (.iload_n 2, 1) := by decide +kernel
theorem dX5_measure_18 : decode cX5_measure 18 = .ok (.invokevirtual 219, 3) := by decide +kernel
theorem dX5_measure_21 : decode cX5_measure 21 = .ok (.iastore, 1) := by decide +kernel
theorem dX5_measure_22 : decode cX5_measure 22 = .ok (.aload_n 0, 1) := by decide +kernel
theorem dX5_measure_23 : decode cX5_measure 23 = .ok (.getfield 34, 3) := by decide +kernel
theorem dX5_measure_26 : decode cX5_measure 26 = .ok (.iload_n 3, 1) := by decide +kernel
theorem dX5_measure_27 : decode cX5_measure 27 = .ok (.iload_n 3, 1) := by decide +kernel
theorem dX5_measure_28 : decode cX5_measure 28 = .ok (.iload_n 1, 1) := by decide +kernel
theorem dX5_measure_29 : decode cX5_measure 29 = .ok (.if_icmp .ne 12, 3) := by decide +kernel
theorem dX5_measure_32 : decode cX5_measure 32 = .ok (.aload_n 0, 1) := by decide +kernel
theorem dX5_measure_33 : decode cX5_measure 33 = .ok (.getfield 37, 3) := by decide +kernel
theorem dX5_measure_36 : decode cX5_measure 36 = .ok (.iload_n 3, 1) := by decide +kernel
theorem dX5_measure_37 : decode cX5_measure 37 = .ok (.iaload, 1) := by decide +kernel
theorem dX5_measure_38 : decode cX5_measure 38 = .ok (.goto 5, 3) := by decide +kernel
theorem dX5_measure_41 : decode cX5_measure 41 = .ok (.ldc 217, 2) := by decide +kernel
theorem dX5_measure_43 : decode cX5_measure 43 = .ok (.iastore, 1) := by decide +kernel
theorem dX5_measure_44 : decode cX5_measure 44 = .ok (.iinc 3 1, 3) := by decide +kernel
theorem dX5_measure_47 : decode cX5_measure 47 = .ok (.goto (-45), 3) := by decide +kernel
theorem dX5_measure_50 : decode cX5_measure 50 = .ok (.iconst 1, 1) := by decide +kernel
theorem dX5_measure_51 : decode cX5_measure 51 = .ok (.istore_n 3, 1) := by decide +kernel
theorem dX5_measure_52 : decode cX5_measure 52 = .ok (.iload_n 3, 1) := by decide +kernel
theorem dX5_measure_53 : decode cX5_measure 53 = .ok (.ifCond .eq 97, 3) := by decide +kernel
theorem dX5_measure_56 : decode cX5_measure 56 = .ok (.iconst 0, 1) := by decide +kernel
theorem dX5_measure_57 : decode cX5_measure 57 = .ok (.istore_n 3, 1) := by decide +kernel
theorem dX5_measure_58 : decode cX5_measure 58 = .ok (.iconst 0, 1) := by decide +kernel
theorem dX5_measure_59 : decode cX5_measure 59 = .ok (.istore 4, 2) := by decide +kernel
theorem dX5_measure_61 : decode cX5_measure 61 = .ok (.iload 4, 2) := by decide +kernel
theorem dX5_measure_63 : decode cX5_measure 63 = .ok (.aload_n 0, 1) := by decide +kernel
theorem dX5_measure_64 : decode cX5_measure 64 = .ok (.invokevirtual 75, 3) := by decide +kernel
theorem dX5_measure_67 : decode cX5_measure 67 = .ok (.if_icmp .ge 80, 3) := by decide +kernel
theorem dX5_measure_70 : decode cX5_measure 70 = .ok (.aload_n 0, 1) := by decide +kernel
theorem dX5_measure_71 : decode cX5_measure 71 = .ok (.getfield 37, 3) := by decide +kernel
theorem dX5_measure_74 : decode cX5_measure 74 = .ok (.iload 4, 2) := by decide +kernel
theorem dX5_measure_76 : decode cX5_measure 76 = .ok (.iaload, 1) := by decide +kernel
theorem dX5_measure_77 : decode cX5_measure 77 = .ok (.ldc 217, 2) := by decide +kernel
theorem dX5_measure_79 : decode cX5_measure 79 = .ok (.if_icmp .ne 8, 3) := by decide +kernel
theorem dX5_measure_82 : decode cX5_measure 82 = .ok (.ldc 217, 2) := by decide +kernel
theorem dX5_measure_84 : decode cX5_measure 84 = .ok (.goto 9, 3) := by decide +kernel
theorem dX5_measure_87 : decode cX5_measure 87 = .ok (.aload_n 0, 1) := by decide +kernel
theorem dX5_measure_88 : decode cX5_measure 88 = .ok (.iload 4, 2) := by decide +kernel
theorem dX5_measure_90 : decode cX5_measure 90 = .ok (.invokevirtual 223, 3) := by decide +kernel
theorem dX5_measure_93 : decode cX5_measure 93 = .ok (.istore 5, 2) := by decide +kernel
theorem dX5_measure_95 : decode cX5_measure 95 = .ok (.iload 5, 2) := by decide +kernel
theorem dX5_measure_97 : decode cX5_measure 97 = .ok (.ldc 217, 2) := by decide +kernel
theorem dX5_measure_99 : decode cX5_measure 99 = .ok (.if_icmp .ge 42, 3) := by decide +kernel
theorem dX5_measure_102 : decode cX5_measure 102 = .ok (.aload_n 0, 1) := by decide +kernel
theorem dX5_measure_103 : decode cX5_measure 103 = .ok (.getfield 37, 3) := by decide +kernel
theorem dX5_measure_106 : decode cX5_measure 106 = .ok (.iload 4, 2) := by decide +kernel
theorem dX5_measure_108 : decode cX5_measure 108 = .ok (.iaload, 1) := by decide +kernel
theorem dX5_measure_109 : decode cX5_measure 109 = .ok (.iload 5, 2) := by decide +kernel
theorem dX5_measure_111 : decode cX5_measure 111 = .ok (.iadd, 1) := by decide +kernel
theorem dX5_measure_112 : decode cX5_measure 112 = .ok (.aload_n 0, 1) := by decide +kernel
theorem dX5_measure_113 : decode cX5_measure 113 = .ok (.getfield 34, 3) := by decide +kernel
theorem dX5_measure_116 : decode cX5_measure 116 = .ok (.iload 4, 2) := by decide +kernel
theorem dX5_measure_118 : decode cX5_measure 118 = .ok (.iaload, 1) := by decide +kernel
theorem dX5_measure_119 : decode cX5_measure 119 = .ok (.if_icmp .ge 22, 3) := by decide +kernel
theorem dX5_measure_122 : decode cX5_measure 122 = .ok (.aload_n 0, 1) := by decide +kernel
theorem dX5_measure_123 : decode cX5_measure 123 = .ok (.getfield 34, 3) := by decide +kernel
theorem dX5_measure_126 : decode cX5_measure 126 = .ok (.iload 4, 2) := by decide +kernel
theorem dX5_measure_128 : decode cX5_measure 128 = .ok (.aload_n 0, 1) := by decide +kernel
theorem dX5_measure_129 : decode cX5_measure 129 = .ok (.getfield 37, 3) := by decide +kernel
theorem dX5_measure_132 : decode cX5_measure 132 = .ok (.iload 4, 2) := by decide +kernel
theorem dX5_measure_134 : decode cX5_measure 134 = .ok (.iaload, 1) := by decide +kernel
theorem dX5_measure_135 : decode cX5_measure 135 = .ok (.iload 5, 2) := by decide +kernel
theorem dX5_measure_137 : decode cX5_measure 137 = .ok (.iadd, 1) := by decide +kernel
theorem dX5_measure_138 : decode cX5_measure 138 = .ok (.iastore, 1) := by decide +kernel
theorem dX5_measure_139 : decode cX5_measure 139 = .ok (.iconst 1, 1) := by decide +kernel
theorem dX5_measure_140 : decode cX5_measure 140 = .ok (.istore_n 3, 1) := by decide +kernel
theorem dX5_measure_141 : decode cX5_measure 141 = .ok (.iinc 4 1, 3) := by decide +kernel
theorem dX5_measure_144 : decode cX5_measure 144 = .ok (.goto (-83), 3) := by decide +kernel
theorem dX5_measure_147 : decode cX5_measure 147 = .ok (.goto (-95), 3) := by decide +kernel
theorem dX5_measure_150 : decode cX5_measure 150 = .ok (.return_, 1) := by decide +kernel
set_option maxRecDepth 20000 in
theorem ggX5_firstSquare_X5_squares : GoodIn wsX5_firstSquare wsX5_squares := goodIn_r _ [8, 3, 9, 10, 11, 12, 13, 14, 15, 16, 17, 18, 19, 20, 21, 22, 23, 24, 25, 26, 27, 28, 29, 30, 31, 32, 33, 34, 35, 36, 37, 38] (by decide +kernel) (by decide +kernel)
set_option maxRecDepth 20000 in
theorem gX5_firstSquare_X5_squares : GoodIn wsX5_firstSquare (wsV RX5 75 RX5 yX5_squares wsX5_squares) := goodIn_app (goodIn_of _ (by decide +kernel)) ggX5_firstSquare_X5_squares
theorem dX5_firstSquare_0 : decode cX5_firstSquare 0 = .ok (.bipush (-9), 2) := by decide +kernel
theorem dX5_firstSquare_2 : decode cX5_firstSquare 2 = .ok (.istore_n 1, 1) := by decide +kernel
theorem dX5_firstSquare_3 : decode cX5_firstSquare 3 = .ok (.iconst 0, 1) := by decide +kernel
theorem dX5_firstSquare_4 : decode cX5_firstSquare 4 = .ok (.istore_n 2, 1) := by decide +kernel
theorem dX5_firstSquare_5 : decode cX5_firstSquare 5 = .ok (.iload_n 2, 1) := by decide +kernel
theorem dX5_firstSquare_6 : decode cX5_firstSquare 6 = .ok (.aload_n 0, 1) := by decide +kernel
theorem dX5_firstSquare_7 : decode cX5_firstSquare 7 = .ok (.invokevirtual 75, 3) := by decide +kernel
theorem dX5_firstSquare_10 : decode cX5_firstSquare 10 = .ok (.if_icmp .ge 49, 3) := by decide +kernel
theorem dX5_firstSquare_13 : decode cX5_firstSquare 13 = .ok (.aload_n 0, 1) := by decide +kernel
theorem dX5_firstSquare_14 : decode cX5_firstSquare 14 = .ok (.getfield 34, 3) := by decide +kernel
theorem dX5_firstSquare_17 : decode cX5_firstSquare 17 = .ok (.iload_n 2, 1) := by decide +kernel
theorem dX5_firstSquare_18 : decode cX5_firstSquare 18 = .ok (.iaload, 1) := by decide +kernel
theorem dX5_firstSquare_19 : decode cX5_firstSquare 19 = .ok (.ldc 217, 2) := by decide +kernel
theorem dX5_firstSquare_21 : decode cX5_firstSquare 21 = .ok (.if_icmp .ge 26, 3) := by decide +kernel
theorem dX5_firstSquare_24 : decode cX5_firstSquare 24 = .ok (.iload_n 1, 1) := by decide +kernel
theorem dX5_firstSquare_25 : decode cX5_firstSquare 25 = .ok (.ifCond .lt 18, 3) := by decide +kernel
theorem dX5_firstSquare_28 : decode cX5_firstSquare 28 = .ok (.aload_n 0, 1) := by decide +kernel
theorem dX5_firstSquare_29 : decode cX5_firstSquare 29 = .ok (.getfield 34, 3) := by decide +kernel
theorem dX5_firstSquare_32 : decode cX5_firstSquare 32 = .ok (.iload_n 2, 1) := by decide +kernel
theorem dX5_firstSquare_33 : decode cX5_firstSquare 33 = .ok (.iaload, 1) := by decide +kernel
theorem dX5_firstSquare_34 : decode cX5_firstSquare 34 = .ok (.aload_n 0, 1) := by decide +kernel
theorem dX5_firstSquare_35 : decode cX5_firstSquare 35 = .ok (.getfield 34, 3) := by decide +kernel
theorem dX5_firstSquare_38 : decode cX5_firstSquare 38 = .ok (.iload_n 1, 1) := by decide +kernel
theorem dX5_firstSquare_39 : decode cX5_firstSquare 39 = .ok (.iaload, 1) := by decide +kernel
theorem dX5_firstSquare_40 : decode cX5_firstSquare 40 = .ok (.if_icmp .ge 7, 3) := by decide +kernel
theorem dX5_firstSquare_43 : decode cX5_firstSquare 43 = .ok (.iload_n 2, 1) := by decide +kernel
theorem dX5_firstSquare_44 : decode cX5_firstSquare 44 = .ok (.goto 4, 3) := by decide +kernel
theorem dX5_firstSquare_47 : decode cX5_firstSquare 47 = .ok (.iload_n 1, 1) := by decide +kernel
theorem dX5_firstSquare_48 : decode cX5_firstSquare 48 = .ok (.istore_n 1, 1) := by decide +kernel
theorem dX5_firstSquare_49 : decode cX5_firstSquare 49 = .ok (.iload_n 2, 1) := by decide +kernel
theorem dX5_firstSquare_50 : decode cX5_firstSquare 50 = .ok (.aload_n 0, 1) := by decide +kernel
theorem dX5_firstSquare_51 : decode cX5_firstSquare 51 = .ok (.getfield 69, 3) := by decide +kernel
theorem dX5_firstSquare_54 : decode cX5_firstSquare 54 = .ok (.iadd, 1) := by decide +kernel
theorem dX5_firstSquare_55 : decode cX5_firstSquare 55 = .ok (.istore_n 2, 1) := by decide +kernel
theorem dX5_firstSquare_56 : decode cX5_firstSquare 56 = .ok (.goto (-51), 3) := by decide +kernel
theorem dX5_firstSquare_59 : decode cX5_firstSquare 59 = .ok (.iload_n 1, 1) := by decide +kernel
theorem dX5_firstSquare_60 : decode cX5_firstSquare 60 = .ok (.ireturn, 1) := by decide +kernel
set_option maxRecDepth 20000 in
theorem ggX5_nextSquare_X5_squares : GoodIn wsX5_nextSquare wsX5_squares := goodIn_r _ [7, 8, 9, 17, 18, 19, 20, 21, 22, 23, 24, 25, 26, 27, 28, 29, 30, 31, 32, 33, 34, 35, 36, 37, 38, 39, 40, 41, 42, 43, 44, 45] (by decide +kernel) (by decide +kernel)
set_option maxRecDepth 20000 in
theorem gX5_nextSquare_X5_squares : GoodIn wsX5_nextSquare (wsV RX5 75 RX5 yX5_squares wsX5_squares) := goodIn_app (goodIn_of _ (by decide +kernel)) ggX5_nextSquare_X5_squares
set_option maxRecDepth 20000 in
theorem ggX5_nextSquare_X5_areNext : GoodIn wsX5_nextSquare wsX5_areNext := goodIn_r _ [13, 8, 14, 15, 6, 16, 17, 18, 19, 20, 21, 22, 23, 24, 25, 26, 27, 28, 29, 30, 31, 32, 33, 34, 35, 36, 37, 38, 39, 40, 41, 42, 43, 44, 45] (by decide +kernel) (by decide +kernel)
set_option maxRecDepth 20000 in
theorem gX5_nextSquare_X5_areNext : GoodIn wsX5_nextSquare (wsV RX5 196 RX5 yX5_areNext wsX5_areNext) := goodIn_app (goodIn_of _ (by decide +kernel)) ggX5_nextSquare_X5_areNext
theorem dX5_nextSquare_0 : decode cX5_nextSquare 0 = .ok (.bipush (-9), 2) := by decide +kernel
theorem dX5_nextSquare_2 : decode cX5_nextSquare 2 = .ok (.istore_n 2, 1) := by decide +kernel
theorem dX5_nextSquare_3 : decode cX5_nextSquare 3 = .ok (.aload_n 0, 1) := by decide +kernel
theorem dX5_nextSquare_4 : decode cX5_nextSquare 4 = .ok (.invokevirtual 75, 3) := by decide +kernel
theorem dX5_nextSquare_7 : decode cX5_nextSquare 7 = .ok (.iconst 1, 1) := by decide +kernel
theorem dX5_nextSquare_8 : decode cX5_nextSquare 8 = .ok (.isub, 1) := by decide +kernel
theorem dX5_nextSquare_9 : decode cX5_nextSquare 9 = .ok (.istore_n 3, 1) := by decide +kernel
theorem dX5_nextSquare_10 : decode cX5_nextSquare 10 = .ok (.iload_n 3, 1) := by decide +kernel
theorem dX5_nextSquare_11 : decode cX5_nextSquare 11 = .ok (.ifCond .lt 46, 3) := by decide +kernel
theorem dX5_nextSquare_14 : decode cX5_nextSquare 14 = .ok (.aload_n 0, 1) := by decide +kernel
theorem dX5_nextSquare_15 : decode cX5_nextSquare 15 = .ok (.iload_n 1, 1) := by decide +kernel
theorem dX5_nextSquare_16 : decode cX5_nextSquare 16 = .ok (.iload_n 3, 1) := by decide +kernel
theorem dX5_nextSquare_17 : decode cX5_nextSquare 17 = .ok (.invokevirtual 196, 3) := by decide +kernel
theorem dX5_nextSquare_20 : decode cX5_nextSquare 20 = .ok (.ifCond .eq 29, 3) := by decide +kernel
theorem dX5_nextSquare_23 : decode cX5_nextSquare 23 = .ok (.aload_n 0, 1) := by decide +kernel
theorem dX5_nextSquare_24 : decode cX5_nextSquare 24 = .ok (.getfield 37, 3) := by decide +kernel
theorem dX5_nextSquare_27 : decode cX5_nextSquare 27 = .ok (.iload_n 1, 1) := by decide +kernel
theorem dX5_nextSquare_28 : decode cX5_nextSquare 28 = .ok (.iaload, 1) := by decide +kernel
theorem dX5_nextSquare_29 : decode cX5_nextSquare 29 = .ok (.aload_n 0, 1) := by decide +kernel
theorem dX5_nextSquare_30 : decode cX5_nextSquare 30 = .ok (.getfield 34, 3) := by decide +kernel
theorem dX5_nextSquare_33 : decode cX5_nextSquare 33 = .ok (.iload_n 3, 1) := by decide +kernel
theorem dX5_nextSquare_34 : decode cX5_nextSquare 34 = .ok (.iaload, 1) := by decide +kernel
theorem dX5_nextSquare_35 : decode cX5_nextSquare 35 = .ok (.iadd, 1) := by decide +kernel
theorem dX5_nextSquare_36 : decode cX5_nextSquare 36 = .ok (.aload_n 0, 1) := by decide +kernel
theorem dX5_nextSquare_37 : decode cX5_nextSquare 37 = .ok (.getfield 34, 3) := by decide +kernel
theorem dX5_nextSquare_40 : decode cX5_nextSquare 40 = .ok (.iload_n 1, 1) := by decide +kernel
theorem dX5_nextSquare_41 : decode cX5_nextSquare 41 = .ok (.iaload, 1) := by decide +kernel
theorem dX5_nextSquare_42 : decode cX5_nextSquare 42 = .ok (.if_icmp .ne 7, 3) := by decide +kernel
theorem dX5_nextSquare_45 : decode cX5_nextSquare 45 = .ok (.iload_n 3, 1) := by decide +kernel
theorem dX5_nextSquare_46 : decode cX5_nextSquare 46 = .ok (.goto 4, 3) := by decide +kernel
theorem dX5_nextSquare_49 : decode cX5_nextSquare 49 = .ok (.iload_n 2, 1) := by decide +kernel
theorem dX5_nextSquare_50 : decode cX5_nextSquare 50 = .ok (.istore_n 2, 1) := by decide +kernel
theorem dX5_nextSquare_51 : decode cX5_nextSquare 51 = .ok (.iinc 3 (-1), 3) := by decide +kernel
theorem dX5_nextSquare_54 : decode cX5_nextSquare 54 = .ok (.goto (-44), 3) := by decide +kernel
theorem dX5_nextSquare_57 : decode cX5_nextSquare 57 = .ok (.iload_n 2, 1) := by decide +kernel
theorem dX5_nextSquare_58 : decode cX5_nextSquare 58 = .ok (.ireturn, 1) := by decide +kernel
set_option maxRecDepth 20000 in
theorem ggX5_wayBy_X5_measure : GoodIn wsX5_wayBy wsX5_measure := goodIn_r _ [7, 8, 1, 9, 10, 11, 12, 6, 13, 14, 15, 16, 17, 18, 19, 20, 21, 2, 22, 23, 24, 25, 26, 27, 28, 29, 30, 31, 32, 33, 34, 35, 36, 37, 38, 39, 40, 41, 42, 43, 44, 45, 46, 47, 48, 49, 50, 51, 52, 53, 54, 55, 56, 57, 58, 59, 60, 61, 62, 63, 64, 65, 66, 67, 68, 69, 70, 71, 72, 73, 74, 75, 76, 77, 78, 87, 88, 89, 90, 91, 92, 93, 94, 95, 96, 97, 98, 99, 100, 101, 102, 103, 104, 105, 106, 107, 108, 109, 110, 111, 112, 113, 114, 115] (by decide +kernel) (by decide +kernel)
set_option maxRecDepth 20000 in
theorem gX5_wayBy_X5_measure : GoodIn wsX5_wayBy (wsV RX5 226 RX5 yX5_measure wsX5_measure) := goodIn_app (goodIn_of _ (by decide +kernel)) ggX5_wayBy_X5_measure
set_option maxRecDepth 20000 in
theorem ggX5_wayBy_X5_firstSquare : GoodIn wsX5_wayBy wsX5_firstSquare := goodIn_r _ [82, 1, 9, 14, 10, 11, 12, 6, 13, 15, 87, 88, 89, 90, 91, 92, 93, 94, 95, 96, 97, 98, 99, 100, 101, 102, 103, 104, 105, 106, 107, 108, 109, 110, 111, 112, 113, 114, 115] (by decide +kernel) (by decide +kernel)
set_option maxRecDepth 20000 in
theorem gX5_wayBy_X5_firstSquare : GoodIn wsX5_wayBy (wsV RX5 230 RX5 yX5_firstSquare wsX5_firstSquare) := goodIn_app (goodIn_of _ (by decide +kernel)) ggX5_wayBy_X5_firstSquare
set_option maxRecDepth 20000 in
theorem ggX5_wayBy_X5_nextSquare : GoodIn wsX5_wayBy wsX5_nextSquare := goodIn_r _ [86, 8, 1, 10, 11, 12, 6, 13, 14, 15, 75, 76, 77, 78, 51, 52, 53, 87, 88, 89, 90, 91, 92, 93, 94, 95, 96, 97, 98, 99, 100, 101, 102, 103, 104, 105, 106, 107, 108, 109, 110, 111, 112, 113, 114, 115] (by decide +kernel) (by decide +kernel)
set_option maxRecDepth 20000 in
theorem gX5_wayBy_X5_nextSquare : GoodIn wsX5_wayBy (wsV RX5 233 RX5 yX5_nextSquare wsX5_nextSquare) := goodIn_app (goodIn_of _ (by decide +kernel)) ggX5_wayBy_X5_nextSquare
theorem dX5_wayBy_0 : decode cX5_wayBy 0 = .ok (.aload_n 0, 1) := by decide +kernel
theorem dX5_wayBy_1 : decode cX5_wayBy 1 = .ok (.iload_n 1, 1) := by decide +kernel
theorem dX5_wayBy_2 : decode cX5_wayBy 2 = .ok (.iload_n 2, 1) := by decide +kernel
theorem dX5_wayBy_3 : decode cX5_wayBy 3 = .ok (.invokevirtual 226, 3) := by decide +kernel
theorem dX5_wayBy_6 : decode cX5_wayBy 6 = .ok (.aload_n 0, 1) := by decide +kernel
theorem dX5_wayBy_7 : decode cX5_wayBy 7 = .ok (.invokevirtual 230, 3) := by decide +kernel
theorem dX5_wayBy_10 : decode cX5_wayBy 10 = .ok (.istore 4, 2) := by decide +kernel
theorem dX5_wayBy_12 : decode cX5_wayBy 12 = .ok (.iload 4, 2) := by decide +kernel
theorem dX5_wayBy_14 : decode cX5_wayBy 14 = .ok (.ifCond .ge 6, 3) := by decide +kernel
theorem dX5_wayBy_17 : decode cX5_wayBy 17 = .ok (.bipush (-9), 2) := by decide +kernel
theorem dX5_wayBy_19 : decode cX5_wayBy 19 = .ok (.ireturn, 1) := by decide +kernel
theorem dX5_wayBy_20 : decode cX5_wayBy 20 = .ok (.aload_n 0, 1) := by decide +kernel
theorem dX5_wayBy_21 : decode cX5_wayBy 21 = .ok (.getfield 34, 3) := by decide +kernel
theorem dX5_wayBy_24 : decode cX5_wayBy 24 = .ok (.iload 4, 2) := by decide +kernel
theorem dX5_wayBy_26 : decode cX5_wayBy 26 = .ok (.iaload, 1) := by decide +kernel
theorem dX5_wayBy_27 : decode cX5_wayBy 27 = .ok (.istore 5, 2) := by decide +kernel
theorem dX5_wayBy_29 : decode cX5_wayBy 29 = .ok (.iload 5, 2) := by decide +kernel
theorem dX5_wayBy_31 : decode cX5_wayBy 31 = .ok (.bipush 64, 2) := by decide +kernel
theorem dX5_wayBy_33 : decode cX5_wayBy 33 = .ok (.irem, 1) := by decide +kernel
theorem dX5_wayBy_34 : decode cX5_wayBy 34 = .ok (.istore 6, 2) := by decide +kernel
theorem dX5_wayBy_36 : decode cX5_wayBy 36 = .ok (.iload_n 3, 1) := by decide +kernel
theorem dX5_wayBy_37 : decode cX5_wayBy 37 = .ok (.ifCond .ge 36, 3) := by decide +kernel
theorem dX5_wayBy_40 : decode cX5_wayBy 40 = .ok (.iload_n 3, 1) := by decide +kernel
theorem dX5_wayBy_41 : decode cX5_wayBy 41 = .ok (.iconst (-1), 1) := by decide +kernel
theorem dX5_wayBy_42 : decode cX5_wayBy 42 = .ok (.if_icmp .ne 8, 3) := by decide +kernel
theorem dX5_wayBy_45 : decode cX5_wayBy 45 = .ok (.iload 6, 2) := by decide +kernel
theorem dX5_wayBy_47 : decode cX5_wayBy 47 = .ok (.goto 25, 3) := by decide +kernel
theorem dX5_wayBy_50 : decode cX5_wayBy 50 = .ok (.iload_n 3, 1) := by decide +kernel
theorem dX5_wayBy_51 : decode cX5_wayBy 51 = .ok (.bipush (-2), 2) := by decide +kernel
theorem dX5_wayBy_53 : decode cX5_wayBy 53 = .ok (.if_icmp .ne 14, 3) := by decide +kernel
theorem dX5_wayBy_56 : decode cX5_wayBy 56 = .ok (.iload 5, 2) := by decide +kernel
theorem dX5_wayBy_58 : decode cX5_wayBy 58 = .ok (.ldc 218, 2) := by decide +kernel
theorem dX5_wayBy_60 : decode cX5_wayBy 60 = .ok (.irem, 1) := by decide +kernel
theorem dX5_wayBy_61 : decode cX5_wayBy 61 = .ok (.bipush 64, 2) := by decide +kernel
theorem dX5_wayBy_63 : decode cX5_wayBy 63 = .ok (.idiv, 1) := by decide +kernel
theorem dX5_wayBy_64 : decode cX5_wayBy 64 = .ok (.goto 8, 3) := by decide +kernel
theorem dX5_wayBy_67 : decode cX5_wayBy 67 = .ok (.iload 5, 2) := by decide +kernel
theorem dX5_wayBy_69 : decode cX5_wayBy 69 = .ok (.ldc 218, 2) := by decide +kernel
theorem dX5_wayBy_71 : decode cX5_wayBy 71 = .ok (.idiv, 1) := by decide +kernel
theorem dX5_wayBy_72 : decode cX5_wayBy 72 = .ok (.ireturn, 1) := by decide +kernel
theorem dX5_wayBy_73 : decode cX5_wayBy 73 = .ok (.iload_n 3, 1) := by decide +kernel
theorem dX5_wayBy_74 : decode cX5_wayBy 74 = .ok (.iload 6, 2) := by decide +kernel
theorem dX5_wayBy_76 : decode cX5_wayBy 76 = .ok (.if_icmp .lt 6, 3) := by decide +kernel
theorem dX5_wayBy_79 : decode cX5_wayBy 79 = .ok (.bipush (-9), 2) := by decide +kernel
theorem dX5_wayBy_81 : decode cX5_wayBy 81 = .ok (.ireturn, 1) := by decide +kernel
theorem dX5_wayBy_82 : decode cX5_wayBy 82 = .ok (.iconst 0, 1) := by decide +kernel
theorem dX5_wayBy_83 : decode cX5_wayBy 83 = .ok (.istore 7, 2) := by decide +kernel
theorem dX5_wayBy_85 : decode cX5_wayBy 85 = .ok (.iload 7, 2) := by decide +kernel
theorem dX5_wayBy_87 : decode cX5_wayBy 87 = .ok (.iload_n 3, 1) := by decide +kernel
theorem dX5_wayBy_88 : decode cX5_wayBy 88 = .ok (.if_icmp .ge 17, 3) := by decide +kernel
theorem dX5_wayBy_91 : decode cX5_wayBy 91 = .ok (.aload_n 0, 1) := by decide +kernel
theorem dX5_wayBy_92 : decode cX5_wayBy 92 = .ok (.iload 4, 2) := by decide +kernel
theorem dX5_wayBy_94 : decode cX5_wayBy 94 = .ok (.invokevirtual 233, 3) := by decide +kernel
theorem dX5_wayBy_97 : decode cX5_wayBy 97 = .ok (.istore 4, 2) := by decide +kernel
theorem dX5_wayBy_99 : decode cX5_wayBy 99 = .ok (.iinc 7 1, 3) := by decide +kernel
theorem dX5_wayBy_102 : decode cX5_wayBy 102 = .ok (.goto (-17), 3) := by decide +kernel
theorem dX5_wayBy_105 : decode cX5_wayBy 105 = .ok (.iload 4, 2) := by decide +kernel
theorem dX5_wayBy_107 : decode cX5_wayBy 107 = .ok (.ireturn, 1) := by decide +kernel
set_option maxRecDepth 20000 in
theorem ggX5_sap_X5_noSquare : GoodIn wsX5_sap wsX5_noSquare := goodIn_r _ [7, 8, 9, 10, 6, 11, 12, 13, 14, 15, 16, 97, 98, 99, 100, 101, 102, 103, 104, 105, 106, 107, 108, 109, 110, 111, 112, 113, 114, 115, 116, 117, 118, 119, 120, 121, 122, 123, 124, 125] (by decide +kernel) (by decide +kernel)
set_option maxRecDepth 20000 in
theorem gX5_sap_X5_noSquare : GoodIn wsX5_sap (wsV RX5 156 RX5 yX5_noSquare wsX5_noSquare) := goodIn_app (goodIn_of _ (by decide +kernel)) ggX5_sap_X5_noSquare
set_option maxRecDepth 20000 in
theorem ggX5_sap_X5_in : GoodIn wsX5_sap wsX5_in := goodIn_r _ [16] (by decide +kernel) (by decide +kernel)
set_option maxRecDepth 20000 in
theorem gX5_sap_X5_in : GoodIn wsX5_sap (va_wsS RX5 79 yX5_in wsX5_in) := goodIn_app (goodIn_of _ (by decide +kernel)) ggX5_sap_X5_in
set_option maxRecDepth 20000 in
theorem ggX5_sap_X5_wayBy : GoodIn wsX5_sap wsX5_wayBy := goodIn_r _ [20, 21, 22, 23, 24, 25, 6, 26, 27, 28, 8, 9, 10, 11, 12, 13, 29, 30, 31, 32, 33, 34, 35, 36, 37, 38, 39, 40, 41, 42, 43, 44, 45, 46, 47, 48, 49, 50, 51, 52, 53, 54, 55, 56, 57, 58, 59, 60, 61, 62, 63, 64, 65, 66, 14, 15, 16, 67, 68, 69, 70, 71, 72, 73, 74, 75, 76, 77, 78, 79, 80, 81, 82, 83, 84, 85, 86, 87, 88, 89, 90, 91, 92, 93, 94, 95, 96, 97, 98, 99, 100, 101, 102, 103, 104, 105, 106, 107, 108, 109, 110, 111, 112, 113, 114, 115, 116, 117, 118, 119, 120, 121, 122, 123, 124, 125] (by decide +kernel) (by decide +kernel)
set_option maxRecDepth 20000 in
theorem gX5_sap_X5_wayBy : GoodIn wsX5_sap (wsV RX5 240 RX5 yX5_wayBy wsX5_wayBy) := goodIn_app (goodIn_of _ (by decide +kernel)) ggX5_sap_X5_wayBy
theorem dX5_sap_0 : decode cX5_sap 0 = .ok (.aload_n 0, 1) := by decide +kernel
theorem dX5_sap_1 : decode cX5_sap 1 = .ok (.iload_n 1, 1) := by decide +kernel
theorem dX5_sap_2 : decode cX5_sap 2 = .ok (.invokevirtual 156, 3) := by decide +kernel
theorem dX5_sap_5 : decode cX5_sap 5 = .ok (.ifCond .eq 5, 3) := by decide +kernel
theorem dX5_sap_8 : decode cX5_sap 8 = .ok (.iconst (-1), 1) := by decide +kernel
theorem dX5_sap_9 : decode cX5_sap 9 = .ok (.ireturn, 1) := by decide +kernel
theorem dX5_sap_10 : decode cX5_sap 10 = .ok (.iload_n 2, 1) := by decide +kernel
theorem dX5_sap_11 : decode cX5_sap 11 = .ok (.i2l, 1) := by decide +kernel
theorem dX5_sap_12 : decode cX5_sap 12 = .ok (.ldc2_w 236, 3) := by decide +kernel
theorem dX5_sap_15 : decode cX5_sap 15 = .ok (.ldc2_w 238, 3) := by decide +kernel
theorem dX5_sap_18 : decode cX5_sap 18 = .ok (.invokestatic 79, 3) := by decide +kernel
theorem dX5_sap_21 : decode cX5_sap 21 = .ok (.ifCond .eq 13, 3) := by decide +kernel
theorem dX5_sap_24 : decode cX5_sap 24 = .ok (.aload_n 0, 1) := by decide +kernel
theorem dX5_sap_25 : decode cX5_sap 25 = .ok (.iload_n 1, 1) := by decide +kernel
theorem dX5_sap_26 : decode cX5_sap 26 = .ok (.iconst 0, 1) := by decide +kernel
theorem dX5_sap_27 : decode cX5_sap 27 = .ok (.iload_n 2, 1) := by decide +kernel
theorem dX5_sap_28 : decode cX5_sap 28 = .ok (.invokevirtual 240, 3) := by decide +kernel
theorem dX5_sap_31 : decode cX5_sap 31 = .ok (.goto 5, 3) := by decide +kernel
theorem dX5_sap_34 : decode cX5_sap 34 = .ok (.bipush (-2), 2) := by decide +kernel
theorem dX5_sap_36 : decode cX5_sap 36 = .ok (.ireturn, 1) := by decide +kernel
set_option maxRecDepth 20000 in
theorem ggX5_rush_X5_noSquare : GoodIn wsX5_rush wsX5_noSquare := goodIn_r _ [7, 8, 9, 10, 6, 11, 12, 13, 14, 15, 16, 97, 98, 99, 100, 101, 102, 103, 104, 105, 106, 107, 108, 109, 110, 111, 112, 113, 114, 115, 116, 117, 118, 119, 120, 121, 122, 123, 124, 125] (by decide +kernel) (by decide +kernel)
set_option maxRecDepth 20000 in
theorem gX5_rush_X5_noSquare : GoodIn wsX5_rush (wsV RX5 156 RX5 yX5_noSquare wsX5_noSquare) := goodIn_app (goodIn_of _ (by decide +kernel)) ggX5_rush_X5_noSquare
set_option maxRecDepth 20000 in
theorem ggX5_rush_X5_in : GoodIn wsX5_rush wsX5_in := goodIn_r _ [16] (by decide +kernel) (by decide +kernel)
set_option maxRecDepth 20000 in
theorem gX5_rush_X5_in : GoodIn wsX5_rush (va_wsS RX5 79 yX5_in wsX5_in) := goodIn_app (goodIn_of _ (by decide +kernel)) ggX5_rush_X5_in
set_option maxRecDepth 20000 in
theorem ggX5_rush_X5_wayBy : GoodIn wsX5_rush wsX5_wayBy := goodIn_r _ [20, 21, 22, 23, 24, 25, 6, 26, 27, 28, 8, 9, 10, 11, 12, 13, 29, 30, 31, 32, 33, 34, 35, 36, 37, 38, 39, 40, 41, 42, 43, 44, 45, 46, 47, 48, 49, 50, 51, 52, 53, 54, 55, 56, 57, 58, 59, 60, 61, 62, 63, 64, 65, 66, 14, 15, 16, 67, 68, 69, 70, 71, 72, 73, 74, 75, 76, 77, 78, 79, 80, 81, 82, 83, 84, 85, 86, 87, 88, 89, 90, 91, 92, 93, 94, 95, 96, 97, 98, 99, 100, 101, 102, 103, 104, 105, 106, 107, 108, 109, 110, 111, 112, 113, 114, 115, 116, 117, 118, 119, 120, 121, 122, 123, 124, 125] (by decide +kernel) (by decide +kernel)
set_option maxRecDepth 20000 in
theorem gX5_rush_X5_wayBy : GoodIn wsX5_rush (wsV RX5 240 RX5 yX5_wayBy wsX5_wayBy) := goodIn_app (goodIn_of _ (by decide +kernel)) ggX5_rush_X5_wayBy
theorem dX5_rush_0 : decode cX5_rush 0 = .ok (.aload_n 0, 1) := by decide +kernel
theorem dX5_rush_1 : decode cX5_rush 1 = .ok (.iload_n 1, 1) := by decide +kernel
theorem dX5_rush_2 : decode cX5_rush 2 = .ok (.invokevirtual 156, 3) := by decide +kernel
theorem dX5_rush_5 : decode cX5_rush 5 = .ok (.ifCond .eq 5, 3) := by decide +kernel
theorem dX5_rush_8 : decode cX5_rush 8 = .ok (.iconst (-1), 1) := by decide +kernel
theorem dX5_rush_9 : decode cX5_rush 9 = .ok (.ireturn, 1) := by decide +kernel
theorem dX5_rush_10 : decode cX5_rush 10 = .ok (.iload_n 2, 1) := by decide +kernel
theorem dX5_rush_11 : decode cX5_rush 11 = .ok (.i2l, 1) := by decide +kernel
theorem dX5_rush_12 : decode cX5_rush 12 = .ok (.ldc2_w 244, 3) := by decide +kernel
theorem dX5_rush_15 : decode cX5_rush 15 = .ok (.ldc2_w 238, 3) := by decide +kernel
theorem dX5_rush_18 : decode cX5_rush 18 = .ok (.invokestatic 79, 3) := by decide +kernel
theorem dX5_rush_21 : decode cX5_rush 21 = .ok (.ifCond .eq 13, 3) := by decide +kernel
theorem dX5_rush_24 : decode cX5_rush 24 = .ok (.aload_n 0, 1) := by decide +kernel
theorem dX5_rush_25 : decode cX5_rush 25 = .ok (.iload_n 1, 1) := by decide +kernel
theorem dX5_rush_26 : decode cX5_rush 26 = .ok (.iconst 1, 1) := by decide +kernel
theorem dX5_rush_27 : decode cX5_rush 27 = .ok (.iload_n 2, 1) := by decide +kernel
theorem dX5_rush_28 : decode cX5_rush 28 = .ok (.invokevirtual 240, 3) := by decide +kernel
theorem dX5_rush_31 : decode cX5_rush 31 = .ok (.goto 5, 3) := by decide +kernel
theorem dX5_rush_34 : decode cX5_rush 34 = .ok (.bipush (-2), 2) := by decide +kernel
theorem dX5_rush_36 : decode cX5_rush 36 = .ok (.ireturn, 1) := by decide +kernel
set_option maxRecDepth 20000 in
theorem ggX5_silence_X5_noSquare : GoodIn wsX5_silence wsX5_noSquare := goodIn_r _ [7, 8, 9, 10, 6, 11, 12, 13, 14, 15, 16, 98, 99, 100, 101, 102, 103, 104, 105, 106, 107, 108, 109, 110, 111, 112, 113, 114, 115, 116, 117, 118, 119, 120, 121, 122, 123, 124, 125, 126] (by decide +kernel) (by decide +kernel)
set_option maxRecDepth 20000 in
theorem gX5_silence_X5_noSquare : GoodIn wsX5_silence (wsV RX5 156 RX5 yX5_noSquare wsX5_noSquare) := goodIn_app (goodIn_of _ (by decide +kernel)) ggX5_silence_X5_noSquare
set_option maxRecDepth 20000 in
theorem ggX5_silence_X5_bits : GoodIn wsX5_silence wsX5_bits := goodIn_r _ [19] (by decide +kernel) (by decide +kernel)
set_option maxRecDepth 20000 in
theorem gX5_silence_X5_bits : GoodIn wsX5_silence (va_wsS RX5 202 yX5_bits wsX5_bits) := goodIn_app (goodIn_of _ (by decide +kernel)) ggX5_silence_X5_bits
set_option maxRecDepth 20000 in
theorem ggX5_silence_X5_wayBy : GoodIn wsX5_silence wsX5_wayBy := goodIn_r _ [23, 24, 25, 26, 27, 28, 6, 29, 30, 31, 8, 9, 10, 11, 12, 13, 32, 33, 34, 35, 36, 37, 38, 39, 40, 41, 1, 42, 43, 44, 45, 2, 46, 47, 48, 49, 50, 51, 52, 53, 54, 55, 56, 57, 58, 59, 60, 61, 62, 63, 64, 65, 66, 67, 14, 15, 16, 68, 69, 70, 71, 72, 73, 74, 75, 76, 77, 78, 79, 80, 81, 82, 83, 84, 85, 86, 87, 88, 89, 90, 91, 92, 93, 94, 95, 96, 97, 98, 99, 100, 101, 102, 103, 104, 105, 106, 107, 108, 109, 110, 111, 112, 113, 114, 115, 116, 117, 118, 119, 120, 121, 122, 123, 124, 125, 126] (by decide +kernel) (by decide +kernel)
set_option maxRecDepth 20000 in
theorem gX5_silence_X5_wayBy : GoodIn wsX5_silence (wsV RX5 240 RX5 yX5_wayBy wsX5_wayBy) := goodIn_app (goodIn_of _ (by decide +kernel)) ggX5_silence_X5_wayBy
theorem dX5_silence_0 : decode cX5_silence 0 = .ok (.aload_n 0, 1) := by decide +kernel
theorem dX5_silence_1 : decode cX5_silence 1 = .ok (.iload_n 1, 1) := by decide +kernel
theorem dX5_silence_2 : decode cX5_silence 2 = .ok (.invokevirtual 156, 3) := by decide +kernel
theorem dX5_silence_5 : decode cX5_silence 5 = .ok (.ifCond .eq 5, 3) := by decide +kernel
theorem dX5_silence_8 : decode cX5_silence 8 = .ok (.iconst (-1), 1) := by decide +kernel
theorem dX5_silence_9 : decode cX5_silence 9 = .ok (.ireturn, 1) := by decide +kernel
theorem dX5_silence_10 : decode cX5_silence 10 = .ok (.aload_n 0, 1) := by decide +kernel
theorem dX5_silence_11 : decode cX5_silence 11 = .ok (.getfield 137, 3) := by decide +kernel
theorem dX5_silence_14 : decode cX5_silence 14 = .ok (.istore_n 2, 1) := by decide +kernel
theorem dX5_silence_15 : decode cX5_silence 15 = .ok (.bipush (-9), 2) := by decide +kernel
theorem dX5_silence_17 : decode cX5_silence 17 = .ok (.istore_n 3, 1) := by decide +kernel
theorem dX5_silence_18 : decode cX5_silence 18 = .ok (.iconst 0, 1) := by decide +kernel
theorem dX5_silence_19 : decode cX5_silence 19 = .ok (.istore 4, 2) := by decide +kernel
theorem dX5_silence_21 : decode cX5_silence 21 = .ok (.iload 4, 2) := by decide +kernel
theorem dX5_silence_23 : decode cX5_silence 23 = .ok (.iconst 1, 1) := by decide +kernel
theorem dX5_silence_24 : decode cX5_silence 24 = .ok (.aload_n 0, 1) := by decide +kernel
theorem dX5_silence_25 : decode cX5_silence 25 = .ok (.getfield 83, 3) := by decide +kernel
theorem dX5_silence_28 : decode cX5_silence 28 = .ok (.ishl, 1) := by decide +kernel
theorem dX5_silence_29 : decode cX5_silence 29 = .ok (.if_icmp .ge 59, 3) := by decide +kernel
theorem dX5_silence_32 : decode cX5_silence 32 = .ok (.iload 4, 2) := by decide +kernel
theorem dX5_silence_34 : decode cX5_silence 34 = .ok (.iload_n 2, 1) := by decide +kernel
theorem dX5_silence_35 : decode cX5_silence 35 = .ok (.iand, 1) := by decide +kernel
theorem dX5_silence_36 : decode cX5_silence 36 = .ok (.ifCond .ne 46, 3) := by decide +kernel
theorem dX5_silence_39 : decode cX5_silence 39 = .ok (.iload_n 3, 1) := by decide +kernel
theorem dX5_silence_40 : decode cX5_silence 40 = .ok (.ifCond .lt 17, 3) := by decide +kernel
theorem dX5_silence_43 : decode cX5_silence 43 = .ok (.iload 4, 2) := by decide +kernel
theorem dX5_silence_45 : decode cX5_silence 45 = .ok (.i2l, 1) := by decide +kernel
theorem dX5_silence_46 : decode cX5_silence 46 = .ok (.invokestatic 202, 3) := by decide +kernel
theorem dX5_silence_49 : decode cX5_silence 49 = .ok (.iload_n 3, 1) := by decide +kernel
theorem dX5_silence_50 : decode cX5_silence 50 = .ok (.i2l, 1) := by decide +kernel
theorem dX5_silence_51 : decode cX5_silence 51 = .ok (.invokestatic 202, 3) := by decide +kernel
theorem dX5_silence_54 : decode cX5_silence 54 = .ok (.if_icmp .ge 28, 3) := by decide +kernel
theorem dX5_silence_57 : decode cX5_silence 57 = .ok (.aload_n 0, 1) := by decide +kernel
theorem dX5_silence_58 : decode cX5_silence 58 = .ok (.iload_n 2, 1) := by decide +kernel
theorem dX5_silence_59 : decode cX5_silence 59 = .ok (.iload 4, 2) := by decide +kernel
theorem dX5_silence_61 : decode cX5_silence 61 = .ok (.ior, 1) := by decide +kernel
theorem dX5_silence_62 : decode cX5_silence 62 = .ok (.putfield 137, 3) := by decide +kernel
theorem dX5_silence_65 : decode cX5_silence 65 = .ok (.aload_n 0, 1) := by decide +kernel
theorem dX5_silence_66 : decode cX5_silence 66 = .ok (.iload_n 1, 1) := by decide +kernel
theorem dX5_silence_67 : decode cX5_silence 67 = .ok (.iconst 0, 1) := by decide +kernel
theorem dX5_silence_68 : decode cX5_silence 68 = .ok (.iconst (-1), 1) := by decide +kernel
theorem dX5_silence_69 : decode cX5_silence 69 = .ok (.invokevirtual 240, 3) := by decide +kernel
theorem dX5_silence_72 : decode cX5_silence 72 = .ok (.ifCond .le 8, 3) := by decide +kernel
theorem dX5_silence_75 : decode cX5_silence 75 = .ok (.iload 4, 2) := by decide +kernel
theorem dX5_silence_77 : decode cX5_silence 77 = .ok (.goto 4, 3) := by decide +kernel
theorem dX5_silence_80 : decode cX5_silence 80 = .ok (.iload_n 3, 1) := by decide +kernel
theorem dX5_silence_81 : decode cX5_silence 81 = .ok (.istore_n 3, 1) := by decide +kernel
theorem dX5_silence_82 : decode cX5_silence 82 = .ok (.iinc 4 1, 3) := by decide +kernel
theorem dX5_silence_85 : decode cX5_silence 85 = .ok (.goto (-64), 3) := by decide +kernel
theorem dX5_silence_88 : decode cX5_silence 88 = .ok (.aload_n 0, 1) := by decide +kernel
theorem dX5_silence_89 : decode cX5_silence 89 = .ok (.iload_n 2, 1) := by decide +kernel
theorem dX5_silence_90 : decode cX5_silence 90 = .ok (.putfield 137, 3) := by decide +kernel
theorem dX5_silence_93 : decode cX5_silence 93 = .ok (.iload_n 3, 1) := by decide +kernel
theorem dX5_silence_94 : decode cX5_silence 94 = .ok (.ireturn, 1) := by decide +kernel
set_option maxRecDepth 20000 in
theorem ggX5_breachOf_X5_squares : GoodIn wsX5_breachOf wsX5_squares := goodIn_r _ [6, 7, 8, 91, 92, 93, 94, 95, 96, 97, 98, 99, 100, 101, 102, 103, 104, 105, 106, 107, 108, 109, 110, 111, 112, 113, 114, 115, 116, 117, 118, 119] (by decide +kernel) (by decide +kernel)
set_option maxRecDepth 20000 in
theorem gX5_breachOf_X5_squares : GoodIn wsX5_breachOf (wsV RX5 75 RX5 yX5_squares wsX5_squares) := goodIn_app (goodIn_of _ (by decide +kernel)) ggX5_breachOf_X5_squares
set_option maxRecDepth 20000 in
theorem ggX5_breachOf_X5_areNext : GoodIn wsX5_breachOf wsX5_areNext := goodIn_r _ [12, 7, 13, 14, 5, 15, 91, 92, 93, 94, 95, 96, 97, 98, 99, 100, 101, 102, 103, 104, 105, 106, 107, 108, 109, 110, 111, 112, 113, 114, 115, 116, 117, 118, 119] (by decide +kernel) (by decide +kernel)
set_option maxRecDepth 20000 in
theorem gX5_breachOf_X5_areNext : GoodIn wsX5_breachOf (wsV RX5 196 RX5 yX5_areNext wsX5_areNext) := goodIn_app (goodIn_of _ (by decide +kernel)) ggX5_breachOf_X5_areNext
set_option maxRecDepth 20000 in
theorem ggX5_breachOf_X5_wayBy : GoodIn wsX5_breachOf wsX5_wayBy := goodIn_r _ [19, 20, 21, 22, 23, 24, 5, 25, 26, 27, 2, 3, 4, 6, 7, 8, 28, 29, 30, 31, 32, 33, 34, 35, 36, 37, 38, 39, 40, 41, 42, 43, 44, 45, 46, 47, 48, 49, 50, 51, 1, 52, 53, 54, 55, 56, 57, 58, 59, 60, 61, 13, 14, 15, 62, 63, 64, 65, 66, 67, 68, 69, 70, 71, 72, 73, 74, 75, 76, 77, 78, 79, 80, 81, 82, 9, 10, 11, 12, 83, 84, 85, 86, 87, 88, 89, 90, 91, 92, 93, 94, 95, 96, 97, 98, 99, 100, 101, 102, 103, 104, 105, 106, 107, 108, 109, 110, 111, 112, 113, 114, 115, 116, 117, 118, 119] (by decide +kernel) (by decide +kernel)
set_option maxRecDepth 20000 in
theorem gX5_breachOf_X5_wayBy : GoodIn wsX5_breachOf (wsV RX5 240 RX5 yX5_wayBy wsX5_wayBy) := goodIn_app (goodIn_of _ (by decide +kernel)) ggX5_breachOf_X5_wayBy
theorem dX5_breachOf_0 : decode cX5_breachOf 0 = .ok (.bipush (-9), 2) := by decide +kernel
theorem dX5_breachOf_2 : decode cX5_breachOf 2 = .ok (.istore_n 2, 1) := by decide +kernel
theorem dX5_breachOf_3 : decode cX5_breachOf 3 = .ok (.iconst 0, 1) := by decide +kernel
theorem dX5_breachOf_4 : decode cX5_breachOf 4 = .ok (.istore_n 3, 1) := by decide +kernel
theorem dX5_breachOf_5 : decode cX5_breachOf 5 = .ok (.iload_n 3, 1) := by decide +kernel
theorem dX5_breachOf_6 : decode cX5_breachOf 6 = .ok (.aload_n 0, 1) := by decide +kernel
theorem dX5_breachOf_7 : decode cX5_breachOf 7 = .ok (.invokevirtual 75, 3) := by decide +kernel
theorem dX5_breachOf_10 : decode cX5_breachOf 10 = .ok (.if_icmp .ge 60, 3) := by decide +kernel
theorem dX5_breachOf_13 : decode cX5_breachOf 13 = .ok (.aload_n 0, 1) := by decide +kernel
theorem dX5_breachOf_14 : decode cX5_breachOf 14 = .ok (.iload_n 3, 1) := by decide +kernel
theorem dX5_breachOf_15 : decode cX5_breachOf 15 = .ok (.aload_n 0, 1) := by decide +kernel
theorem dX5_breachOf_16 : decode cX5_breachOf 16 = .ok (.getfield 16, 3) := by decide +kernel
theorem dX5_breachOf_19 : decode cX5_breachOf 19 = .ok (.iload_n 1, 1) := by decide +kernel
theorem dX5_breachOf_20 : decode cX5_breachOf 20 = .ok (.iaload, 1) := by decide +kernel
theorem dX5_breachOf_21 : decode cX5_breachOf 21 = .ok (.invokevirtual 196, 3) := by decide +kernel
theorem dX5_breachOf_24 : decode cX5_breachOf 24 = .ok (.ifCond .eq 14, 3) := by decide +kernel
theorem dX5_breachOf_27 : decode cX5_breachOf 27 = .ok (.aload_n 0, 1) := by decide +kernel
theorem dX5_breachOf_28 : decode cX5_breachOf 28 = .ok (.iload_n 3, 1) := by decide +kernel
theorem dX5_breachOf_29 : decode cX5_breachOf 29 = .ok (.iconst 0, 1) := by decide +kernel
theorem dX5_breachOf_30 : decode cX5_breachOf 30 = .ok (.bipush (-2), 2) := by decide +kernel
theorem dX5_breachOf_32 : decode cX5_breachOf 32 = .ok (.invokevirtual 240, 3) := by decide +kernel
theorem dX5_breachOf_35 : decode cX5_breachOf 35 = .ok (.goto 5, 3) := by decide +kernel
theorem dX5_breachOf_38 : decode cX5_breachOf 38 = .ok (.bipush (-9), 2) := by decide +kernel
theorem dX5_breachOf_40 : decode cX5_breachOf 40 = .ok (.istore 4, 2) := by decide +kernel
theorem dX5_breachOf_42 : decode cX5_breachOf 42 = .ok (.iload 4, 2) := by decide +kernel
theorem dX5_breachOf_44 : decode cX5_breachOf 44 = .ok (.ifCond .lt 18, 3) := by decide +kernel
theorem dX5_breachOf_47 : decode cX5_breachOf 47 = .ok (.iload_n 2, 1) := by decide +kernel
theorem dX5_breachOf_48 : decode cX5_breachOf 48 = .ok (.ifCond .lt 9, 3) := by decide +kernel
theorem dX5_breachOf_51 : decode cX5_breachOf 51 = .ok (.iload 4, 2) := by decide +kernel
theorem dX5_breachOf_53 : decode cX5_breachOf 53 = .ok (.iload_n 2, 1) := by decide +kernel
theorem dX5_breachOf_54 : decode cX5_breachOf 54 = .ok (.if_icmp .ge 8, 3) := by decide +kernel
theorem dX5_breachOf_57 : decode cX5_breachOf 57 = .ok (.iload 4, 2) := by decide +kernel
theorem dX5_breachOf_59 : decode cX5_breachOf 59 = .ok (.goto 4, 3) := by decide +kernel
theorem dX5_breachOf_62 : decode cX5_breachOf 62 = .ok (.iload_n 2, 1) := by decide +kernel
theorem dX5_breachOf_63 : decode cX5_breachOf 63 = .ok (.istore_n 2, 1) := by decide +kernel
theorem dX5_breachOf_64 : decode cX5_breachOf 64 = .ok (.iinc 3 1, 3) := by decide +kernel
theorem dX5_breachOf_67 : decode cX5_breachOf 67 = .ok (.goto (-62), 3) := by decide +kernel
theorem dX5_breachOf_70 : decode cX5_breachOf 70 = .ok (.iload_n 2, 1) := by decide +kernel
theorem dX5_breachOf_71 : decode cX5_breachOf 71 = .ok (.ireturn, 1) := by decide +kernel
set_option maxRecDepth 20000 in
theorem ggX5_breach_X5_noGun : GoodIn wsX5_breach wsX5_noGun := goodIn_r _ [5, 6, 7, 8, 4, 9, 99, 100, 101, 102, 103, 104, 105, 106, 107, 108, 109, 110, 111, 112, 113, 114, 115, 116, 117, 118, 119, 120, 121, 122, 123, 124, 125, 126, 127] (by decide +kernel) (by decide +kernel)
set_option maxRecDepth 20000 in
theorem gX5_breach_X5_noGun : GoodIn wsX5_breach (wsV RX5 147 RX5 yX5_noGun wsX5_noGun) := goodIn_app (goodIn_of _ (by decide +kernel)) ggX5_breach_X5_noGun
set_option maxRecDepth 20000 in
theorem ggX5_breach_X5_breachOf : GoodIn wsX5_breach wsX5_breachOf := goodIn_r _ [13, 14, 15, 16, 17, 4, 18, 19, 20, 21, 22, 23, 24, 25, 26, 27, 28, 29, 30, 31, 32, 33, 34, 35, 36, 37, 38, 39, 40, 41, 42, 43, 44, 45, 46, 47, 48, 49, 50, 51, 52, 53, 54, 6, 55, 56, 57, 58, 59, 60, 61, 62, 63, 64, 65, 66, 67, 68, 69, 70, 71, 72, 7, 8, 9, 73, 74, 75, 76, 77, 78, 79, 80, 81, 82, 83, 84, 85, 86, 87, 88, 89, 90, 91, 92, 93, 94, 95, 96, 97, 98, 99, 100, 101, 102, 103, 104, 105, 106, 107, 108, 109, 110, 111, 112, 113, 114, 115, 116, 117, 118, 119, 120, 121, 122, 123, 124, 125, 126, 127] (by decide +kernel) (by decide +kernel)
set_option maxRecDepth 20000 in
theorem gX5_breach_X5_breachOf : GoodIn wsX5_breach (wsV RX5 246 RX5 yX5_breachOf wsX5_breachOf) := goodIn_app (goodIn_of _ (by decide +kernel)) ggX5_breach_X5_breachOf
theorem dX5_breach_0 : decode cX5_breach 0 = .ok (.aload_n 0, 1) := by decide +kernel
theorem dX5_breach_1 : decode cX5_breach 1 = .ok (.iload_n 1, 1) := by decide +kernel
theorem dX5_breach_2 : decode cX5_breach 2 = .ok (.invokevirtual 147, 3) := by decide +kernel
theorem dX5_breach_5 : decode cX5_breach 5 = .ok (.ifCond .eq 7, 3) := by decide +kernel
theorem dX5_breach_8 : decode cX5_breach 8 = .ok (.iconst (-1), 1) := by decide +kernel
theorem dX5_breach_9 : decode cX5_breach 9 = .ok (.goto 8, 3) := by decide +kernel
theorem dX5_breach_12 : decode cX5_breach 12 = .ok (.aload_n 0, 1) := by decide +kernel
theorem dX5_breach_13 : decode cX5_breach 13 = .ok (.iload_n 1, 1) := by decide +kernel
theorem dX5_breach_14 : decode cX5_breach 14 = .ok (.invokevirtual 246, 3) := by decide +kernel
theorem dX5_breach_17 : decode cX5_breach 17 = .ok (.ireturn, 1) := by decide +kernel
set_option maxRecDepth 20000 in
theorem ggX5_day_X5_in : GoodIn wsX5_day wsX5_in := goodIn_r _ [5] (by decide +kernel) (by decide +kernel)
set_option maxRecDepth 20000 in
theorem gX5_day_X5_in : GoodIn wsX5_day (va_wsS RX5 79 yX5_in wsX5_in) := goodIn_app (goodIn_of _ (by decide +kernel)) ggX5_day_X5_in
set_option maxRecDepth 20000 in
theorem ggX5_day_X5_breachOf : GoodIn wsX5_day wsX5_breachOf := goodIn_r _ [9, 10, 11, 12, 13, 4, 14, 15, 16, 17, 18, 19, 20, 21, 22, 23, 24, 25, 26, 27, 28, 29, 30, 31, 32, 33, 34, 35, 36, 37, 38, 39, 40, 41, 42, 43, 44, 45, 46, 47, 48, 49, 50, 1, 51, 52, 53, 54, 55, 56, 57, 58, 59, 60, 61, 62, 63, 64, 65, 66, 67, 68, 2, 3, 5, 69, 70, 71, 72, 73, 74, 75, 76, 77, 78, 79, 80, 81, 82, 83, 84, 85, 86, 87, 88, 89, 90, 91, 92, 93, 94, 95, 96, 97, 98, 99, 100, 101, 102, 103, 104, 105, 106, 107, 108, 109, 110, 111, 112, 113, 114, 115, 116, 117, 118, 119, 120, 121, 122, 123] (by decide +kernel) (by decide +kernel)
set_option maxRecDepth 20000 in
theorem gX5_day_X5_breachOf : GoodIn wsX5_day (wsV RX5 246 RX5 yX5_breachOf wsX5_breachOf) := goodIn_app (goodIn_of _ (by decide +kernel)) ggX5_day_X5_breachOf
theorem dX5_day_0 : decode cX5_day 0 = .ok (.iload_n 1, 1) := by decide +kernel
theorem dX5_day_1 : decode cX5_day 1 = .ok (.i2l, 1) := by decide +kernel
theorem dX5_day_2 : decode cX5_day 2 = .ok (.lconst 0, 1) := by decide +kernel
theorem dX5_day_3 : decode cX5_day 3 = .ok (.lconst 1, 1) := by decide +kernel
theorem dX5_day_4 : decode cX5_day 4 = .ok (.invokestatic 79, 3) := by decide +kernel
theorem dX5_day_7 : decode cX5_day 7 = .ok (.ifCond .ne 6, 3) := by decide +kernel
theorem dX5_day_10 : decode cX5_day 10 = .ok (.bipush (-2), 2) := by decide +kernel
theorem dX5_day_12 : decode cX5_day 12 = .ok (.ireturn, 1) := by decide +kernel
theorem dX5_day_13 : decode cX5_day 13 = .ok (.aload_n 0, 1) := by decide +kernel
theorem dX5_day_14 : decode cX5_day 14 = .ok (.getfield 83, 3) := by decide +kernel
theorem dX5_day_17 : decode cX5_day 17 = .ok (.ifCond .ne 6, 3) := by decide +kernel
theorem dX5_day_20 : decode cX5_day 20 = .ok (.bipush (-3), 2) := by decide +kernel
theorem dX5_day_22 : decode cX5_day 22 = .ok (.ireturn, 1) := by decide +kernel
theorem dX5_day_23 : decode cX5_day 23 = .ok (.bipush (-9), 2) := by decide +kernel
theorem dX5_day_25 : decode cX5_day 25 = .ok (.istore_n 2, 1) := by decide +kernel
theorem dX5_day_26 : decode cX5_day 26 = .ok (.bipush (-9), 2) := by decide +kernel
theorem dX5_day_28 : decode cX5_day 28 = .ok (.istore_n 3, 1) := by decide +kernel
theorem dX5_day_29 : decode cX5_day 29 = .ok (.iconst 0, 1) := by decide +kernel
theorem dX5_day_30 : decode cX5_day 30 = .ok (.istore 4, 2) := by decide +kernel
theorem dX5_day_32 : decode cX5_day 32 = .ok (.iload 4, 2) := by decide +kernel
theorem dX5_day_34 : decode cX5_day 34 = .ok (.aload_n 0, 1) := by decide +kernel
theorem dX5_day_35 : decode cX5_day 35 = .ok (.getfield 83, 3) := by decide +kernel
theorem dX5_day_38 : decode cX5_day 38 = .ok (.if_icmp .ge 63, 3) := by decide +kernel
theorem dX5_day_41 : decode cX5_day 41 = .ok (.aload_n 0, 1) := by decide +kernel
theorem dX5_day_42 : decode cX5_day 42 = .ok (.iload 4, 2) := by decide +kernel
theorem dX5_day_44 : decode cX5_day 44 = .ok (.invokevirtual 246, 3) := by decide +kernel
theorem dX5_day_47 : decode cX5_day 47 = .ok (.istore 5, 2) := by decide +kernel
theorem dX5_day_49 : decode cX5_day 49 = .ok (.iload 5, 2) := by decide +kernel
theorem dX5_day_51 : decode cX5_day 51 = .ok (.ifCond .lt 17, 3) := by decide +kernel
theorem dX5_day_54 : decode cX5_day 54 = .ok (.iload_n 3, 1) := by decide +kernel
theorem dX5_day_55 : decode cX5_day 55 = .ok (.ifCond .lt 9, 3) := by decide +kernel
theorem dX5_day_58 : decode cX5_day 58 = .ok (.iload 5, 2) := by decide +kernel
theorem dX5_day_60 : decode cX5_day 60 = .ok (.iload_n 3, 1) := by decide +kernel
theorem dX5_day_61 : decode cX5_day 61 = .ok (.if_icmp .ge 7, 3) := by decide +kernel
theorem dX5_day_64 : decode cX5_day 64 = .ok (.iconst 1, 1) := by decide +kernel
theorem dX5_day_65 : decode cX5_day 65 = .ok (.goto 4, 3) := by decide +kernel
theorem dX5_day_68 : decode cX5_day 68 = .ok (.iconst 0, 1) := by decide +kernel
theorem dX5_day_69 : decode cX5_day 69 = .ok (.istore 6, 2) := by decide +kernel
theorem dX5_day_71 : decode cX5_day 71 = .ok (.iload 6, 2) := by decide +kernel
theorem dX5_day_73 : decode cX5_day 73 = .ok (.ifCond .eq 8, 3) := by decide +kernel
theorem dX5_day_76 : decode cX5_day 76 = .ok (.iload 4, 2) := by decide +kernel
theorem dX5_day_78 : decode cX5_day 78 = .ok (.goto 4, 3) := by decide +kernel
theorem dX5_day_81 : decode cX5_day 81 = .ok (.iload_n 2, 1) := by decide +kernel
theorem dX5_day_82 : decode cX5_day 82 = .ok (.istore_n 2, 1) := by decide +kernel
theorem dX5_day_83 : decode cX5_day 83 = .ok (.iload 6, 2) := by decide +kernel
theorem dX5_day_85 : decode cX5_day 85 = .ok (.ifCond .eq 8, 3) := by decide +kernel
theorem dX5_day_88 : decode cX5_day 88 = .ok (.iload 5, 2) := by decide +kernel
theorem dX5_day_90 : decode cX5_day 90 = .ok (.goto 4, 3) := by decide +kernel
theorem dX5_day_93 : decode cX5_day 93 = .ok (.iload_n 3, 1) := by decide +kernel
theorem dX5_day_94 : decode cX5_day 94 = .ok (.istore_n 3, 1) := by decide +kernel
theorem dX5_day_95 : decode cX5_day 95 = .ok (.iinc 4 1, 3) := by decide +kernel
theorem dX5_day_98 : decode cX5_day 98 = .ok (.goto (-66), 3) := by decide +kernel
theorem dX5_day_101 : decode cX5_day 101 = .ok (.iload_n 1, 1) := by decide +kernel
theorem dX5_day_102 : decode cX5_day 102 = .ok (.ifCond .ne 7, 3) := by decide +kernel
theorem dX5_day_105 : decode cX5_day 105 = .ok (.iload_n 2, 1) := by decide +kernel
theorem dX5_day_106 : decode cX5_day 106 = .ok (.goto 4, 3) := by decide +kernel
theorem dX5_day_109 : decode cX5_day 109 = .ok (.iload_n 3, 1) := by decide +kernel
theorem dX5_day_110 : decode cX5_day 110 = .ok (.ireturn, 1) := by decide +kernel
set_option maxRecDepth 20000 in
theorem ggX5_nightsWith_X5_wayBy : GoodIn wsX5_nightsWith wsX5_wayBy := goodIn_r _ [11, 12, 13, 14, 15, 16, 10, 17, 18, 6, 19, 20, 21, 22, 23, 24, 25, 26, 27, 28, 29, 30, 31, 32, 33, 34, 35, 36, 37, 38, 39, 2, 5, 40, 41, 42, 43, 44, 45, 46, 3, 47, 48, 49, 50, 4, 1, 51, 52, 53, 54, 55, 56, 57, 58, 59, 60, 61, 62, 63, 64, 65, 66, 67, 68, 69, 70, 71, 72, 73, 74, 75, 76, 77, 78, 79, 80, 81, 82, 83, 84, 85, 86, 87, 88, 89, 90, 91, 92, 93, 94, 95, 96, 97, 98, 99, 100, 101, 102, 103, 104, 105, 106, 107, 108, 109, 110, 111, 112, 113, 114, 115, 116, 117, 118, 119] (by decide +kernel) (by decide +kernel)
set_option maxRecDepth 20000 in
theorem gX5_nightsWith_X5_wayBy : GoodIn wsX5_nightsWith (wsV RX5 240 RX5 yX5_wayBy wsX5_wayBy) := goodIn_app (goodIn_of _ (by decide +kernel)) ggX5_nightsWith_X5_wayBy
theorem dX5_nightsWith_0 : decode cX5_nightsWith 0 = .ok (.aload_n 0, 1) := by decide +kernel
theorem dX5_nightsWith_1 : decode cX5_nightsWith 1 = .ok (.getfield 13, 3) := by decide +kernel
theorem dX5_nightsWith_4 : decode cX5_nightsWith 4 = .ok (.aload_n 0, 1) := by decide +kernel
theorem dX5_nightsWith_5 : decode cX5_nightsWith 5 = .ok (.getfield 83, 3) := by decide +kernel
theorem dX5_nightsWith_8 : decode cX5_nightsWith 8 = .ok (.iconst 0, 1) := by decide +kernel
theorem dX5_nightsWith_9 : decode cX5_nightsWith 9 = .ok (.iastore, 1) := by decide +kernel
theorem dX5_nightsWith_10 : decode cX5_nightsWith 10 = .ok (.aload_n 0, 1) := by decide +kernel
theorem dX5_nightsWith_11 : decode cX5_nightsWith 11 = .ok (.getfield 16, 3) := by decide +kernel
theorem dX5_nightsWith_14 : decode cX5_nightsWith 14 = .ok (.aload_n 0, 1) := by decide +kernel
theorem dX5_nightsWith_15 : decode cX5_nightsWith 15 = .ok (.getfield 83, 3) := by decide +kernel
theorem dX5_nightsWith_18 : decode cX5_nightsWith 18 = .ok (.iload_n 1, 1) := by decide +kernel
theorem dX5_nightsWith_19 : decode cX5_nightsWith 19 = .ok (.iastore, 1) := by decide +kernel
theorem dX5_nightsWith_20 : decode cX5_nightsWith 20 = .ok (.aload_n 0, 1) := by decide +kernel
theorem dX5_nightsWith_21 : decode cX5_nightsWith 21 = .ok (.getfield 19, 3) := by decide +kernel
theorem dX5_nightsWith_24 : decode cX5_nightsWith 24 = .ok (.aload_n 0, 1) := by decide +kernel
theorem dX5_nightsWith_25 : decode cX5_nightsWith 25 = .ok (.getfield 83, 3) := by decide +kernel
theorem dX5_nightsWith_28 : decode cX5_nightsWith 28 = .ok (.iconst 2, 1) := by decide +kernel
theorem dX5_nightsWith_29 : decode cX5_nightsWith 29 = .ok (.iastore, 1) := by decide +kernel
theorem dX5_nightsWith_30 : decode cX5_nightsWith 30 = .ok (.aload_n 0, 1) := by decide +kernel
theorem dX5_nightsWith_31 : decode cX5_nightsWith 31 = .ok (.iconst 1, 1) := by decide +kernel
theorem dX5_nightsWith_32 : decode cX5_nightsWith 32 = .ok (.putfield 161, 3) := by decide +kernel
theorem dX5_nightsWith_35 : decode cX5_nightsWith 35 = .ok (.aload_n 0, 1) := by decide +kernel
theorem dX5_nightsWith_36 : decode cX5_nightsWith 36 = .ok (.iload_n 2, 1) := by decide +kernel
theorem dX5_nightsWith_37 : decode cX5_nightsWith 37 = .ok (.iconst 0, 1) := by decide +kernel
theorem dX5_nightsWith_38 : decode cX5_nightsWith 38 = .ok (.bipush (-2), 2) := by decide +kernel
theorem dX5_nightsWith_40 : decode cX5_nightsWith 40 = .ok (.invokevirtual 240, 3) := by decide +kernel
theorem dX5_nightsWith_43 : decode cX5_nightsWith 43 = .ok (.istore_n 3, 1) := by decide +kernel
theorem dX5_nightsWith_44 : decode cX5_nightsWith 44 = .ok (.aload_n 0, 1) := by decide +kernel
theorem dX5_nightsWith_45 : decode cX5_nightsWith 45 = .ok (.iconst 0, 1) := by decide +kernel
theorem dX5_nightsWith_46 : decode cX5_nightsWith 46 = .ok (.putfield 161, 3) := by decide +kernel
theorem dX5_nightsWith_49 : decode cX5_nightsWith 49 = .ok (.iload_n 3, 1) := by decide +kernel
theorem dX5_nightsWith_50 : decode cX5_nightsWith 50 = .ok (.ifCond .ge 8, 3) := by decide +kernel
theorem dX5_nightsWith_53 : decode cX5_nightsWith 53 = .ok (.ldc 217, 2) := by decide +kernel
theorem dX5_nightsWith_55 : decode cX5_nightsWith 55 = .ok (.goto 4, 3) := by decide +kernel
theorem dX5_nightsWith_58 : decode cX5_nightsWith 58 = .ok (.iload_n 3, 1) := by decide +kernel
theorem dX5_nightsWith_59 : decode cX5_nightsWith 59 = .ok (.ireturn, 1) := by decide +kernel
set_option maxRecDepth 20000 in
theorem ggX5_post_X5_noSquare : GoodIn wsX5_post wsX5_noSquare := goodIn_r _ [6, 7, 8, 9, 5, 10, 11, 12, 13, 14, 15, 99, 100, 101, 102, 103, 104, 105, 106, 107, 108, 109, 110, 111, 112, 113, 114, 115, 116, 117, 118, 119, 120, 121, 122, 123, 124, 125, 126, 127] (by decide +kernel) (by decide +kernel)
set_option maxRecDepth 20000 in
theorem gX5_post_X5_noSquare : GoodIn wsX5_post (wsV RX5 156 RX5 yX5_noSquare wsX5_noSquare) := goodIn_app (goodIn_of _ (by decide +kernel)) ggX5_post_X5_noSquare
set_option maxRecDepth 20000 in
theorem ggX5_post_X5_in : GoodIn wsX5_post wsX5_in := goodIn_r _ [15] (by decide +kernel) (by decide +kernel)
set_option maxRecDepth 20000 in
theorem gX5_post_X5_in : GoodIn wsX5_post (va_wsS RX5 79 yX5_in wsX5_in) := goodIn_app (goodIn_of _ (by decide +kernel)) ggX5_post_X5_in
set_option maxRecDepth 20000 in
theorem ggX5_post_X5_squares : GoodIn wsX5_post wsX5_squares := goodIn_r _ [10, 11, 12, 99, 100, 101, 102, 103, 104, 105, 106, 107, 108, 109, 110, 111, 112, 113, 114, 115, 116, 117, 118, 119, 120, 121, 122, 123, 124, 125, 126, 127] (by decide +kernel) (by decide +kernel)
set_option maxRecDepth 20000 in
theorem gX5_post_X5_squares : GoodIn wsX5_post (wsV RX5 75 RX5 yX5_squares wsX5_squares) := goodIn_app (goodIn_of _ (by decide +kernel)) ggX5_post_X5_squares
set_option maxRecDepth 20000 in
theorem ggX5_post_X5_hasGun : GoodIn wsX5_post wsX5_hasGun := goodIn_r _ [19, 20, 21, 22, 23, 5, 24, 25, 26, 99, 100, 101, 102, 103, 104, 105, 106, 107, 108, 109, 110, 111, 112, 113, 114, 115, 116, 117, 118, 119, 120, 121, 122, 123, 124, 125, 126, 127] (by decide +kernel) (by decide +kernel)
set_option maxRecDepth 20000 in
theorem gX5_post_X5_hasGun : GoodIn wsX5_post (wsV RX5 173 RX5 yX5_hasGun wsX5_hasGun) := goodIn_app (goodIn_of _ (by decide +kernel)) ggX5_post_X5_hasGun
set_option maxRecDepth 20000 in
theorem ggX5_post_X5_looks : GoodIn wsX5_post wsX5_looks := goodIn_r _ [30, 11, 31, 32, 5, 33, 13, 14, 15, 34, 35, 36, 16, 17, 18, 19, 20, 21, 22, 23, 24, 25, 26, 99, 100, 101, 102, 103, 104, 105, 106, 107, 108, 109, 110, 111, 112, 113, 114, 115, 116, 117, 118, 119, 120, 121, 122, 123, 124, 125, 126, 127] (by decide +kernel) (by decide +kernel)
set_option maxRecDepth 20000 in
theorem gX5_post_X5_looks : GoodIn wsX5_post (wsV RX5 176 RX5 yX5_looks wsX5_looks) := goodIn_app (goodIn_of _ (by decide +kernel)) ggX5_post_X5_looks
set_option maxRecDepth 20000 in
theorem ggX5_post_X5_nightsWith : GoodIn wsX5_post wsX5_nightsWith := goodIn_r _ [40, 41, 25, 20, 42, 26, 1, 43, 44, 45, 5, 46, 47, 48, 49, 50, 51, 52, 53, 7, 8, 9, 10, 11, 12, 54, 55, 56, 57, 58, 59, 60, 61, 62, 63, 64, 21, 22, 23, 24, 65, 66, 67, 68, 69, 70, 71, 72, 73, 74, 75, 27, 28, 29, 30, 31, 32, 33, 13, 14, 15, 34, 35, 36, 16, 17, 18, 19, 76, 77, 78, 79, 80, 81, 82, 83, 84, 85, 86, 87, 88, 89, 90, 91, 92, 93, 94, 95, 96, 97, 98, 99, 100, 101, 102, 103, 104, 105, 106, 107, 108, 109, 110, 111, 112, 113, 114, 115, 116, 117, 118, 119, 120, 121, 122, 123, 124, 125, 126, 127] (by decide +kernel) (by decide +kernel)
set_option maxRecDepth 20000 in
theorem gX5_post_X5_nightsWith : GoodIn wsX5_post (wsV RX5 249 RX5 yX5_nightsWith wsX5_nightsWith) := goodIn_app (goodIn_of _ (by decide +kernel)) ggX5_post_X5_nightsWith
theorem dX5_post_0 : decode cX5_post 0 = .ok (.aload_n 0, 1) := by decide +kernel
theorem dX5_post_1 : decode cX5_post 1 = .ok (.iload_n 1, 1) := by decide +kernel
theorem dX5_post_2 : decode cX5_post 2 = .ok (.invokevirtual 156, 3) := by decide +kernel
theorem dX5_post_5 : decode cX5_post 5 = .ok (.ifCond .eq 5, 3) := by decide +kernel
theorem dX5_post_8 : decode cX5_post 8 = .ok (.iconst (-1), 1) := by decide +kernel
theorem dX5_post_9 : decode cX5_post 9 = .ok (.ireturn, 1) := by decide +kernel
theorem dX5_post_10 : decode cX5_post 10 = .ok (.iload_n 2, 1) := by decide +kernel
theorem dX5_post_11 : decode cX5_post 11 = .ok (.i2l, 1) := by decide +kernel
theorem dX5_post_12 : decode cX5_post 12 = .ok (.lconst 0, 1) := by decide +kernel
theorem dX5_post_13 : decode cX5_post 13 = .ok (.lconst 1, 1) := by decide +kernel
theorem dX5_post_14 : decode cX5_post 14 = .ok (.invokestatic 79, 3) := by decide +kernel
theorem dX5_post_17 : decode cX5_post 17 = .ok (.ifCond .ne 6, 3) := by decide +kernel
theorem dX5_post_20 : decode cX5_post 20 = .ok (.bipush (-2), 2) := by decide +kernel
theorem dX5_post_22 : decode cX5_post 22 = .ok (.ireturn, 1) := by decide +kernel
theorem dX5_post_23 : decode cX5_post 23 = .ok (.bipush (-9), 2) := by decide +kernel
theorem dX5_post_25 : decode cX5_post 25 = .ok (.istore_n 3, 1) := by decide +kernel
theorem dX5_post_26 : decode cX5_post 26 = .ok (.bipush (-9), 2) := by decide +kernel
theorem dX5_post_28 : decode cX5_post 28 = .ok (.istore 4, 2) := by decide +kernel
theorem dX5_post_30 : decode cX5_post 30 = .ok (.iconst 0, 1) := by decide +kernel
theorem dX5_post_31 : decode cX5_post 31 = .ok (.istore 5, 2) := by decide +kernel
theorem dX5_post_33 : decode cX5_post 33 = .ok (.iload 5, 2) := by decide +kernel
theorem dX5_post_35 : decode cX5_post 35 = .ok (.aload_n 0, 1) := by decide +kernel
theorem dX5_post_36 : decode cX5_post 36 = .ok (.invokevirtual 75, 3) := by decide +kernel
theorem dX5_post_39 : decode cX5_post 39 = .ok (.if_icmp .ge 91, 3) := by decide +kernel
theorem dX5_post_42 : decode cX5_post 42 = .ok (.iload 5, 2) := by decide +kernel
theorem dX5_post_44 : decode cX5_post 44 = .ok (.iload_n 1, 1) := by decide +kernel
theorem dX5_post_45 : decode cX5_post 45 = .ok (.if_icmp .eq 27, 3) := by decide +kernel
theorem dX5_post_48 : decode cX5_post 48 = .ok (.aload_n 0, 1) := by decide +kernel
theorem dX5_post_49 : decode cX5_post 49 = .ok (.iload 5, 2) := by decide +kernel
theorem dX5_post_51 : decode cX5_post 51 = .ok (.invokevirtual 173, 3) := by decide +kernel
theorem dX5_post_54 : decode cX5_post 54 = .ok (.ifCond .ne 18, 3) := by decide +kernel
theorem dX5_post_57 : decode cX5_post 57 = .ok (.aload_n 0, 1) := by decide +kernel
theorem dX5_post_58 : decode cX5_post 58 = .ok (.iload 5, 2) := by decide +kernel
theorem dX5_post_60 : decode cX5_post 60 = .ok (.iload_n 1, 1) := by decide +kernel
theorem dX5_post_61 : decode cX5_post 61 = .ok (.iconst 2, 1) := by decide +kernel
theorem dX5_post_62 : decode cX5_post 62 = .ok (.invokevirtual 176, 3) := by decide +kernel
theorem dX5_post_65 : decode cX5_post 65 = .ok (.ifCond .ne 7, 3) := by decide +kernel
theorem dX5_post_68 : decode cX5_post 68 = .ok (.iconst 1, 1) := by decide +kernel
theorem dX5_post_69 : decode cX5_post 69 = .ok (.goto 4, 3) := by decide +kernel
theorem dX5_post_72 : decode cX5_post 72 = .ok (.iconst 0, 1) := by decide +kernel
theorem dX5_post_73 : decode cX5_post 73 = .ok (.istore 6, 2) := by decide +kernel
theorem dX5_post_75 : decode cX5_post 75 = .ok (.iload 6, 2) := by decide +kernel
theorem dX5_post_77 : decode cX5_post 77 = .ok (.ifCond .eq 13, 3) := by decide +kernel
theorem dX5_post_80 : decode cX5_post 80 = .ok (.aload_n 0, 1) := by decide +kernel
theorem dX5_post_81 : decode cX5_post 81 = .ok (.iload 5, 2) := by decide +kernel
theorem dX5_post_83 : decode cX5_post 83 = .ok (.iload_n 1, 1) := by decide +kernel
theorem dX5_post_84 : decode cX5_post 84 = .ok (.invokevirtual 249, 3) := by decide +kernel
theorem dX5_post_87 : decode cX5_post 87 = .ok (.goto 5, 3) := by decide +kernel
theorem dX5_post_90 : decode cX5_post 90 = .ok (.bipush (-9), 2) := by decide +kernel
theorem dX5_post_92 : decode cX5_post 92 = .ok (.istore 7, 2) := by decide +kernel
theorem dX5_post_94 : decode cX5_post 94 = .ok (.iload 7, 2) := by decide +kernel
theorem dX5_post_96 : decode cX5_post 96 = .ok (.iload 4, 2) := by decide +kernel
theorem dX5_post_98 : decode cX5_post 98 = .ok (.if_icmp .le 8, 3) := by decide +kernel
theorem dX5_post_101 : decode cX5_post 101 = .ok (.iload 5, 2) := by decide +kernel
theorem dX5_post_103 : decode cX5_post 103 = .ok (.goto 4, 3) := by decide +kernel
theorem dX5_post_106 : decode cX5_post 106 = .ok (.iload_n 3, 1) := by decide +kernel
theorem dX5_post_107 : decode cX5_post 107 = .ok (.istore_n 3, 1) := by decide +kernel
theorem dX5_post_108 : decode cX5_post 108 = .ok (.iload 7, 2) := by decide +kernel
theorem dX5_post_110 : decode cX5_post 110 = .ok (.iload 4, 2) := by decide +kernel
theorem dX5_post_112 : decode cX5_post 112 = .ok (.if_icmp .le 8, 3) := by decide +kernel
theorem dX5_post_115 : decode cX5_post 115 = .ok (.iload 7, 2) := by decide +kernel
theorem dX5_post_117 : decode cX5_post 117 = .ok (.goto 5, 3) := by decide +kernel
theorem dX5_post_120 : decode cX5_post 120 = .ok (.iload 4, 2) := by decide +kernel
theorem dX5_post_122 : decode cX5_post 122 = .ok (.istore 4, 2) := by decide +kernel
theorem dX5_post_124 : decode cX5_post 124 = .ok (.iinc 5 1, 3) := by decide +kernel
theorem dX5_post_127 : decode cX5_post 127 = .ok (.goto (-94), 3) := by decide +kernel
theorem dX5_post_130 : decode cX5_post 130 = .ok (.iload_n 2, 1) := by decide +kernel
theorem dX5_post_131 : decode cX5_post 131 = .ok (.ifCond .ne 7, 3) := by decide +kernel
theorem dX5_post_134 : decode cX5_post 134 = .ok (.iload_n 3, 1) := by decide +kernel
theorem dX5_post_135 : decode cX5_post 135 = .ok (.goto 17, 3) := by decide +kernel
theorem dX5_post_138 : decode cX5_post 138 = .ok (.iload 4, 2) := by decide +kernel
theorem dX5_post_140 : decode cX5_post 140 = .ok (.ldc 217, 2) := by decide +kernel
theorem dX5_post_142 : decode cX5_post 142 = .ok (.if_icmp .ne 8, 3) := by decide +kernel
theorem dX5_post_145 : decode cX5_post 145 = .ok (.bipush (-9), 2) := by decide +kernel
theorem dX5_post_147 : decode cX5_post 147 = .ok (.goto 5, 3) := by decide +kernel
theorem dX5_post_150 : decode cX5_post 150 = .ok (.iload 4, 2) := by decide +kernel
theorem dX5_post_152 : decode cX5_post 152 = .ok (.ireturn, 1) := by decide +kernel
set_option maxRecDepth 20000 in
theorem ggX5_reading_X5_noSquare : GoodIn wsX5_reading wsX5_noSquare := goodIn_r _ [8, 9, 10, 11, 7, 12, 13, 14, 15, 16, 17, 18, 19, 20, 21, 22, 23, 24, 25, 26, 27, 28, 29, 30, 31, 32, 33, 34, 35, 36, 37, 38, 39, 40, 41, 42, 43, 44, 45, 46] (by decide +kernel) (by decide +kernel)
set_option maxRecDepth 20000 in
theorem gX5_reading_X5_noSquare : GoodIn wsX5_reading (wsV RX5 156 RX5 yX5_noSquare wsX5_noSquare) := goodIn_app (goodIn_of _ (by decide +kernel)) ggX5_reading_X5_noSquare
theorem dX5_reading_0 : decode cX5_reading 0 = .ok (.aload_n 0, 1) := by decide +kernel
theorem dX5_reading_1 : decode cX5_reading 1 = .ok (.iload_n 1, 1) := by decide +kernel
theorem dX5_reading_2 : decode cX5_reading 2 = .ok (.invokevirtual 156, 3) := by decide +kernel
theorem dX5_reading_5 : decode cX5_reading 5 = .ok (.ifCond .eq 5, 3) := by decide +kernel
theorem dX5_reading_8 : decode cX5_reading 8 = .ok (.iconst (-1), 1) := by decide +kernel
theorem dX5_reading_9 : decode cX5_reading 9 = .ok (.ireturn, 1) := by decide +kernel
theorem dX5_reading_10 : decode cX5_reading 10 = .ok (.aload_n 0, 1) := by decide +kernel
theorem dX5_reading_11 : decode cX5_reading 11 = .ok (.getfield 144, 3) := by decide +kernel
theorem dX5_reading_14 : decode cX5_reading 14 = .ok (.bipush 8, 2) := by decide +kernel
theorem dX5_reading_16 : decode cX5_reading 16 = .ok (.if_icmp .ne 6, 3) := by decide +kernel
theorem dX5_reading_19 : decode cX5_reading 19 = .ok (.bipush (-4), 2) := by decide +kernel
theorem dX5_reading_21 : decode cX5_reading 21 = .ok (.ireturn, 1) := by decide +kernel
theorem dX5_reading_22 : decode cX5_reading 22 = .ok (.aload_n 0, 1) := by decide +kernel
theorem dX5_reading_23 : decode cX5_reading 23 = .ok (.getfield 40, 3) := by decide +kernel
theorem dX5_reading_26 : decode cX5_reading 26 = .ok (.aload_n 0, 1) := by decide +kernel
theorem dX5_reading_27 : decode cX5_reading 27 = .ok (.getfield 144, 3) := by decide +kernel
theorem dX5_reading_30 : decode cX5_reading 30 = .ok (.iload_n 1, 1) := by decide +kernel
theorem dX5_reading_31 : decode cX5_reading 31 = .ok (.iastore, 1) := by decide +kernel
theorem dX5_reading_32 : decode cX5_reading 32 = .ok (.aload_n 0, 1) := by decide +kernel
theorem dX5_reading_33 : decode cX5_reading 33 = .ok (.getfield 43, 3) := by decide +kernel
theorem dX5_reading_36 : decode cX5_reading 36 = .ok (.aload_n 0, 1) := by decide +kernel
theorem dX5_reading_37 : decode cX5_reading 37 = .ok (.getfield 144, 3) := by decide +kernel
theorem dX5_reading_40 : decode cX5_reading 40 = .ok (.iload_n 2, 1) := by decide +kernel
theorem dX5_reading_41 : decode cX5_reading 41 = .ok (.bastore, 1) := by decide +kernel
theorem dX5_reading_42 : decode cX5_reading 42 = .ok (.aload_n 0, 1) := by decide +kernel
theorem dX5_reading_43 : decode cX5_reading 43 = .ok (.dup, 1) := by decide +kernel
theorem dX5_reading_44 : decode cX5_reading 44 = .ok (.getfield 144, 3) := by decide +kernel
theorem dX5_reading_47 : decode cX5_reading 47 = .ok (.iconst 1, 1) := by decide +kernel
theorem dX5_reading_48 : decode cX5_reading 48 = .ok (.iadd, 1) := by decide +kernel
theorem dX5_reading_49 : decode cX5_reading 49 = .ok (.putfield 144, 3) := by decide +kernel
theorem dX5_reading_52 : decode cX5_reading 52 = .ok (.aload_n 0, 1) := by decide +kernel
theorem dX5_reading_53 : decode cX5_reading 53 = .ok (.getfield 144, 3) := by decide +kernel
theorem dX5_reading_56 : decode cX5_reading 56 = .ok (.iconst 1, 1) := by decide +kernel
theorem dX5_reading_57 : decode cX5_reading 57 = .ok (.isub, 1) := by decide +kernel
theorem dX5_reading_58 : decode cX5_reading 58 = .ok (.ireturn, 1) := by decide +kernel
set_option maxRecDepth 20000 in
theorem ggX5_back_X5_in : GoodIn wsX5_back wsX5_in := goodIn_r _ [5] (by decide +kernel) (by decide +kernel)
set_option maxRecDepth 20000 in
theorem gX5_back_X5_in : GoodIn wsX5_back (va_wsS RX5 79 yX5_in wsX5_in) := goodIn_app (goodIn_of _ (by decide +kernel)) ggX5_back_X5_in
theorem dX5_back_0 : decode cX5_back 0 = .ok (.iload_n 1, 1) := by decide +kernel
theorem dX5_back_1 : decode cX5_back 1 = .ok (.i2l, 1) := by decide +kernel
theorem dX5_back_2 : decode cX5_back 2 = .ok (.lconst 0, 1) := by decide +kernel
theorem dX5_back_3 : decode cX5_back 3 = .ok (.aload_n 0, 1) := by decide +kernel
theorem dX5_back_4 : decode cX5_back 4 = .ok (.getfield 144, 3) := by decide +kernel
theorem dX5_back_7 : decode cX5_back 7 = .ok (.i2l, 1) := by decide +kernel
theorem dX5_back_8 : decode cX5_back 8 = .ok (.invokestatic 79, 3) := by decide +kernel
theorem dX5_back_11 : decode cX5_back 11 = .ok (.ifCond .ne 6, 3) := by decide +kernel
theorem dX5_back_14 : decode cX5_back 14 = .ok (.bipush (-2), 2) := by decide +kernel
theorem dX5_back_16 : decode cX5_back 16 = .ok (.ireturn, 1) := by decide +kernel
theorem dX5_back_17 : decode cX5_back 17 = .ok (.aload_n 0, 1) := by decide +kernel
theorem dX5_back_18 : decode cX5_back 18 = .ok (.dup, 1) := by decide +kernel
theorem dX5_back_19 : decode cX5_back 19 = .ok (.getfield 144, 3) := by decide +kernel
theorem dX5_back_22 : decode cX5_back 22 = .ok (.iload_n 1, 1) := by decide +kernel
theorem dX5_back_23 : decode cX5_back 23 = .ok (.isub, 1) := by decide +kernel
theorem dX5_back_24 : decode cX5_back 24 = .ok (.putfield 144, 3) := by decide +kernel
theorem dX5_back_27 : decode cX5_back 27 = .ok (.aload_n 0, 1) := by decide +kernel
theorem dX5_back_28 : decode cX5_back 28 = .ok (.getfield 144, 3) := by decide +kernel
theorem dX5_back_31 : decode cX5_back 31 = .ok (.ireturn, 1) := by decide +kernel
set_option maxRecDepth 20000 in
theorem ggX5_areSo_X5_shotBy : GoodIn wsX5_areSo wsX5_shotBy := goodIn_r _ [8, 9, 10, 11, 12, 7, 13, 14, 15, 16, 17, 18, 19, 20, 21, 22, 23, 24, 25, 26, 27, 28, 29, 30, 31, 32, 33, 34, 35, 36, 37, 38, 39, 40, 41, 42, 43, 44, 45, 46, 47, 48, 49, 50, 51, 52, 53, 54, 55, 56, 57, 58, 59, 60, 61, 62, 63, 64, 65, 66, 67, 68, 69, 70, 71, 72, 73, 74, 75, 76] (by decide +kernel) (by decide +kernel)
set_option maxRecDepth 20000 in
theorem gX5_areSo_X5_shotBy : GoodIn wsX5_areSo (wsV RX5 183 RX5 yX5_shotBy wsX5_shotBy) := goodIn_app (goodIn_of _ (by decide +kernel)) ggX5_areSo_X5_shotBy
theorem dX5_areSo_0 : decode cX5_areSo 0 = .ok (.iconst 1, 1) := by decide +kernel
theorem dX5_areSo_1 : decode cX5_areSo 1 = .ok (.istore_n 1, 1) := by decide +kernel
theorem dX5_areSo_2 : decode cX5_areSo 2 = .ok (.iconst 0, 1) := by decide +kernel
theorem dX5_areSo_3 : decode cX5_areSo 3 = .ok (.istore_n 2, 1) := by decide +kernel
theorem dX5_areSo_4 : decode cX5_areSo 4 = .ok (.iload_n 2, 1) := by decide +kernel
theorem dX5_areSo_5 : decode cX5_areSo 5 = .ok (.aload_n 0, 1) := by decide +kernel
theorem dX5_areSo_6 : decode cX5_areSo 6 = .ok (.getfield 144, 3) := by decide +kernel
theorem dX5_areSo_9 : decode cX5_areSo 9 = .ok (.if_icmp .ge 46, 3) := by decide +kernel
theorem dX5_areSo_12 : decode cX5_areSo 12 = .ok (.iload_n 1, 1) := by decide +kernel
theorem dX5_areSo_13 : decode cX5_areSo 13 = .ok (.ifCond .eq 34, 3) := by decide +kernel
theorem dX5_areSo_16 : decode cX5_areSo 16 = .ok (.aload_n 0, 1) := by decide +kernel
theorem dX5_areSo_17 : decode cX5_areSo 17 = .ok (.aload_n 0, 1) := by decide +kernel
theorem dX5_areSo_18 : decode cX5_areSo 18 = .ok (.getfield 40, 3) := by decide +kernel
theorem dX5_areSo_21 : decode cX5_areSo 21 = .ok (.iload_n 2, 1) := by decide +kernel
theorem dX5_areSo_22 : decode cX5_areSo 22 = .ok (.iaload, 1) := by decide +kernel
theorem dX5_areSo_23 : decode cX5_areSo 23 = .ok (.invokevirtual 183, 3) := by decide +kernel
theorem dX5_areSo_26 : decode cX5_areSo 26 = .ok (.ifCond .eq 7, 3) := by decide +kernel
theorem dX5_areSo_29 : decode cX5_areSo 29 = .ok (.iconst 1, 1) := by decide +kernel
theorem dX5_areSo_30 : decode cX5_areSo 30 = .ok (.goto 4, 3) := by decide +kernel
theorem dX5_areSo_33 : decode cX5_areSo 33 = .ok (.iconst 0, 1) := by decide +kernel
theorem dX5_areSo_34 : decode cX5_areSo 34 = .ok (.aload_n 0, 1) := by decide +kernel
theorem dX5_areSo_35 : decode cX5_areSo 35 = .ok (.getfield 43, 3) := by decide +kernel
theorem dX5_areSo_38 : decode cX5_areSo 38 = .ok (.iload_n 2, 1) := by decide +kernel
theorem dX5_areSo_39 : decode cX5_areSo 39 = .ok (.baload, 1) := by decide +kernel
theorem dX5_areSo_40 : decode cX5_areSo 40 = .ok (.if_icmp .ne 7, 3) := by decide +kernel
theorem dX5_areSo_43 : decode cX5_areSo 43 = .ok (.iconst 1, 1) := by decide +kernel
theorem dX5_areSo_44 : decode cX5_areSo 44 = .ok (.goto 4, 3) := by decide +kernel
theorem dX5_areSo_47 : decode cX5_areSo 47 = .ok (.iconst 0, 1) := by decide +kernel
theorem dX5_areSo_48 : decode cX5_areSo 48 = .ok (.istore_n 1, 1) := by decide +kernel
theorem dX5_areSo_49 : decode cX5_areSo 49 = .ok (.iinc 2 1, 3) := by decide +kernel
theorem dX5_areSo_52 : decode cX5_areSo 52 = .ok (.goto (-48), 3) := by decide +kernel
theorem dX5_areSo_55 : decode cX5_areSo 55 = .ok (.iload_n 1, 1) := by decide +kernel
theorem dX5_areSo_56 : decode cX5_areSo 56 = .ok (.ireturn, 1) := by decide +kernel
set_option maxRecDepth 20000 in
theorem ggX5_reaches_X5_noGun : GoodIn wsX5_reaches wsX5_noGun := goodIn_r _ [6, 7, 8, 9, 5, 10, 56, 57, 58, 59, 60, 61, 62, 63, 64, 65, 66, 67, 68, 69, 70, 71, 72, 73, 74, 75, 76, 77, 78, 79, 80, 81, 82, 83, 84] (by decide +kernel) (by decide +kernel)
set_option maxRecDepth 20000 in
theorem gX5_reaches_X5_noGun : GoodIn wsX5_reaches (wsV RX5 147 RX5 yX5_noGun wsX5_noGun) := goodIn_app (goodIn_of _ (by decide +kernel)) ggX5_reaches_X5_noGun
set_option maxRecDepth 20000 in
theorem ggX5_reaches_X5_areSo : GoodIn wsX5_reaches wsX5_areSo := goodIn_r _ [14, 15, 16, 17, 18, 19, 20, 5, 21, 22, 23, 24, 25, 26, 7, 27, 28, 29, 30, 31, 32, 33, 34, 35, 36, 37, 38, 39, 1, 40, 41, 42, 43, 44, 45, 46, 47, 48, 8, 9, 10, 49, 50, 51, 52, 53, 54, 55, 56, 57, 58, 59, 60, 61, 62, 63, 64, 65, 66, 67, 68, 69, 70, 71, 72, 73, 74, 75, 76, 77, 78, 79, 80, 81, 82, 83, 84] (by decide +kernel) (by decide +kernel)
set_option maxRecDepth 20000 in
theorem gX5_reaches_X5_areSo : GoodIn wsX5_reaches (wsV RX5 252 RX5 yX5_areSo wsX5_areSo) := goodIn_app (goodIn_of _ (by decide +kernel)) ggX5_reaches_X5_areSo
theorem dX5_reaches_0 : decode cX5_reaches 0 = .ok (.aload_n 0, 1) := by decide +kernel
theorem dX5_reaches_1 : decode cX5_reaches 1 = .ok (.iload_n 1, 1) := by decide +kernel
theorem dX5_reaches_2 : decode cX5_reaches 2 = .ok (.invokevirtual 147, 3) := by decide +kernel
theorem dX5_reaches_5 : decode cX5_reaches 5 = .ok (.ifCond .eq 5, 3) := by decide +kernel
theorem dX5_reaches_8 : decode cX5_reaches 8 = .ok (.iconst (-1), 1) := by decide +kernel
theorem dX5_reaches_9 : decode cX5_reaches 9 = .ok (.ireturn, 1) := by decide +kernel
theorem dX5_reaches_10 : decode cX5_reaches 10 = .ok (.aload_n 0, 1) := by decide +kernel
theorem dX5_reaches_11 : decode cX5_reaches 11 = .ok (.getfield 19, 3) := by decide +kernel
theorem dX5_reaches_14 : decode cX5_reaches 14 = .ok (.iload_n 1, 1) := by decide +kernel
theorem dX5_reaches_15 : decode cX5_reaches 15 = .ok (.iaload, 1) := by decide +kernel
theorem dX5_reaches_16 : decode cX5_reaches 16 = .ok (.istore_n 2, 1) := by decide +kernel
theorem dX5_reaches_17 : decode cX5_reaches 17 = .ok (.iconst 0, 1) := by decide +kernel
theorem dX5_reaches_18 : decode cX5_reaches 18 = .ok (.istore_n 3, 1) := by decide +kernel
theorem dX5_reaches_19 : decode cX5_reaches 19 = .ok (.iconst 0, 1) := by decide +kernel
theorem dX5_reaches_20 : decode cX5_reaches 20 = .ok (.istore 4, 2) := by decide +kernel
theorem dX5_reaches_22 : decode cX5_reaches 22 = .ok (.iload 4, 2) := by decide +kernel
theorem dX5_reaches_24 : decode cX5_reaches 24 = .ok (.bipush 10, 2) := by decide +kernel
theorem dX5_reaches_26 : decode cX5_reaches 26 = .ok (.if_icmp .ge 35, 3) := by decide +kernel
theorem dX5_reaches_29 : decode cX5_reaches 29 = .ok (.aload_n 0, 1) := by decide +kernel
theorem dX5_reaches_30 : decode cX5_reaches 30 = .ok (.getfield 19, 3) := by decide +kernel
theorem dX5_reaches_33 : decode cX5_reaches 33 = .ok (.iload_n 1, 1) := by decide +kernel
theorem dX5_reaches_34 : decode cX5_reaches 34 = .ok (.iload 4, 2) := by decide +kernel
theorem dX5_reaches_36 : decode cX5_reaches 36 = .ok (.iastore, 1) := by decide +kernel
theorem dX5_reaches_37 : decode cX5_reaches 37 = .ok (.iload_n 3, 1) := by decide +kernel
theorem dX5_reaches_38 : decode cX5_reaches 38 = .ok (.aload_n 0, 1) := by decide +kernel
theorem dX5_reaches_39 : decode cX5_reaches 39 = .ok (.invokevirtual 252, 3) := by decide +kernel
theorem dX5_reaches_42 : decode cX5_reaches 42 = .ok (.ifCond .eq 10, 3) := by decide +kernel
theorem dX5_reaches_45 : decode cX5_reaches 45 = .ok (.iconst 1, 1) := by decide +kernel
theorem dX5_reaches_46 : decode cX5_reaches 46 = .ok (.iload 4, 2) := by decide +kernel
theorem dX5_reaches_48 : decode cX5_reaches 48 = .ok (.ishl, 1) := by decide +kernel
theorem dX5_reaches_49 : decode cX5_reaches 49 = .ok (.goto 4, 3) := by decide +kernel
theorem dX5_reaches_52 : decode cX5_reaches 52 = .ok (.iconst 0, 1) := by decide +kernel
theorem dX5_reaches_53 : decode cX5_reaches 53 = .ok (.ior, 1) := by decide +kernel
theorem dX5_reaches_54 : decode cX5_reaches 54 = .ok (.istore_n 3, 1) := by decide +kernel
theorem dX5_reaches_55 : decode cX5_reaches 55 = .ok (.iinc 4 1, 3) := by decide +kernel
theorem dX5_reaches_58 : decode cX5_reaches 58 = .ok (.goto (-36), 3) := by decide +kernel
theorem dX5_reaches_61 : decode cX5_reaches 61 = .ok (.aload_n 0, 1) := by decide +kernel
theorem dX5_reaches_62 : decode cX5_reaches 62 = .ok (.getfield 19, 3) := by decide +kernel
theorem dX5_reaches_65 : decode cX5_reaches 65 = .ok (.iload_n 1, 1) := by decide +kernel
theorem dX5_reaches_66 : decode cX5_reaches 66 = .ok (.iload_n 2, 1) := by decide +kernel
theorem dX5_reaches_67 : decode cX5_reaches 67 = .ok (.iastore, 1) := by decide +kernel
theorem dX5_reaches_68 : decode cX5_reaches 68 = .ok (.iload_n 3, 1) := by decide +kernel
theorem dX5_reaches_69 : decode cX5_reaches 69 = .ok (.ireturn, 1) := by decide +kernel
set_option maxRecDepth 20000 in
theorem ggX5_kinds_X5_noGun : GoodIn wsX5_kinds wsX5_noGun := goodIn_r _ [6, 7, 8, 9, 5, 10, 56, 57, 58, 59, 60, 61, 62, 63, 64, 65, 66, 67, 68, 69, 70, 71, 72, 73, 74, 75, 76, 77, 78, 79, 80, 81, 82, 83, 84] (by decide +kernel) (by decide +kernel)
set_option maxRecDepth 20000 in
theorem gX5_kinds_X5_noGun : GoodIn wsX5_kinds (wsV RX5 147 RX5 yX5_noGun wsX5_noGun) := goodIn_app (goodIn_of _ (by decide +kernel)) ggX5_kinds_X5_noGun
set_option maxRecDepth 20000 in
theorem ggX5_kinds_X5_areSo : GoodIn wsX5_kinds wsX5_areSo := goodIn_r _ [14, 15, 16, 17, 18, 19, 20, 5, 21, 22, 23, 24, 25, 26, 7, 27, 28, 29, 30, 31, 32, 33, 34, 35, 36, 37, 38, 39, 40, 1, 41, 42, 43, 44, 45, 46, 47, 48, 8, 9, 10, 49, 50, 51, 52, 53, 54, 55, 56, 57, 58, 59, 60, 61, 62, 63, 64, 65, 66, 67, 68, 69, 70, 71, 72, 73, 74, 75, 76, 77, 78, 79, 80, 81, 82, 83, 84] (by decide +kernel) (by decide +kernel)
set_option maxRecDepth 20000 in
theorem gX5_kinds_X5_areSo : GoodIn wsX5_kinds (wsV RX5 252 RX5 yX5_areSo wsX5_areSo) := goodIn_app (goodIn_of _ (by decide +kernel)) ggX5_kinds_X5_areSo
theorem dX5_kinds_0 : decode cX5_kinds 0 = .ok (.aload_n 0, 1) := by decide +kernel
theorem dX5_kinds_1 : decode cX5_kinds 1 = .ok (.iload_n 1, 1) := by decide +kernel
theorem dX5_kinds_2 : decode cX5_kinds 2 = .ok (.invokevirtual 147, 3) := by decide +kernel
theorem dX5_kinds_5 : decode cX5_kinds 5 = .ok (.ifCond .eq 5, 3) := by decide +kernel
theorem dX5_kinds_8 : decode cX5_kinds 8 = .ok (.iconst (-1), 1) := by decide +kernel
theorem dX5_kinds_9 : decode cX5_kinds 9 = .ok (.ireturn, 1) := by decide +kernel
theorem dX5_kinds_10 : decode cX5_kinds 10 = .ok (.aload_n 0, 1) := by decide +kernel
theorem dX5_kinds_11 : decode cX5_kinds 11 = .ok (.getfield 13, 3) := by decide +kernel
theorem dX5_kinds_14 : decode cX5_kinds 14 = .ok (.iload_n 1, 1) := by decide +kernel
theorem dX5_kinds_15 : decode cX5_kinds 15 = .ok (.iaload, 1) := by decide +kernel
theorem dX5_kinds_16 : decode cX5_kinds 16 = .ok (.istore_n 2, 1) := by decide +kernel
theorem dX5_kinds_17 : decode cX5_kinds 17 = .ok (.iconst 0, 1) := by decide +kernel
theorem dX5_kinds_18 : decode cX5_kinds 18 = .ok (.istore_n 3, 1) := by decide +kernel
theorem dX5_kinds_19 : decode cX5_kinds 19 = .ok (.iconst 0, 1) := by decide +kernel
theorem dX5_kinds_20 : decode cX5_kinds 20 = .ok (.istore 4, 2) := by decide +kernel
theorem dX5_kinds_22 : decode cX5_kinds 22 = .ok (.iload 4, 2) := by decide +kernel
theorem dX5_kinds_24 : decode cX5_kinds 24 = .ok (.iconst 3, 1) := by decide +kernel
theorem dX5_kinds_25 : decode cX5_kinds 25 = .ok (.if_icmp .ge 35, 3) := by decide +kernel
theorem dX5_kinds_28 : decode cX5_kinds 28 = .ok (.aload_n 0, 1) := by decide +kernel
theorem dX5_kinds_29 : decode cX5_kinds 29 = .ok (.getfield 13, 3) := by decide +kernel
theorem dX5_kinds_32 : decode cX5_kinds 32 = .ok (.iload_n 1, 1) := by decide +kernel
theorem dX5_kinds_33 : decode cX5_kinds 33 = .ok (.iload 4, 2) := by decide +kernel
theorem dX5_kinds_35 : decode cX5_kinds 35 = .ok (.iastore, 1) := by decide +kernel
theorem dX5_kinds_36 : decode cX5_kinds 36 = .ok (.iload_n 3, 1) := by decide +kernel
theorem dX5_kinds_37 : decode cX5_kinds 37 = .ok (.aload_n 0, 1) := by decide +kernel
theorem dX5_kinds_38 : decode cX5_kinds 38 = .ok (.invokevirtual 252, 3) := by decide +kernel
theorem dX5_kinds_41 : decode cX5_kinds 41 = .ok (.ifCond .eq 10, 3) := by decide +kernel
theorem dX5_kinds_44 : decode cX5_kinds 44 = .ok (.iconst 1, 1) := by decide +kernel
theorem dX5_kinds_45 : decode cX5_kinds 45 = .ok (.iload 4, 2) := by decide +kernel
theorem dX5_kinds_47 : decode cX5_kinds 47 = .ok (.ishl, 1) := by decide +kernel
theorem dX5_kinds_48 : decode cX5_kinds 48 = .ok (.goto 4, 3) := by decide +kernel
theorem dX5_kinds_51 : decode cX5_kinds 51 = .ok (.iconst 0, 1) := by decide +kernel
theorem dX5_kinds_52 : decode cX5_kinds 52 = .ok (.ior, 1) := by decide +kernel
theorem dX5_kinds_53 : decode cX5_kinds 53 = .ok (.istore_n 3, 1) := by decide +kernel
theorem dX5_kinds_54 : decode cX5_kinds 54 = .ok (.iinc 4 1, 3) := by decide +kernel
theorem dX5_kinds_57 : decode cX5_kinds 57 = .ok (.goto (-35), 3) := by decide +kernel
theorem dX5_kinds_60 : decode cX5_kinds 60 = .ok (.aload_n 0, 1) := by decide +kernel
theorem dX5_kinds_61 : decode cX5_kinds 61 = .ok (.getfield 13, 3) := by decide +kernel
theorem dX5_kinds_64 : decode cX5_kinds 64 = .ok (.iload_n 1, 1) := by decide +kernel
theorem dX5_kinds_65 : decode cX5_kinds 65 = .ok (.iload_n 2, 1) := by decide +kernel
theorem dX5_kinds_66 : decode cX5_kinds 66 = .ok (.iastore, 1) := by decide +kernel
theorem dX5_kinds_67 : decode cX5_kinds 67 = .ok (.iload_n 3, 1) := by decide +kernel
theorem dX5_kinds_68 : decode cX5_kinds 68 = .ok (.ireturn, 1) := by decide +kernel
set_option maxRecDepth 20000 in
theorem ggX5_haunts_X5_noGun : GoodIn wsX5_haunts wsX5_noGun := goodIn_r _ [6, 7, 8, 9, 5, 10, 65, 66, 67, 68, 69, 70, 71, 72, 73, 74, 75, 76, 77, 78, 79, 80, 81, 82, 83, 84, 85, 86, 87, 88, 89, 90, 91, 92, 93] (by decide +kernel) (by decide +kernel)
set_option maxRecDepth 20000 in
theorem gX5_haunts_X5_noGun : GoodIn wsX5_haunts (wsV RX5 147 RX5 yX5_noGun wsX5_noGun) := goodIn_app (goodIn_of _ (by decide +kernel)) ggX5_haunts_X5_noGun
set_option maxRecDepth 20000 in
theorem ggX5_haunts_X5_lost : GoodIn wsX5_haunts wsX5_lost := goodIn_r _ [13, 14] (by decide +kernel) (by decide +kernel)
set_option maxRecDepth 20000 in
theorem gX5_haunts_X5_lost : GoodIn wsX5_haunts (va_wsS RX5 65 yX5_lost wsX5_lost) := goodIn_app (goodIn_of _ (by decide +kernel)) ggX5_haunts_X5_lost
set_option maxRecDepth 20000 in
theorem ggX5_haunts_X5_squares : GoodIn wsX5_haunts wsX5_squares := goodIn_r _ [18, 19, 20, 65, 66, 67, 68, 69, 70, 71, 72, 73, 74, 75, 76, 77, 78, 79, 80, 81, 82, 83, 84, 85, 86, 87, 88, 89, 90, 91, 92, 93] (by decide +kernel) (by decide +kernel)
set_option maxRecDepth 20000 in
theorem gX5_haunts_X5_squares : GoodIn wsX5_haunts (wsV RX5 75 RX5 yX5_squares wsX5_squares) := goodIn_app (goodIn_of _ (by decide +kernel)) ggX5_haunts_X5_squares
set_option maxRecDepth 20000 in
theorem ggX5_haunts_X5_areSo : GoodIn wsX5_haunts wsX5_areSo := goodIn_r _ [24, 25, 26, 27, 28, 29, 30, 5, 31, 32, 33, 34, 35, 36, 7, 37, 38, 39, 40, 41, 42, 43, 44, 1, 45, 46, 47, 48, 49, 50, 51, 52, 53, 54, 19, 55, 56, 57, 8, 9, 10, 58, 59, 60, 61, 62, 63, 64, 65, 66, 67, 68, 69, 70, 71, 72, 73, 74, 75, 76, 77, 78, 79, 80, 81, 82, 83, 84, 85, 86, 87, 88, 89, 90, 91, 92, 93] (by decide +kernel) (by decide +kernel)
set_option maxRecDepth 20000 in
theorem gX5_haunts_X5_areSo : GoodIn wsX5_haunts (wsV RX5 252 RX5 yX5_areSo wsX5_areSo) := goodIn_app (goodIn_of _ (by decide +kernel)) ggX5_haunts_X5_areSo
theorem dX5_haunts_0 : decode cX5_haunts 0 = .ok (.aload_n 0, 1) := by decide +kernel
theorem dX5_haunts_1 : decode cX5_haunts 1 = .ok (.iload_n 1, 1) := by decide +kernel
theorem dX5_haunts_2 : decode cX5_haunts 2 = .ok (.invokevirtual 147, 3) := by decide +kernel
theorem dX5_haunts_5 : decode cX5_haunts 5 = .ok (.ifCond .eq 7, 3) := by decide +kernel
theorem dX5_haunts_8 : decode cX5_haunts 8 = .ok (.invokestatic 65, 3) := by decide +kernel
theorem dX5_haunts_11 : decode cX5_haunts 11 = .ok (.lreturn, 1) := by decide +kernel
theorem dX5_haunts_12 : decode cX5_haunts 12 = .ok (.aload_n 0, 1) := by decide +kernel
theorem dX5_haunts_13 : decode cX5_haunts 13 = .ok (.getfield 16, 3) := by decide +kernel
theorem dX5_haunts_16 : decode cX5_haunts 16 = .ok (.iload_n 1, 1) := by decide +kernel
theorem dX5_haunts_17 : decode cX5_haunts 17 = .ok (.iaload, 1) := by decide +kernel
theorem dX5_haunts_18 : decode cX5_haunts 18 = .ok (.istore_n 2, 1) := by decide +kernel
theorem dX5_haunts_19 : decode cX5_haunts 19 = .ok (.lconst 0, 1) := by decide +kernel
theorem dX5_haunts_20 : decode cX5_haunts 20 = .ok (.lstore_n 3, 1) := by decide +kernel
theorem dX5_haunts_21 : decode cX5_haunts 21 = .ok (.iconst 0, 1) := by decide +kernel
theorem dX5_haunts_22 : decode cX5_haunts 22 = .ok (.istore 5, 2) := by decide +kernel
theorem dX5_haunts_24 : decode cX5_haunts 24 = .ok (.iload 5, 2) := by decide +kernel
theorem dX5_haunts_26 : decode cX5_haunts 26 = .ok (.aload_n 0, 1) := by decide +kernel
theorem dX5_haunts_27 : decode cX5_haunts 27 = .ok (.invokevirtual 75, 3) := by decide +kernel
theorem dX5_haunts_30 : decode cX5_haunts 30 = .ok (.if_icmp .ge 35, 3) := by decide +kernel
theorem dX5_haunts_33 : decode cX5_haunts 33 = .ok (.aload_n 0, 1) := by decide +kernel
theorem dX5_haunts_34 : decode cX5_haunts 34 = .ok (.getfield 16, 3) := by decide +kernel
theorem dX5_haunts_37 : decode cX5_haunts 37 = .ok (.iload_n 1, 1) := by decide +kernel
theorem dX5_haunts_38 : decode cX5_haunts 38 = .ok (.iload 5, 2) := by decide +kernel
theorem dX5_haunts_40 : decode cX5_haunts 40 = .ok (.iastore, 1) := by decide +kernel
theorem dX5_haunts_41 : decode cX5_haunts 41 = .ok (.lload_n 3, 1) := by decide +kernel
theorem dX5_haunts_42 : decode cX5_haunts 42 = .ok (.aload_n 0, 1) := by decide +kernel
theorem dX5_haunts_43 : decode cX5_haunts 43 = .ok (.invokevirtual 252, 3) := by decide +kernel
theorem dX5_haunts_46 : decode cX5_haunts 46 = .ok (.ifCond .eq 10, 3) := by decide +kernel
theorem dX5_haunts_49 : decode cX5_haunts 49 = .ok (.lconst 1, 1) := by decide +kernel
theorem dX5_haunts_50 : decode cX5_haunts 50 = .ok (.iload 5, 2) := by decide +kernel
theorem dX5_haunts_52 : decode cX5_haunts 52 = .ok (.lshl, 1) := by decide +kernel
theorem dX5_haunts_53 : decode cX5_haunts 53 = .ok (.goto 4, 3) := by decide +kernel
theorem dX5_haunts_56 : decode cX5_haunts 56 = .ok (.lconst 0, 1) := by decide +kernel
theorem dX5_haunts_57 : decode cX5_haunts 57 = .ok (.lor, 1) := by decide +kernel
theorem dX5_haunts_58 : decode cX5_haunts 58 = .ok (.lstore_n 3, 1) := by decide +kernel
theorem dX5_haunts_59 : decode cX5_haunts 59 = .ok (.iinc 5 1, 3) := by decide +kernel
theorem dX5_haunts_62 : decode cX5_haunts 62 = .ok (.goto (-38), 3) := by decide +kernel
theorem dX5_haunts_65 : decode cX5_haunts 65 = .ok (.aload_n 0, 1) := by decide +kernel
theorem dX5_haunts_66 : decode cX5_haunts 66 = .ok (.getfield 16, 3) := by decide +kernel
theorem dX5_haunts_69 : decode cX5_haunts 69 = .ok (.iload_n 1, 1) := by decide +kernel
theorem dX5_haunts_70 : decode cX5_haunts 70 = .ok (.iload_n 2, 1) := by decide +kernel
theorem dX5_haunts_71 : decode cX5_haunts 71 = .ok (.iastore, 1) := by decide +kernel
theorem dX5_haunts_72 : decode cX5_haunts 72 = .ok (.lload_n 3, 1) := by decide +kernel
theorem dX5_haunts_73 : decode cX5_haunts 73 = .ok (.lreturn, 1) := by decide +kernel
set_option maxRecDepth 20000 in
theorem ggX5_odds_X5_noSquare : GoodIn wsX5_odds wsX5_noSquare := goodIn_r _ [7, 8, 9, 10, 6, 11, 12, 13, 14, 15, 16, 102, 103, 104, 105, 106, 107, 108, 109, 110, 111, 112, 113, 114, 115, 116, 117, 118, 119, 120, 121, 122, 123, 124, 125, 126, 127, 128, 129, 130] (by decide +kernel) (by decide +kernel)
set_option maxRecDepth 20000 in
theorem gX5_odds_X5_noSquare : GoodIn wsX5_odds (wsV RX5 156 RX5 yX5_noSquare wsX5_noSquare) := goodIn_app (goodIn_of _ (by decide +kernel)) ggX5_odds_X5_noSquare
set_option maxRecDepth 20000 in
theorem ggX5_odds_X5_in : GoodIn wsX5_odds wsX5_in := goodIn_r _ [16] (by decide +kernel) (by decide +kernel)
set_option maxRecDepth 20000 in
theorem gX5_odds_X5_in : GoodIn wsX5_odds (va_wsS RX5 79 yX5_in wsX5_in) := goodIn_app (goodIn_of _ (by decide +kernel)) ggX5_odds_X5_in
set_option maxRecDepth 20000 in
theorem ggX5_odds_X5_lost : GoodIn wsX5_odds wsX5_lost := goodIn_r _ [19, 20] (by decide +kernel) (by decide +kernel)
set_option maxRecDepth 20000 in
theorem gX5_odds_X5_lost : GoodIn wsX5_odds (va_wsS RX5 65 yX5_lost wsX5_lost) := goodIn_app (goodIn_of _ (by decide +kernel)) ggX5_odds_X5_lost
set_option maxRecDepth 20000 in
theorem ggX5_odds_X5_wayBy : GoodIn wsX5_odds wsX5_wayBy := goodIn_r _ [24, 25, 26, 27, 28, 29, 6, 30, 31, 32, 8, 9, 10, 11, 12, 13, 33, 34, 35, 36, 37, 38, 39, 40, 41, 42, 1, 43, 44, 45, 46, 2, 47, 48, 49, 50, 51, 52, 53, 54, 55, 56, 57, 58, 59, 60, 61, 62, 63, 64, 65, 66, 67, 68, 14, 15, 16, 69, 70, 71, 72, 73, 74, 75, 76, 77, 78, 79, 80, 81, 82, 83, 84, 85, 86, 87, 88, 89, 90, 91, 92, 93, 94, 95, 96, 97, 98, 102, 103, 104, 105, 106, 107, 108, 109, 110, 111, 112, 113, 114, 115, 116, 117, 118, 119, 120, 121, 122, 123, 124, 125, 126, 127, 128, 129, 130] (by decide +kernel) (by decide +kernel)
set_option maxRecDepth 20000 in
theorem gX5_odds_X5_wayBy : GoodIn wsX5_odds (wsV RX5 240 RX5 yX5_wayBy wsX5_wayBy) := goodIn_app (goodIn_of _ (by decide +kernel)) ggX5_odds_X5_wayBy
set_option maxRecDepth 20000 in
theorem ggX5_odds_X5_share : GoodIn wsX5_odds wsX5_share := goodIn_r _ [101] (by decide +kernel) (by decide +kernel)
set_option maxRecDepth 20000 in
theorem gX5_odds_X5_share : GoodIn wsX5_odds (va_wsS RX5 256 yX5_share wsX5_share) := goodIn_app (goodIn_of _ (by decide +kernel)) ggX5_odds_X5_share
theorem dX5_odds_0 : decode cX5_odds 0 = .ok (.aload_n 0, 1) := by decide +kernel
theorem dX5_odds_1 : decode cX5_odds 1 = .ok (.iload_n 1, 1) := by decide +kernel
theorem dX5_odds_2 : decode cX5_odds 2 = .ok (.invokevirtual 156, 3) := by decide +kernel
theorem dX5_odds_5 : decode cX5_odds 5 = .ok (.ifCond .ne 13, 3) := by decide +kernel
theorem dX5_odds_8 : decode cX5_odds 8 = .ok (.iload_n 2, 1) := by decide +kernel
theorem dX5_odds_9 : decode cX5_odds 9 = .ok (.i2l, 1) := by decide +kernel
theorem dX5_odds_10 : decode cX5_odds 10 = .ok (.lconst 0, 1) := by decide +kernel
theorem dX5_odds_11 : decode cX5_odds 11 = .ok (.lconst 1, 1) := by decide +kernel
theorem dX5_odds_12 : decode cX5_odds 12 = .ok (.invokestatic 79, 3) := by decide +kernel
theorem dX5_odds_15 : decode cX5_odds 15 = .ok (.ifCond .ne 7, 3) := by decide +kernel
theorem dX5_odds_18 : decode cX5_odds 18 = .ok (.invokestatic 65, 3) := by decide +kernel
theorem dX5_odds_21 : decode cX5_odds 21 = .ok (.lreturn, 1) := by decide +kernel
theorem dX5_odds_22 : decode cX5_odds 22 = .ok (.aload_n 0, 1) := by decide +kernel
theorem dX5_odds_23 : decode cX5_odds 23 = .ok (.getfield 137, 3) := by decide +kernel
theorem dX5_odds_26 : decode cX5_odds 26 = .ok (.istore_n 3, 1) := by decide +kernel
theorem dX5_odds_27 : decode cX5_odds 27 = .ok (.lconst 0, 1) := by decide +kernel
theorem dX5_odds_28 : decode cX5_odds 28 = .ok (.lstore 4, 2) := by decide +kernel
theorem dX5_odds_30 : decode cX5_odds 30 = .ok (.lconst 0, 1) := by decide +kernel
theorem dX5_odds_31 : decode cX5_odds 31 = .ok (.lstore 6, 2) := by decide +kernel
theorem dX5_odds_33 : decode cX5_odds 33 = .ok (.iconst 0, 1) := by decide +kernel
theorem dX5_odds_34 : decode cX5_odds 34 = .ok (.istore 8, 2) := by decide +kernel
theorem dX5_odds_36 : decode cX5_odds 36 = .ok (.iload 8, 2) := by decide +kernel
theorem dX5_odds_38 : decode cX5_odds 38 = .ok (.iconst 1, 1) := by decide +kernel
theorem dX5_odds_39 : decode cX5_odds 39 = .ok (.aload_n 0, 1) := by decide +kernel
theorem dX5_odds_40 : decode cX5_odds 40 = .ok (.getfield 83, 3) := by decide +kernel
theorem dX5_odds_43 : decode cX5_odds 43 = .ok (.ishl, 1) := by decide +kernel
theorem dX5_odds_44 : decode cX5_odds 44 = .ok (.if_icmp .ge 50, 3) := by decide +kernel
theorem dX5_odds_47 : decode cX5_odds 47 = .ok (.iload 8, 2) := by decide +kernel
theorem dX5_odds_49 : decode cX5_odds 49 = .ok (.iload_n 3, 1) := by decide +kernel
theorem dX5_odds_50 : decode cX5_odds 50 = .ok (.iand, 1) := by decide +kernel
theorem dX5_odds_51 : decode cX5_odds 51 = .ok (.ifCond .ne 37, 3) := by decide +kernel
theorem dX5_odds_54 : decode cX5_odds 54 = .ok (.aload_n 0, 1) := by decide +kernel
theorem dX5_odds_55 : decode cX5_odds 55 = .ok (.iload_n 3, 1) := by decide +kernel
theorem dX5_odds_56 : decode cX5_odds 56 = .ok (.iload 8, 2) := by decide +kernel
theorem dX5_odds_58 : decode cX5_odds 58 = .ok (.ior, 1) := by decide +kernel
theorem dX5_odds_59 : decode cX5_odds 59 = .ok (.putfield 137, 3) := by decide +kernel
theorem dX5_odds_62 : decode cX5_odds 62 = .ok (.lload 6, 2) := by decide +kernel
theorem dX5_odds_64 : decode cX5_odds 64 = .ok (.lconst 1, 1) := by decide +kernel
theorem dX5_odds_65 : decode cX5_odds 65 = .ok (.ladd, 1) := by decide +kernel
theorem dX5_odds_66 : decode cX5_odds 66 = .ok (.lstore 6, 2) := by decide +kernel
theorem dX5_odds_68 : decode cX5_odds 68 = .ok (.lload 4, 2) := by decide +kernel
theorem dX5_odds_70 : decode cX5_odds 70 = .ok (.aload_n 0, 1) := by decide +kernel
theorem dX5_odds_71 : decode cX5_odds 71 = .ok (.iload_n 1, 1) := by decide +kernel
theorem dX5_odds_72 : decode cX5_odds 72 = .ok (.iconst 0, 1) := by decide +kernel
theorem dX5_odds_73 : decode cX5_odds 73 = .ok (.iconst (-1), 1) := by decide +kernel
theorem dX5_odds_74 : decode cX5_odds 74 = .ok (.invokevirtual 240, 3) := by decide +kernel
theorem dX5_odds_77 : decode cX5_odds 77 = .ok (.ifCond .le 7, 3) := by decide +kernel
theorem dX5_odds_80 : decode cX5_odds 80 = .ok (.lconst 1, 1) := by decide +kernel
theorem dX5_odds_81 : decode cX5_odds 81 = .ok (.goto 4, 3) := by decide +kernel
theorem dX5_odds_84 : decode cX5_odds 84 = .ok (.lconst 0, 1) := by decide +kernel
theorem dX5_odds_85 : decode cX5_odds 85 = .ok (.ladd, 1) := by decide +kernel
theorem dX5_odds_86 : decode cX5_odds 86 = .ok (.lstore 4, 2) := by decide +kernel
theorem dX5_odds_88 : decode cX5_odds 88 = .ok (.iinc 8 1, 3) := by decide +kernel
theorem dX5_odds_91 : decode cX5_odds 91 = .ok (.goto (-55), 3) := by decide +kernel
theorem dX5_odds_94 : decode cX5_odds 94 = .ok (.aload_n 0, 1) := by decide +kernel
theorem dX5_odds_95 : decode cX5_odds 95 = .ok (.iload_n 3, 1) := by decide +kernel
theorem dX5_odds_96 : decode cX5_odds 96 = .ok (.putfield 137, 3) := by decide +kernel
theorem dX5_odds_99 : decode cX5_odds 99 = .ok (.lload 4, 2) := by decide +kernel
theorem dX5_odds_101 : decode cX5_odds 101 = .ok (.lload 6, 2) := by decide +kernel
theorem dX5_odds_103 : decode cX5_odds 103 = .ok (.iload_n 2, 1) := by decide +kernel
theorem dX5_odds_104 : decode cX5_odds 104 = .ok (.invokestatic 256, 3) := by decide +kernel
theorem dX5_odds_107 : decode cX5_odds 107 = .ok (.lreturn, 1) := by decide +kernel
set_option maxRecDepth 20000 in
theorem ggX5_noSheet_X5_in : GoodIn wsX5_noSheet wsX5_in := goodIn_r _ [5] (by decide +kernel) (by decide +kernel)
set_option maxRecDepth 20000 in
theorem gX5_noSheet_X5_in : GoodIn wsX5_noSheet (va_wsS RX5 79 yX5_in wsX5_in) := goodIn_app (goodIn_of _ (by decide +kernel)) ggX5_noSheet_X5_in
theorem dX5_noSheet_0 : decode cX5_noSheet 0 = .ok (.iload_n 0, 1) := by decide +kernel
theorem dX5_noSheet_1 : decode cX5_noSheet 1 = .ok (.i2l, 1) := by decide +kernel
theorem dX5_noSheet_2 : decode cX5_noSheet 2 = .ok (.lconst 0, 1) := by decide +kernel
theorem dX5_noSheet_3 : decode cX5_noSheet 3 = .ok (.ldc2_w 260, 3) := by decide +kernel
theorem dX5_noSheet_6 : decode cX5_noSheet 6 = .ok (.invokestatic 79, 3) := by decide +kernel
theorem dX5_noSheet_9 : decode cX5_noSheet 9 = .ok (.ifCond .ne 7, 3) := by decide +kernel
theorem dX5_noSheet_12 : decode cX5_noSheet 12 = .ok (.iconst 1, 1) := by decide +kernel
theorem dX5_noSheet_13 : decode cX5_noSheet 13 = .ok (.goto 4, 3) := by decide +kernel
theorem dX5_noSheet_16 : decode cX5_noSheet 16 = .ok (.iconst 0, 1) := by decide +kernel
theorem dX5_noSheet_17 : decode cX5_noSheet 17 = .ok (.ireturn, 1) := by decide +kernel
set_option maxRecDepth 20000 in
theorem ggX5_sheet_X5_noSheet : GoodIn wsX5_sheet wsX5_noSheet := goodIn_r _ [8, 9, 10, 11, 7, 12] (by decide +kernel) (by decide +kernel)
set_option maxRecDepth 20000 in
theorem gX5_sheet_X5_noSheet : GoodIn wsX5_sheet (va_wsS RX5 121 yX5_noSheet wsX5_noSheet) := goodIn_app (goodIn_of _ (by decide +kernel)) ggX5_sheet_X5_noSheet
set_option maxRecDepth 20000 in
theorem ggX5_sheet_X5_refused : GoodIn wsX5_sheet wsX5_refused := goodIn_r _ [16, 17, 22, 23, 24, 25, 26, 27, 28, 29, 30, 31, 32, 33, 34, 35, 36, 37, 38, 39, 40, 41, 42, 43, 44, 45, 46, 47, 48, 49, 50] (by decide +kernel) (by decide +kernel)
set_option maxRecDepth 20000 in
theorem gX5_sheet_X5_refused : GoodIn wsX5_sheet (wsV RX5 125 RX5 yX5_refused wsX5_refused) := goodIn_app (goodIn_of _ (by decide +kernel)) ggX5_sheet_X5_refused
set_option maxRecDepth 20000 in
theorem ggX5_sheet_X5_in : GoodIn wsX5_sheet wsX5_in := goodIn_r _ [12] (by decide +kernel) (by decide +kernel)
set_option maxRecDepth 20000 in
theorem gX5_sheet_X5_in : GoodIn wsX5_sheet (va_wsS RX5 79 yX5_in wsX5_in) := goodIn_app (goodIn_of _ (by decide +kernel)) ggX5_sheet_X5_in
set_option maxRecDepth 20000 in
theorem ggX5_sheet_X5_failed : GoodIn wsX5_sheet wsX5_failed := goodIn_r _ [21, 17, 22, 23, 24, 25, 26, 27, 28, 29, 30, 31, 32, 33, 34, 35, 36, 37, 38, 39, 40, 41, 42, 43, 44, 45, 46, 47, 48, 49, 50] (by decide +kernel) (by decide +kernel)
set_option maxRecDepth 20000 in
theorem gX5_sheet_X5_failed : GoodIn wsX5_sheet (wsV RX5 113 RX5 yX5_failed wsX5_failed) := goodIn_app (goodIn_of _ (by decide +kernel)) ggX5_sheet_X5_failed
theorem dX5_sheet_0 : decode cX5_sheet 0 = .ok (.iload_n 1, 1) := by decide +kernel
theorem dX5_sheet_1 : decode cX5_sheet 1 = .ok (.invokestatic 121, 3) := by decide +kernel
theorem dX5_sheet_4 : decode cX5_sheet 4 = .ok (.ifCond .eq 9, 3) := by decide +kernel
theorem dX5_sheet_7 : decode cX5_sheet 7 = .ok (.aload_n 0, 1) := by decide +kernel
theorem dX5_sheet_8 : decode cX5_sheet 8 = .ok (.iconst (-1), 1) := by decide +kernel
theorem dX5_sheet_9 : decode cX5_sheet 9 = .ok (.invokevirtual 125, 3) := by decide +kernel
theorem dX5_sheet_12 : decode cX5_sheet 12 = .ok (.ireturn, 1) := by decide +kernel
theorem dX5_sheet_13 : decode cX5_sheet 13 = .ok (.iload_n 2, 1) := by decide +kernel
theorem dX5_sheet_14 : decode cX5_sheet 14 = .ok (.i2l, 1) := by decide +kernel
theorem dX5_sheet_15 : decode cX5_sheet 15 = .ok (.lconst 0, 1) := by decide +kernel
theorem dX5_sheet_16 : decode cX5_sheet 16 = .ok (.ldc2_w 128, 3) := by decide +kernel
theorem dX5_sheet_19 : decode cX5_sheet 19 = .ok (.invokestatic 79, 3) := by decide +kernel
theorem dX5_sheet_22 : decode cX5_sheet 22 = .ok (.ifCond .eq 9, 3) := by decide +kernel
theorem dX5_sheet_25 : decode cX5_sheet 25 = .ok (.iload_n 3, 1) := by decide +kernel
theorem dX5_sheet_26 : decode cX5_sheet 26 = .ok (.bipush 60, 2) := by decide +kernel
theorem dX5_sheet_28 : decode cX5_sheet 28 = .ok (.if_icmp .le 10, 3) := by decide +kernel
theorem dX5_sheet_31 : decode cX5_sheet 31 = .ok (.aload_n 0, 1) := by decide +kernel
theorem dX5_sheet_32 : decode cX5_sheet 32 = .ok (.bipush (-2), 2) := by decide +kernel
theorem dX5_sheet_34 : decode cX5_sheet 34 = .ok (.invokevirtual 125, 3) := by decide +kernel
theorem dX5_sheet_37 : decode cX5_sheet 37 = .ok (.ireturn, 1) := by decide +kernel
theorem dX5_sheet_38 : decode cX5_sheet 38 = .ok (.iload_n 3, 1) := by decide +kernel
theorem dX5_sheet_39 : decode cX5_sheet 39 = .ok (.ifCond .ge 9, 3) := by decide +kernel
theorem dX5_sheet_42 : decode cX5_sheet 42 = .ok (.aload_n 0, 1) := by decide +kernel
