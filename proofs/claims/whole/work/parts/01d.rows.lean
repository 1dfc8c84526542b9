theorem dX4_trench_94 : decode cX4_trench 94 = .ok (.iload 4, 2) := by decide +kernel
theorem dX4_trench_96 : decode cX4_trench 96 = .ok (.invokevirtual 70, 3) := by decide +kernel
theorem dX4_trench_99 : decode cX4_trench 99 = .ok (.ifCond .ne 9, 3) := by decide +kernel
theorem dX4_trench_102 : decode cX4_trench 102 = .ok (.aload_n 0, 1) := by decide +kernel
theorem dX4_trench_103 : decode cX4_trench 103 = .ok (.iconst 3, 1) := by decide +kernel
theorem dX4_trench_104 : decode cX4_trench 104 = .ok (.invokevirtual 62, 3) := by decide +kernel
theorem dX4_trench_107 : decode cX4_trench 107 = .ok (.ireturn, 1) := by decide +kernel
theorem dX4_trench_108 : decode cX4_trench 108 = .ok (.aload_n 0, 1) := by decide +kernel
theorem dX4_trench_109 : decode cX4_trench 109 = .ok (.getfield 20, 3) := by decide +kernel
theorem dX4_trench_112 : decode cX4_trench 112 = .ok (.aload 6, 2) := by decide +kernel
theorem dX4_trench_114 : decode cX4_trench 114 = .ok (.iload_n 3, 1) := by decide +kernel
theorem dX4_trench_115 : decode cX4_trench 115 = .ok (.iload 4, 2) := by decide +kernel
theorem dX4_trench_117 : decode cX4_trench 117 = .ok (.invokevirtual 158, 3) := by decide +kernel
theorem dX4_trench_120 : decode cX4_trench 120 = .ok (.ifCond .ne 5, 3) := by decide +kernel
theorem dX4_trench_123 : decode cX4_trench 123 = .ok (.iconst (-1), 1) := by decide +kernel
theorem dX4_trench_124 : decode cX4_trench 124 = .ok (.ireturn, 1) := by decide +kernel
theorem dX4_trench_125 : decode cX4_trench 125 = .ok (.aload_n 0, 1) := by decide +kernel
theorem dX4_trench_126 : decode cX4_trench 126 = .ok (.getfield 20, 3) := by decide +kernel
theorem dX4_trench_129 : decode cX4_trench 129 = .ok (.aload 6, 2) := by decide +kernel
theorem dX4_trench_131 : decode cX4_trench 131 = .ok (.iload_n 3, 1) := by decide +kernel
theorem dX4_trench_132 : decode cX4_trench 132 = .ok (.iload 4, 2) := by decide +kernel
theorem dX4_trench_134 : decode cX4_trench 134 = .ok (.invokevirtual 162, 3) := by decide +kernel
theorem dX4_trench_137 : decode cX4_trench 137 = .ok (.istore 7, 2) := by decide +kernel
theorem dX4_trench_139 : decode cX4_trench 139 = .ok (.iload 5, 2) := by decide +kernel
theorem dX4_trench_141 : decode cX4_trench 141 = .ok (.iconst 1, 1) := by decide +kernel
theorem dX4_trench_142 : decode cX4_trench 142 = .ok (.if_icmp .ne 6, 3) := by decide +kernel
theorem dX4_trench_145 : decode cX4_trench 145 = .ok (.iload 7, 2) := by decide +kernel
theorem dX4_trench_147 : decode cX4_trench 147 = .ok (.ireturn, 1) := by decide +kernel
theorem dX4_trench_148 : decode cX4_trench 148 = .ok (.iload 7, 2) := by decide +kernel
theorem dX4_trench_150 : decode cX4_trench 150 = .ok (.bipush (-9), 2) := by decide +kernel
theorem dX4_trench_152 : decode cX4_trench 152 = .ok (.if_icmp .ne 17, 3) := by decide +kernel
theorem dX4_trench_155 : decode cX4_trench 155 = .ok (.aload_n 0, 1) := by decide +kernel
theorem dX4_trench_156 : decode cX4_trench 156 = .ok (.aload 6, 2) := by decide +kernel
theorem dX4_trench_158 : decode cX4_trench 158 = .ok (.iload_n 3, 1) := by decide +kernel
theorem dX4_trench_159 : decode cX4_trench 159 = .ok (.iload 4, 2) := by decide +kernel
theorem dX4_trench_161 : decode cX4_trench 161 = .ok (.iload 5, 2) := by decide +kernel
theorem dX4_trench_163 : decode cX4_trench 163 = .ok (.invokevirtual 165, 3) := by decide +kernel
theorem dX4_trench_166 : decode cX4_trench 166 = .ok (.goto 8, 3) := by decide +kernel
theorem dX4_trench_169 : decode cX4_trench 169 = .ok (.bipush (-100), 2) := by decide +kernel
theorem dX4_trench_171 : decode cX4_trench 171 = .ok (.iload 7, 2) := by decide +kernel
theorem dX4_trench_173 : decode cX4_trench 173 = .ok (.isub, 1) := by decide +kernel
theorem dX4_trench_174 : decode cX4_trench 174 = .ok (.ireturn, 1) := by decide +kernel
set_option maxRecDepth 20000 in
theorem ggX4_ofTrench_X0_shotCells : GoodIn wsX4_ofTrench wsX0_shotCells := goodIn_r _ [8, 9, 10, 11, 12, 7, 13, 14, 15, 16, 17, 18, 19, 20, 21, 22, 23, 24, 25, 26, 27, 28, 29, 30, 31, 32, 33, 34, 65, 66, 67, 68, 69, 70, 71, 72, 73, 74, 75, 76, 77, 78] (by decide +kernel) (by decide +kernel)
set_option maxRecDepth 20000 in
theorem gX4_ofTrench_X0_shotCells : GoodIn wsX4_ofTrench (wsV RX4 169 RX0 yX0_shotCells wsX0_shotCells) := goodIn_app (goodIn_of _ (by decide +kernel)) ggX4_ofTrench_X0_shotCells
set_option maxRecDepth 20000 in
theorem ggX4_ofTrench_X4_isIn : GoodIn wsX4_ofTrench wsX4_isIn := goodIn_r _ [38] (by decide +kernel) (by decide +kernel)
set_option maxRecDepth 20000 in
theorem gX4_ofTrench_X4_isIn : GoodIn wsX4_ofTrench (va_wsS RX4 127 yX4_isIn wsX4_isIn) := goodIn_app (goodIn_of _ (by decide +kernel)) ggX4_ofTrench_X4_isIn
set_option maxRecDepth 20000 in
theorem ggX4_ofTrench_X0_nightsOf : GoodIn wsX4_ofTrench wsX0_nightsOf := goodIn_r _ [42, 43, 44, 36, 37, 38, 65, 66, 67, 68, 69, 70, 71, 72, 73, 74, 75, 76, 77, 78] (by decide +kernel) (by decide +kernel)
set_option maxRecDepth 20000 in
theorem gX4_ofTrench_X0_nightsOf : GoodIn wsX4_ofTrench (wsV RX4 152 RX0 yX0_nightsOf wsX0_nightsOf) := goodIn_app (goodIn_of _ (by decide +kernel)) ggX4_ofTrench_X0_nightsOf
set_option maxRecDepth 20000 in
theorem ggX4_ofTrench_X0_shootersAt : GoodIn wsX4_ofTrench wsX0_shootersAt := goodIn_r _ [48, 9, 49, 10, 11, 12, 7, 13, 14, 15, 16, 17, 18, 19, 20, 21, 22, 23, 24, 25, 26, 27, 28, 29, 30, 31, 32, 33, 34, 65, 66, 67, 68, 69, 70, 71, 72, 73, 74, 75, 76, 77, 78] (by decide +kernel) (by decide +kernel)
set_option maxRecDepth 20000 in
theorem gX4_ofTrench_X0_shootersAt : GoodIn wsX4_ofTrench (wsV RX4 120 RX0 yX0_shootersAt wsX0_shootersAt) := goodIn_app (goodIn_of _ (by decide +kernel)) ggX4_ofTrench_X0_shootersAt
set_option maxRecDepth 20000 in
theorem ggX4_ofTrench_J13_bitCount_95d88 : GoodIn wsX4_ofTrench wsJ13_bitCount_95d88 := goodIn_r _ [53, 54, 55, 56] (by decide +kernel) (by decide +kernel)
set_option maxRecDepth 20000 in
theorem gX4_ofTrench_J13_bitCount_95d88 : GoodIn wsX4_ofTrench (va_wsS RX4 155 yJ13_bitCount_95d88 wsJ13_bitCount_95d88) := goodIn_app (goodIn_of _ (by decide +kernel)) ggX4_ofTrench_J13_bitCount_95d88
theorem dX4_ofTrench_0 : decode cX4_ofTrench 0 = .ok (.aload_n 0, 1) := by decide +kernel
theorem dX4_ofTrench_1 : decode cX4_ofTrench 1 = .ok (.getfield 20, 3) := by decide +kernel
theorem dX4_ofTrench_4 : decode cX4_ofTrench 4 = .ok (.aload_n 0, 1) := by decide +kernel
theorem dX4_ofTrench_5 : decode cX4_ofTrench 5 = .ok (.getfield 20, 3) := by decide +kernel
theorem dX4_ofTrench_8 : decode cX4_ofTrench 8 = .ok (.getfield 101, 3) := by decide +kernel
theorem dX4_ofTrench_11 : decode cX4_ofTrench 11 = .ok (.invokevirtual 169, 3) := by decide +kernel
theorem dX4_ofTrench_14 : decode cX4_ofTrench 14 = .ok (.lstore 5, 2) := by decide +kernel
theorem dX4_ofTrench_16 : decode cX4_ofTrench 16 = .ok (.lconst 0, 1) := by decide +kernel
theorem dX4_ofTrench_17 : decode cX4_ofTrench 17 = .ok (.lstore 7, 2) := by decide +kernel
theorem dX4_ofTrench_19 : decode cX4_ofTrench 19 = .ok (.iconst 0, 1) := by decide +kernel
theorem dX4_ofTrench_20 : decode cX4_ofTrench 20 = .ok (.istore 9, 2) := by decide +kernel
theorem dX4_ofTrench_22 : decode cX4_ofTrench 22 = .ok (.iconst 0, 1) := by decide +kernel
theorem dX4_ofTrench_23 : decode cX4_ofTrench 23 = .ok (.istore 10, 2) := by decide +kernel
theorem dX4_ofTrench_25 : decode cX4_ofTrench 25 = .ok (.iload_n 2, 1) := by decide +kernel
theorem dX4_ofTrench_26 : decode cX4_ofTrench 26 = .ok (.istore 11, 2) := by decide +kernel
theorem dX4_ofTrench_28 : decode cX4_ofTrench 28 = .ok (.iload 11, 2) := by decide +kernel
theorem dX4_ofTrench_30 : decode cX4_ofTrench 30 = .ok (.iload_n 2, 1) := by decide +kernel
theorem dX4_ofTrench_31 : decode cX4_ofTrench 31 = .ok (.iload_n 3, 1) := by decide +kernel
theorem dX4_ofTrench_32 : decode cX4_ofTrench 32 = .ok (.iadd, 1) := by decide +kernel
theorem dX4_ofTrench_33 : decode cX4_ofTrench 33 = .ok (.if_icmp .ge 64, 3) := by decide +kernel
theorem dX4_ofTrench_36 : decode cX4_ofTrench 36 = .ok (.aload_n 1, 1) := by decide +kernel
theorem dX4_ofTrench_37 : decode cX4_ofTrench 37 = .ok (.getfield 172, 3) := by decide +kernel
theorem dX4_ofTrench_40 : decode cX4_ofTrench 40 = .ok (.iload 11, 2) := by decide +kernel
theorem dX4_ofTrench_42 : decode cX4_ofTrench 42 = .ok (.iaload, 1) := by decide +kernel
theorem dX4_ofTrench_43 : decode cX4_ofTrench 43 = .ok (.istore 12, 2) := by decide +kernel
theorem dX4_ofTrench_45 : decode cX4_ofTrench 45 = .ok (.iload 12, 2) := by decide +kernel
theorem dX4_ofTrench_47 : decode cX4_ofTrench 47 = .ok (.lload 7, 2) := by decide +kernel
theorem dX4_ofTrench_49 : decode cX4_ofTrench 49 = .ok (.invokestatic 127, 3) := by decide +kernel
theorem dX4_ofTrench_52 : decode cX4_ofTrench 52 = .ok (.ifCond .ne 17, 3) := by decide +kernel
theorem dX4_ofTrench_55 : decode cX4_ofTrench 55 = .ok (.iload 9, 2) := by decide +kernel
theorem dX4_ofTrench_57 : decode cX4_ofTrench 57 = .ok (.aload_n 0, 1) := by decide +kernel
theorem dX4_ofTrench_58 : decode cX4_ofTrench 58 = .ok (.getfield 20, 3) := by decide +kernel
theorem dX4_ofTrench_61 : decode cX4_ofTrench 61 = .ok (.iload 12, 2) := by decide +kernel
theorem dX4_ofTrench_63 : decode cX4_ofTrench 63 = .ok (.invokevirtual 152, 3) := by decide +kernel
theorem dX4_ofTrench_66 : decode cX4_ofTrench 66 = .ok (.iadd, 1) := by decide +kernel
theorem dX4_ofTrench_67 : decode cX4_ofTrench 67 = .ok (.istore 9, 2) := by decide +kernel
theorem dX4_ofTrench_69 : decode cX4_ofTrench 69 = .ok (.iload 12, 2) := by decide +kernel
theorem dX4_ofTrench_71 : decode cX4_ofTrench 71 = .ok (.lload 5, 2) := by decide +kernel
theorem dX4_ofTrench_73 : decode cX4_ofTrench 73 = .ok (.invokestatic 127, 3) := by decide +kernel
theorem dX4_ofTrench_76 : decode cX4_ofTrench 76 = .ok (.ifCond .eq 6, 3) := by decide +kernel
theorem dX4_ofTrench_79 : decode cX4_ofTrench 79 = .ok (.iinc 10 1, 3) := by decide +kernel
theorem dX4_ofTrench_82 : decode cX4_ofTrench 82 = .ok (.lload 7, 2) := by decide +kernel
theorem dX4_ofTrench_84 : decode cX4_ofTrench 84 = .ok (.lconst 1, 1) := by decide +kernel
theorem dX4_ofTrench_85 : decode cX4_ofTrench 85 = .ok (.iload 12, 2) := by decide +kernel
theorem dX4_ofTrench_87 : decode cX4_ofTrench 87 = .ok (.lshl, 1) := by decide +kernel
theorem dX4_ofTrench_88 : decode cX4_ofTrench 88 = .ok (.lor, 1) := by decide +kernel
theorem dX4_ofTrench_89 : decode cX4_ofTrench 89 = .ok (.lstore 7, 2) := by decide +kernel
theorem dX4_ofTrench_91 : decode cX4_ofTrench 91 = .ok (.iinc 11 1, 3) := by decide +kernel
theorem dX4_ofTrench_94 : decode cX4_ofTrench 94 = .ok (.goto (-66), 3) := by decide +kernel
theorem dX4_ofTrench_97 : decode cX4_ofTrench 97 = .ok (.iload 4, 2) := by decide +kernel
theorem dX4_ofTrench_99 : decode cX4_ofTrench 99 = .ok (.tableswitch 45 0 3 #[29, 45, 32, 35], 29) := by decide +kernel
theorem dX4_ofTrench_128 : decode cX4_ofTrench 128 = .ok (.iload 9, 2) := by decide +kernel
theorem dX4_ofTrench_130 : decode cX4_ofTrench 130 = .ok (.ireturn, 1) := by decide +kernel
theorem dX4_ofTrench_131 : decode cX4_ofTrench 131 = .ok (.iload 10, 2) := by decide +kernel
theorem dX4_ofTrench_133 : decode cX4_ofTrench 133 = .ok (.ireturn, 1) := by decide +kernel
theorem dX4_ofTrench_134 : decode cX4_ofTrench 134 = .ok (.aload_n 0, 1) := by decide +kernel
theorem dX4_ofTrench_135 : decode cX4_ofTrench 135 = .ok (.getfield 20, 3) := by decide +kernel
theorem dX4_ofTrench_138 : decode cX4_ofTrench 138 = .ok (.lload 7, 2) := by decide +kernel
theorem dX4_ofTrench_140 : decode cX4_ofTrench 140 = .ok (.invokevirtual 120, 3) := by decide +kernel
theorem dX4_ofTrench_143 : decode cX4_ofTrench 143 = .ok (.ireturn, 1) := by decide +kernel
theorem dX4_ofTrench_144 : decode cX4_ofTrench 144 = .ok (.lload 7, 2) := by decide +kernel
theorem dX4_ofTrench_146 : decode cX4_ofTrench 146 = .ok (.invokestatic 155, 3) := by decide +kernel
theorem dX4_ofTrench_149 : decode cX4_ofTrench 149 = .ok (.ireturn, 1) := by decide +kernel
set_option maxRecDepth 20000 in
theorem ggX4_sap_X0_hasCell : GoodIn wsX4_sap wsX0_hasCell := goodIn_r _ [8, 9, 116, 117, 118, 119, 120, 121, 122, 123, 124, 125, 126, 127, 128, 129] (by decide +kernel) (by decide +kernel)
set_option maxRecDepth 20000 in
theorem gX4_sap_X0_hasCell : GoodIn wsX4_sap (wsV RX4 104 RX0 yX0_hasCell wsX0_hasCell) := goodIn_app (goodIn_of _ (by decide +kernel)) ggX4_sap_X0_hasCell
set_option maxRecDepth 20000 in
theorem ggX4_sap_X0_openCells : GoodIn wsX4_sap wsX0_openCells := goodIn_r _ [13, 14, 15, 16, 17, 7, 18, 9, 19, 20, 21, 22, 23, 24, 25, 26, 27, 28, 29, 30, 31, 32, 33, 34, 35, 36, 37, 38, 39, 40, 41, 42, 43, 44, 45, 46, 47, 48, 49, 116, 117, 118, 119, 120, 121, 122, 123, 124, 125, 126, 127, 128, 129] (by decide +kernel) (by decide +kernel)
set_option maxRecDepth 20000 in
theorem gX4_sap_X0_openCells : GoodIn wsX4_sap (wsV RX4 148 RX0 yX0_openCells wsX0_openCells) := goodIn_app (goodIn_of _ (by decide +kernel)) ggX4_sap_X0_openCells
set_option maxRecDepth 20000 in
theorem ggX4_sap_X3_find : GoodIn wsX4_sap wsX3_find := goodIn_r _ [54, 55, 56, 57, 58, 59, 60, 61, 62, 63, 53, 64, 65, 66, 67, 68, 69, 70, 7, 71, 72, 19, 73, 74, 75, 76, 77, 78, 79, 80, 81, 82, 83, 84, 85, 86, 87, 88, 89, 46, 48, 45, 49, 90, 91, 92, 93, 94, 95, 96, 97, 98, 99, 100, 101, 102, 103, 130, 131, 132, 133, 134, 116, 117, 118, 119, 120, 121, 122, 123, 124, 125, 126, 127, 128, 129] (by decide +kernel) (by decide +kernel)
set_option maxRecDepth 20000 in
theorem gX4_sap_X3_find : GoodIn wsX4_sap (wsV RX4 175 RX3 yX3_find wsX3_find) := goodIn_app (goodIn_of _ (by decide +kernel)) ggX4_sap_X3_find
set_option maxRecDepth 20000 in
theorem ggX4_sap_X3_told : GoodIn wsX4_sap wsX3_told := goodIn_r _ [107, 55, 57, 67, 99, 130, 131, 132, 133, 134] (by decide +kernel) (by decide +kernel)
set_option maxRecDepth 20000 in
theorem gX4_sap_X3_told : GoodIn wsX4_sap (wsV RX4 179 RX3 yX3_told wsX3_told) := goodIn_app (goodIn_of _ (by decide +kernel)) ggX4_sap_X3_told
theorem dX4_sap_0 : decode cX4_sap 0 = .ok (.aload_n 0, 1) := by decide +kernel
theorem dX4_sap_1 : decode cX4_sap 1 = .ok (.getfield 20, 3) := by decide +kernel
theorem dX4_sap_4 : decode cX4_sap 4 = .ok (.iload_n 1, 1) := by decide +kernel
theorem dX4_sap_5 : decode cX4_sap 5 = .ok (.invokevirtual 104, 3) := by decide +kernel
theorem dX4_sap_8 : decode cX4_sap 8 = .ok (.ifCond .ne 5, 3) := by decide +kernel
theorem dX4_sap_11 : decode cX4_sap 11 = .ok (.iconst (-1), 1) := by decide +kernel
theorem dX4_sap_12 : decode cX4_sap 12 = .ok (.ireturn, 1) := by decide +kernel
theorem dX4_sap_13 : decode cX4_sap 13 = .ok (.iload_n 2, 1) := by decide +kernel
theorem dX4_sap_14 : decode cX4_sap 14 = .ok (.bipush (-2), 2) := by decide +kernel
theorem dX4_sap_16 : decode cX4_sap 16 = .ok (.if_icmp .lt 9, 3) := by decide +kernel
theorem dX4_sap_19 : decode cX4_sap 19 = .ok (.iload_n 2, 1) := by decide +kernel
theorem dX4_sap_20 : decode cX4_sap 20 = .ok (.bipush 36, 2) := by decide +kernel
theorem dX4_sap_22 : decode cX4_sap 22 = .ok (.if_icmp .lt 6, 3) := by decide +kernel
theorem dX4_sap_25 : decode cX4_sap 25 = .ok (.bipush (-2), 2) := by decide +kernel
theorem dX4_sap_27 : decode cX4_sap 27 = .ok (.ireturn, 1) := by decide +kernel
theorem dX4_sap_28 : decode cX4_sap 28 = .ok (.aload_n 0, 1) := by decide +kernel
theorem dX4_sap_29 : decode cX4_sap 29 = .ok (.getfield 27, 3) := by decide +kernel
theorem dX4_sap_32 : decode cX4_sap 32 = .ok (.aload_n 0, 1) := by decide +kernel
theorem dX4_sap_33 : decode cX4_sap 33 = .ok (.getfield 20, 3) := by decide +kernel
theorem dX4_sap_36 : decode cX4_sap 36 = .ok (.aload_n 0, 1) := by decide +kernel
theorem dX4_sap_37 : decode cX4_sap 37 = .ok (.getfield 20, 3) := by decide +kernel
theorem dX4_sap_40 : decode cX4_sap 40 = .ok (.aload_n 0, 1) := by decide +kernel
theorem dX4_sap_41 : decode cX4_sap 41 = .ok (.getfield 20, 3) := by decide +kernel
theorem dX4_sap_44 : decode cX4_sap 44 = .ok (.getfield 101, 3) := by decide +kernel
theorem dX4_sap_47 : decode cX4_sap 47 = .ok (.invokevirtual 148, 3) := by decide +kernel
theorem dX4_sap_50 : decode cX4_sap 50 = .ok (.lconst 0, 1) := by decide +kernel
theorem dX4_sap_51 : decode cX4_sap 51 = .ok (.iload_n 1, 1) := by decide +kernel
theorem dX4_sap_52 : decode cX4_sap 52 = .ok (.invokevirtual 175, 3) := by decide +kernel
theorem dX4_sap_55 : decode cX4_sap 55 = .ok (.aload_n 0, 1) := by decide +kernel
theorem dX4_sap_56 : decode cX4_sap 56 = .ok (.getfield 27, 3) := by decide +kernel
theorem dX4_sap_59 : decode cX4_sap 59 = .ok (.iload_n 2, 1) := by decide +kernel
theorem dX4_sap_60 : decode cX4_sap 60 = .ok (.invokevirtual 179, 3) := by decide +kernel
theorem dX4_sap_63 : decode cX4_sap 63 = .ok (.ireturn, 1) := by decide +kernel
set_option maxRecDepth 20000 in
theorem ggX4_rush_X0_hasCell : GoodIn wsX4_rush wsX0_hasCell := goodIn_r _ [8, 9, 112, 113, 114, 115, 116, 117, 118, 119, 120, 121, 122, 123, 124, 125] (by decide +kernel) (by decide +kernel)
set_option maxRecDepth 20000 in
theorem gX4_rush_X0_hasCell : GoodIn wsX4_rush (wsV RX4 104 RX0 yX0_hasCell wsX0_hasCell) := goodIn_app (goodIn_of _ (by decide +kernel)) ggX4_rush_X0_hasCell
set_option maxRecDepth 20000 in
theorem ggX4_rush_X0_soil : GoodIn wsX4_rush wsX0_soil := goodIn_r _ [13, 9, 14, 15, 16, 17, 18, 7, 19, 20, 21, 112, 113, 114, 115, 116, 117, 118, 119, 120, 121, 122, 123, 124, 125] (by decide +kernel) (by decide +kernel)
set_option maxRecDepth 20000 in
theorem gX4_rush_X0_soil : GoodIn wsX4_rush (wsV RX4 124 RX0 yX0_soil wsX0_soil) := goodIn_app (goodIn_of _ (by decide +kernel)) ggX4_rush_X0_soil
set_option maxRecDepth 20000 in
theorem ggX4_rush_X0_shotCells : GoodIn wsX4_rush wsX0_shotCells := goodIn_r _ [25, 20, 16, 17, 18, 7, 19, 21, 26, 27, 28, 29, 30, 31, 32, 33, 34, 35, 36, 37, 38, 39, 40, 41, 42, 43, 44, 45, 112, 113, 114, 115, 116, 117, 118, 119, 120, 121, 122, 123, 124, 125] (by decide +kernel) (by decide +kernel)
set_option maxRecDepth 20000 in
theorem gX4_rush_X0_shotCells : GoodIn wsX4_rush (wsV RX4 169 RX0 yX0_shotCells wsX0_shotCells) := goodIn_app (goodIn_of _ (by decide +kernel)) ggX4_rush_X0_shotCells
set_option maxRecDepth 20000 in
theorem ggX4_rush_X3_find : GoodIn wsX4_rush wsX3_find := goodIn_r _ [50, 51, 52, 53, 54, 55, 56, 57, 58, 59, 49, 60, 61, 62, 63, 64, 65, 66, 7, 67, 68, 14, 69, 70, 71, 72, 73, 74, 75, 76, 77, 78, 79, 80, 81, 82, 83, 84, 85, 42, 44, 41, 45, 86, 87, 88, 89, 90, 91, 92, 93, 94, 95, 96, 97, 98, 99, 126, 127, 128, 129, 130, 112, 113, 114, 115, 116, 117, 118, 119, 120, 121, 122, 123, 124, 125] (by decide +kernel) (by decide +kernel)
set_option maxRecDepth 20000 in
theorem gX4_rush_X3_find : GoodIn wsX4_rush (wsV RX4 175 RX3 yX3_find wsX3_find) := goodIn_app (goodIn_of _ (by decide +kernel)) ggX4_rush_X3_find
set_option maxRecDepth 20000 in
theorem ggX4_rush_X3_told : GoodIn wsX4_rush wsX3_told := goodIn_r _ [103, 51, 53, 63, 95, 126, 127, 128, 129, 130] (by decide +kernel) (by decide +kernel)
set_option maxRecDepth 20000 in
theorem gX4_rush_X3_told : GoodIn wsX4_rush (wsV RX4 179 RX3 yX3_told wsX3_told) := goodIn_app (goodIn_of _ (by decide +kernel)) ggX4_rush_X3_told
theorem dX4_rush_0 : decode cX4_rush 0 = .ok (.aload_n 0, 1) := by decide +kernel
theorem dX4_rush_1 : decode cX4_rush 1 = .ok (.getfield 20, 3) := by decide +kernel
theorem dX4_rush_4 : decode cX4_rush 4 = .ok (.iload_n 1, 1) := by decide +kernel
theorem dX4_rush_5 : decode cX4_rush 5 = .ok (.invokevirtual 104, 3) := by decide +kernel
theorem dX4_rush_8 : decode cX4_rush 8 = .ok (.ifCond .ne 5, 3) := by decide +kernel
theorem dX4_rush_11 : decode cX4_rush 11 = .ok (.iconst (-1), 1) := by decide +kernel
theorem dX4_rush_12 : decode cX4_rush 12 = .ok (.ireturn, 1) := by decide +kernel
theorem dX4_rush_13 : decode cX4_rush 13 = .ok (.iload_n 2, 1) := by decide +kernel
theorem dX4_rush_14 : decode cX4_rush 14 = .ok (.bipush (-3), 2) := by decide +kernel
theorem dX4_rush_16 : decode cX4_rush 16 = .ok (.if_icmp .lt 9, 3) := by decide +kernel
theorem dX4_rush_19 : decode cX4_rush 19 = .ok (.iload_n 2, 1) := by decide +kernel
theorem dX4_rush_20 : decode cX4_rush 20 = .ok (.bipush 36, 2) := by decide +kernel
theorem dX4_rush_22 : decode cX4_rush 22 = .ok (.if_icmp .lt 6, 3) := by decide +kernel
theorem dX4_rush_25 : decode cX4_rush 25 = .ok (.bipush (-2), 2) := by decide +kernel
theorem dX4_rush_27 : decode cX4_rush 27 = .ok (.ireturn, 1) := by decide +kernel
theorem dX4_rush_28 : decode cX4_rush 28 = .ok (.aload_n 0, 1) := by decide +kernel
theorem dX4_rush_29 : decode cX4_rush 29 = .ok (.getfield 27, 3) := by decide +kernel
theorem dX4_rush_32 : decode cX4_rush 32 = .ok (.aload_n 0, 1) := by decide +kernel
theorem dX4_rush_33 : decode cX4_rush 33 = .ok (.getfield 20, 3) := by decide +kernel
theorem dX4_rush_36 : decode cX4_rush 36 = .ok (.aload_n 0, 1) := by decide +kernel
theorem dX4_rush_37 : decode cX4_rush 37 = .ok (.getfield 20, 3) := by decide +kernel
theorem dX4_rush_40 : decode cX4_rush 40 = .ok (.invokevirtual 124, 3) := by decide +kernel
theorem dX4_rush_43 : decode cX4_rush 43 = .ok (.aload_n 0, 1) := by decide +kernel
theorem dX4_rush_44 : decode cX4_rush 44 = .ok (.getfield 20, 3) := by decide +kernel
theorem dX4_rush_47 : decode cX4_rush 47 = .ok (.aload_n 0, 1) := by decide +kernel
theorem dX4_rush_48 : decode cX4_rush 48 = .ok (.getfield 20, 3) := by decide +kernel
theorem dX4_rush_51 : decode cX4_rush 51 = .ok (.getfield 101, 3) := by decide +kernel
theorem dX4_rush_54 : decode cX4_rush 54 = .ok (.invokevirtual 169, 3) := by decide +kernel
theorem dX4_rush_57 : decode cX4_rush 57 = .ok (.iload_n 1, 1) := by decide +kernel
theorem dX4_rush_58 : decode cX4_rush 58 = .ok (.invokevirtual 175, 3) := by decide +kernel
theorem dX4_rush_61 : decode cX4_rush 61 = .ok (.aload_n 0, 1) := by decide +kernel
theorem dX4_rush_62 : decode cX4_rush 62 = .ok (.getfield 27, 3) := by decide +kernel
theorem dX4_rush_65 : decode cX4_rush 65 = .ok (.iload_n 2, 1) := by decide +kernel
theorem dX4_rush_66 : decode cX4_rush 66 = .ok (.invokevirtual 179, 3) := by decide +kernel
theorem dX4_rush_69 : decode cX4_rush 69 = .ok (.ireturn, 1) := by decide +kernel
set_option maxRecDepth 20000 in
theorem ggX4_silence_X0_hasCell : GoodIn wsX4_silence wsX0_hasCell := goodIn_r _ [8, 9, 83, 84, 85, 86, 87, 88, 89, 90, 91, 92, 93, 94, 95, 96] (by decide +kernel) (by decide +kernel)
set_option maxRecDepth 20000 in
theorem gX4_silence_X0_hasCell : GoodIn wsX4_silence (wsV RX4 104 RX0 yX0_hasCell wsX0_hasCell) := goodIn_app (goodIn_of _ (by decide +kernel)) ggX4_silence_X0_hasCell
set_option maxRecDepth 20000 in
theorem ggX4_silence_J6_bitCount_0f7a4 : GoodIn wsX4_silence wsJ6_bitCount_0f7a4 := goodIn_r _ [13, 14, 15, 16] (by decide +kernel) (by decide +kernel)
set_option maxRecDepth 20000 in
theorem gX4_silence_J6_bitCount_0f7a4 : GoodIn wsX4_silence (va_wsS RX4 182 yJ6_bitCount_0f7a4 wsJ6_bitCount_0f7a4) := goodIn_app (goodIn_of _ (by decide +kernel)) ggX4_silence_J6_bitCount_0f7a4
set_option maxRecDepth 20000 in
theorem ggX4_silence_X4_hasSap : GoodIn wsX4_silence wsX4_hasSap := goodIn_r _ [21, 1, 22, 23, 24, 7, 25, 26, 27, 28, 29, 30, 9, 31, 32, 33, 34, 35, 36, 37, 38, 39, 40, 41, 42, 43, 44, 45, 46, 47, 48, 49, 50, 51, 52, 53, 54, 55, 56, 57, 58, 59, 60, 61, 62, 63, 64, 65, 66, 67, 68, 69, 70, 71, 72, 73, 20, 74, 75, 76, 77, 78, 79, 80, 81, 82, 83, 84, 85, 86, 87, 88, 89, 90, 91, 92, 93, 94, 95, 96] (by decide +kernel) (by decide +kernel)
set_option maxRecDepth 20000 in
theorem gX4_silence_X4_hasSap : GoodIn wsX4_silence (wsV RX4 186 RX4 yX4_hasSap wsX4_hasSap) := goodIn_app (goodIn_of _ (by decide +kernel)) ggX4_silence_X4_hasSap
theorem dX4_silence_0 : decode cX4_silence 0 = .ok (.aload_n 0, 1) := by decide +kernel
theorem dX4_silence_1 : decode cX4_silence 1 = .ok (.getfield 20, 3) := by decide +kernel
theorem dX4_silence_4 : decode cX4_silence 4 = .ok (.iload_n 1, 1) := by decide +kernel
theorem dX4_silence_5 : decode cX4_silence 5 = .ok (.invokevirtual 104, 3) := by decide +kernel
theorem dX4_silence_8 : decode cX4_silence 8 = .ok (.ifCond .ne 5, 3) := by decide +kernel
theorem dX4_silence_11 : decode cX4_silence 11 = .ok (.iconst (-1), 1) := by decide +kernel
theorem dX4_silence_12 : decode cX4_silence 12 = .ok (.ireturn, 1) := by decide +kernel
theorem dX4_silence_13 : decode cX4_silence 13 = .ok (.bipush (-9), 2) := by decide +kernel
theorem dX4_silence_15 : decode cX4_silence 15 = .ok (.istore_n 2, 1) := by decide +kernel
theorem dX4_silence_16 : decode cX4_silence 16 = .ok (.iconst 0, 1) := by decide +kernel
theorem dX4_silence_17 : decode cX4_silence 17 = .ok (.istore_n 3, 1) := by decide +kernel
theorem dX4_silence_18 : decode cX4_silence 18 = .ok (.iload_n 3, 1) := by decide +kernel
theorem dX4_silence_19 : decode cX4_silence 19 = .ok (.iconst 1, 1) := by decide +kernel
theorem dX4_silence_20 : decode cX4_silence 20 = .ok (.aload_n 0, 1) := by decide +kernel
theorem dX4_silence_21 : decode cX4_silence 21 = .ok (.getfield 20, 3) := by decide +kernel
theorem dX4_silence_24 : decode cX4_silence 24 = .ok (.getfield 83, 3) := by decide +kernel
theorem dX4_silence_27 : decode cX4_silence 27 = .ok (.ishl, 1) := by decide +kernel
theorem dX4_silence_28 : decode cX4_silence 28 = .ok (.if_icmp .ge 69, 3) := by decide +kernel
theorem dX4_silence_31 : decode cX4_silence 31 = .ok (.iload_n 2, 1) := by decide +kernel
theorem dX4_silence_32 : decode cX4_silence 32 = .ok (.bipush (-9), 2) := by decide +kernel
theorem dX4_silence_34 : decode cX4_silence 34 = .ok (.if_icmp .eq 14, 3) := by decide +kernel
theorem dX4_silence_37 : decode cX4_silence 37 = .ok (.iload_n 3, 1) := by decide +kernel
theorem dX4_silence_38 : decode cX4_silence 38 = .ok (.invokestatic 182, 3) := by decide +kernel
theorem dX4_silence_41 : decode cX4_silence 41 = .ok (.iload_n 2, 1) := by decide +kernel
theorem dX4_silence_42 : decode cX4_silence 42 = .ok (.invokestatic 182, 3) := by decide +kernel
theorem dX4_silence_45 : decode cX4_silence 45 = .ok (.if_icmp .ge 7, 3) := by decide +kernel
theorem dX4_silence_48 : decode cX4_silence 48 = .ok (.iconst 1, 1) := by decide +kernel
theorem dX4_silence_49 : decode cX4_silence 49 = .ok (.goto 4, 3) := by decide +kernel
theorem dX4_silence_52 : decode cX4_silence 52 = .ok (.iconst 0, 1) := by decide +kernel
theorem dX4_silence_53 : decode cX4_silence 53 = .ok (.istore 4, 2) := by decide +kernel
theorem dX4_silence_55 : decode cX4_silence 55 = .ok (.iload 4, 2) := by decide +kernel
theorem dX4_silence_57 : decode cX4_silence 57 = .ok (.ifCond .eq 34, 3) := by decide +kernel
theorem dX4_silence_60 : decode cX4_silence 60 = .ok (.iload_n 3, 1) := by decide +kernel
theorem dX4_silence_61 : decode cX4_silence 61 = .ok (.aload_n 0, 1) := by decide +kernel
theorem dX4_silence_62 : decode cX4_silence 62 = .ok (.getfield 20, 3) := by decide +kernel
theorem dX4_silence_65 : decode cX4_silence 65 = .ok (.getfield 101, 3) := by decide +kernel
theorem dX4_silence_68 : decode cX4_silence 68 = .ok (.iand, 1) := by decide +kernel
theorem dX4_silence_69 : decode cX4_silence 69 = .ok (.ifCond .ne 22, 3) := by decide +kernel
theorem dX4_silence_72 : decode cX4_silence 72 = .ok (.aload_n 0, 1) := by decide +kernel
theorem dX4_silence_73 : decode cX4_silence 73 = .ok (.iload_n 1, 1) := by decide +kernel
theorem dX4_silence_74 : decode cX4_silence 74 = .ok (.iload_n 3, 1) := by decide +kernel
theorem dX4_silence_75 : decode cX4_silence 75 = .ok (.aload_n 0, 1) := by decide +kernel
theorem dX4_silence_76 : decode cX4_silence 76 = .ok (.getfield 20, 3) := by decide +kernel
theorem dX4_silence_79 : decode cX4_silence 79 = .ok (.getfield 101, 3) := by decide +kernel
theorem dX4_silence_82 : decode cX4_silence 82 = .ok (.ior, 1) := by decide +kernel
theorem dX4_silence_83 : decode cX4_silence 83 = .ok (.invokevirtual 186, 3) := by decide +kernel
theorem dX4_silence_86 : decode cX4_silence 86 = .ok (.ifCond .eq 5, 3) := by decide +kernel
theorem dX4_silence_89 : decode cX4_silence 89 = .ok (.iload_n 3, 1) := by decide +kernel
theorem dX4_silence_90 : decode cX4_silence 90 = .ok (.istore_n 2, 1) := by decide +kernel
theorem dX4_silence_91 : decode cX4_silence 91 = .ok (.iinc 3 1, 3) := by decide +kernel
theorem dX4_silence_94 : decode cX4_silence 94 = .ok (.goto (-76), 3) := by decide +kernel
theorem dX4_silence_97 : decode cX4_silence 97 = .ok (.iload_n 2, 1) := by decide +kernel
theorem dX4_silence_98 : decode cX4_silence 98 = .ok (.ireturn, 1) := by decide +kernel
set_option maxRecDepth 20000 in
theorem ggX4_breach_X0_hasGun : GoodIn wsX4_breach wsX0_hasGun := goodIn_r _ [7, 8, 132, 133, 134, 135, 136, 137, 138, 139, 140, 141, 142, 143, 144, 145] (by decide +kernel) (by decide +kernel)
set_option maxRecDepth 20000 in
theorem gX4_breach_X0_hasGun : GoodIn wsX4_breach (wsV RX4 86 RX0 yX0_hasGun wsX0_hasGun) := goodIn_app (goodIn_of _ (by decide +kernel)) ggX4_breach_X0_hasGun
set_option maxRecDepth 20000 in
theorem ggX4_breach_X4_breachNights : GoodIn wsX4_breach wsX4_breachNights := goodIn_r _ [13, 2, 1, 14, 15, 16, 17, 18, 19, 20, 21, 6, 22, 23, 24, 25, 26, 27, 28, 29, 12, 30, 31, 32, 33, 34, 35, 36, 37, 38, 39, 40, 41, 42, 43, 44, 45, 46, 47, 48, 8, 49, 50, 51, 52, 53, 54, 55, 56, 57, 58, 59, 60, 61, 62, 63, 64, 65, 66, 67, 68, 69, 70, 71, 72, 73, 74, 75, 76, 77, 78, 79, 80, 81, 82, 83, 84, 85, 86, 87, 88, 89, 90, 91, 92, 93, 94, 95, 96, 97, 98, 99, 100, 101, 102, 103, 104, 105, 106, 107, 108, 109, 110, 111, 112, 113, 114, 115, 116, 117, 118, 119, 120, 121, 122, 123, 124, 125, 126, 127, 128, 129, 130, 131, 132, 133, 134, 135, 136, 137, 138, 139, 140, 141, 142, 143, 144, 145, 146, 147, 148, 149, 150] (by decide +kernel) (by decide +kernel)
set_option maxRecDepth 20000 in
theorem gX4_breach_X4_breachNights : GoodIn wsX4_breach (wsV RX4 189 RX4 yX4_breachNights wsX4_breachNights) := goodIn_app (goodIn_of _ (by decide +kernel)) ggX4_breach_X4_breachNights
theorem dX4_breach_0 : decode cX4_breach 0 = .ok (.aload_n 0, 1) := by decide +kernel
theorem dX4_breach_1 : decode cX4_breach 1 = .ok (.getfield 20, 3) := by decide +kernel
theorem dX4_breach_4 : decode cX4_breach 4 = .ok (.iload_n 1, 1) := by decide +kernel
theorem dX4_breach_5 : decode cX4_breach 5 = .ok (.invokevirtual 86, 3) := by decide +kernel
theorem dX4_breach_8 : decode cX4_breach 8 = .ok (.ifCond .ne 5, 3) := by decide +kernel
theorem dX4_breach_11 : decode cX4_breach 11 = .ok (.iconst (-1), 1) := by decide +kernel
theorem dX4_breach_12 : decode cX4_breach 12 = .ok (.ireturn, 1) := by decide +kernel
theorem dX4_breach_13 : decode cX4_breach 13 = .ok (.aload_n 0, 1) := by decide +kernel
theorem dX4_breach_14 : decode cX4_breach 14 = .ok (.iload_n 1, 1) := by decide +kernel
theorem dX4_breach_15 : decode cX4_breach 15 = .ok (.invokevirtual 189, 3) := by decide +kernel
theorem dX4_breach_18 : decode cX4_breach 18 = .ok (.istore_n 2, 1) := by decide +kernel
theorem dX4_breach_19 : decode cX4_breach 19 = .ok (.iload_n 2, 1) := by decide +kernel
theorem dX4_breach_20 : decode cX4_breach 20 = .ok (.ldc 192, 2) := by decide +kernel
theorem dX4_breach_22 : decode cX4_breach 22 = .ok (.if_icmp .ne 8, 3) := by decide +kernel
theorem dX4_breach_25 : decode cX4_breach 25 = .ok (.bipush (-9), 2) := by decide +kernel
theorem dX4_breach_27 : decode cX4_breach 27 = .ok (.goto 4, 3) := by decide +kernel
theorem dX4_breach_30 : decode cX4_breach 30 = .ok (.iload_n 2, 1) := by decide +kernel
theorem dX4_breach_31 : decode cX4_breach 31 = .ok (.ireturn, 1) := by decide +kernel
set_option maxRecDepth 20000 in
theorem ggX4_day_X4_isWithin : GoodIn wsX4_day wsX4_isWithin := goodIn_r _ [8] (by decide +kernel) (by decide +kernel)
set_option maxRecDepth 20000 in
theorem gX4_day_X4_isWithin : GoodIn wsX4_day (va_wsS RX4 54 yX4_isWithin wsX4_isWithin) := goodIn_app (goodIn_of _ (by decide +kernel)) ggX4_day_X4_isWithin
set_option maxRecDepth 20000 in
theorem ggX4_day_X4_breachNights : GoodIn wsX4_day wsX4_breachNights := goodIn_r _ [12, 3, 1, 13, 14, 15, 16, 17, 18, 19, 20, 21, 22, 23, 24, 25, 26, 27, 28, 29, 7, 30, 31, 32, 33, 34, 35, 36, 37, 38, 39, 40, 41, 42, 43, 44, 45, 46, 47, 48, 49, 50, 51, 52, 53, 54, 55, 56, 57, 58, 59, 60, 61, 62, 63, 64, 65, 66, 67, 68, 69, 70, 71, 72, 73, 74, 75, 76, 77, 78, 79, 80, 81, 82, 83, 84, 85, 86, 87, 88, 89, 90, 91, 92, 93, 94, 95, 96, 97, 98, 99, 100, 101, 102, 103, 104, 105, 106, 107, 108, 109, 110, 111, 112, 113, 114, 115, 116, 117, 118, 119, 120, 121, 122, 123, 124, 125, 126, 127, 128, 129, 130, 131, 132, 133, 134, 135, 136, 137, 138, 139, 140, 141, 142, 143, 144, 145, 146, 147, 148, 149, 150, 151] (by decide +kernel) (by decide +kernel)
set_option maxRecDepth 20000 in
theorem gX4_day_X4_breachNights : GoodIn wsX4_day (wsV RX4 189 RX4 yX4_breachNights wsX4_breachNights) := goodIn_app (goodIn_of _ (by decide +kernel)) ggX4_day_X4_breachNights
theorem dX4_day_0 : decode cX4_day 0 = .ok (.iload_n 1, 1) := by decide +kernel
theorem dX4_day_1 : decode cX4_day 1 = .ok (.iconst 1, 1) := by decide +kernel
theorem dX4_day_2 : decode cX4_day 2 = .ok (.invokestatic 54, 3) := by decide +kernel
theorem dX4_day_5 : decode cX4_day 5 = .ok (.ifCond .ne 6, 3) := by decide +kernel
theorem dX4_day_8 : decode cX4_day 8 = .ok (.bipush (-2), 2) := by decide +kernel
theorem dX4_day_10 : decode cX4_day 10 = .ok (.ireturn, 1) := by decide +kernel
theorem dX4_day_11 : decode cX4_day 11 = .ok (.aload_n 0, 1) := by decide +kernel
theorem dX4_day_12 : decode cX4_day 12 = .ok (.getfield 20, 3) := by decide +kernel
theorem dX4_day_15 : decode cX4_day 15 = .ok (.getfield 138, 3) := by decide +kernel
theorem dX4_day_18 : decode cX4_day 18 = .ok (.ifCond .ne 6, 3) := by decide +kernel
theorem dX4_day_21 : decode cX4_day 21 = .ok (.bipush (-3), 2) := by decide +kernel
theorem dX4_day_23 : decode cX4_day 23 = .ok (.ireturn, 1) := by decide +kernel
theorem dX4_day_24 : decode cX4_day 24 = .ok (.bipush (-9), 2) := by decide +kernel
theorem dX4_day_26 : decode cX4_day 26 = .ok (.istore_n 2, 1) := by decide +kernel
theorem dX4_day_27 : decode cX4_day 27 = .ok (.ldc 192, 2) := by decide +kernel
theorem dX4_day_29 : decode cX4_day 29 = .ok (.istore_n 3, 1) := by decide +kernel
theorem dX4_day_30 : decode cX4_day 30 = .ok (.iconst 0, 1) := by decide +kernel
theorem dX4_day_31 : decode cX4_day 31 = .ok (.istore 4, 2) := by decide +kernel
theorem dX4_day_33 : decode cX4_day 33 = .ok (.iload 4, 2) := by decide +kernel
theorem dX4_day_35 : decode cX4_day 35 = .ok (.aload_n 0, 1) := by decide +kernel
theorem dX4_day_36 : decode cX4_day 36 = .ok (.getfield 20, 3) := by decide +kernel
theorem dX4_day_39 : decode cX4_day 39 = .ok (.getfield 83, 3) := by decide +kernel
theorem dX4_day_42 : decode cX4_day 42 = .ok (.if_icmp .ge 29, 3) := by decide +kernel
theorem dX4_day_45 : decode cX4_day 45 = .ok (.aload_n 0, 1) := by decide +kernel
theorem dX4_day_46 : decode cX4_day 46 = .ok (.iload 4, 2) := by decide +kernel
theorem dX4_day_48 : decode cX4_day 48 = .ok (.invokevirtual 189, 3) := by decide +kernel
theorem dX4_day_51 : decode cX4_day 51 = .ok (.istore 5, 2) := by decide +kernel
theorem dX4_day_53 : decode cX4_day 53 = .ok (.iload 5, 2) := by decide +kernel
theorem dX4_day_55 : decode cX4_day 55 = .ok (.iload_n 3, 1) := by decide +kernel
theorem dX4_day_56 : decode cX4_day 56 = .ok (.if_icmp .ge 9, 3) := by decide +kernel
theorem dX4_day_59 : decode cX4_day 59 = .ok (.iload 5, 2) := by decide +kernel
theorem dX4_day_61 : decode cX4_day 61 = .ok (.istore_n 3, 1) := by decide +kernel
theorem dX4_day_62 : decode cX4_day 62 = .ok (.iload 4, 2) := by decide +kernel
theorem dX4_day_64 : decode cX4_day 64 = .ok (.istore_n 2, 1) := by decide +kernel
theorem dX4_day_65 : decode cX4_day 65 = .ok (.iinc 4 1, 3) := by decide +kernel
theorem dX4_day_68 : decode cX4_day 68 = .ok (.goto (-35), 3) := by decide +kernel
theorem dX4_day_71 : decode cX4_day 71 = .ok (.iload_n 1, 1) := by decide +kernel
theorem dX4_day_72 : decode cX4_day 72 = .ok (.ifCond .eq 9, 3) := by decide +kernel
theorem dX4_day_75 : decode cX4_day 75 = .ok (.iload_n 2, 1) := by decide +kernel
theorem dX4_day_76 : decode cX4_day 76 = .ok (.bipush (-9), 2) := by decide +kernel
theorem dX4_day_78 : decode cX4_day 78 = .ok (.if_icmp .ne 7, 3) := by decide +kernel
theorem dX4_day_81 : decode cX4_day 81 = .ok (.iload_n 2, 1) := by decide +kernel
theorem dX4_day_82 : decode cX4_day 82 = .ok (.goto 4, 3) := by decide +kernel
theorem dX4_day_85 : decode cX4_day 85 = .ok (.iload_n 3, 1) := by decide +kernel
theorem dX4_day_86 : decode cX4_day 86 = .ok (.ireturn, 1) := by decide +kernel
set_option maxRecDepth 20000 in
theorem ggX4_post_X0_hasCell : GoodIn wsX4_post wsX0_hasCell := goodIn_r _ [8, 9, 142, 143, 144, 145, 146, 147, 148, 149, 150, 151, 152, 153, 154, 155] (by decide +kernel) (by decide +kernel)
set_option maxRecDepth 20000 in
theorem gX4_post_X0_hasCell : GoodIn wsX4_post (wsV RX4 104 RX0 yX0_hasCell wsX0_hasCell) := goodIn_app (goodIn_of _ (by decide +kernel)) ggX4_post_X0_hasCell
set_option maxRecDepth 20000 in
theorem ggX4_post_X4_isWithin : GoodIn wsX4_post wsX4_isWithin := goodIn_r _ [13] (by decide +kernel) (by decide +kernel)
set_option maxRecDepth 20000 in
theorem gX4_post_X4_isWithin : GoodIn wsX4_post (va_wsS RX4 54 yX4_isWithin wsX4_isWithin) := goodIn_app (goodIn_of _ (by decide +kernel)) ggX4_post_X4_isWithin
set_option maxRecDepth 20000 in
theorem ggX4_post_X0_canBePost : GoodIn wsX4_post wsX0_canBePost := goodIn_r _ [17, 18, 19, 20, 7, 21, 22, 23, 24, 12, 25, 26, 27, 28, 29, 30, 31, 32, 33, 34, 35, 142, 143, 144, 145, 146, 147, 148, 149, 150, 151, 152, 153, 154, 155] (by decide +kernel) (by decide +kernel)
set_option maxRecDepth 20000 in
theorem gX4_post_X0_canBePost : GoodIn wsX4_post (wsV RX4 193 RX0 yX0_canBePost wsX0_canBePost) := goodIn_app (goodIn_of _ (by decide +kernel)) ggX4_post_X0_canBePost
set_option maxRecDepth 20000 in
theorem ggX4_post_X4_nightsWithPost : GoodIn wsX4_post wsX4_nightsWithPost := goodIn_r _ [39, 1, 40, 41, 42, 7, 43, 44, 22, 23, 45, 46, 47, 48, 12, 49, 50, 51, 52, 3, 53, 54, 55, 56, 57, 58, 59, 60, 61, 9, 62, 18, 19, 20, 21, 63, 64, 65, 66, 67, 68, 69, 70, 71, 72, 73, 74, 26, 27, 28, 29, 30, 31, 32, 33, 34, 35, 75, 76, 77, 78, 79, 80, 81, 82, 24, 25, 83, 84, 85, 86, 87, 88, 89, 90, 91, 92, 93, 94, 95, 96, 97, 98, 99, 100, 101, 102, 103, 104, 105, 106, 107, 108, 109, 110, 111, 112, 113, 114, 115, 116, 117, 118, 119, 120, 121, 122, 123, 124, 125, 126, 127, 128, 129, 130, 131, 132, 133, 134, 135, 136, 137, 138, 139, 140, 141, 142, 143, 144, 145, 146, 147, 148, 149, 150, 151, 152, 153, 154, 155, 156, 157, 158, 159, 160] (by decide +kernel) (by decide +kernel)
set_option maxRecDepth 20000 in
theorem gX4_post_X4_nightsWithPost : GoodIn wsX4_post (wsV RX4 196 RX4 yX4_nightsWithPost wsX4_nightsWithPost) := goodIn_app (goodIn_of _ (by decide +kernel)) ggX4_post_X4_nightsWithPost
theorem dX4_post_0 : decode cX4_post 0 = .ok (.aload_n 0, 1) := by decide +kernel
theorem dX4_post_1 : decode cX4_post 1 = .ok (.getfield 20, 3) := by decide +kernel
theorem dX4_post_4 : decode cX4_post 4 = .ok (.iload_n 1, 1) := by decide +kernel
theorem dX4_post_5 : decode cX4_post 5 = .ok (.invokevirtual 104, 3) := by decide +kernel
theorem dX4_post_8 : decode cX4_post 8 = .ok (.ifCond .ne 5, 3) := by decide +kernel
theorem dX4_post_11 : decode cX4_post 11 = .ok (.iconst (-1), 1) := by decide +kernel
theorem dX4_post_12 : decode cX4_post 12 = .ok (.ireturn, 1) := by decide +kernel
theorem dX4_post_13 : decode cX4_post 13 = .ok (.iload_n 2, 1) := by decide +kernel
theorem dX4_post_14 : decode cX4_post 14 = .ok (.iconst 1, 1) := by decide +kernel
theorem dX4_post_15 : decode cX4_post 15 = .ok (.invokestatic 54, 3) := by decide +kernel
theorem dX4_post_18 : decode cX4_post 18 = .ok (.ifCond .ne 6, 3) := by decide +kernel
theorem dX4_post_21 : decode cX4_post 21 = .ok (.bipush (-2), 2) := by decide +kernel
theorem dX4_post_23 : decode cX4_post 23 = .ok (.ireturn, 1) := by decide +kernel
theorem dX4_post_24 : decode cX4_post 24 = .ok (.bipush (-9), 2) := by decide +kernel
theorem dX4_post_26 : decode cX4_post 26 = .ok (.istore_n 3, 1) := by decide +kernel
theorem dX4_post_27 : decode cX4_post 27 = .ok (.iconst (-1), 1) := by decide +kernel
theorem dX4_post_28 : decode cX4_post 28 = .ok (.istore 4, 2) := by decide +kernel
theorem dX4_post_30 : decode cX4_post 30 = .ok (.iconst 0, 1) := by decide +kernel
theorem dX4_post_31 : decode cX4_post 31 = .ok (.istore 5, 2) := by decide +kernel
theorem dX4_post_33 : decode cX4_post 33 = .ok (.iload 5, 2) := by decide +kernel
theorem dX4_post_35 : decode cX4_post 35 = .ok (.aload_n 0, 1) := by decide +kernel
theorem dX4_post_36 : decode cX4_post 36 = .ok (.getfield 20, 3) := by decide +kernel
theorem dX4_post_39 : decode cX4_post 39 = .ok (.getfield 138, 3) := by decide +kernel
theorem dX4_post_42 : decode cX4_post 42 = .ok (.if_icmp .ge 52, 3) := by decide +kernel
theorem dX4_post_45 : decode cX4_post 45 = .ok (.iload 4, 2) := by decide +kernel
theorem dX4_post_47 : decode cX4_post 47 = .ok (.ldc 192, 2) := by decide +kernel
theorem dX4_post_49 : decode cX4_post 49 = .ok (.if_icmp .eq 45, 3) := by decide +kernel
theorem dX4_post_52 : decode cX4_post 52 = .ok (.aload_n 0, 1) := by decide +kernel
theorem dX4_post_53 : decode cX4_post 53 = .ok (.getfield 20, 3) := by decide +kernel
theorem dX4_post_56 : decode cX4_post 56 = .ok (.iload 5, 2) := by decide +kernel
theorem dX4_post_58 : decode cX4_post 58 = .ok (.iload_n 1, 1) := by decide +kernel
theorem dX4_post_59 : decode cX4_post 59 = .ok (.invokevirtual 193, 3) := by decide +kernel
theorem dX4_post_62 : decode cX4_post 62 = .ok (.ifCond .eq 26, 3) := by decide +kernel
theorem dX4_post_65 : decode cX4_post 65 = .ok (.aload_n 0, 1) := by decide +kernel
theorem dX4_post_66 : decode cX4_post 66 = .ok (.iload 5, 2) := by decide +kernel
theorem dX4_post_68 : decode cX4_post 68 = .ok (.iload_n 1, 1) := by decide +kernel
theorem dX4_post_69 : decode cX4_post 69 = .ok (.invokevirtual 196, 3) := by decide +kernel
theorem dX4_post_72 : decode cX4_post 72 = .ok (.istore 6, 2) := by decide +kernel
theorem dX4_post_74 : decode cX4_post 74 = .ok (.iload 6, 2) := by decide +kernel
theorem dX4_post_76 : decode cX4_post 76 = .ok (.iload 4, 2) := by decide +kernel
theorem dX4_post_78 : decode cX4_post 78 = .ok (.if_icmp .le 10, 3) := by decide +kernel
theorem dX4_post_81 : decode cX4_post 81 = .ok (.iload 6, 2) := by decide +kernel
theorem dX4_post_83 : decode cX4_post 83 = .ok (.istore 4, 2) := by decide +kernel
theorem dX4_post_85 : decode cX4_post 85 = .ok (.iload 5, 2) := by decide +kernel
theorem dX4_post_87 : decode cX4_post 87 = .ok (.istore_n 3, 1) := by decide +kernel
theorem dX4_post_88 : decode cX4_post 88 = .ok (.iinc 5 1, 3) := by decide +kernel
theorem dX4_post_91 : decode cX4_post 91 = .ok (.goto (-58), 3) := by decide +kernel
theorem dX4_post_94 : decode cX4_post 94 = .ok (.iload_n 2, 1) := by decide +kernel
theorem dX4_post_95 : decode cX4_post 95 = .ok (.ifCond .ne 5, 3) := by decide +kernel
theorem dX4_post_98 : decode cX4_post 98 = .ok (.iload_n 3, 1) := by decide +kernel
theorem dX4_post_99 : decode cX4_post 99 = .ok (.ireturn, 1) := by decide +kernel
theorem dX4_post_100 : decode cX4_post 100 = .ok (.iload_n 3, 1) := by decide +kernel
theorem dX4_post_101 : decode cX4_post 101 = .ok (.bipush (-9), 2) := by decide +kernel
theorem dX4_post_103 : decode cX4_post 103 = .ok (.if_icmp .eq 10, 3) := by decide +kernel
theorem dX4_post_106 : decode cX4_post 106 = .ok (.iload 4, 2) := by decide +kernel
theorem dX4_post_108 : decode cX4_post 108 = .ok (.ldc 192, 2) := by decide +kernel
theorem dX4_post_110 : decode cX4_post 110 = .ok (.if_icmp .ne 8, 3) := by decide +kernel
theorem dX4_post_113 : decode cX4_post 113 = .ok (.bipush (-9), 2) := by decide +kernel
theorem dX4_post_115 : decode cX4_post 115 = .ok (.goto 5, 3) := by decide +kernel
theorem dX4_post_118 : decode cX4_post 118 = .ok (.iload 4, 2) := by decide +kernel
theorem dX4_post_120 : decode cX4_post 120 = .ok (.ireturn, 1) := by decide +kernel
set_option maxRecDepth 20000 in
theorem ggX4_sapNights_X0_openCells : GoodIn wsX4_sapNights wsX0_openCells := goodIn_r _ [10, 11, 12, 13, 14, 9, 15, 16, 17, 18, 19, 20, 21, 22, 23, 24, 25, 26, 27, 28, 29, 30, 31, 32, 33, 34, 35, 36, 37, 38, 39, 40, 41, 42, 43, 44, 45, 46, 47, 114, 115, 116, 117, 118, 119, 120, 121, 122, 123, 124, 125, 126, 127] (by decide +kernel) (by decide +kernel)
set_option maxRecDepth 20000 in
theorem gX4_sapNights_X0_openCells : GoodIn wsX4_sapNights (wsV RX4 148 RX0 yX0_openCells wsX0_openCells) := goodIn_app (goodIn_of _ (by decide +kernel)) ggX4_sapNights_X0_openCells
set_option maxRecDepth 20000 in
theorem ggX4_sapNights_X3_find : GoodIn wsX4_sapNights wsX3_find := goodIn_r _ [52, 53, 54, 55, 56, 57, 58, 59, 60, 61, 51, 62, 63, 64, 65, 66, 67, 68, 9, 69, 70, 17, 71, 72, 73, 74, 75, 76, 77, 78, 79, 80, 81, 82, 83, 84, 85, 86, 87, 44, 46, 43, 47, 88, 89, 90, 91, 92, 93, 94, 95, 96, 97, 98, 99, 100, 101, 128, 129, 130, 131, 132, 114, 115, 116, 117, 118, 119, 120, 121, 122, 123, 124, 125, 126, 127] (by decide +kernel) (by decide +kernel)
set_option maxRecDepth 20000 in
theorem gX4_sapNights_X3_find : GoodIn wsX4_sapNights (wsV RX4 175 RX3 yX3_find wsX3_find) := goodIn_app (goodIn_of _ (by decide +kernel)) ggX4_sapNights_X3_find
set_option maxRecDepth 20000 in
theorem ggX4_sapNights_X3_told : GoodIn wsX4_sapNights wsX3_told := goodIn_r _ [105, 53, 55, 65, 97, 128, 129, 130, 131, 132] (by decide +kernel) (by decide +kernel)
set_option maxRecDepth 20000 in
theorem gX4_sapNights_X3_told : GoodIn wsX4_sapNights (wsV RX4 179 RX3 yX3_told wsX3_told) := goodIn_app (goodIn_of _ (by decide +kernel)) ggX4_sapNights_X3_told
theorem dX4_sapNights_0 : decode cX4_sapNights 0 = .ok (.aload_n 0, 1) := by decide +kernel
theorem dX4_sapNights_1 : decode cX4_sapNights 1 = .ok (.getfield 27, 3) := by decide +kernel
theorem dX4_sapNights_4 : decode cX4_sapNights 4 = .ok (.aload_n 0, 1) := by decide +kernel
theorem dX4_sapNights_5 : decode cX4_sapNights 5 = .ok (.getfield 20, 3) := by decide +kernel
theorem dX4_sapNights_8 : decode cX4_sapNights 8 = .ok (.aload_n 0, 1) := by decide +kernel
theorem dX4_sapNights_9 : decode cX4_sapNights 9 = .ok (.getfield 20, 3) := by decide +kernel
theorem dX4_sapNights_12 : decode cX4_sapNights 12 = .ok (.aload_n 0, 1) := by decide +kernel
theorem dX4_sapNights_13 : decode cX4_sapNights 13 = .ok (.getfield 20, 3) := by decide +kernel
theorem dX4_sapNights_16 : decode cX4_sapNights 16 = .ok (.getfield 101, 3) := by decide +kernel
theorem dX4_sapNights_19 : decode cX4_sapNights 19 = .ok (.invokevirtual 148, 3) := by decide +kernel
theorem dX4_sapNights_22 : decode cX4_sapNights 22 = .ok (.lconst 0, 1) := by decide +kernel
theorem dX4_sapNights_23 : decode cX4_sapNights 23 = .ok (.iload_n 1, 1) := by decide +kernel
theorem dX4_sapNights_24 : decode cX4_sapNights 24 = .ok (.invokevirtual 175, 3) := by decide +kernel
theorem dX4_sapNights_27 : decode cX4_sapNights 27 = .ok (.aload_n 0, 1) := by decide +kernel
theorem dX4_sapNights_28 : decode cX4_sapNights 28 = .ok (.getfield 27, 3) := by decide +kernel
theorem dX4_sapNights_31 : decode cX4_sapNights 31 = .ok (.getfield 200, 3) := by decide +kernel
theorem dX4_sapNights_34 : decode cX4_sapNights 34 = .ok (.ifCond .ne 8, 3) := by decide +kernel
theorem dX4_sapNights_37 : decode cX4_sapNights 37 = .ok (.ldc 192, 2) := by decide +kernel
theorem dX4_sapNights_39 : decode cX4_sapNights 39 = .ok (.goto 12, 3) := by decide +kernel
theorem dX4_sapNights_42 : decode cX4_sapNights 42 = .ok (.aload_n 0, 1) := by decide +kernel
theorem dX4_sapNights_43 : decode cX4_sapNights 43 = .ok (.getfield 27, 3) := by decide +kernel
theorem dX4_sapNights_46 : decode cX4_sapNights 46 = .ok (.bipush (-2), 2) := by decide +kernel
theorem dX4_sapNights_48 : decode cX4_sapNights 48 = .ok (.invokevirtual 179, 3) := by decide +kernel
theorem dX4_sapNights_51 : decode cX4_sapNights 51 = .ok (.ireturn, 1) := by decide +kernel
set_option maxRecDepth 20000 in
theorem ggX4_hasSap_X0_openCells : GoodIn wsX4_hasSap wsX0_openCells := goodIn_r _ [6, 7, 8, 9, 10, 5, 11, 12, 13, 14, 15, 16, 17, 18, 19, 20, 21, 22, 23, 24, 25, 26, 27, 28, 29, 30, 31, 32, 33, 34, 35, 36, 37, 38, 39, 40, 41, 42, 43, 66, 67, 68, 69, 70, 71, 72, 73, 74, 75, 76, 77, 78, 79] (by decide +kernel) (by decide +kernel)
set_option maxRecDepth 20000 in
theorem gX4_hasSap_X0_openCells : GoodIn wsX4_hasSap (wsV RX4 148 RX0 yX0_openCells wsX0_openCells) := goodIn_app (goodIn_of _ (by decide +kernel)) ggX4_hasSap_X0_openCells
set_option maxRecDepth 20000 in
theorem ggX4_hasSap_X0_reachedFromWest : GoodIn wsX4_hasSap wsX0_reachedFromWest := goodIn_r _ [47, 48, 12, 49, 50, 51, 5, 52, 53, 7, 42, 66, 67, 68, 69, 70, 71, 72, 73, 74, 75, 76, 77, 78, 79] (by decide +kernel) (by decide +kernel)
set_option maxRecDepth 20000 in
theorem gX4_hasSap_X0_reachedFromWest : GoodIn wsX4_hasSap (wsV RX4 203 RX0 yX0_reachedFromWest wsX0_reachedFromWest) := goodIn_app (goodIn_of _ (by decide +kernel)) ggX4_hasSap_X0_reachedFromWest
set_option maxRecDepth 20000 in
theorem ggX4_hasSap_X4_isIn : GoodIn wsX4_hasSap wsX4_isIn := goodIn_r _ [57] (by decide +kernel) (by decide +kernel)
set_option maxRecDepth 20000 in
theorem gX4_hasSap_X4_isIn : GoodIn wsX4_hasSap (va_wsS RX4 127 yX4_isIn wsX4_isIn) := goodIn_app (goodIn_of _ (by decide +kernel)) ggX4_hasSap_X4_isIn
theorem dX4_hasSap_0 : decode cX4_hasSap 0 = .ok (.iload_n 1, 1) := by decide +kernel
theorem dX4_hasSap_1 : decode cX4_hasSap 1 = .ok (.aload_n 0, 1) := by decide +kernel
theorem dX4_hasSap_2 : decode cX4_hasSap 2 = .ok (.getfield 20, 3) := by decide +kernel
theorem dX4_hasSap_5 : decode cX4_hasSap 5 = .ok (.aload_n 0, 1) := by decide +kernel
theorem dX4_hasSap_6 : decode cX4_hasSap 6 = .ok (.getfield 20, 3) := by decide +kernel
theorem dX4_hasSap_9 : decode cX4_hasSap 9 = .ok (.iload_n 2, 1) := by decide +kernel
theorem dX4_hasSap_10 : decode cX4_hasSap 10 = .ok (.invokevirtual 148, 3) := by decide +kernel
theorem dX4_hasSap_13 : decode cX4_hasSap 13 = .ok (.invokevirtual 203, 3) := by decide +kernel
theorem dX4_hasSap_16 : decode cX4_hasSap 16 = .ok (.invokestatic 127, 3) := by decide +kernel
theorem dX4_hasSap_19 : decode cX4_hasSap 19 = .ok (.ireturn, 1) := by decide +kernel
set_option maxRecDepth 20000 in
theorem ggX4_breachNights_X0_beside : GoodIn wsX4_breachNights wsX0_beside := goodIn_r _ [12, 13, 14, 15, 16, 124, 125, 126, 127, 128, 129, 130, 131, 132, 133, 134, 135, 136, 137] (by decide +kernel) (by decide +kernel)
set_option maxRecDepth 20000 in
theorem gX4_breachNights_X0_beside : GoodIn wsX4_breachNights (wsV RX4 206 RX0 yX0_beside wsX0_beside) := goodIn_app (goodIn_of _ (by decide +kernel)) ggX4_breachNights_X0_beside
set_option maxRecDepth 20000 in
theorem ggX4_breachNights_X4_sapNights : GoodIn wsX4_breachNights wsX4_sapNights := goodIn_r _ [21, 22, 2, 23, 24, 1, 25, 26, 27, 11, 28, 29, 30, 31, 32, 33, 34, 35, 36, 37, 38, 39, 40, 41, 42, 43, 44, 45, 46, 47, 48, 49, 50, 51, 52, 53, 54, 55, 56, 57, 58, 59, 60, 15, 13, 61, 14, 16, 62, 63, 64, 65, 66, 67, 68, 69, 70, 20, 71, 72, 73, 74, 75, 76, 77, 78, 79, 80, 81, 82, 83, 84, 85, 86, 87, 88, 89, 90, 91, 92, 93, 94, 95, 96, 97, 9, 10, 12, 98, 99, 100, 101, 102, 103, 104, 105, 106, 107, 108, 109, 110, 111, 112, 113, 114, 115, 116, 117, 118, 119, 120, 121, 122, 123, 124, 125, 126, 127, 128, 129, 130, 131, 132, 133, 134, 135, 136, 137, 138, 139, 140, 141, 142] (by decide +kernel) (by decide +kernel)
set_option maxRecDepth 20000 in
theorem gX4_breachNights_X4_sapNights : GoodIn wsX4_breachNights (wsV RX4 209 RX4 yX4_sapNights wsX4_sapNights) := goodIn_app (goodIn_of _ (by decide +kernel)) ggX4_breachNights_X4_sapNights
theorem dX4_breachNights_0 : decode cX4_breachNights 0 = .ok (.ldc 192, 2) := by decide +kernel
theorem dX4_breachNights_2 : decode cX4_breachNights 2 = .ok (.istore_n 2, 1) := by decide +kernel
theorem dX4_breachNights_3 : decode cX4_breachNights 3 = .ok (.iconst 0, 1) := by decide +kernel
theorem dX4_breachNights_4 : decode cX4_breachNights 4 = .ok (.istore_n 3, 1) := by decide +kernel
theorem dX4_breachNights_5 : decode cX4_breachNights 5 = .ok (.iload_n 3, 1) := by decide +kernel
theorem dX4_breachNights_6 : decode cX4_breachNights 6 = .ok (.iconst 4, 1) := by decide +kernel
theorem dX4_breachNights_7 : decode cX4_breachNights 7 = .ok (.if_icmp .ge 46, 3) := by decide +kernel
theorem dX4_breachNights_10 : decode cX4_breachNights 10 = .ok (.aload_n 0, 1) := by decide +kernel
theorem dX4_breachNights_11 : decode cX4_breachNights 11 = .ok (.getfield 20, 3) := by decide +kernel
theorem dX4_breachNights_14 : decode cX4_breachNights 14 = .ok (.aload_n 0, 1) := by decide +kernel
theorem dX4_breachNights_15 : decode cX4_breachNights 15 = .ok (.getfield 20, 3) := by decide +kernel
theorem dX4_breachNights_18 : decode cX4_breachNights 18 = .ok (.getfield 92, 3) := by decide +kernel
theorem dX4_breachNights_21 : decode cX4_breachNights 21 = .ok (.iload_n 1, 1) := by decide +kernel
theorem dX4_breachNights_22 : decode cX4_breachNights 22 = .ok (.iaload, 1) := by decide +kernel
theorem dX4_breachNights_23 : decode cX4_breachNights 23 = .ok (.iload_n 3, 1) := by decide +kernel
theorem dX4_breachNights_24 : decode cX4_breachNights 24 = .ok (.invokevirtual 206, 3) := by decide +kernel
theorem dX4_breachNights_27 : decode cX4_breachNights 27 = .ok (.istore 4, 2) := by decide +kernel
theorem dX4_breachNights_29 : decode cX4_breachNights 29 = .ok (.iload 4, 2) := by decide +kernel
theorem dX4_breachNights_31 : decode cX4_breachNights 31 = .ok (.bipush (-9), 2) := by decide +kernel
theorem dX4_breachNights_33 : decode cX4_breachNights 33 = .ok (.if_icmp .eq 14, 3) := by decide +kernel
theorem dX4_breachNights_36 : decode cX4_breachNights 36 = .ok (.iload_n 2, 1) := by decide +kernel
theorem dX4_breachNights_37 : decode cX4_breachNights 37 = .ok (.aload_n 0, 1) := by decide +kernel
theorem dX4_breachNights_38 : decode cX4_breachNights 38 = .ok (.iload 4, 2) := by decide +kernel
theorem dX4_breachNights_40 : decode cX4_breachNights 40 = .ok (.invokevirtual 209, 3) := by decide +kernel
theorem dX4_breachNights_43 : decode cX4_breachNights 43 = .ok (.invokestatic 212, 3) := by decide +kernel
theorem dX4_breachNights_46 : decode cX4_breachNights 46 = .ok (.istore_n 2, 1) := by decide +kernel
theorem dX4_breachNights_47 : decode cX4_breachNights 47 = .ok (.iinc 3 1, 3) := by decide +kernel
theorem dX4_breachNights_50 : decode cX4_breachNights 50 = .ok (.goto (-45), 3) := by decide +kernel
theorem dX4_breachNights_53 : decode cX4_breachNights 53 = .ok (.iload_n 2, 1) := by decide +kernel
theorem dX4_breachNights_54 : decode cX4_breachNights 54 = .ok (.ireturn, 1) := by decide +kernel
set_option maxRecDepth 20000 in
theorem ggX4_nightsWithPost_X0_addPost : GoodIn wsX4_nightsWithPost wsX0_addPost := goodIn_r _ [6, 7, 8, 9, 10, 126, 127, 128, 129, 130, 131, 132, 133, 134, 135, 136, 137, 138, 139] (by decide +kernel) (by decide +kernel)
set_option maxRecDepth 20000 in
theorem gX4_nightsWithPost_X0_addPost : GoodIn wsX4_nightsWithPost (wsV RX4 217 RX0 yX0_addPost wsX0_addPost) := goodIn_app (goodIn_of _ (by decide +kernel)) ggX4_nightsWithPost_X0_addPost
set_option maxRecDepth 20000 in
theorem ggX4_nightsWithPost_X4_sapNights : GoodIn wsX4_nightsWithPost wsX4_sapNights := goodIn_r _ [15, 16, 1, 17, 18, 19, 20, 21, 22, 5, 23, 24, 25, 26, 27, 28, 29, 30, 31, 32, 33, 34, 8, 9, 35, 36, 37, 38, 39, 40, 41, 42, 43, 44, 45, 46, 7, 10, 47, 48, 49, 50, 51, 52, 53, 54, 55, 56, 57, 58, 59, 60, 61, 62, 63, 64, 65, 14, 66, 67, 68, 69, 70, 71, 72, 73, 74, 75, 76, 77, 78, 79, 80, 81, 82, 83, 84, 85, 86, 87, 88, 89, 90, 91, 92, 93, 94, 95, 96, 97, 98, 99, 100, 101, 102, 103, 104, 105, 106, 107, 108, 109, 110, 111, 112, 113, 118, 119, 120, 121, 122, 123, 124, 125, 126, 127, 128, 129, 130, 131, 132, 133, 134, 135, 136, 137, 138, 139, 140, 141, 142, 143, 144] (by decide +kernel) (by decide +kernel)
set_option maxRecDepth 20000 in
theorem gX4_nightsWithPost_X4_sapNights : GoodIn wsX4_nightsWithPost (wsV RX4 209 RX4 yX4_sapNights wsX4_sapNights) := goodIn_app (goodIn_of _ (by decide +kernel)) ggX4_nightsWithPost_X4_sapNights
set_option maxRecDepth 20000 in
theorem ggX4_nightsWithPost_X0_removePost : GoodIn wsX4_nightsWithPost wsX0_removePost := goodIn_r _ [117, 8, 126, 127, 128, 129, 130, 131, 132, 133, 134, 135, 136, 137, 138, 139] (by decide +kernel) (by decide +kernel)
set_option maxRecDepth 20000 in
theorem gX4_nightsWithPost_X0_removePost : GoodIn wsX4_nightsWithPost (wsV RX4 221 RX0 yX0_removePost wsX0_removePost) := goodIn_app (goodIn_of _ (by decide +kernel)) ggX4_nightsWithPost_X0_removePost
theorem dX4_nightsWithPost_0 : decode cX4_nightsWithPost 0 = .ok (.aload_n 0, 1) := by decide +kernel
theorem dX4_nightsWithPost_1 : decode cX4_nightsWithPost 1 = .ok (.getfield 20, 3) := by decide +kernel
theorem dX4_nightsWithPost_4 : decode cX4_nightsWithPost 4 = .ok (.iload_n 1, 1) := by decide +kernel
theorem dX4_nightsWithPost_5 : decode cX4_nightsWithPost 5 = .ok (.invokevirtual 217, 3) := by decide +kernel
theorem dX4_nightsWithPost_8 : decode cX4_nightsWithPost 8 = .ok (.aload_n 0, 1) := by decide +kernel
theorem dX4_nightsWithPost_9 : decode cX4_nightsWithPost 9 = .ok (.iload_n 2, 1) := by decide +kernel
theorem dX4_nightsWithPost_10 : decode cX4_nightsWithPost 10 = .ok (.invokevirtual 209, 3) := by decide +kernel
theorem dX4_nightsWithPost_13 : decode cX4_nightsWithPost 13 = .ok (.istore_n 3, 1) := by decide +kernel
theorem dX4_nightsWithPost_14 : decode cX4_nightsWithPost 14 = .ok (.aload_n 0, 1) := by decide +kernel
theorem dX4_nightsWithPost_15 : decode cX4_nightsWithPost 15 = .ok (.getfield 20, 3) := by decide +kernel
theorem dX4_nightsWithPost_18 : decode cX4_nightsWithPost 18 = .ok (.invokevirtual 221, 3) := by decide +kernel
theorem dX4_nightsWithPost_21 : decode cX4_nightsWithPost 21 = .ok (.iload_n 3, 1) := by decide +kernel
theorem dX4_nightsWithPost_22 : decode cX4_nightsWithPost 22 = .ok (.ireturn, 1) := by decide +kernel
set_option maxRecDepth 20000 in
theorem ggX4_reading_X0_hasCell : GoodIn wsX4_reading wsX0_hasCell := goodIn_r _ [9, 10, 19, 20, 21, 22, 23, 24, 25, 26, 27, 28, 29, 30, 31, 32] (by decide +kernel) (by decide +kernel)
set_option maxRecDepth 20000 in
theorem gX4_reading_X0_hasCell : GoodIn wsX4_reading (wsV RX4 104 RX0 yX0_hasCell wsX0_hasCell) := goodIn_app (goodIn_of _ (by decide +kernel)) ggX4_reading_X0_hasCell
theorem dX4_reading_0 : decode cX4_reading 0 = .ok (.aload_n 0, 1) := by decide +kernel
theorem dX4_reading_1 : decode cX4_reading 1 = .ok (.getfield 20, 3) := by decide +kernel
theorem dX4_reading_4 : decode cX4_reading 4 = .ok (.iload_n 1, 1) := by decide +kernel
theorem dX4_reading_5 : decode cX4_reading 5 = .ok (.invokevirtual 104, 3) := by decide +kernel
theorem dX4_reading_8 : decode cX4_reading 8 = .ok (.ifCond .ne 5, 3) := by decide +kernel
theorem dX4_reading_11 : decode cX4_reading 11 = .ok (.iconst (-1), 1) := by decide +kernel
theorem dX4_reading_12 : decode cX4_reading 12 = .ok (.ireturn, 1) := by decide +kernel
theorem dX4_reading_13 : decode cX4_reading 13 = .ok (.aload_n 0, 1) := by decide +kernel
theorem dX4_reading_14 : decode cX4_reading 14 = .ok (.getfield 39, 3) := by decide +kernel
theorem dX4_reading_17 : decode cX4_reading 17 = .ok (.bipush 8, 2) := by decide +kernel
theorem dX4_reading_19 : decode cX4_reading 19 = .ok (.if_icmp .lt 6, 3) := by decide +kernel
theorem dX4_reading_22 : decode cX4_reading 22 = .ok (.bipush (-4), 2) := by decide +kernel
theorem dX4_reading_24 : decode cX4_reading 24 = .ok (.ireturn, 1) := by decide +kernel
theorem dX4_reading_25 : decode cX4_reading 25 = .ok (.aload_n 0, 1) := by decide +kernel
theorem dX4_reading_26 : decode cX4_reading 26 = .ok (.getfield 31, 3) := by decide +kernel
theorem dX4_reading_29 : decode cX4_reading 29 = .ok (.aload_n 0, 1) := by decide +kernel
theorem dX4_reading_30 : decode cX4_reading 30 = .ok (.getfield 39, 3) := by decide +kernel
theorem dX4_reading_33 : decode cX4_reading 33 = .ok (.iload_n 1, 1) := by decide +kernel
theorem dX4_reading_34 : decode cX4_reading 34 = .ok (.iastore, 1) := by decide +kernel
theorem dX4_reading_35 : decode cX4_reading 35 = .ok (.aload_n 0, 1) := by decide +kernel
theorem dX4_reading_36 : decode cX4_reading 36 = .ok (.getfield 35, 3) := by decide +kernel
theorem dX4_reading_39 : decode cX4_reading 39 = .ok (.aload_n 0, 1) := by decide +kernel
theorem dX4_reading_40 : decode cX4_reading 40 = .ok (.getfield 39, 3) := by decide +kernel
theorem dX4_reading_43 : decode cX4_reading 43 = .ok (.iload_n 2, 1) := by decide +kernel
theorem dX4_reading_44 : decode cX4_reading 44 = .ok (.bastore, 1) := by decide +kernel
theorem dX4_reading_45 : decode cX4_reading 45 = .ok (.aload_n 0, 1) := by decide +kernel
theorem dX4_reading_46 : decode cX4_reading 46 = .ok (.dup, 1) := by decide +kernel
theorem dX4_reading_47 : decode cX4_reading 47 = .ok (.getfield 39, 3) := by decide +kernel
theorem dX4_reading_50 : decode cX4_reading 50 = .ok (.iconst 1, 1) := by decide +kernel
theorem dX4_reading_51 : decode cX4_reading 51 = .ok (.iadd, 1) := by decide +kernel
theorem dX4_reading_52 : decode cX4_reading 52 = .ok (.putfield 39, 3) := by decide +kernel
theorem dX4_reading_55 : decode cX4_reading 55 = .ok (.aload_n 0, 1) := by decide +kernel
theorem dX4_reading_56 : decode cX4_reading 56 = .ok (.getfield 39, 3) := by decide +kernel
theorem dX4_reading_59 : decode cX4_reading 59 = .ok (.iconst 1, 1) := by decide +kernel
theorem dX4_reading_60 : decode cX4_reading 60 = .ok (.isub, 1) := by decide +kernel
theorem dX4_reading_61 : decode cX4_reading 61 = .ok (.ireturn, 1) := by decide +kernel
set_option maxRecDepth 20000 in
theorem ggX4_back_X4_isWithin : GoodIn wsX4_back wsX4_isWithin := goodIn_r _ [5] (by decide +kernel) (by decide +kernel)
set_option maxRecDepth 20000 in
theorem gX4_back_X4_isWithin : GoodIn wsX4_back (va_wsS RX4 54 yX4_isWithin wsX4_isWithin) := goodIn_app (goodIn_of _ (by decide +kernel)) ggX4_back_X4_isWithin
theorem dX4_back_0 : decode cX4_back 0 = .ok (.iload_n 1, 1) := by decide +kernel
theorem dX4_back_1 : decode cX4_back 1 = .ok (.aload_n 0, 1) := by decide +kernel
theorem dX4_back_2 : decode cX4_back 2 = .ok (.getfield 39, 3) := by decide +kernel
theorem dX4_back_5 : decode cX4_back 5 = .ok (.invokestatic 54, 3) := by decide +kernel
theorem dX4_back_8 : decode cX4_back 8 = .ok (.ifCond .ne 6, 3) := by decide +kernel
theorem dX4_back_11 : decode cX4_back 11 = .ok (.bipush (-2), 2) := by decide +kernel
theorem dX4_back_13 : decode cX4_back 13 = .ok (.ireturn, 1) := by decide +kernel
theorem dX4_back_14 : decode cX4_back 14 = .ok (.aload_n 0, 1) := by decide +kernel
theorem dX4_back_15 : decode cX4_back 15 = .ok (.dup, 1) := by decide +kernel
theorem dX4_back_16 : decode cX4_back 16 = .ok (.getfield 39, 3) := by decide +kernel
theorem dX4_back_19 : decode cX4_back 19 = .ok (.iload_n 1, 1) := by decide +kernel
theorem dX4_back_20 : decode cX4_back 20 = .ok (.isub, 1) := by decide +kernel
theorem dX4_back_21 : decode cX4_back 21 = .ok (.putfield 39, 3) := by decide +kernel
theorem dX4_back_24 : decode cX4_back 24 = .ok (.aload_n 0, 1) := by decide +kernel
theorem dX4_back_25 : decode cX4_back 25 = .ok (.getfield 39, 3) := by decide +kernel
theorem dX4_back_28 : decode cX4_back 28 = .ok (.ireturn, 1) := by decide +kernel
set_option maxRecDepth 20000 in
theorem ggX4_reaches_X0_hasGun : GoodIn wsX4_reaches wsX0_hasGun := goodIn_r _ [7, 8, 58, 59, 60, 61, 62, 63, 64, 65, 66, 67, 68, 69, 70, 71] (by decide +kernel) (by decide +kernel)
set_option maxRecDepth 20000 in
theorem gX4_reaches_X0_hasGun : GoodIn wsX4_reaches (wsV RX4 86 RX0 yX0_hasGun wsX0_hasGun) := goodIn_app (goodIn_of _ (by decide +kernel)) ggX4_reaches_X0_hasGun
set_option maxRecDepth 20000 in
theorem ggX4_reaches_X4_areReadingsSo : GoodIn wsX4_reaches wsX4_areReadingsSo := goodIn_r _ [13, 1, 14, 15, 16, 17, 18, 19, 20, 6, 21, 8, 22, 23, 24, 25, 26, 27, 28, 29, 30, 31, 32, 33, 34, 35, 36, 37, 38, 39, 40, 41, 42, 43, 44, 45, 46, 47, 48, 12, 49, 50, 51, 52, 53, 54, 55, 56, 57, 58, 59, 60, 61, 62, 63, 64, 65, 66, 67, 68, 69, 70, 71] (by decide +kernel) (by decide +kernel)
set_option maxRecDepth 20000 in
theorem gX4_reaches_X4_areReadingsSo : GoodIn wsX4_reaches (wsV RX4 224 RX4 yX4_areReadingsSo wsX4_areReadingsSo) := goodIn_app (goodIn_of _ (by decide +kernel)) ggX4_reaches_X4_areReadingsSo
theorem dX4_reaches_0 : decode cX4_reaches 0 = .ok (.aload_n 0, 1) := by decide +kernel
theorem dX4_reaches_1 : decode cX4_reaches 1 = .ok (.getfield 20, 3) := by decide +kernel
theorem dX4_reaches_4 : decode cX4_reaches 4 = .ok (.iload_n 1, 1) := by decide +kernel
theorem dX4_reaches_5 : decode cX4_reaches 5 = .ok (.invokevirtual 86, 3) := by decide +kernel
theorem dX4_reaches_8 : decode cX4_reaches 8 = .ok (.ifCond .ne 5, 3) := by decide +kernel
theorem dX4_reaches_11 : decode cX4_reaches 11 = .ok (.iconst (-1), 1) := by decide +kernel
theorem dX4_reaches_12 : decode cX4_reaches 12 = .ok (.ireturn, 1) := by decide +kernel
theorem dX4_reaches_13 : decode cX4_reaches 13 = .ok (.aload_n 0, 1) := by decide +kernel
theorem dX4_reaches_14 : decode cX4_reaches 14 = .ok (.getfield 20, 3) := by decide +kernel
theorem dX4_reaches_17 : decode cX4_reaches 17 = .ok (.getfield 95, 3) := by decide +kernel
theorem dX4_reaches_20 : decode cX4_reaches 20 = .ok (.iload_n 1, 1) := by decide +kernel
theorem dX4_reaches_21 : decode cX4_reaches 21 = .ok (.iaload, 1) := by decide +kernel
theorem dX4_reaches_22 : decode cX4_reaches 22 = .ok (.istore_n 2, 1) := by decide +kernel
theorem dX4_reaches_23 : decode cX4_reaches 23 = .ok (.iconst 0, 1) := by decide +kernel
theorem dX4_reaches_24 : decode cX4_reaches 24 = .ok (.istore_n 3, 1) := by decide +kernel
theorem dX4_reaches_25 : decode cX4_reaches 25 = .ok (.iconst 0, 1) := by decide +kernel
theorem dX4_reaches_26 : decode cX4_reaches 26 = .ok (.istore 4, 2) := by decide +kernel
theorem dX4_reaches_28 : decode cX4_reaches 28 = .ok (.iload 4, 2) := by decide +kernel
theorem dX4_reaches_30 : decode cX4_reaches 30 = .ok (.bipush 9, 2) := by decide +kernel
theorem dX4_reaches_32 : decode cX4_reaches 32 = .ok (.if_icmp .gt 34, 3) := by decide +kernel
theorem dX4_reaches_35 : decode cX4_reaches 35 = .ok (.aload_n 0, 1) := by decide +kernel
theorem dX4_reaches_36 : decode cX4_reaches 36 = .ok (.getfield 20, 3) := by decide +kernel
theorem dX4_reaches_39 : decode cX4_reaches 39 = .ok (.getfield 95, 3) := by decide +kernel
theorem dX4_reaches_42 : decode cX4_reaches 42 = .ok (.iload_n 1, 1) := by decide +kernel
theorem dX4_reaches_43 : decode cX4_reaches 43 = .ok (.iload 4, 2) := by decide +kernel
theorem dX4_reaches_45 : decode cX4_reaches 45 = .ok (.iastore, 1) := by decide +kernel
theorem dX4_reaches_46 : decode cX4_reaches 46 = .ok (.aload_n 0, 1) := by decide +kernel
theorem dX4_reaches_47 : decode cX4_reaches 47 = .ok (.invokevirtual 224, 3) := by decide +kernel
theorem dX4_reaches_50 : decode cX4_reaches 50 = .ok (.ifCond .eq 10, 3) := by decide +kernel
theorem dX4_reaches_53 : decode cX4_reaches 53 = .ok (.iload_n 3, 1) := by decide +kernel
theorem dX4_reaches_54 : decode cX4_reaches 54 = .ok (.iconst 1, 1) := by decide +kernel
theorem dX4_reaches_55 : decode cX4_reaches 55 = .ok (.iload 4, 2) := by decide +kernel
theorem dX4_reaches_57 : decode cX4_reaches 57 = .ok (.ishl, 1) := by decide +kernel
theorem dX4_reaches_58 : decode cX4_reaches 58 = .ok (.ior, 1) := by decide +kernel
theorem dX4_reaches_59 : decode cX4_reaches 59 = .ok (.istore_n 3, 1) := by decide +kernel
theorem dX4_reaches_60 : decode cX4_reaches 60 = .ok (.iinc 4 1, 3) := by decide +kernel
theorem dX4_reaches_63 : decode cX4_reaches 63 = .ok (.goto (-35), 3) := by decide +kernel
theorem dX4_reaches_66 : decode cX4_reaches 66 = .ok (.aload_n 0, 1) := by decide +kernel
theorem dX4_reaches_67 : decode cX4_reaches 67 = .ok (.getfield 20, 3) := by decide +kernel
theorem dX4_reaches_70 : decode cX4_reaches 70 = .ok (.getfield 95, 3) := by decide +kernel
theorem dX4_reaches_73 : decode cX4_reaches 73 = .ok (.iload_n 1, 1) := by decide +kernel
theorem dX4_reaches_74 : decode cX4_reaches 74 = .ok (.iload_n 2, 1) := by decide +kernel
theorem dX4_reaches_75 : decode cX4_reaches 75 = .ok (.iastore, 1) := by decide +kernel
theorem dX4_reaches_76 : decode cX4_reaches 76 = .ok (.iload_n 3, 1) := by decide +kernel
theorem dX4_reaches_77 : decode cX4_reaches 77 = .ok (.ireturn, 1) := by decide +kernel
set_option maxRecDepth 20000 in
theorem ggX4_kinds_X0_hasGun : GoodIn wsX4_kinds wsX0_hasGun := goodIn_r _ [7, 8, 58, 59, 60, 61, 62, 63, 64, 65, 66, 67, 68, 69, 70, 71] (by decide +kernel) (by decide +kernel)
set_option maxRecDepth 20000 in
theorem gX4_kinds_X0_hasGun : GoodIn wsX4_kinds (wsV RX4 86 RX0 yX0_hasGun wsX0_hasGun) := goodIn_app (goodIn_of _ (by decide +kernel)) ggX4_kinds_X0_hasGun
set_option maxRecDepth 20000 in
theorem ggX4_kinds_X4_areReadingsSo : GoodIn wsX4_kinds wsX4_areReadingsSo := goodIn_r _ [13, 1, 14, 15, 16, 17, 18, 19, 20, 6, 21, 8, 22, 23, 24, 25, 26, 27, 28, 29, 30, 31, 32, 33, 34, 35, 36, 37, 38, 39, 40, 41, 42, 43, 44, 45, 46, 47, 48, 12, 49, 50, 51, 52, 53, 54, 55, 56, 57, 58, 59, 60, 61, 62, 63, 64, 65, 66, 67, 68, 69, 70, 71] (by decide +kernel) (by decide +kernel)
set_option maxRecDepth 20000 in
theorem gX4_kinds_X4_areReadingsSo : GoodIn wsX4_kinds (wsV RX4 224 RX4 yX4_areReadingsSo wsX4_areReadingsSo) := goodIn_app (goodIn_of _ (by decide +kernel)) ggX4_kinds_X4_areReadingsSo
theorem dX4_kinds_0 : decode cX4_kinds 0 = .ok (.aload_n 0, 1) := by decide +kernel
theorem dX4_kinds_1 : decode cX4_kinds 1 = .ok (.getfield 20, 3) := by decide +kernel
theorem dX4_kinds_4 : decode cX4_kinds 4 = .ok (.iload_n 1, 1) := by decide +kernel
theorem dX4_kinds_5 : decode cX4_kinds 5 = .ok (.invokevirtual 86, 3) := by decide +kernel
theorem dX4_kinds_8 : decode cX4_kinds 8 = .ok (.ifCond .ne 5, 3) := by decide +kernel
theorem dX4_kinds_11 : decode cX4_kinds 11 = .ok (.iconst (-1), 1) := by decide +kernel
theorem dX4_kinds_12 : decode cX4_kinds 12 = .ok (.ireturn, 1) := by decide +kernel
theorem dX4_kinds_13 : decode cX4_kinds 13 = .ok (.aload_n 0, 1) := by decide +kernel
theorem dX4_kinds_14 : decode cX4_kinds 14 = .ok (.getfield 20, 3) := by decide +kernel
theorem dX4_kinds_17 : decode cX4_kinds 17 = .ok (.getfield 89, 3) := by decide +kernel
theorem dX4_kinds_20 : decode cX4_kinds 20 = .ok (.iload_n 1, 1) := by decide +kernel
theorem dX4_kinds_21 : decode cX4_kinds 21 = .ok (.iaload, 1) := by decide +kernel
theorem dX4_kinds_22 : decode cX4_kinds 22 = .ok (.istore_n 2, 1) := by decide +kernel
theorem dX4_kinds_23 : decode cX4_kinds 23 = .ok (.iconst 0, 1) := by decide +kernel
theorem dX4_kinds_24 : decode cX4_kinds 24 = .ok (.istore_n 3, 1) := by decide +kernel
theorem dX4_kinds_25 : decode cX4_kinds 25 = .ok (.iconst 0, 1) := by decide +kernel
theorem dX4_kinds_26 : decode cX4_kinds 26 = .ok (.istore 4, 2) := by decide +kernel
theorem dX4_kinds_28 : decode cX4_kinds 28 = .ok (.iload 4, 2) := by decide +kernel
theorem dX4_kinds_30 : decode cX4_kinds 30 = .ok (.iconst 2, 1) := by decide +kernel
theorem dX4_kinds_31 : decode cX4_kinds 31 = .ok (.if_icmp .gt 34, 3) := by decide +kernel
theorem dX4_kinds_34 : decode cX4_kinds 34 = .ok (.aload_n 0, 1) := by decide +kernel
theorem dX4_kinds_35 : decode cX4_kinds 35 = .ok (.getfield 20, 3) := by decide +kernel
theorem dX4_kinds_38 : decode cX4_kinds 38 = .ok (.getfield 89, 3) := by decide +kernel
theorem dX4_kinds_41 : decode cX4_kinds 41 = .ok (.iload_n 1, 1) := by decide +kernel
theorem dX4_kinds_42 : decode cX4_kinds 42 = .ok (.iload 4, 2) := by decide +kernel
theorem dX4_kinds_44 : decode cX4_kinds 44 = .ok (.iastore, 1) := by decide +kernel
theorem dX4_kinds_45 : decode cX4_kinds 45 = .ok (.aload_n 0, 1) := by decide +kernel
theorem dX4_kinds_46 : decode cX4_kinds 46 = .ok (.invokevirtual 224, 3) := by decide +kernel
theorem dX4_kinds_49 : decode cX4_kinds 49 = .ok (.ifCond .eq 10, 3) := by decide +kernel
theorem dX4_kinds_52 : decode cX4_kinds 52 = .ok (.iload_n 3, 1) := by decide +kernel
theorem dX4_kinds_53 : decode cX4_kinds 53 = .ok (.iconst 1, 1) := by decide +kernel
theorem dX4_kinds_54 : decode cX4_kinds 54 = .ok (.iload 4, 2) := by decide +kernel
theorem dX4_kinds_56 : decode cX4_kinds 56 = .ok (.ishl, 1) := by decide +kernel
theorem dX4_kinds_57 : decode cX4_kinds 57 = .ok (.ior, 1) := by decide +kernel
theorem dX4_kinds_58 : decode cX4_kinds 58 = .ok (.istore_n 3, 1) := by decide +kernel
theorem dX4_kinds_59 : decode cX4_kinds 59 = .ok (.iinc 4 1, 3) := by decide +kernel
theorem dX4_kinds_62 : decode cX4_kinds 62 = .ok (.goto (-34), 3) := by decide +kernel
theorem dX4_kinds_65 : decode cX4_kinds 65 = .ok (.aload_n 0, 1) := by decide +kernel
theorem dX4_kinds_66 : decode cX4_kinds 66 = .ok (.getfield 20, 3) := by decide +kernel
theorem dX4_kinds_69 : decode cX4_kinds 69 = .ok (.getfield 89, 3) := by decide +kernel
theorem dX4_kinds_72 : decode cX4_kinds 72 = .ok (.iload_n 1, 1) := by decide +kernel
theorem dX4_kinds_73 : decode cX4_kinds 73 = .ok (.iload_n 2, 1) := by decide +kernel
theorem dX4_kinds_74 : decode cX4_kinds 74 = .ok (.iastore, 1) := by decide +kernel
theorem dX4_kinds_75 : decode cX4_kinds 75 = .ok (.iload_n 3, 1) := by decide +kernel
theorem dX4_kinds_76 : decode cX4_kinds 76 = .ok (.ireturn, 1) := by decide +kernel
set_option maxRecDepth 20000 in
theorem ggX4_haunts_X0_hasGun : GoodIn wsX4_haunts wsX0_hasGun := goodIn_r _ [9, 10, 60, 61, 62, 63, 64, 65, 66, 67, 68, 69, 70, 71, 72, 73] (by decide +kernel) (by decide +kernel)
set_option maxRecDepth 20000 in
theorem gX4_haunts_X0_hasGun : GoodIn wsX4_haunts (wsV RX4 86 RX0 yX0_hasGun wsX0_hasGun) := goodIn_app (goodIn_of _ (by decide +kernel)) ggX4_haunts_X0_hasGun
set_option maxRecDepth 20000 in
theorem ggX4_haunts_X4_areReadingsSo : GoodIn wsX4_haunts wsX4_areReadingsSo := goodIn_r _ [15, 1, 16, 17, 18, 19, 20, 21, 22, 8, 23, 10, 24, 25, 26, 27, 28, 29, 30, 31, 32, 33, 34, 35, 36, 37, 38, 39, 40, 41, 42, 43, 44, 45, 46, 47, 48, 49, 50, 14, 51, 52, 53, 54, 55, 56, 57, 58, 59, 60, 61, 62, 63, 64, 65, 66, 67, 68, 69, 70, 71, 72, 73] (by decide +kernel) (by decide +kernel)
set_option maxRecDepth 20000 in
theorem gX4_haunts_X4_areReadingsSo : GoodIn wsX4_haunts (wsV RX4 224 RX4 yX4_areReadingsSo wsX4_areReadingsSo) := goodIn_app (goodIn_of _ (by decide +kernel)) ggX4_haunts_X4_areReadingsSo
theorem dX4_haunts_0 : decode cX4_haunts 0 = .ok (.aload_n 0, 1) := by decide +kernel
theorem dX4_haunts_1 : decode cX4_haunts 1 = .ok (.getfield 20, 3) := by decide +kernel
theorem dX4_haunts_4 : decode cX4_haunts 4 = .ok (.iload_n 1, 1) := by decide +kernel
theorem dX4_haunts_5 : decode cX4_haunts 5 = .ok (.invokevirtual 86, 3) := by decide +kernel
theorem dX4_haunts_8 : decode cX4_haunts 8 = .ok (.ifCond .ne 7, 3) := by decide +kernel
theorem dX4_haunts_11 : decode cX4_haunts 11 = .ok (.ldc2_w 118, 3) := by decide +kernel
theorem dX4_haunts_14 : decode cX4_haunts 14 = .ok (.lreturn, 1) := by decide +kernel
theorem dX4_haunts_15 : decode cX4_haunts 15 = .ok (.aload_n 0, 1) := by decide +kernel
theorem dX4_haunts_16 : decode cX4_haunts 16 = .ok (.getfield 20, 3) := by decide +kernel
theorem dX4_haunts_19 : decode cX4_haunts 19 = .ok (.getfield 92, 3) := by decide +kernel
theorem dX4_haunts_22 : decode cX4_haunts 22 = .ok (.iload_n 1, 1) := by decide +kernel
theorem dX4_haunts_23 : decode cX4_haunts 23 = .ok (.iaload, 1) := by decide +kernel
theorem dX4_haunts_24 : decode cX4_haunts 24 = .ok (.istore_n 2, 1) := by decide +kernel
theorem dX4_haunts_25 : decode cX4_haunts 25 = .ok (.lconst 0, 1) := by decide +kernel
theorem dX4_haunts_26 : decode cX4_haunts 26 = .ok (.lstore_n 3, 1) := by decide +kernel
theorem dX4_haunts_27 : decode cX4_haunts 27 = .ok (.iconst 0, 1) := by decide +kernel
theorem dX4_haunts_28 : decode cX4_haunts 28 = .ok (.istore 5, 2) := by decide +kernel
theorem dX4_haunts_30 : decode cX4_haunts 30 = .ok (.iload 5, 2) := by decide +kernel
theorem dX4_haunts_32 : decode cX4_haunts 32 = .ok (.aload_n 0, 1) := by decide +kernel
theorem dX4_haunts_33 : decode cX4_haunts 33 = .ok (.getfield 20, 3) := by decide +kernel
theorem dX4_haunts_36 : decode cX4_haunts 36 = .ok (.getfield 138, 3) := by decide +kernel
theorem dX4_haunts_39 : decode cX4_haunts 39 = .ok (.if_icmp .ge 34, 3) := by decide +kernel
theorem dX4_haunts_42 : decode cX4_haunts 42 = .ok (.aload_n 0, 1) := by decide +kernel
theorem dX4_haunts_43 : decode cX4_haunts 43 = .ok (.getfield 20, 3) := by decide +kernel
theorem dX4_haunts_46 : decode cX4_haunts 46 = .ok (.getfield 92, 3) := by decide +kernel
theorem dX4_haunts_49 : decode cX4_haunts 49 = .ok (.iload_n 1, 1) := by decide +kernel
theorem dX4_haunts_50 : decode cX4_haunts 50 = .ok (.iload 5, 2) := by decide +kernel
theorem dX4_haunts_52 : decode cX4_haunts 52 = .ok (.iastore, 1) := by decide +kernel
theorem dX4_haunts_53 : decode cX4_haunts 53 = .ok (.aload_n 0, 1) := by decide +kernel
theorem dX4_haunts_54 : decode cX4_haunts 54 = .ok (.invokevirtual 224, 3) := by decide +kernel
theorem dX4_haunts_57 : decode cX4_haunts 57 = .ok (.ifCond .eq 10, 3) := by decide +kernel
theorem dX4_haunts_60 : decode cX4_haunts 60 = .ok (.lload_n 3, 1) := by decide +kernel
theorem dX4_haunts_61 : decode cX4_haunts 61 = .ok (.lconst 1, 1) := by decide +kernel
theorem dX4_haunts_62 : decode cX4_haunts 62 = .ok (.iload 5, 2) := by decide +kernel
theorem dX4_haunts_64 : decode cX4_haunts 64 = .ok (.lshl, 1) := by decide +kernel
theorem dX4_haunts_65 : decode cX4_haunts 65 = .ok (.lor, 1) := by decide +kernel
theorem dX4_haunts_66 : decode cX4_haunts 66 = .ok (.lstore_n 3, 1) := by decide +kernel
theorem dX4_haunts_67 : decode cX4_haunts 67 = .ok (.iinc 5 1, 3) := by decide +kernel
theorem dX4_haunts_70 : decode cX4_haunts 70 = .ok (.goto (-40), 3) := by decide +kernel
theorem dX4_haunts_73 : decode cX4_haunts 73 = .ok (.aload_n 0, 1) := by decide +kernel
theorem dX4_haunts_74 : decode cX4_haunts 74 = .ok (.getfield 20, 3) := by decide +kernel
theorem dX4_haunts_77 : decode cX4_haunts 77 = .ok (.getfield 92, 3) := by decide +kernel
theorem dX4_haunts_80 : decode cX4_haunts 80 = .ok (.iload_n 1, 1) := by decide +kernel
theorem dX4_haunts_81 : decode cX4_haunts 81 = .ok (.iload_n 2, 1) := by decide +kernel
theorem dX4_haunts_82 : decode cX4_haunts 82 = .ok (.iastore, 1) := by decide +kernel
theorem dX4_haunts_83 : decode cX4_haunts 83 = .ok (.lload_n 3, 1) := by decide +kernel
theorem dX4_haunts_84 : decode cX4_haunts 84 = .ok (.lreturn, 1) := by decide +kernel
set_option maxRecDepth 20000 in
theorem ggX4_odds_X0_hasCell : GoodIn wsX4_odds wsX0_hasCell := goodIn_r _ [9, 10, 80, 81, 82, 83, 84, 85, 86, 87, 88, 89, 90, 91, 92, 93] (by decide +kernel) (by decide +kernel)
set_option maxRecDepth 20000 in
theorem gX4_odds_X0_hasCell : GoodIn wsX4_odds (wsV RX4 104 RX0 yX0_hasCell wsX0_hasCell) := goodIn_app (goodIn_of _ (by decide +kernel)) ggX4_odds_X0_hasCell
set_option maxRecDepth 20000 in
theorem ggX4_odds_X4_isWithin : GoodIn wsX4_odds wsX4_isWithin := goodIn_r _ [14] (by decide +kernel) (by decide +kernel)
set_option maxRecDepth 20000 in
theorem gX4_odds_X4_isWithin : GoodIn wsX4_odds (va_wsS RX4 54 yX4_isWithin wsX4_isWithin) := goodIn_app (goodIn_of _ (by decide +kernel)) ggX4_odds_X4_isWithin
set_option maxRecDepth 20000 in
theorem ggX4_odds_X4_hasSap : GoodIn wsX4_odds wsX4_hasSap := goodIn_r _ [18, 1, 19, 20, 21, 8, 22, 23, 24, 25, 26, 27, 10, 28, 29, 30, 31, 32, 33, 34, 35, 36, 37, 38, 39, 40, 41, 42, 43, 44, 45, 46, 47, 48, 49, 50, 51, 52, 53, 54, 55, 56, 57, 58, 59, 60, 61, 62, 63, 64, 65, 66, 67, 68, 69, 70, 13, 71, 72, 73, 74, 75, 76, 77, 78, 79, 80, 81, 82, 83, 84, 85, 86, 87, 88, 89, 90, 91, 92, 93] (by decide +kernel) (by decide +kernel)
set_option maxRecDepth 20000 in
theorem gX4_odds_X4_hasSap : GoodIn wsX4_odds (wsV RX4 186 RX4 yX4_hasSap wsX4_hasSap) := goodIn_app (goodIn_of _ (by decide +kernel)) ggX4_odds_X4_hasSap
theorem dX4_odds_0 : decode cX4_odds 0 = .ok (.aload_n 0, 1) := by decide +kernel
theorem dX4_odds_1 : decode cX4_odds 1 = .ok (.getfield 20, 3) := by decide +kernel
theorem dX4_odds_4 : decode cX4_odds 4 = .ok (.iload_n 1, 1) := by decide +kernel
theorem dX4_odds_5 : decode cX4_odds 5 = .ok (.invokevirtual 104, 3) := by decide +kernel
theorem dX4_odds_8 : decode cX4_odds 8 = .ok (.ifCond .eq 11, 3) := by decide +kernel
theorem dX4_odds_11 : decode cX4_odds 11 = .ok (.iload_n 2, 1) := by decide +kernel
theorem dX4_odds_12 : decode cX4_odds 12 = .ok (.iconst 1, 1) := by decide +kernel
theorem dX4_odds_13 : decode cX4_odds 13 = .ok (.invokestatic 54, 3) := by decide +kernel
theorem dX4_odds_16 : decode cX4_odds 16 = .ok (.ifCond .ne 7, 3) := by decide +kernel
theorem dX4_odds_19 : decode cX4_odds 19 = .ok (.ldc2_w 118, 3) := by decide +kernel
theorem dX4_odds_22 : decode cX4_odds 22 = .ok (.lreturn, 1) := by decide +kernel
theorem dX4_odds_23 : decode cX4_odds 23 = .ok (.iconst 0, 1) := by decide +kernel
theorem dX4_odds_24 : decode cX4_odds 24 = .ok (.istore_n 3, 1) := by decide +kernel
theorem dX4_odds_25 : decode cX4_odds 25 = .ok (.iconst 0, 1) := by decide +kernel
theorem dX4_odds_26 : decode cX4_odds 26 = .ok (.istore 4, 2) := by decide +kernel
theorem dX4_odds_28 : decode cX4_odds 28 = .ok (.iconst 0, 1) := by decide +kernel
theorem dX4_odds_29 : decode cX4_odds 29 = .ok (.istore 5, 2) := by decide +kernel
theorem dX4_odds_31 : decode cX4_odds 31 = .ok (.iload 5, 2) := by decide +kernel
theorem dX4_odds_33 : decode cX4_odds 33 = .ok (.iconst 1, 1) := by decide +kernel
theorem dX4_odds_34 : decode cX4_odds 34 = .ok (.aload_n 0, 1) := by decide +kernel
theorem dX4_odds_35 : decode cX4_odds 35 = .ok (.getfield 20, 3) := by decide +kernel
theorem dX4_odds_38 : decode cX4_odds 38 = .ok (.getfield 83, 3) := by decide +kernel
theorem dX4_odds_41 : decode cX4_odds 41 = .ok (.ishl, 1) := by decide +kernel
theorem dX4_odds_42 : decode cX4_odds 42 = .ok (.if_icmp .ge 51, 3) := by decide +kernel
theorem dX4_odds_45 : decode cX4_odds 45 = .ok (.iload 5, 2) := by decide +kernel
theorem dX4_odds_47 : decode cX4_odds 47 = .ok (.aload_n 0, 1) := by decide +kernel
theorem dX4_odds_48 : decode cX4_odds 48 = .ok (.getfield 20, 3) := by decide +kernel
theorem dX4_odds_51 : decode cX4_odds 51 = .ok (.getfield 101, 3) := by decide +kernel
theorem dX4_odds_54 : decode cX4_odds 54 = .ok (.iand, 1) := by decide +kernel
theorem dX4_odds_55 : decode cX4_odds 55 = .ok (.ifCond .ne 32, 3) := by decide +kernel
theorem dX4_odds_58 : decode cX4_odds 58 = .ok (.iinc 4 1, 3) := by decide +kernel
theorem dX4_odds_61 : decode cX4_odds 61 = .ok (.iload_n 3, 1) := by decide +kernel
theorem dX4_odds_62 : decode cX4_odds 62 = .ok (.aload_n 0, 1) := by decide +kernel
theorem dX4_odds_63 : decode cX4_odds 63 = .ok (.iload_n 1, 1) := by decide +kernel
theorem dX4_odds_64 : decode cX4_odds 64 = .ok (.iload 5, 2) := by decide +kernel
theorem dX4_odds_66 : decode cX4_odds 66 = .ok (.aload_n 0, 1) := by decide +kernel
theorem dX4_odds_67 : decode cX4_odds 67 = .ok (.getfield 20, 3) := by decide +kernel
theorem dX4_odds_70 : decode cX4_odds 70 = .ok (.getfield 101, 3) := by decide +kernel
theorem dX4_odds_73 : decode cX4_odds 73 = .ok (.ior, 1) := by decide +kernel
theorem dX4_odds_74 : decode cX4_odds 74 = .ok (.invokevirtual 186, 3) := by decide +kernel
theorem dX4_odds_77 : decode cX4_odds 77 = .ok (.ifCond .eq 7, 3) := by decide +kernel
theorem dX4_odds_80 : decode cX4_odds 80 = .ok (.iconst 1, 1) := by decide +kernel
theorem dX4_odds_81 : decode cX4_odds 81 = .ok (.goto 4, 3) := by decide +kernel
theorem dX4_odds_84 : decode cX4_odds 84 = .ok (.iconst 0, 1) := by decide +kernel
theorem dX4_odds_85 : decode cX4_odds 85 = .ok (.iadd, 1) := by decide +kernel
theorem dX4_odds_86 : decode cX4_odds 86 = .ok (.istore_n 3, 1) := by decide +kernel
theorem dX4_odds_87 : decode cX4_odds 87 = .ok (.iinc 5 1, 3) := by decide +kernel
theorem dX4_odds_90 : decode cX4_odds 90 = .ok (.goto (-59), 3) := by decide +kernel
theorem dX4_odds_93 : decode cX4_odds 93 = .ok (.iconst 0, 1) := by decide +kernel
theorem dX4_odds_94 : decode cX4_odds 94 = .ok (.istore 5, 2) := by decide +kernel
theorem dX4_odds_96 : decode cX4_odds 96 = .ok (.iload 5, 2) := by decide +kernel
theorem dX4_odds_98 : decode cX4_odds 98 = .ok (.iconst 4, 1) := by decide +kernel
theorem dX4_odds_99 : decode cX4_odds 99 = .ok (.if_icmp .ge 28, 3) := by decide +kernel
theorem dX4_odds_102 : decode cX4_odds 102 = .ok (.iload_n 3, 1) := by decide +kernel
theorem dX4_odds_103 : decode cX4_odds 103 = .ok (.iload 4, 2) := by decide +kernel
theorem dX4_odds_105 : decode cX4_odds 105 = .ok (.ior, 1) := by decide +kernel
theorem dX4_odds_106 : decode cX4_odds 106 = .ok (.iconst 2, 1) := by decide +kernel
theorem dX4_odds_107 : decode cX4_odds 107 = .ok (.irem, 1) := by decide +kernel
theorem dX4_odds_108 : decode cX4_odds 108 = .ok (.ifCond .ne 19, 3) := by decide +kernel
theorem dX4_odds_111 : decode cX4_odds 111 = .ok (.iload_n 3, 1) := by decide +kernel
theorem dX4_odds_112 : decode cX4_odds 112 = .ok (.iconst 2, 1) := by decide +kernel
theorem dX4_odds_113 : decode cX4_odds 113 = .ok (.idiv, 1) := by decide +kernel
theorem dX4_odds_114 : decode cX4_odds 114 = .ok (.istore_n 3, 1) := by decide +kernel
theorem dX4_odds_115 : decode cX4_odds 115 = .ok (.iload 4, 2) := by decide +kernel
theorem dX4_odds_117 : decode cX4_odds 117 = .ok (.iconst 2, 1) := by decide +kernel
theorem dX4_odds_118 : decode cX4_odds 118 = .ok (.idiv, 1) := by decide +kernel
theorem dX4_odds_119 : decode cX4_odds 119 = .ok (.istore 4, 2) := by decide +kernel
theorem dX4_odds_121 : decode cX4_odds 121 = .ok (.iinc 5 1, 3) := by decide +kernel
theorem dX4_odds_124 : decode cX4_odds 124 = .ok (.goto (-28), 3) := by decide +kernel
theorem dX4_odds_127 : decode cX4_odds 127 = .ok (.iload_n 2, 1) := by decide +kernel
theorem dX4_odds_128 : decode cX4_odds 128 = .ok (.ifCond .ne 8, 3) := by decide +kernel
theorem dX4_odds_131 : decode cX4_odds 131 = .ok (.iload_n 3, 1) := by decide +kernel
theorem dX4_odds_132 : decode cX4_odds 132 = .ok (.i2l, 1) := by decide +kernel
theorem dX4_odds_133 : decode cX4_odds 133 = .ok (.goto 6, 3) := by decide +kernel
theorem dX4_odds_136 : decode cX4_odds 136 = .ok (.iload 4, 2) := by decide +kernel
theorem dX4_odds_138 : decode cX4_odds 138 = .ok (.i2l, 1) := by decide +kernel
theorem dX4_odds_139 : decode cX4_odds 139 = .ok (.lreturn, 1) := by decide +kernel
set_option maxRecDepth 20000 in
theorem ggX4_areReadingsSo_X0_shotCells : GoodIn wsX4_areReadingsSo wsX0_shotCells := goodIn_r _ [10, 11, 12, 13, 14, 9, 15, 16, 17, 18, 19, 20, 21, 22, 23, 24, 25, 26, 27, 28, 29, 30, 31, 32, 33, 34, 35, 36, 49, 50, 51, 52, 53, 54, 55, 56, 57, 58, 59, 60, 61, 62] (by decide +kernel) (by decide +kernel)
set_option maxRecDepth 20000 in
theorem gX4_areReadingsSo_X0_shotCells : GoodIn wsX4_areReadingsSo (wsV RX4 169 RX0 yX0_shotCells wsX0_shotCells) := goodIn_app (goodIn_of _ (by decide +kernel)) ggX4_areReadingsSo_X0_shotCells
set_option maxRecDepth 20000 in
theorem ggX4_areReadingsSo_X4_isIn : GoodIn wsX4_areReadingsSo wsX4_isIn := goodIn_r _ [40] (by decide +kernel) (by decide +kernel)
set_option maxRecDepth 20000 in
theorem gX4_areReadingsSo_X4_isIn : GoodIn wsX4_areReadingsSo (va_wsS RX4 127 yX4_isIn wsX4_isIn) := goodIn_app (goodIn_of _ (by decide +kernel)) ggX4_areReadingsSo_X4_isIn
theorem dX4_areReadingsSo_0 : decode cX4_areReadingsSo 0 = .ok (.aload_n 0, 1) := by decide +kernel
theorem dX4_areReadingsSo_1 : decode cX4_areReadingsSo 1 = .ok (.getfield 20, 3) := by decide +kernel
theorem dX4_areReadingsSo_4 : decode cX4_areReadingsSo 4 = .ok (.aload_n 0, 1) := by decide +kernel
theorem dX4_areReadingsSo_5 : decode cX4_areReadingsSo 5 = .ok (.getfield 20, 3) := by decide +kernel
theorem dX4_areReadingsSo_8 : decode cX4_areReadingsSo 8 = .ok (.getfield 101, 3) := by decide +kernel
theorem dX4_areReadingsSo_11 : decode cX4_areReadingsSo 11 = .ok (.invokevirtual 169, 3) := by decide +kernel
theorem dX4_areReadingsSo_14 : decode cX4_areReadingsSo 14 = .ok (.lstore_n 1, 1) := by decide +kernel
theorem dX4_areReadingsSo_15 : decode cX4_areReadingsSo 15 = .ok (.iconst 0, 1) := by decide +kernel
theorem dX4_areReadingsSo_16 : decode cX4_areReadingsSo 16 = .ok (.istore_n 3, 1) := by decide +kernel
theorem dX4_areReadingsSo_17 : decode cX4_areReadingsSo 17 = .ok (.iload_n 3, 1) := by decide +kernel
theorem dX4_areReadingsSo_18 : decode cX4_areReadingsSo 18 = .ok (.aload_n 0, 1) := by decide +kernel
theorem dX4_areReadingsSo_19 : decode cX4_areReadingsSo 19 = .ok (.getfield 39, 3) := by decide +kernel
theorem dX4_areReadingsSo_22 : decode cX4_areReadingsSo 22 = .ok (.if_icmp .ge 30, 3) := by decide +kernel
theorem dX4_areReadingsSo_25 : decode cX4_areReadingsSo 25 = .ok (.aload_n 0, 1) := by decide +kernel
theorem dX4_areReadingsSo_26 : decode cX4_areReadingsSo 26 = .ok (.getfield 31, 3) := by decide +kernel
theorem dX4_areReadingsSo_29 : decode cX4_areReadingsSo 29 = .ok (.iload_n 3, 1) := by decide +kernel
theorem dX4_areReadingsSo_30 : decode cX4_areReadingsSo 30 = .ok (.iaload, 1) := by decide +kernel
theorem dX4_areReadingsSo_31 : decode cX4_areReadingsSo 31 = .ok (.lload_n 1, 1) := by decide +kernel
theorem dX4_areReadingsSo_32 : decode cX4_areReadingsSo 32 = .ok (.invokestatic 127, 3) := by decide +kernel
theorem dX4_areReadingsSo_35 : decode cX4_areReadingsSo 35 = .ok (.aload_n 0, 1) := by decide +kernel
theorem dX4_areReadingsSo_36 : decode cX4_areReadingsSo 36 = .ok (.getfield 35, 3) := by decide +kernel
theorem dX4_areReadingsSo_39 : decode cX4_areReadingsSo 39 = .ok (.iload_n 3, 1) := by decide +kernel
theorem dX4_areReadingsSo_40 : decode cX4_areReadingsSo 40 = .ok (.baload, 1) := by decide +kernel
theorem dX4_areReadingsSo_41 : decode cX4_areReadingsSo 41 = .ok (.if_icmp .eq 5, 3) := by decide +kernel
theorem dX4_areReadingsSo_44 : decode cX4_areReadingsSo 44 = .ok (.iconst 0, 1) := by decide +kernel
theorem dX4_areReadingsSo_45 : decode cX4_areReadingsSo 45 = .ok (.ireturn, 1) := by decide +kernel
theorem dX4_areReadingsSo_46 : decode cX4_areReadingsSo 46 = .ok (.iinc 3 1, 3) := by decide +kernel
theorem dX4_areReadingsSo_49 : decode cX4_areReadingsSo 49 = .ok (.goto (-32), 3) := by decide +kernel
theorem dX4_areReadingsSo_52 : decode cX4_areReadingsSo 52 = .ok (.iconst 1, 1) := by decide +kernel
theorem dX4_areReadingsSo_53 : decode cX4_areReadingsSo 53 = .ok (.ireturn, 1) := by decide +kernel
set_option maxRecDepth 20000 in
theorem ggX4_sheet_X4_sheetOf : GoodIn wsX4_sheet wsX4_sheetOf := goodIn_r _ [6, 7, 8, 9, 5, 10, 27, 28, 29, 30, 31, 32, 33, 34] (by decide +kernel) (by decide +kernel)
set_option maxRecDepth 20000 in
theorem gX4_sheet_X4_sheetOf : GoodIn wsX4_sheet (wsV RX4 50 RX4 yX4_sheetOf wsX4_sheetOf) := goodIn_app (goodIn_of _ (by decide +kernel)) ggX4_sheet_X4_sheetOf
set_option maxRecDepth 20000 in
theorem ggX4_sheet_X4_isWithin : GoodIn wsX4_sheet wsX4_isWithin := goodIn_r _ [10] (by decide +kernel) (by decide +kernel)
set_option maxRecDepth 20000 in
theorem gX4_sheet_X4_isWithin : GoodIn wsX4_sheet (va_wsS RX4 54 yX4_isWithin wsX4_isWithin) := goodIn_app (goodIn_of _ (by decide +kernel)) ggX4_sheet_X4_isWithin
set_option maxRecDepth 20000 in
theorem ggX4_sheet_X4_comeTo : GoodIn wsX4_sheet wsX4_comeTo := goodIn_r _ [14, 1, 27, 28, 29, 30, 31, 32, 33, 34] (by decide +kernel) (by decide +kernel)
set_option maxRecDepth 20000 in
theorem gX4_sheet_X4_comeTo : GoodIn wsX4_sheet (wsV RX4 62 RX4 yX4_comeTo wsX4_comeTo) := goodIn_app (goodIn_of _ (by decide +kernel)) ggX4_sheet_X4_comeTo
set_option maxRecDepth 20000 in
theorem ggX4_sheet_X1_renew : GoodIn wsX4_sheet wsX1_renew := goodIn_r _ [19, 20, 21, 22, 23, 24, 25, 26, 35, 36, 37] (by decide +kernel) (by decide +kernel)
set_option maxRecDepth 20000 in
theorem gX4_sheet_X1_renew : GoodIn wsX4_sheet (wsV RX4 227 RX1 yX1_renew wsX1_renew) := goodIn_app (goodIn_of _ (by decide +kernel)) ggX4_sheet_X1_renew
theorem dX4_sheet_0 : decode cX4_sheet 0 = .ok (.aload_n 0, 1) := by decide +kernel
theorem dX4_sheet_1 : decode cX4_sheet 1 = .ok (.iconst 0, 1) := by decide +kernel
theorem dX4_sheet_2 : decode cX4_sheet 2 = .ok (.putfield 46, 3) := by decide +kernel
theorem dX4_sheet_5 : decode cX4_sheet 5 = .ok (.aload_n 0, 1) := by decide +kernel
theorem dX4_sheet_6 : decode cX4_sheet 6 = .ok (.iload_n 1, 1) := by decide +kernel
theorem dX4_sheet_7 : decode cX4_sheet 7 = .ok (.invokevirtual 50, 3) := by decide +kernel
theorem dX4_sheet_10 : decode cX4_sheet 10 = .ok (.astore 4, 2) := by decide +kernel
theorem dX4_sheet_12 : decode cX4_sheet 12 = .ok (.aload 4, 2) := by decide +kernel
theorem dX4_sheet_14 : decode cX4_sheet 14 = .ok (.ifnonnull 5, 3) := by decide +kernel
theorem dX4_sheet_17 : decode cX4_sheet 17 = .ok (.iconst (-1), 1) := by decide +kernel
theorem dX4_sheet_18 : decode cX4_sheet 18 = .ok (.ireturn, 1) := by decide +kernel
theorem dX4_sheet_19 : decode cX4_sheet 19 = .ok (.iload_n 2, 1) := by decide +kernel
theorem dX4_sheet_20 : decode cX4_sheet 20 = .ok (.iconst 2, 1) := by decide +kernel
theorem dX4_sheet_21 : decode cX4_sheet 21 = .ok (.invokestatic 54, 3) := by decide +kernel
theorem dX4_sheet_24 : decode cX4_sheet 24 = .ok (.ifCond .eq 9, 3) := by decide +kernel
theorem dX4_sheet_27 : decode cX4_sheet 27 = .ok (.iload_n 3, 1) := by decide +kernel
theorem dX4_sheet_28 : decode cX4_sheet 28 = .ok (.bipush 60, 2) := by decide +kernel
theorem dX4_sheet_30 : decode cX4_sheet 30 = .ok (.if_icmp .le 6, 3) := by decide +kernel
theorem dX4_sheet_33 : decode cX4_sheet 33 = .ok (.bipush (-2), 2) := by decide +kernel
theorem dX4_sheet_35 : decode cX4_sheet 35 = .ok (.ireturn, 1) := by decide +kernel
theorem dX4_sheet_36 : decode cX4_sheet 36 = .ok (.iload_n 3, 1) := by decide +kernel
theorem dX4_sheet_37 : decode cX4_sheet 37 = .ok (.ifCond .ge 9, 3) := by decide +kernel
theorem dX4_sheet_40 : decode cX4_sheet 40 = .ok (.aload_n 0, 1) := by decide +kernel
theorem dX4_sheet_41 : decode cX4_sheet 41 = .ok (.iconst 4, 1) := by decide +kernel
theorem dX4_sheet_42 : decode cX4_sheet 42 = .ok (.invokevirtual 62, 3) := by decide +kernel
theorem dX4_sheet_45 : decode cX4_sheet 45 = .ok (.ireturn, 1) := by decide +kernel
theorem dX4_sheet_46 : decode cX4_sheet 46 = .ok (.aload 4, 2) := by decide +kernel
theorem dX4_sheet_48 : decode cX4_sheet 48 = .ok (.iload_n 2, 1) := by decide +kernel
theorem dX4_sheet_49 : decode cX4_sheet 49 = .ok (.iload_n 3, 1) := by decide +kernel
theorem dX4_sheet_50 : decode cX4_sheet 50 = .ok (.invokevirtual 227, 3) := by decide +kernel
theorem dX4_sheet_53 : decode cX4_sheet 53 = .ok (.iconst 1, 1) := by decide +kernel
theorem dX4_sheet_54 : decode cX4_sheet 54 = .ok (.ireturn, 1) := by decide +kernel
set_option maxRecDepth 20000 in
theorem ggX4_lose_X4_sheetOf : GoodIn wsX4_lose wsX4_sheetOf := goodIn_r _ [5, 6, 7, 8, 4, 9, 21, 22, 23, 24, 25, 26, 27, 28] (by decide +kernel) (by decide +kernel)
set_option maxRecDepth 20000 in
theorem gX4_lose_X4_sheetOf : GoodIn wsX4_lose (wsV RX4 50 RX4 yX4_sheetOf wsX4_sheetOf) := goodIn_app (goodIn_of _ (by decide +kernel)) ggX4_lose_X4_sheetOf
set_option maxRecDepth 20000 in
theorem ggX4_lose_X1_isNothing : GoodIn wsX4_lose wsX1_isNothing := goodIn_r _ [14, 15, 29, 30, 31] (by decide +kernel) (by decide +kernel)
set_option maxRecDepth 20000 in
theorem gX4_lose_X1_isNothing : GoodIn wsX4_lose (wsV RX4 66 RX1 yX1_isNothing wsX1_isNothing) := goodIn_app (goodIn_of _ (by decide +kernel)) ggX4_lose_X1_isNothing
set_option maxRecDepth 20000 in
theorem ggX4_lose_X1_empty : GoodIn wsX4_lose wsX1_empty := goodIn_r _ [19, 15, 20, 29, 30, 31] (by decide +kernel) (by decide +kernel)
set_option maxRecDepth 20000 in
theorem gX4_lose_X1_empty : GoodIn wsX4_lose (wsV RX4 231 RX1 yX1_empty wsX1_empty) := goodIn_app (goodIn_of _ (by decide +kernel)) ggX4_lose_X1_empty
theorem dX4_lose_0 : decode cX4_lose 0 = .ok (.aload_n 0, 1) := by decide +kernel
theorem dX4_lose_1 : decode cX4_lose 1 = .ok (.iload_n 1, 1) := by decide +kernel
theorem dX4_lose_2 : decode cX4_lose 2 = .ok (.invokevirtual 50, 3) := by decide +kernel
theorem dX4_lose_5 : decode cX4_lose 5 = .ok (.astore_n 2, 1) := by decide +kernel
theorem dX4_lose_6 : decode cX4_lose 6 = .ok (.aload_n 2, 1) := by decide +kernel
theorem dX4_lose_7 : decode cX4_lose 7 = .ok (.ifnonnull 5, 3) := by decide +kernel
theorem dX4_lose_10 : decode cX4_lose 10 = .ok (.iconst (-1), 1) := by decide +kernel
theorem dX4_lose_11 : decode cX4_lose 11 = .ok (.ireturn, 1) := by decide +kernel
theorem dX4_lose_12 : decode cX4_lose 12 = .ok (.aload_n 2, 1) := by decide +kernel
theorem dX4_lose_13 : decode cX4_lose 13 = .ok (.invokevirtual 66, 3) := by decide +kernel
theorem dX4_lose_16 : decode cX4_lose 16 = .ok (.ifCond .eq 5, 3) := by decide +kernel
theorem dX4_lose_19 : decode cX4_lose 19 = .ok (.iconst 0, 1) := by decide +kernel
theorem dX4_lose_20 : decode cX4_lose 20 = .ok (.ireturn, 1) := by decide +kernel
theorem dX4_lose_21 : decode cX4_lose 21 = .ok (.aload_n 2, 1) := by decide +kernel
theorem dX4_lose_22 : decode cX4_lose 22 = .ok (.invokevirtual 231, 3) := by decide +kernel
theorem dX4_lose_25 : decode cX4_lose 25 = .ok (.iconst 1, 1) := by decide +kernel
theorem dX4_lose_26 : decode cX4_lose 26 = .ok (.ireturn, 1) := by decide +kernel
set_option maxRecDepth 20000 in
theorem ggX4_put_X4_sheetOf : GoodIn wsX4_put wsX4_sheetOf := goodIn_r _ [7, 8, 9, 10, 6, 11, 31, 32, 33, 34, 35, 36, 37, 38] (by decide +kernel) (by decide +kernel)
set_option maxRecDepth 20000 in
theorem gX4_put_X4_sheetOf : GoodIn wsX4_put (wsV RX4 50 RX4 yX4_sheetOf wsX4_sheetOf) := goodIn_app (goodIn_of _ (by decide +kernel)) ggX4_put_X4_sheetOf
set_option maxRecDepth 20000 in
theorem ggX4_put_X1_isNothing : GoodIn wsX4_put wsX1_isNothing := goodIn_r _ [16, 17, 39, 40, 41] (by decide +kernel) (by decide +kernel)
set_option maxRecDepth 20000 in
theorem gX4_put_X1_isNothing : GoodIn wsX4_put (wsV RX4 66 RX1 yX1_isNothing wsX1_isNothing) := goodIn_app (goodIn_of _ (by decide +kernel)) ggX4_put_X1_isNothing
set_option maxRecDepth 20000 in
theorem ggX4_put_X4_comeTo : GoodIn wsX4_put wsX4_comeTo := goodIn_r _ [21, 1, 31, 32, 33, 34, 35, 36, 37, 38] (by decide +kernel) (by decide +kernel)
set_option maxRecDepth 20000 in
theorem gX4_put_X4_comeTo : GoodIn wsX4_put (wsV RX4 62 RX4 yX4_comeTo wsX4_comeTo) := goodIn_app (goodIn_of _ (by decide +kernel)) ggX4_put_X4_comeTo
set_option maxRecDepth 20000 in
theorem ggX4_put_X1_holds : GoodIn wsX4_put wsX1_holds := goodIn_r _ [25, 26, 39, 40, 41] (by decide +kernel) (by decide +kernel)
set_option maxRecDepth 20000 in
theorem gX4_put_X1_holds : GoodIn wsX4_put (wsV RX4 70 RX1 yX1_holds wsX1_holds) := goodIn_app (goodIn_of _ (by decide +kernel)) ggX4_put_X1_holds
set_option maxRecDepth 20000 in
theorem ggX4_put_X1_cut : GoodIn wsX4_put wsX1_cut := goodIn_r _ [30, 17, 39, 40, 41] (by decide +kernel) (by decide +kernel)
set_option maxRecDepth 20000 in
theorem gX4_put_X1_cut : GoodIn wsX4_put (wsV RX4 234 RX1 yX1_cut wsX1_cut) := goodIn_app (goodIn_of _ (by decide +kernel)) ggX4_put_X1_cut
theorem dX4_put_0 : decode cX4_put 0 = .ok (.aload_n 0, 1) := by decide +kernel
theorem dX4_put_1 : decode cX4_put 1 = .ok (.iconst 0, 1) := by decide +kernel
theorem dX4_put_2 : decode cX4_put 2 = .ok (.putfield 46, 3) := by decide +kernel
theorem dX4_put_5 : decode cX4_put 5 = .ok (.aload_n 0, 1) := by decide +kernel
theorem dX4_put_6 : decode cX4_put 6 = .ok (.iload_n 1, 1) := by decide +kernel
theorem dX4_put_7 : decode cX4_put 7 = .ok (.invokevirtual 50, 3) := by decide +kernel
theorem dX4_put_10 : decode cX4_put 10 = .ok (.astore 4, 2) := by decide +kernel
theorem dX4_put_12 : decode cX4_put 12 = .ok (.aload 4, 2) := by decide +kernel
theorem dX4_put_14 : decode cX4_put 14 = .ok (.ifnonnull 5, 3) := by decide +kernel
theorem dX4_put_17 : decode cX4_put 17 = .ok (.iconst (-1), 1) := by decide +kernel
theorem dX4_put_18 : decode cX4_put 18 = .ok (.ireturn, 1) := by decide +kernel
theorem dX4_put_19 : decode cX4_put 19 = .ok (.aload 4, 2) := by decide +kernel
theorem dX4_put_21 : decode cX4_put 21 = .ok (.invokevirtual 66, 3) := by decide +kernel
theorem dX4_put_24 : decode cX4_put 24 = .ok (.ifCond .eq 9, 3) := by decide +kernel
theorem dX4_put_27 : decode cX4_put 27 = .ok (.aload_n 0, 1) := by decide +kernel
theorem dX4_put_28 : decode cX4_put 28 = .ok (.iconst 1, 1) := by decide +kernel
theorem dX4_put_29 : decode cX4_put 29 = .ok (.invokevirtual 62, 3) := by decide +kernel
theorem dX4_put_32 : decode cX4_put 32 = .ok (.ireturn, 1) := by decide +kernel
theorem dX4_put_33 : decode cX4_put 33 = .ok (.aload 4, 2) := by decide +kernel
theorem dX4_put_35 : decode cX4_put 35 = .ok (.iload_n 2, 1) := by decide +kernel
theorem dX4_put_36 : decode cX4_put 36 = .ok (.iconst 1, 1) := by decide +kernel
theorem dX4_put_37 : decode cX4_put 37 = .ok (.invokevirtual 70, 3) := by decide +kernel
theorem dX4_put_40 : decode cX4_put 40 = .ok (.ifCond .ne 9, 3) := by decide +kernel
theorem dX4_put_43 : decode cX4_put 43 = .ok (.aload_n 0, 1) := by decide +kernel
theorem dX4_put_44 : decode cX4_put 44 = .ok (.iconst 3, 1) := by decide +kernel
theorem dX4_put_45 : decode cX4_put 45 = .ok (.invokevirtual 62, 3) := by decide +kernel
theorem dX4_put_48 : decode cX4_put 48 = .ok (.ireturn, 1) := by decide +kernel
theorem dX4_put_49 : decode cX4_put 49 = .ok (.aload 4, 2) := by decide +kernel
theorem dX4_put_51 : decode cX4_put 51 = .ok (.getfield 172, 3) := by decide +kernel
theorem dX4_put_54 : decode cX4_put 54 = .ok (.iload_n 2, 1) := by decide +kernel
theorem dX4_put_55 : decode cX4_put 55 = .ok (.aload 4, 2) := by decide +kernel
theorem dX4_put_57 : decode cX4_put 57 = .ok (.iload_n 3, 1) := by decide +kernel
theorem dX4_put_58 : decode cX4_put 58 = .ok (.invokevirtual 234, 3) := by decide +kernel
theorem dX4_put_61 : decode cX4_put 61 = .ok (.iastore, 1) := by decide +kernel
theorem dX4_put_62 : decode cX4_put 62 = .ok (.iconst 1, 1) := by decide +kernel
theorem dX4_put_63 : decode cX4_put 63 = .ok (.ireturn, 1) := by decide +kernel
set_option maxRecDepth 20000 in
theorem ggX4_cell_X4_sheetOf : GoodIn wsX4_cell wsX4_sheetOf := goodIn_r _ [8, 9, 10, 11, 7, 12, 28, 29, 30, 31, 32, 33, 34, 35] (by decide +kernel) (by decide +kernel)
set_option maxRecDepth 20000 in
theorem gX4_cell_X4_sheetOf : GoodIn wsX4_cell (wsV RX4 50 RX4 yX4_sheetOf wsX4_sheetOf) := goodIn_app (goodIn_of _ (by decide +kernel)) ggX4_cell_X4_sheetOf
set_option maxRecDepth 20000 in
theorem ggX4_cell_X4_isWithin : GoodIn wsX4_cell wsX4_isWithin := goodIn_r _ [12] (by decide +kernel) (by decide +kernel)
set_option maxRecDepth 20000 in
theorem gX4_cell_X4_isWithin : GoodIn wsX4_cell (va_wsS RX4 54 yX4_isWithin wsX4_isWithin) := goodIn_app (goodIn_of _ (by decide +kernel)) ggX4_cell_X4_isWithin
set_option maxRecDepth 20000 in
theorem ggX4_cell_X1_isOfOther : GoodIn wsX4_cell wsX1_isOfOther := goodIn_r _ [17, 18, 36, 37, 38] (by decide +kernel) (by decide +kernel)
set_option maxRecDepth 20000 in
theorem gX4_cell_X1_isOfOther : GoodIn wsX4_cell (wsV RX4 58 RX1 yX1_isOfOther wsX1_isOfOther) := goodIn_app (goodIn_of _ (by decide +kernel)) ggX4_cell_X1_isOfOther
set_option maxRecDepth 20000 in
theorem ggX4_cell_X1_isNothing : GoodIn wsX4_cell wsX1_isNothing := goodIn_r _ [22, 18, 36, 37, 38] (by decide +kernel) (by decide +kernel)
set_option maxRecDepth 20000 in
theorem gX4_cell_X1_isNothing : GoodIn wsX4_cell (wsV RX4 66 RX1 yX1_isNothing wsX1_isNothing) := goodIn_app (goodIn_of _ (by decide +kernel)) ggX4_cell_X1_isNothing
set_option maxRecDepth 20000 in
theorem ggX4_cell_X1_holds : GoodIn wsX4_cell wsX1_holds := goodIn_r _ [26, 27, 36, 37, 38] (by decide +kernel) (by decide +kernel)
set_option maxRecDepth 20000 in
theorem gX4_cell_X1_holds : GoodIn wsX4_cell (wsV RX4 70 RX1 yX1_holds wsX1_holds) := goodIn_app (goodIn_of _ (by decide +kernel)) ggX4_cell_X1_holds
theorem dX4_cell_0 : decode cX4_cell 0 = .ok (.aload_n 0, 1) := by decide +kernel
theorem dX4_cell_1 : decode cX4_cell 1 = .ok (.iconst 0, 1) := by decide +kernel
theorem dX4_cell_2 : decode cX4_cell 2 = .ok (.putfield 46, 3) := by decide +kernel
theorem dX4_cell_5 : decode cX4_cell 5 = .ok (.aload_n 0, 1) := by decide +kernel
theorem dX4_cell_6 : decode cX4_cell 6 = .ok (.iload_n 1, 1) := by decide +kernel
theorem dX4_cell_7 : decode cX4_cell 7 = .ok (.invokevirtual 50, 3) := by decide +kernel
theorem dX4_cell_10 : decode cX4_cell 10 = .ok (.astore 4, 2) := by decide +kernel
theorem dX4_cell_12 : decode cX4_cell 12 = .ok (.aload 4, 2) := by decide +kernel
theorem dX4_cell_14 : decode cX4_cell 14 = .ok (.ifnull 11, 3) := by decide +kernel
theorem dX4_cell_17 : decode cX4_cell 17 = .ok (.iload_n 3, 1) := by decide +kernel
theorem dX4_cell_18 : decode cX4_cell 18 = .ok (.iconst 2, 1) := by decide +kernel
theorem dX4_cell_19 : decode cX4_cell 19 = .ok (.invokestatic 54, 3) := by decide +kernel
theorem dX4_cell_22 : decode cX4_cell 22 = .ok (.ifCond .ne 7, 3) := by decide +kernel
theorem dX4_cell_25 : decode cX4_cell 25 = .ok (.ldc2_w 118, 3) := by decide +kernel
theorem dX4_cell_28 : decode cX4_cell 28 = .ok (.lreturn, 1) := by decide +kernel
theorem dX4_cell_29 : decode cX4_cell 29 = .ok (.aload 4, 2) := by decide +kernel
theorem dX4_cell_31 : decode cX4_cell 31 = .ok (.iload_n 3, 1) := by decide +kernel
theorem dX4_cell_32 : decode cX4_cell 32 = .ok (.invokevirtual 58, 3) := by decide +kernel
theorem dX4_cell_35 : decode cX4_cell 35 = .ok (.ifCond .eq 12, 3) := by decide +kernel
theorem dX4_cell_38 : decode cX4_cell 38 = .ok (.aload_n 0, 1) := by decide +kernel
theorem dX4_cell_39 : decode cX4_cell 39 = .ok (.iconst 2, 1) := by decide +kernel
theorem dX4_cell_40 : decode cX4_cell 40 = .ok (.putfield 46, 3) := by decide +kernel
theorem dX4_cell_43 : decode cX4_cell 43 = .ok (.ldc2_w 118, 3) := by decide +kernel
theorem dX4_cell_46 : decode cX4_cell 46 = .ok (.lreturn, 1) := by decide +kernel
theorem dX4_cell_47 : decode cX4_cell 47 = .ok (.aload 4, 2) := by decide +kernel
theorem dX4_cell_49 : decode cX4_cell 49 = .ok (.invokevirtual 66, 3) := by decide +kernel
theorem dX4_cell_52 : decode cX4_cell 52 = .ok (.ifCond .eq 12, 3) := by decide +kernel
theorem dX4_cell_55 : decode cX4_cell 55 = .ok (.aload_n 0, 1) := by decide +kernel
theorem dX4_cell_56 : decode cX4_cell 56 = .ok (.iconst 1, 1) := by decide +kernel
theorem dX4_cell_57 : decode cX4_cell 57 = .ok (.putfield 46, 3) := by decide +kernel
theorem dX4_cell_60 : decode cX4_cell 60 = .ok (.ldc2_w 118, 3) := by decide +kernel
theorem dX4_cell_63 : decode cX4_cell 63 = .ok (.lreturn, 1) := by decide +kernel
theorem dX4_cell_64 : decode cX4_cell 64 = .ok (.aload 4, 2) := by decide +kernel
theorem dX4_cell_66 : decode cX4_cell 66 = .ok (.iload_n 2, 1) := by decide +kernel
theorem dX4_cell_67 : decode cX4_cell 67 = .ok (.iconst 1, 1) := by decide +kernel
theorem dX4_cell_68 : decode cX4_cell 68 = .ok (.invokevirtual 70, 3) := by decide +kernel
theorem dX4_cell_71 : decode cX4_cell 71 = .ok (.ifCond .ne 12, 3) := by decide +kernel
theorem dX4_cell_74 : decode cX4_cell 74 = .ok (.aload_n 0, 1) := by decide +kernel
theorem dX4_cell_75 : decode cX4_cell 75 = .ok (.iconst 3, 1) := by decide +kernel
theorem dX4_cell_76 : decode cX4_cell 76 = .ok (.putfield 46, 3) := by decide +kernel
theorem dX4_cell_79 : decode cX4_cell 79 = .ok (.ldc2_w 118, 3) := by decide +kernel
theorem dX4_cell_82 : decode cX4_cell 82 = .ok (.lreturn, 1) := by decide +kernel
theorem dX4_cell_83 : decode cX4_cell 83 = .ok (.aload 4, 2) := by decide +kernel
theorem dX4_cell_85 : decode cX4_cell 85 = .ok (.getfield 172, 3) := by decide +kernel
theorem dX4_cell_88 : decode cX4_cell 88 = .ok (.iload_n 2, 1) := by decide +kernel
theorem dX4_cell_89 : decode cX4_cell 89 = .ok (.iaload, 1) := by decide +kernel
theorem dX4_cell_90 : decode cX4_cell 90 = .ok (.i2l, 1) := by decide +kernel
theorem dX4_cell_91 : decode cX4_cell 91 = .ok (.lreturn, 1) := by decide +kernel
set_option maxRecDepth 20000 in
theorem ggX4_copy_X4_sheetOf : GoodIn wsX4_copy wsX4_sheetOf := goodIn_r _ [12, 13, 14, 15, 11, 16, 36, 37, 38, 39, 40, 41, 42, 43] (by decide +kernel) (by decide +kernel)
set_option maxRecDepth 20000 in
theorem gX4_copy_X4_sheetOf : GoodIn wsX4_copy (wsV RX4 50 RX4 yX4_sheetOf wsX4_sheetOf) := goodIn_app (goodIn_of _ (by decide +kernel)) ggX4_copy_X4_sheetOf
set_option maxRecDepth 20000 in
theorem ggX4_copy_X1_isNothing : GoodIn wsX4_copy wsX1_isNothing := goodIn_r _ [21, 22, 44, 45, 46] (by decide +kernel) (by decide +kernel)
set_option maxRecDepth 20000 in
theorem gX4_copy_X1_isNothing : GoodIn wsX4_copy (wsV RX4 66 RX1 yX1_isNothing wsX1_isNothing) := goodIn_app (goodIn_of _ (by decide +kernel)) ggX4_copy_X1_isNothing
set_option maxRecDepth 20000 in
theorem ggX4_copy_X4_comeTo : GoodIn wsX4_copy wsX4_comeTo := goodIn_r _ [26, 1, 36, 37, 38, 39, 40, 41, 42, 43] (by decide +kernel) (by decide +kernel)
set_option maxRecDepth 20000 in
theorem gX4_copy_X4_comeTo : GoodIn wsX4_copy (wsV RX4 62 RX4 yX4_comeTo wsX4_comeTo) := goodIn_app (goodIn_of _ (by decide +kernel)) ggX4_copy_X4_comeTo
set_option maxRecDepth 20000 in
theorem ggX4_copy_X1_isOfOther : GoodIn wsX4_copy wsX1_isOfOther := goodIn_r _ [30, 22, 44, 45, 46] (by decide +kernel) (by decide +kernel)
set_option maxRecDepth 20000 in
theorem gX4_copy_X1_isOfOther : GoodIn wsX4_copy (wsV RX4 58 RX1 yX1_isOfOther wsX1_isOfOther) := goodIn_app (goodIn_of _ (by decide +kernel)) ggX4_copy_X1_isOfOther
set_option maxRecDepth 20000 in
theorem ggX4_copy_X1_holds : GoodIn wsX4_copy wsX1_holds := goodIn_r _ [34, 35, 44, 45, 46] (by decide +kernel) (by decide +kernel)
set_option maxRecDepth 20000 in
theorem gX4_copy_X1_holds : GoodIn wsX4_copy (wsV RX4 70 RX1 yX1_holds wsX1_holds) := goodIn_app (goodIn_of _ (by decide +kernel)) ggX4_copy_X1_holds
theorem dX4_copy_0 : decode cX4_copy 0 = .ok (.aload_n 0, 1) := by decide +kernel
theorem dX4_copy_1 : decode cX4_copy 1 = .ok (.iconst 0, 1) := by decide +kernel
