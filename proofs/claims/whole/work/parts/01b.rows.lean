theorem dX0_init_0 : decode cX0_init 0 = .ok (.aload_n 0, 1) := by decide +kernel
theorem dX0_init_1 : decode cX0_init 1 = .ok (.invokespecial 3, 3) := by decide +kernel
theorem dX0_init_4 : decode cX0_init 4 = .ok (.aload_n 0, 1) := by decide +kernel
theorem dX0_init_5 : decode cX0_init 5 = .ok (.iconst 0, 1) := by decide +kernel
theorem dX0_init_6 : decode cX0_init 6 = .ok (.putfield 9, 3) := by decide +kernel
theorem dX0_init_9 : decode cX0_init 9 = .ok (.aload_n 0, 1) := by decide +kernel
theorem dX0_init_10 : decode cX0_init 10 = .ok (.iconst 0, 1) := by decide +kernel
theorem dX0_init_11 : decode cX0_init 11 = .ok (.putfield 15, 3) := by decide +kernel
theorem dX0_init_14 : decode cX0_init 14 = .ok (.aload_n 0, 1) := by decide +kernel
theorem dX0_init_15 : decode cX0_init 15 = .ok (.iconst 0, 1) := by decide +kernel
theorem dX0_init_16 : decode cX0_init 16 = .ok (.putfield 18, 3) := by decide +kernel
theorem dX0_init_19 : decode cX0_init 19 = .ok (.aload_n 0, 1) := by decide +kernel
theorem dX0_init_20 : decode cX0_init 20 = .ok (.iconst 0, 1) := by decide +kernel
theorem dX0_init_21 : decode cX0_init 21 = .ok (.putfield 21, 3) := by decide +kernel
theorem dX0_init_24 : decode cX0_init 24 = .ok (.aload_n 0, 1) := by decide +kernel
theorem dX0_init_25 : decode cX0_init 25 = .ok (.iconst 0, 1) := by decide +kernel
theorem dX0_init_26 : decode cX0_init 26 = .ok (.putfield 24, 3) := by decide +kernel
theorem dX0_init_29 : decode cX0_init 29 = .ok (.aload_n 0, 1) := by decide +kernel
theorem dX0_init_30 : decode cX0_init 30 = .ok (.lconst 0, 1) := by decide +kernel
theorem dX0_init_31 : decode cX0_init 31 = .ok (.putfield 27, 3) := by decide +kernel
theorem dX0_init_34 : decode cX0_init 34 = .ok (.aload_n 0, 1) := by decide +kernel
theorem dX0_init_35 : decode cX0_init 35 = .ok (.lconst 0, 1) := by decide +kernel
theorem dX0_init_36 : decode cX0_init 36 = .ok (.putfield 31, 3) := by decide +kernel
theorem dX0_init_39 : decode cX0_init 39 = .ok (.aload_n 0, 1) := by decide +kernel
theorem dX0_init_40 : decode cX0_init 40 = .ok (.lconst 0, 1) := by decide +kernel
theorem dX0_init_41 : decode cX0_init 41 = .ok (.putfield 34, 3) := by decide +kernel
theorem dX0_init_44 : decode cX0_init 44 = .ok (.aload_n 0, 1) := by decide +kernel
theorem dX0_init_45 : decode cX0_init 45 = .ok (.bipush 36, 2) := by decide +kernel
theorem dX0_init_47 : decode cX0_init 47 = .ok (.newarray .int, 2) := by decide +kernel
theorem dX0_init_49 : decode cX0_init 49 = .ok (.putfield 37, 3) := by decide +kernel
theorem dX0_init_52 : decode cX0_init 52 = .ok (.aload_n 0, 1) := by decide +kernel
theorem dX0_init_53 : decode cX0_init 53 = .ok (.bipush 36, 2) := by decide +kernel
theorem dX0_init_55 : decode cX0_init 55 = .ok (.newarray .int, 2) := by decide +kernel
theorem dX0_init_57 : decode cX0_init 57 = .ok (.putfield 41, 3) := by decide +kernel
theorem dX0_init_60 : decode cX0_init 60 = .ok (.aload_n 0, 1) := by decide +kernel
theorem dX0_init_61 : decode cX0_init 61 = .ok (.bipush 36, 2) := by decide +kernel
theorem dX0_init_63 : decode cX0_init 63 = .ok (.newarray .int, 2) := by decide +kernel
theorem dX0_init_65 : decode cX0_init 65 = .ok (.putfield 44, 3) := by decide +kernel
theorem dX0_init_68 : decode cX0_init 68 = .ok (.aload_n 0, 1) := by decide +kernel
theorem dX0_init_69 : decode cX0_init 69 = .ok (.iconst 5, 1) := by decide +kernel
theorem dX0_init_70 : decode cX0_init 70 = .ok (.newarray .int, 2) := by decide +kernel
theorem dX0_init_72 : decode cX0_init 72 = .ok (.putfield 47, 3) := by decide +kernel
theorem dX0_init_75 : decode cX0_init 75 = .ok (.aload_n 0, 1) := by decide +kernel
theorem dX0_init_76 : decode cX0_init 76 = .ok (.iconst 5, 1) := by decide +kernel
theorem dX0_init_77 : decode cX0_init 77 = .ok (.newarray .int, 2) := by decide +kernel
theorem dX0_init_79 : decode cX0_init 79 = .ok (.putfield 50, 3) := by decide +kernel
theorem dX0_init_82 : decode cX0_init 82 = .ok (.aload_n 0, 1) := by decide +kernel
theorem dX0_init_83 : decode cX0_init 83 = .ok (.iconst 5, 1) := by decide +kernel
theorem dX0_init_84 : decode cX0_init 84 = .ok (.newarray .int, 2) := by decide +kernel
theorem dX0_init_86 : decode cX0_init 86 = .ok (.putfield 53, 3) := by decide +kernel
theorem dX0_init_89 : decode cX0_init 89 = .ok (.return_, 1) := by decide +kernel
set_option maxRecDepth 20000 in
theorem ggX0_take_X0_layCells : GoodIn wsX0_take wsX0_layCells := goodIn_r _ [15, 9, 16, 2, 17, 18, 19, 20, 28, 29, 30, 31, 32, 33, 34, 35, 36, 37, 38, 39, 40, 41] (by decide +kernel) (by decide +kernel)
set_option maxRecDepth 20000 in
theorem gX0_take_X0_layCells : GoodIn wsX0_take (wsV RX0 63 RX0 yX0_layCells wsX0_layCells) := goodIn_app (goodIn_of _ (by decide +kernel)) ggX0_take_X0_layCells
set_option maxRecDepth 20000 in
theorem ggX0_take_X2_kindOf : GoodIn wsX0_take wsX2_kindOf := goodIn_r _ [24] (by decide +kernel) (by decide +kernel)
set_option maxRecDepth 20000 in
theorem gX0_take_X2_kindOf : GoodIn wsX0_take (va_wsS RX0 67 yX2_kindOf wsX2_kindOf) := goodIn_app (goodIn_of _ (by decide +kernel)) ggX0_take_X2_kindOf
theorem dX0_take_0 : decode cX0_take 0 = .ok (.iload_n 2, 1) := by decide +kernel
theorem dX0_take_1 : decode cX0_take 1 = .ok (.iconst 3, 1) := by decide +kernel
theorem dX0_take_2 : decode cX0_take 2 = .ok (.iadd, 1) := by decide +kernel
theorem dX0_take_3 : decode cX0_take 3 = .ok (.istore 4, 2) := by decide +kernel
theorem dX0_take_5 : decode cX0_take 5 = .ok (.aload_n 0, 1) := by decide +kernel
theorem dX0_take_6 : decode cX0_take 6 = .ok (.aload_n 1, 1) := by decide +kernel
theorem dX0_take_7 : decode cX0_take 7 = .ok (.getfield 58, 3) := by decide +kernel
theorem dX0_take_10 : decode cX0_take 10 = .ok (.iload_n 2, 1) := by decide +kernel
theorem dX0_take_11 : decode cX0_take 11 = .ok (.iconst 1, 1) := by decide +kernel
theorem dX0_take_12 : decode cX0_take 12 = .ok (.iadd, 1) := by decide +kernel
theorem dX0_take_13 : decode cX0_take 13 = .ok (.iaload, 1) := by decide +kernel
theorem dX0_take_14 : decode cX0_take 14 = .ok (.bipush 48, 2) := by decide +kernel
theorem dX0_take_16 : decode cX0_take 16 = .ok (.isub, 1) := by decide +kernel
theorem dX0_take_17 : decode cX0_take 17 = .ok (.aload_n 1, 1) := by decide +kernel
theorem dX0_take_18 : decode cX0_take 18 = .ok (.getfield 58, 3) := by decide +kernel
theorem dX0_take_21 : decode cX0_take 21 = .ok (.iload_n 2, 1) := by decide +kernel
theorem dX0_take_22 : decode cX0_take 22 = .ok (.iconst 2, 1) := by decide +kernel
theorem dX0_take_23 : decode cX0_take 23 = .ok (.iadd, 1) := by decide +kernel
theorem dX0_take_24 : decode cX0_take 24 = .ok (.iaload, 1) := by decide +kernel
theorem dX0_take_25 : decode cX0_take 25 = .ok (.bipush 48, 2) := by decide +kernel
theorem dX0_take_27 : decode cX0_take 27 = .ok (.isub, 1) := by decide +kernel
theorem dX0_take_28 : decode cX0_take 28 = .ok (.invokevirtual 63, 3) := by decide +kernel
theorem dX0_take_31 : decode cX0_take 31 = .ok (.iconst 0, 1) := by decide +kernel
theorem dX0_take_32 : decode cX0_take 32 = .ok (.istore 5, 2) := by decide +kernel
theorem dX0_take_34 : decode cX0_take 34 = .ok (.iload 5, 2) := by decide +kernel
theorem dX0_take_36 : decode cX0_take 36 = .ok (.aload_n 0, 1) := by decide +kernel
theorem dX0_take_37 : decode cX0_take 37 = .ok (.getfield 18, 3) := by decide +kernel
theorem dX0_take_40 : decode cX0_take 40 = .ok (.if_icmp .ge 29, 3) := by decide +kernel
theorem dX0_take_43 : decode cX0_take 43 = .ok (.aload_n 0, 1) := by decide +kernel
theorem dX0_take_44 : decode cX0_take 44 = .ok (.getfield 37, 3) := by decide +kernel
theorem dX0_take_47 : decode cX0_take 47 = .ok (.iload 5, 2) := by decide +kernel
theorem dX0_take_49 : decode cX0_take 49 = .ok (.aload_n 1, 1) := by decide +kernel
theorem dX0_take_50 : decode cX0_take 50 = .ok (.getfield 58, 3) := by decide +kernel
theorem dX0_take_53 : decode cX0_take 53 = .ok (.iload 4, 2) := by decide +kernel
theorem dX0_take_55 : decode cX0_take 55 = .ok (.iload 5, 2) := by decide +kernel
theorem dX0_take_57 : decode cX0_take 57 = .ok (.iadd, 1) := by decide +kernel
theorem dX0_take_58 : decode cX0_take 58 = .ok (.iaload, 1) := by decide +kernel
theorem dX0_take_59 : decode cX0_take 59 = .ok (.bipush 48, 2) := by decide +kernel
theorem dX0_take_61 : decode cX0_take 61 = .ok (.isub, 1) := by decide +kernel
theorem dX0_take_62 : decode cX0_take 62 = .ok (.iastore, 1) := by decide +kernel
theorem dX0_take_63 : decode cX0_take 63 = .ok (.iinc 5 1, 3) := by decide +kernel
theorem dX0_take_66 : decode cX0_take 66 = .ok (.goto (-32), 3) := by decide +kernel
theorem dX0_take_69 : decode cX0_take 69 = .ok (.aload_n 0, 1) := by decide +kernel
theorem dX0_take_70 : decode cX0_take 70 = .ok (.lconst 0, 1) := by decide +kernel
theorem dX0_take_71 : decode cX0_take 71 = .ok (.putfield 27, 3) := by decide +kernel
theorem dX0_take_74 : decode cX0_take 74 = .ok (.aload_n 0, 1) := by decide +kernel
theorem dX0_take_75 : decode cX0_take 75 = .ok (.iconst 0, 1) := by decide +kernel
theorem dX0_take_76 : decode cX0_take 76 = .ok (.putfield 24, 3) := by decide +kernel
theorem dX0_take_79 : decode cX0_take 79 = .ok (.aload_n 0, 1) := by decide +kernel
theorem dX0_take_80 : decode cX0_take 80 = .ok (.iconst 0, 1) := by decide +kernel
theorem dX0_take_81 : decode cX0_take 81 = .ok (.putfield 21, 3) := by decide +kernel
theorem dX0_take_84 : decode cX0_take 84 = .ok (.iload 4, 2) := by decide +kernel
theorem dX0_take_86 : decode cX0_take 86 = .ok (.aload_n 0, 1) := by decide +kernel
theorem dX0_take_87 : decode cX0_take 87 = .ok (.getfield 18, 3) := by decide +kernel
theorem dX0_take_90 : decode cX0_take 90 = .ok (.iadd, 1) := by decide +kernel
theorem dX0_take_91 : decode cX0_take 91 = .ok (.istore 5, 2) := by decide +kernel
theorem dX0_take_93 : decode cX0_take 93 = .ok (.aload_n 0, 1) := by decide +kernel
theorem dX0_take_94 : decode cX0_take 94 = .ok (.getfield 21, 3) := by decide +kernel
theorem dX0_take_97 : decode cX0_take 97 = .ok (.iconst 4, 1) := by decide +kernel
theorem dX0_take_98 : decode cX0_take 98 = .ok (.if_icmp .ge 108, 3) := by decide +kernel
theorem dX0_take_101 : decode cX0_take 101 = .ok (.iload 5, 2) := by decide +kernel
theorem dX0_take_103 : decode cX0_take 103 = .ok (.iload_n 2, 1) := by decide +kernel
theorem dX0_take_104 : decode cX0_take 104 = .ok (.iload_n 3, 1) := by decide +kernel
theorem dX0_take_105 : decode cX0_take 105 = .ok (.iadd, 1) := by decide +kernel
theorem dX0_take_106 : decode cX0_take 106 = .ok (.if_icmp .ge 100, 3) := by decide +kernel
theorem dX0_take_109 : decode cX0_take 109 = .ok (.aload_n 0, 1) := by decide +kernel
theorem dX0_take_110 : decode cX0_take 110 = .ok (.getfield 47, 3) := by decide +kernel
theorem dX0_take_113 : decode cX0_take 113 = .ok (.aload_n 0, 1) := by decide +kernel
theorem dX0_take_114 : decode cX0_take 114 = .ok (.getfield 21, 3) := by decide +kernel
theorem dX0_take_117 : decode cX0_take 117 = .ok (.aload_n 1, 1) := by decide +kernel
theorem dX0_take_118 : decode cX0_take 118 = .ok (.getfield 58, 3) := by decide +kernel
theorem dX0_take_121 : decode cX0_take 121 = .ok (.iload 5, 2) := by decide +kernel
theorem dX0_take_123 : decode cX0_take 123 = .ok (.iconst 1, 1) := by decide +kernel
theorem dX0_take_124 : decode cX0_take 124 = .ok (.iadd, 1) := by decide +kernel
theorem dX0_take_125 : decode cX0_take 125 = .ok (.iaload, 1) := by decide +kernel
theorem dX0_take_126 : decode cX0_take 126 = .ok (.invokestatic 67, 3) := by decide +kernel
theorem dX0_take_129 : decode cX0_take 129 = .ok (.iastore, 1) := by decide +kernel
theorem dX0_take_130 : decode cX0_take 130 = .ok (.aload_n 0, 1) := by decide +kernel
theorem dX0_take_131 : decode cX0_take 131 = .ok (.getfield 50, 3) := by decide +kernel
theorem dX0_take_134 : decode cX0_take 134 = .ok (.aload_n 0, 1) := by decide +kernel
theorem dX0_take_135 : decode cX0_take 135 = .ok (.getfield 21, 3) := by decide +kernel
theorem dX0_take_138 : decode cX0_take 138 = .ok (.aload_n 1, 1) := by decide +kernel
theorem dX0_take_139 : decode cX0_take 139 = .ok (.getfield 58, 3) := by decide +kernel
theorem dX0_take_142 : decode cX0_take 142 = .ok (.iload 5, 2) := by decide +kernel
theorem dX0_take_144 : decode cX0_take 144 = .ok (.iconst 2, 1) := by decide +kernel
theorem dX0_take_145 : decode cX0_take 145 = .ok (.iadd, 1) := by decide +kernel
theorem dX0_take_146 : decode cX0_take 146 = .ok (.iaload, 1) := by decide +kernel
theorem dX0_take_147 : decode cX0_take 147 = .ok (.bipush 48, 2) := by decide +kernel
theorem dX0_take_149 : decode cX0_take 149 = .ok (.isub, 1) := by decide +kernel
theorem dX0_take_150 : decode cX0_take 150 = .ok (.aload_n 1, 1) := by decide +kernel
theorem dX0_take_151 : decode cX0_take 151 = .ok (.getfield 58, 3) := by decide +kernel
theorem dX0_take_154 : decode cX0_take 154 = .ok (.iload 5, 2) := by decide +kernel
theorem dX0_take_156 : decode cX0_take 156 = .ok (.iconst 3, 1) := by decide +kernel
theorem dX0_take_157 : decode cX0_take 157 = .ok (.iadd, 1) := by decide +kernel
theorem dX0_take_158 : decode cX0_take 158 = .ok (.iaload, 1) := by decide +kernel
theorem dX0_take_159 : decode cX0_take 159 = .ok (.bipush 48, 2) := by decide +kernel
theorem dX0_take_161 : decode cX0_take 161 = .ok (.isub, 1) := by decide +kernel
theorem dX0_take_162 : decode cX0_take 162 = .ok (.aload_n 0, 1) := by decide +kernel
theorem dX0_take_163 : decode cX0_take 163 = .ok (.getfield 9, 3) := by decide +kernel
theorem dX0_take_166 : decode cX0_take 166 = .ok (.imul, 1) := by decide +kernel
theorem dX0_take_167 : decode cX0_take 167 = .ok (.iadd, 1) := by decide +kernel
theorem dX0_take_168 : decode cX0_take 168 = .ok (.iastore, 1) := by decide +kernel
theorem dX0_take_169 : decode cX0_take 169 = .ok (.aload_n 0, 1) := by decide +kernel
theorem dX0_take_170 : decode cX0_take 170 = .ok (.getfield 53, 3) := by decide +kernel
theorem dX0_take_173 : decode cX0_take 173 = .ok (.aload_n 0, 1) := by decide +kernel
theorem dX0_take_174 : decode cX0_take 174 = .ok (.getfield 21, 3) := by decide +kernel
theorem dX0_take_177 : decode cX0_take 177 = .ok (.aload_n 1, 1) := by decide +kernel
theorem dX0_take_178 : decode cX0_take 178 = .ok (.getfield 58, 3) := by decide +kernel
theorem dX0_take_181 : decode cX0_take 181 = .ok (.iload 5, 2) := by decide +kernel
theorem dX0_take_183 : decode cX0_take 183 = .ok (.iconst 4, 1) := by decide +kernel
theorem dX0_take_184 : decode cX0_take 184 = .ok (.iadd, 1) := by decide +kernel
theorem dX0_take_185 : decode cX0_take 185 = .ok (.iaload, 1) := by decide +kernel
theorem dX0_take_186 : decode cX0_take 186 = .ok (.bipush 48, 2) := by decide +kernel
theorem dX0_take_188 : decode cX0_take 188 = .ok (.isub, 1) := by decide +kernel
theorem dX0_take_189 : decode cX0_take 189 = .ok (.iastore, 1) := by decide +kernel
theorem dX0_take_190 : decode cX0_take 190 = .ok (.aload_n 0, 1) := by decide +kernel
theorem dX0_take_191 : decode cX0_take 191 = .ok (.dup, 1) := by decide +kernel
theorem dX0_take_192 : decode cX0_take 192 = .ok (.getfield 21, 3) := by decide +kernel
theorem dX0_take_195 : decode cX0_take 195 = .ok (.iconst 1, 1) := by decide +kernel
theorem dX0_take_196 : decode cX0_take 196 = .ok (.iadd, 1) := by decide +kernel
theorem dX0_take_197 : decode cX0_take 197 = .ok (.putfield 21, 3) := by decide +kernel
theorem dX0_take_200 : decode cX0_take 200 = .ok (.iinc 5 5, 3) := by decide +kernel
theorem dX0_take_203 : decode cX0_take 203 = .ok (.goto (-110), 3) := by decide +kernel
theorem dX0_take_206 : decode cX0_take 206 = .ok (.return_, 1) := by decide +kernel
theorem dX0_layCells_0 : decode cX0_layCells 0 = .ok (.aload_n 0, 1) := by decide +kernel
theorem dX0_layCells_1 : decode cX0_layCells 1 = .ok (.iload_n 1, 1) := by decide +kernel
theorem dX0_layCells_2 : decode cX0_layCells 2 = .ok (.putfield 9, 3) := by decide +kernel
theorem dX0_layCells_5 : decode cX0_layCells 5 = .ok (.aload_n 0, 1) := by decide +kernel
theorem dX0_layCells_6 : decode cX0_layCells 6 = .ok (.iload_n 2, 1) := by decide +kernel
theorem dX0_layCells_7 : decode cX0_layCells 7 = .ok (.putfield 15, 3) := by decide +kernel
theorem dX0_layCells_10 : decode cX0_layCells 10 = .ok (.aload_n 0, 1) := by decide +kernel
theorem dX0_layCells_11 : decode cX0_layCells 11 = .ok (.iconst 0, 1) := by decide +kernel
theorem dX0_layCells_12 : decode cX0_layCells 12 = .ok (.putfield 18, 3) := by decide +kernel
theorem dX0_layCells_15 : decode cX0_layCells 15 = .ok (.aload_n 0, 1) := by decide +kernel
theorem dX0_layCells_16 : decode cX0_layCells 16 = .ok (.lconst 0, 1) := by decide +kernel
theorem dX0_layCells_17 : decode cX0_layCells 17 = .ok (.putfield 31, 3) := by decide +kernel
theorem dX0_layCells_20 : decode cX0_layCells 20 = .ok (.aload_n 0, 1) := by decide +kernel
theorem dX0_layCells_21 : decode cX0_layCells 21 = .ok (.lconst 0, 1) := by decide +kernel
theorem dX0_layCells_22 : decode cX0_layCells 22 = .ok (.putfield 34, 3) := by decide +kernel
theorem dX0_layCells_25 : decode cX0_layCells 25 = .ok (.iconst 0, 1) := by decide +kernel
theorem dX0_layCells_26 : decode cX0_layCells 26 = .ok (.istore_n 3, 1) := by decide +kernel
theorem dX0_layCells_27 : decode cX0_layCells 27 = .ok (.iload_n 3, 1) := by decide +kernel
theorem dX0_layCells_28 : decode cX0_layCells 28 = .ok (.aload_n 0, 1) := by decide +kernel
theorem dX0_layCells_29 : decode cX0_layCells 29 = .ok (.getfield 15, 3) := by decide +kernel
theorem dX0_layCells_32 : decode cX0_layCells 32 = .ok (.if_icmp .ge 90, 3) := by decide +kernel
theorem dX0_layCells_35 : decode cX0_layCells 35 = .ok (.aload_n 0, 1) := by decide +kernel
theorem dX0_layCells_36 : decode cX0_layCells 36 = .ok (.dup, 1) := by decide +kernel
theorem dX0_layCells_37 : decode cX0_layCells 37 = .ok (.getfield 31, 3) := by decide +kernel
theorem dX0_layCells_40 : decode cX0_layCells 40 = .ok (.lconst 1, 1) := by decide +kernel
theorem dX0_layCells_41 : decode cX0_layCells 41 = .ok (.aload_n 0, 1) := by decide +kernel
theorem dX0_layCells_42 : decode cX0_layCells 42 = .ok (.getfield 18, 3) := by decide +kernel
theorem dX0_layCells_45 : decode cX0_layCells 45 = .ok (.lshl, 1) := by decide +kernel
theorem dX0_layCells_46 : decode cX0_layCells 46 = .ok (.lor, 1) := by decide +kernel
theorem dX0_layCells_47 : decode cX0_layCells 47 = .ok (.putfield 31, 3) := by decide +kernel
theorem dX0_layCells_50 : decode cX0_layCells 50 = .ok (.iconst 0, 1) := by decide +kernel
theorem dX0_layCells_51 : decode cX0_layCells 51 = .ok (.istore 4, 2) := by decide +kernel
theorem dX0_layCells_53 : decode cX0_layCells 53 = .ok (.iload 4, 2) := by decide +kernel
theorem dX0_layCells_55 : decode cX0_layCells 55 = .ok (.aload_n 0, 1) := by decide +kernel
theorem dX0_layCells_56 : decode cX0_layCells 56 = .ok (.getfield 9, 3) := by decide +kernel
theorem dX0_layCells_59 : decode cX0_layCells 59 = .ok (.if_icmp .ge 40, 3) := by decide +kernel
theorem dX0_layCells_62 : decode cX0_layCells 62 = .ok (.aload_n 0, 1) := by decide +kernel
theorem dX0_layCells_63 : decode cX0_layCells 63 = .ok (.getfield 41, 3) := by decide +kernel
theorem dX0_layCells_66 : decode cX0_layCells 66 = .ok (.aload_n 0, 1) := by decide +kernel
theorem dX0_layCells_67 : decode cX0_layCells 67 = .ok (.getfield 18, 3) := by decide +kernel
theorem dX0_layCells_70 : decode cX0_layCells 70 = .ok (.iload 4, 2) := by decide +kernel
theorem dX0_layCells_72 : decode cX0_layCells 72 = .ok (.iastore, 1) := by decide +kernel
theorem dX0_layCells_73 : decode cX0_layCells 73 = .ok (.aload_n 0, 1) := by decide +kernel
theorem dX0_layCells_74 : decode cX0_layCells 74 = .ok (.getfield 44, 3) := by decide +kernel
theorem dX0_layCells_77 : decode cX0_layCells 77 = .ok (.aload_n 0, 1) := by decide +kernel
theorem dX0_layCells_78 : decode cX0_layCells 78 = .ok (.getfield 18, 3) := by decide +kernel
theorem dX0_layCells_81 : decode cX0_layCells 81 = .ok (.iload_n 3, 1) := by decide +kernel
theorem dX0_layCells_82 : decode cX0_layCells 82 = .ok (.iastore, 1) := by decide +kernel
theorem dX0_layCells_83 : decode cX0_layCells 83 = .ok (.aload_n 0, 1) := by decide +kernel
theorem dX0_layCells_84 : decode cX0_layCells 84 = .ok (.dup, 1) := by decide +kernel
theorem dX0_layCells_85 : decode cX0_layCells 85 = .ok (.getfield 18, 3) := by decide +kernel
theorem dX0_layCells_88 : decode cX0_layCells 88 = .ok (.iconst 1, 1) := by decide +kernel
theorem dX0_layCells_89 : decode cX0_layCells 89 = .ok (.iadd, 1) := by decide +kernel
theorem dX0_layCells_90 : decode cX0_layCells 90 = .ok (.putfield 18, 3) := by decide +kernel
theorem dX0_layCells_93 : decode cX0_layCells 93 = .ok (.iinc 4 1, 3) := by decide +kernel
theorem dX0_layCells_96 : decode cX0_layCells 96 = .ok (.goto (-43), 3) := by decide +kernel
theorem dX0_layCells_99 : decode cX0_layCells 99 = .ok (.aload_n 0, 1) := by decide +kernel
theorem dX0_layCells_100 : decode cX0_layCells 100 = .ok (.dup, 1) := by decide +kernel
theorem dX0_layCells_101 : decode cX0_layCells 101 = .ok (.getfield 34, 3) := by decide +kernel
theorem dX0_layCells_104 : decode cX0_layCells 104 = .ok (.lconst 1, 1) := by decide +kernel
theorem dX0_layCells_105 : decode cX0_layCells 105 = .ok (.aload_n 0, 1) := by decide +kernel
theorem dX0_layCells_106 : decode cX0_layCells 106 = .ok (.getfield 18, 3) := by decide +kernel
theorem dX0_layCells_109 : decode cX0_layCells 109 = .ok (.iconst 1, 1) := by decide +kernel
theorem dX0_layCells_110 : decode cX0_layCells 110 = .ok (.isub, 1) := by decide +kernel
theorem dX0_layCells_111 : decode cX0_layCells 111 = .ok (.lshl, 1) := by decide +kernel
theorem dX0_layCells_112 : decode cX0_layCells 112 = .ok (.lor, 1) := by decide +kernel
theorem dX0_layCells_113 : decode cX0_layCells 113 = .ok (.putfield 34, 3) := by decide +kernel
theorem dX0_layCells_116 : decode cX0_layCells 116 = .ok (.iinc 3 1, 3) := by decide +kernel
theorem dX0_layCells_119 : decode cX0_layCells 119 = .ok (.goto (-92), 3) := by decide +kernel
theorem dX0_layCells_122 : decode cX0_layCells 122 = .ok (.return_, 1) := by decide +kernel
theorem dX0_hasCell_0 : decode cX0_hasCell 0 = .ok (.iload_n 1, 1) := by decide +kernel
theorem dX0_hasCell_1 : decode cX0_hasCell 1 = .ok (.ifCond .lt 15, 3) := by decide +kernel
theorem dX0_hasCell_4 : decode cX0_hasCell 4 = .ok (.iload_n 1, 1) := by decide +kernel
theorem dX0_hasCell_5 : decode cX0_hasCell 5 = .ok (.aload_n 0, 1) := by decide +kernel
theorem dX0_hasCell_6 : decode cX0_hasCell 6 = .ok (.getfield 18, 3) := by decide +kernel
theorem dX0_hasCell_9 : decode cX0_hasCell 9 = .ok (.if_icmp .ge 7, 3) := by decide +kernel
theorem dX0_hasCell_12 : decode cX0_hasCell 12 = .ok (.iconst 1, 1) := by decide +kernel
theorem dX0_hasCell_13 : decode cX0_hasCell 13 = .ok (.goto 4, 3) := by decide +kernel
theorem dX0_hasCell_16 : decode cX0_hasCell 16 = .ok (.iconst 0, 1) := by decide +kernel
theorem dX0_hasCell_17 : decode cX0_hasCell 17 = .ok (.ireturn, 1) := by decide +kernel
theorem dX0_hasGun_0 : decode cX0_hasGun 0 = .ok (.iload_n 1, 1) := by decide +kernel
theorem dX0_hasGun_1 : decode cX0_hasGun 1 = .ok (.ifCond .lt 15, 3) := by decide +kernel
theorem dX0_hasGun_4 : decode cX0_hasGun 4 = .ok (.iload_n 1, 1) := by decide +kernel
theorem dX0_hasGun_5 : decode cX0_hasGun 5 = .ok (.aload_n 0, 1) := by decide +kernel
theorem dX0_hasGun_6 : decode cX0_hasGun 6 = .ok (.getfield 21, 3) := by decide +kernel
theorem dX0_hasGun_9 : decode cX0_hasGun 9 = .ok (.if_icmp .ge 7, 3) := by decide +kernel
theorem dX0_hasGun_12 : decode cX0_hasGun 12 = .ok (.iconst 1, 1) := by decide +kernel
theorem dX0_hasGun_13 : decode cX0_hasGun 13 = .ok (.goto 4, 3) := by decide +kernel
theorem dX0_hasGun_16 : decode cX0_hasGun 16 = .ok (.iconst 0, 1) := by decide +kernel
theorem dX0_hasGun_17 : decode cX0_hasGun 17 = .ok (.ireturn, 1) := by decide +kernel
set_option maxRecDepth 20000 in
theorem ggX0_hasCells_X0_hasCell : GoodIn wsX0_hasCells wsX0_hasCell := goodIn_r _ [6, 7, 11, 12, 13, 14, 15, 16, 17, 18, 19, 20, 21, 22, 23, 24] (by decide +kernel) (by decide +kernel)
set_option maxRecDepth 20000 in
theorem gX0_hasCells_X0_hasCell : GoodIn wsX0_hasCells (wsV RX0 71 RX0 yX0_hasCell wsX0_hasCell) := goodIn_app (goodIn_of _ (by decide +kernel)) ggX0_hasCells_X0_hasCell
theorem dX0_hasCells_0 : decode cX0_hasCells 0 = .ok (.iload_n 2, 1) := by decide +kernel
theorem dX0_hasCells_1 : decode cX0_hasCells 1 = .ok (.istore 4, 2) := by decide +kernel
theorem dX0_hasCells_3 : decode cX0_hasCells 3 = .ok (.iload 4, 2) := by decide +kernel
theorem dX0_hasCells_5 : decode cX0_hasCells 5 = .ok (.iload_n 2, 1) := by decide +kernel
theorem dX0_hasCells_6 : decode cX0_hasCells 6 = .ok (.iload_n 3, 1) := by decide +kernel
theorem dX0_hasCells_7 : decode cX0_hasCells 7 = .ok (.iadd, 1) := by decide +kernel
theorem dX0_hasCells_8 : decode cX0_hasCells 8 = .ok (.if_icmp .ge 25, 3) := by decide +kernel
theorem dX0_hasCells_11 : decode cX0_hasCells 11 = .ok (.aload_n 0, 1) := by decide +kernel
theorem dX0_hasCells_12 : decode cX0_hasCells 12 = .ok (.aload_n 1, 1) := by decide +kernel
theorem dX0_hasCells_13 : decode cX0_hasCells 13 = .ok (.getfield 58, 3) := by decide +kernel
theorem dX0_hasCells_16 : decode cX0_hasCells 16 = .ok (.iload 4, 2) := by decide +kernel
theorem dX0_hasCells_18 : decode cX0_hasCells 18 = .ok (.iaload, 1) := by decide +kernel
theorem dX0_hasCells_19 : decode cX0_hasCells 19 = .ok (.invokevirtual 71, 3) := by decide +kernel
theorem dX0_hasCells_22 : decode cX0_hasCells 22 = .ok (.ifCond .ne 5, 3) := by decide +kernel
theorem dX0_hasCells_25 : decode cX0_hasCells 25 = .ok (.iconst 0, 1) := by decide +kernel
theorem dX0_hasCells_26 : decode cX0_hasCells 26 = .ok (.ireturn, 1) := by decide +kernel
theorem dX0_hasCells_27 : decode cX0_hasCells 27 = .ok (.iinc 4 1, 3) := by decide +kernel
theorem dX0_hasCells_30 : decode cX0_hasCells 30 = .ok (.goto (-27), 3) := by decide +kernel
theorem dX0_hasCells_33 : decode cX0_hasCells 33 = .ok (.iconst 1, 1) := by decide +kernel
theorem dX0_hasCells_34 : decode cX0_hasCells 34 = .ok (.ireturn, 1) := by decide +kernel
theorem dX0_rangeOf_0 : decode cX0_rangeOf 0 = .ok (.aload_n 0, 1) := by decide +kernel
theorem dX0_rangeOf_1 : decode cX0_rangeOf 1 = .ok (.getfield 47, 3) := by decide +kernel
theorem dX0_rangeOf_4 : decode cX0_rangeOf 4 = .ok (.iload_n 1, 1) := by decide +kernel
theorem dX0_rangeOf_5 : decode cX0_rangeOf 5 = .ok (.iaload, 1) := by decide +kernel
theorem dX0_rangeOf_6 : decode cX0_rangeOf 6 = .ok (.lookupswitch 46 #[(1, 26), (2, 35)], 26) := by decide +kernel
theorem dX0_rangeOf_32 : decode cX0_rangeOf 32 = .ok (.aload_n 0, 1) := by decide +kernel
theorem dX0_rangeOf_33 : decode cX0_rangeOf 33 = .ok (.getfield 53, 3) := by decide +kernel
theorem dX0_rangeOf_36 : decode cX0_rangeOf 36 = .ok (.iload_n 1, 1) := by decide +kernel
theorem dX0_rangeOf_37 : decode cX0_rangeOf 37 = .ok (.iaload, 1) := by decide +kernel
theorem dX0_rangeOf_38 : decode cX0_rangeOf 38 = .ok (.iconst 1, 1) := by decide +kernel
theorem dX0_rangeOf_39 : decode cX0_rangeOf 39 = .ok (.iadd, 1) := by decide +kernel
theorem dX0_rangeOf_40 : decode cX0_rangeOf 40 = .ok (.ireturn, 1) := by decide +kernel
theorem dX0_rangeOf_41 : decode cX0_rangeOf 41 = .ok (.aload_n 0, 1) := by decide +kernel
theorem dX0_rangeOf_42 : decode cX0_rangeOf 42 = .ok (.getfield 53, 3) := by decide +kernel
theorem dX0_rangeOf_45 : decode cX0_rangeOf 45 = .ok (.iload_n 1, 1) := by decide +kernel
theorem dX0_rangeOf_46 : decode cX0_rangeOf 46 = .ok (.iaload, 1) := by decide +kernel
theorem dX0_rangeOf_47 : decode cX0_rangeOf 47 = .ok (.iconst 1, 1) := by decide +kernel
theorem dX0_rangeOf_48 : decode cX0_rangeOf 48 = .ok (.iadd, 1) := by decide +kernel
theorem dX0_rangeOf_49 : decode cX0_rangeOf 49 = .ok (.iconst 2, 1) := by decide +kernel
theorem dX0_rangeOf_50 : decode cX0_rangeOf 50 = .ok (.idiv, 1) := by decide +kernel
theorem dX0_rangeOf_51 : decode cX0_rangeOf 51 = .ok (.ireturn, 1) := by decide +kernel
theorem dX0_rangeOf_52 : decode cX0_rangeOf 52 = .ok (.aload_n 0, 1) := by decide +kernel
theorem dX0_rangeOf_53 : decode cX0_rangeOf 53 = .ok (.getfield 53, 3) := by decide +kernel
theorem dX0_rangeOf_56 : decode cX0_rangeOf 56 = .ok (.iload_n 1, 1) := by decide +kernel
theorem dX0_rangeOf_57 : decode cX0_rangeOf 57 = .ok (.iaload, 1) := by decide +kernel
theorem dX0_rangeOf_58 : decode cX0_rangeOf 58 = .ok (.ireturn, 1) := by decide +kernel
theorem dX0_standing_0 : decode cX0_standing 0 = .ok (.lconst 0, 1) := by decide +kernel
theorem dX0_standing_1 : decode cX0_standing 1 = .ok (.lstore_n 1, 1) := by decide +kernel
theorem dX0_standing_2 : decode cX0_standing 2 = .ok (.iconst 0, 1) := by decide +kernel
theorem dX0_standing_3 : decode cX0_standing 3 = .ok (.istore_n 3, 1) := by decide +kernel
theorem dX0_standing_4 : decode cX0_standing 4 = .ok (.iload_n 3, 1) := by decide +kernel
theorem dX0_standing_5 : decode cX0_standing 5 = .ok (.aload_n 0, 1) := by decide +kernel
theorem dX0_standing_6 : decode cX0_standing 6 = .ok (.getfield 21, 3) := by decide +kernel
theorem dX0_standing_9 : decode cX0_standing 9 = .ok (.if_icmp .ge 20, 3) := by decide +kernel
theorem dX0_standing_12 : decode cX0_standing 12 = .ok (.lload_n 1, 1) := by decide +kernel
theorem dX0_standing_13 : decode cX0_standing 13 = .ok (.lconst 1, 1) := by decide +kernel
theorem dX0_standing_14 : decode cX0_standing 14 = .ok (.aload_n 0, 1) := by decide +kernel
theorem dX0_standing_15 : decode cX0_standing 15 = .ok (.getfield 50, 3) := by decide +kernel
theorem dX0_standing_18 : decode cX0_standing 18 = .ok (.iload_n 3, 1) := by decide +kernel
theorem dX0_standing_19 : decode cX0_standing 19 = .ok (.iaload, 1) := by decide +kernel
theorem dX0_standing_20 : decode cX0_standing 20 = .ok (.lshl, 1) := by decide +kernel
theorem dX0_standing_21 : decode cX0_standing 21 = .ok (.lor, 1) := by decide +kernel
theorem dX0_standing_22 : decode cX0_standing 22 = .ok (.lstore_n 1, 1) := by decide +kernel
theorem dX0_standing_23 : decode cX0_standing 23 = .ok (.iinc 3 1, 3) := by decide +kernel
theorem dX0_standing_26 : decode cX0_standing 26 = .ok (.goto (-22), 3) := by decide +kernel
theorem dX0_standing_29 : decode cX0_standing 29 = .ok (.lload_n 1, 1) := by decide +kernel
theorem dX0_standing_30 : decode cX0_standing 30 = .ok (.lreturn, 1) := by decide +kernel
set_option maxRecDepth 20000 in
theorem ggX0_seenBy_X0_rangeOf : GoodIn wsX0_seenBy wsX0_rangeOf := goodIn_r _ [6, 7, 8, 19, 20, 21, 22, 23, 24, 25, 26, 27, 28, 29, 30, 31, 32] (by decide +kernel) (by decide +kernel)
set_option maxRecDepth 20000 in
theorem gX0_seenBy_X0_rangeOf : GoodIn wsX0_seenBy (wsV RX0 75 RX0 yX0_rangeOf wsX0_rangeOf) := goodIn_app (goodIn_of _ (by decide +kernel)) ggX0_seenBy_X0_rangeOf
set_option maxRecDepth 20000 in
theorem ggX0_seenBy_X0_seenFrom : GoodIn wsX0_seenBy wsX0_seenFrom := goodIn_r _ [12, 13, 14, 15, 16, 17, 18, 19, 20, 21, 22, 23, 24, 25, 26, 27, 28, 29, 30, 31, 32] (by decide +kernel) (by decide +kernel)
set_option maxRecDepth 20000 in
theorem gX0_seenBy_X0_seenFrom : GoodIn wsX0_seenBy (wsV RX0 78 RX0 yX0_seenFrom wsX0_seenFrom) := goodIn_app (goodIn_of _ (by decide +kernel)) ggX0_seenBy_X0_seenFrom
theorem dX0_seenBy_0 : decode cX0_seenBy 0 = .ok (.aload_n 0, 1) := by decide +kernel
theorem dX0_seenBy_1 : decode cX0_seenBy 1 = .ok (.aload_n 0, 1) := by decide +kernel
theorem dX0_seenBy_2 : decode cX0_seenBy 2 = .ok (.getfield 50, 3) := by decide +kernel
theorem dX0_seenBy_5 : decode cX0_seenBy 5 = .ok (.iload_n 1, 1) := by decide +kernel
theorem dX0_seenBy_6 : decode cX0_seenBy 6 = .ok (.iaload, 1) := by decide +kernel
theorem dX0_seenBy_7 : decode cX0_seenBy 7 = .ok (.aload_n 0, 1) := by decide +kernel
theorem dX0_seenBy_8 : decode cX0_seenBy 8 = .ok (.iload_n 1, 1) := by decide +kernel
theorem dX0_seenBy_9 : decode cX0_seenBy 9 = .ok (.invokevirtual 75, 3) := by decide +kernel
theorem dX0_seenBy_12 : decode cX0_seenBy 12 = .ok (.lload_n 2, 1) := by decide +kernel
theorem dX0_seenBy_13 : decode cX0_seenBy 13 = .ok (.invokevirtual 78, 3) := by decide +kernel
theorem dX0_seenBy_16 : decode cX0_seenBy 16 = .ok (.lreturn, 1) := by decide +kernel
theorem dX0_seenFrom_0 : decode cX0_seenFrom 0 = .ok (.lconst 0, 1) := by decide +kernel
theorem dX0_seenFrom_1 : decode cX0_seenFrom 1 = .ok (.lstore 5, 2) := by decide +kernel
theorem dX0_seenFrom_3 : decode cX0_seenFrom 3 = .ok (.iconst 0, 1) := by decide +kernel
theorem dX0_seenFrom_4 : decode cX0_seenFrom 4 = .ok (.istore 7, 2) := by decide +kernel
theorem dX0_seenFrom_6 : decode cX0_seenFrom 6 = .ok (.iload 7, 2) := by decide +kernel
theorem dX0_seenFrom_8 : decode cX0_seenFrom 8 = .ok (.getstatic 82, 3) := by decide +kernel
theorem dX0_seenFrom_11 : decode cX0_seenFrom 11 = .ok (.arraylength, 1) := by decide +kernel
theorem dX0_seenFrom_12 : decode cX0_seenFrom 12 = .ok (.if_icmp .ge 126, 3) := by decide +kernel
theorem dX0_seenFrom_15 : decode cX0_seenFrom 15 = .ok (.aload_n 0, 1) := by decide +kernel
theorem dX0_seenFrom_16 : decode cX0_seenFrom 16 = .ok (.getfield 41, 3) := by decide +kernel
theorem dX0_seenFrom_19 : decode cX0_seenFrom 19 = .ok (.iload_n 1, 1) := by decide +kernel
theorem dX0_seenFrom_20 : decode cX0_seenFrom 20 = .ok (.iaload, 1) := by decide +kernel
theorem dX0_seenFrom_21 : decode cX0_seenFrom 21 = .ok (.istore 8, 2) := by decide +kernel
theorem dX0_seenFrom_23 : decode cX0_seenFrom 23 = .ok (.aload_n 0, 1) := by decide +kernel
theorem dX0_seenFrom_24 : decode cX0_seenFrom 24 = .ok (.getfield 44, 3) := by decide +kernel
theorem dX0_seenFrom_27 : decode cX0_seenFrom 27 = .ok (.iload_n 1, 1) := by decide +kernel
theorem dX0_seenFrom_28 : decode cX0_seenFrom 28 = .ok (.iaload, 1) := by decide +kernel
theorem dX0_seenFrom_29 : decode cX0_seenFrom 29 = .ok (.istore 9, 2) := by decide +kernel
theorem dX0_seenFrom_31 : decode cX0_seenFrom 31 = .ok (.iconst 1, 1) := by decide +kernel
theorem dX0_seenFrom_32 : decode cX0_seenFrom 32 = .ok (.istore 10, 2) := by decide +kernel
theorem dX0_seenFrom_34 : decode cX0_seenFrom 34 = .ok (.iload 10, 2) := by decide +kernel
theorem dX0_seenFrom_36 : decode cX0_seenFrom 36 = .ok (.iload_n 2, 1) := by decide +kernel
theorem dX0_seenFrom_37 : decode cX0_seenFrom 37 = .ok (.if_icmp .gt 95, 3) := by decide +kernel
theorem dX0_seenFrom_40 : decode cX0_seenFrom 40 = .ok (.iload 8, 2) := by decide +kernel
theorem dX0_seenFrom_42 : decode cX0_seenFrom 42 = .ok (.getstatic 82, 3) := by decide +kernel
theorem dX0_seenFrom_45 : decode cX0_seenFrom 45 = .ok (.iload 7, 2) := by decide +kernel
theorem dX0_seenFrom_47 : decode cX0_seenFrom 47 = .ok (.iaload, 1) := by decide +kernel
theorem dX0_seenFrom_48 : decode cX0_seenFrom 48 = .ok (.iadd, 1) := by decide +kernel
theorem dX0_seenFrom_49 : decode cX0_seenFrom 49 = .ok (.istore 8, 2) := by decide +kernel
theorem dX0_seenFrom_51 : decode cX0_seenFrom 51 = .ok (.iload 9, 2) := by decide +kernel
theorem dX0_seenFrom_53 : decode cX0_seenFrom 53 = .ok (.getstatic 85, 3) := by decide +kernel
theorem dX0_seenFrom_56 : decode cX0_seenFrom 56 = .ok (.iload 7, 2) := by decide +kernel
theorem dX0_seenFrom_58 : decode cX0_seenFrom 58 = .ok (.iaload, 1) := by decide +kernel
theorem dX0_seenFrom_59 : decode cX0_seenFrom 59 = .ok (.iadd, 1) := by decide +kernel
theorem dX0_seenFrom_60 : decode cX0_seenFrom 60 = .ok (.istore 9, 2) := by decide +kernel
theorem dX0_seenFrom_62 : decode cX0_seenFrom 62 = .ok (.iload 8, 2) := by decide +kernel
theorem dX0_seenFrom_64 : decode cX0_seenFrom 64 = .ok (.ifCond .lt 68, 3) := by decide +kernel
theorem dX0_seenFrom_67 : decode cX0_seenFrom 67 = .ok (.iload 8, 2) := by decide +kernel
theorem dX0_seenFrom_69 : decode cX0_seenFrom 69 = .ok (.aload_n 0, 1) := by decide +kernel
theorem dX0_seenFrom_70 : decode cX0_seenFrom 70 = .ok (.getfield 9, 3) := by decide +kernel
theorem dX0_seenFrom_73 : decode cX0_seenFrom 73 = .ok (.if_icmp .ge 59, 3) := by decide +kernel
theorem dX0_seenFrom_76 : decode cX0_seenFrom 76 = .ok (.iload 9, 2) := by decide +kernel
theorem dX0_seenFrom_78 : decode cX0_seenFrom 78 = .ok (.ifCond .lt 54, 3) := by decide +kernel
theorem dX0_seenFrom_81 : decode cX0_seenFrom 81 = .ok (.iload 9, 2) := by decide +kernel
theorem dX0_seenFrom_83 : decode cX0_seenFrom 83 = .ok (.aload_n 0, 1) := by decide +kernel
theorem dX0_seenFrom_84 : decode cX0_seenFrom 84 = .ok (.getfield 15, 3) := by decide +kernel
theorem dX0_seenFrom_87 : decode cX0_seenFrom 87 = .ok (.if_icmp .lt 6, 3) := by decide +kernel
theorem dX0_seenFrom_90 : decode cX0_seenFrom 90 = .ok (.goto 42, 3) := by decide +kernel
theorem dX0_seenFrom_93 : decode cX0_seenFrom 93 = .ok (.lconst 1, 1) := by decide +kernel
theorem dX0_seenFrom_94 : decode cX0_seenFrom 94 = .ok (.iload 9, 2) := by decide +kernel
theorem dX0_seenFrom_96 : decode cX0_seenFrom 96 = .ok (.aload_n 0, 1) := by decide +kernel
theorem dX0_seenFrom_97 : decode cX0_seenFrom 97 = .ok (.getfield 9, 3) := by decide +kernel
theorem dX0_seenFrom_100 : decode cX0_seenFrom 100 = .ok (.imul, 1) := by decide +kernel
theorem dX0_seenFrom_101 : decode cX0_seenFrom 101 = .ok (.iload 8, 2) := by decide +kernel
theorem dX0_seenFrom_103 : decode cX0_seenFrom 103 = .ok (.iadd, 1) := by decide +kernel
theorem dX0_seenFrom_104 : decode cX0_seenFrom 104 = .ok (.lshl, 1) := by decide +kernel
theorem dX0_seenFrom_105 : decode cX0_seenFrom 105 = .ok (.lstore 11, 2) := by decide +kernel
theorem dX0_seenFrom_107 : decode cX0_seenFrom 107 = .ok (.lload 5, 2) := by decide +kernel
theorem dX0_seenFrom_109 : decode cX0_seenFrom 109 = .ok (.lload 11, 2) := by decide +kernel
theorem dX0_seenFrom_111 : decode cX0_seenFrom 111 = .ok (.lor, 1) := by decide +kernel
theorem dX0_seenFrom_112 : decode cX0_seenFrom 112 = .ok (.lstore 5, 2) := by decide +kernel
theorem dX0_seenFrom_114 : decode cX0_seenFrom 114 = .ok (.lload_n 3, 1) := by decide +kernel
theorem dX0_seenFrom_115 : decode cX0_seenFrom 115 = .ok (.lload 11, 2) := by decide +kernel
theorem dX0_seenFrom_117 : decode cX0_seenFrom 117 = .ok (.land, 1) := by decide +kernel
theorem dX0_seenFrom_118 : decode cX0_seenFrom 118 = .ok (.lconst 0, 1) := by decide +kernel
theorem dX0_seenFrom_119 : decode cX0_seenFrom 119 = .ok (.lcmp, 1) := by decide +kernel
theorem dX0_seenFrom_120 : decode cX0_seenFrom 120 = .ok (.ifCond .eq 6, 3) := by decide +kernel
theorem dX0_seenFrom_123 : decode cX0_seenFrom 123 = .ok (.goto 9, 3) := by decide +kernel
theorem dX0_seenFrom_126 : decode cX0_seenFrom 126 = .ok (.iinc 10 1, 3) := by decide +kernel
theorem dX0_seenFrom_129 : decode cX0_seenFrom 129 = .ok (.goto (-95), 3) := by decide +kernel
theorem dX0_seenFrom_132 : decode cX0_seenFrom 132 = .ok (.iinc 7 1, 3) := by decide +kernel
theorem dX0_seenFrom_135 : decode cX0_seenFrom 135 = .ok (.goto (-129), 3) := by decide +kernel
theorem dX0_seenFrom_138 : decode cX0_seenFrom 138 = .ok (.lload 5, 2) := by decide +kernel
theorem dX0_seenFrom_140 : decode cX0_seenFrom 140 = .ok (.lreturn, 1) := by decide +kernel
set_option maxRecDepth 20000 in
theorem ggX0_shootersAt_X0_standing : GoodIn wsX0_shootersAt wsX0_standing := goodIn_r _ [7, 1, 8, 29, 30, 31, 32, 33, 34, 35, 36, 37, 38, 39, 40, 41, 42] (by decide +kernel) (by decide +kernel)
set_option maxRecDepth 20000 in
theorem gX0_shootersAt_X0_standing : GoodIn wsX0_shootersAt (wsV RX0 88 RX0 yX0_standing wsX0_standing) := goodIn_app (goodIn_of _ (by decide +kernel)) ggX0_shootersAt_X0_standing
set_option maxRecDepth 20000 in
theorem ggX0_shootersAt_X0_seenBy : GoodIn wsX0_shootersAt wsX0_seenBy := goodIn_r _ [12, 8, 13, 14, 15, 6, 16, 17, 18, 19, 20, 21, 22, 23, 24, 25, 26, 27, 28, 29, 30, 31, 32, 33, 34, 35, 36, 37, 38, 39, 40, 41, 42] (by decide +kernel) (by decide +kernel)
set_option maxRecDepth 20000 in
theorem gX0_shootersAt_X0_seenBy : GoodIn wsX0_shootersAt (wsV RX0 92 RX0 yX0_seenBy wsX0_seenBy) := goodIn_app (goodIn_of _ (by decide +kernel)) ggX0_shootersAt_X0_seenBy
theorem dX0_shootersAt_0 : decode cX0_shootersAt 0 = .ok (.aload_n 0, 1) := by decide +kernel
theorem dX0_shootersAt_1 : decode cX0_shootersAt 1 = .ok (.invokevirtual 88, 3) := by decide +kernel
theorem dX0_shootersAt_4 : decode cX0_shootersAt 4 = .ok (.lstore_n 3, 1) := by decide +kernel
theorem dX0_shootersAt_5 : decode cX0_shootersAt 5 = .ok (.iconst 0, 1) := by decide +kernel
theorem dX0_shootersAt_6 : decode cX0_shootersAt 6 = .ok (.istore 5, 2) := by decide +kernel
theorem dX0_shootersAt_8 : decode cX0_shootersAt 8 = .ok (.iconst 0, 1) := by decide +kernel
theorem dX0_shootersAt_9 : decode cX0_shootersAt 9 = .ok (.istore 6, 2) := by decide +kernel
theorem dX0_shootersAt_11 : decode cX0_shootersAt 11 = .ok (.iload 6, 2) := by decide +kernel
theorem dX0_shootersAt_13 : decode cX0_shootersAt 13 = .ok (.aload_n 0, 1) := by decide +kernel
theorem dX0_shootersAt_14 : decode cX0_shootersAt 14 = .ok (.getfield 21, 3) := by decide +kernel
theorem dX0_shootersAt_17 : decode cX0_shootersAt 17 = .ok (.if_icmp .ge 44, 3) := by decide +kernel
theorem dX0_shootersAt_20 : decode cX0_shootersAt 20 = .ok (.aload_n 0, 1) := by decide +kernel
theorem dX0_shootersAt_21 : decode cX0_shootersAt 21 = .ok (.getfield 24, 3) := by decide +kernel
theorem dX0_shootersAt_24 : decode cX0_shootersAt 24 = .ok (.iload 6, 2) := by decide +kernel
theorem dX0_shootersAt_26 : decode cX0_shootersAt 26 = .ok (.ishr, 1) := by decide +kernel
theorem dX0_shootersAt_27 : decode cX0_shootersAt 27 = .ok (.iconst 1, 1) := by decide +kernel
theorem dX0_shootersAt_28 : decode cX0_shootersAt 28 = .ok (.iand, 1) := by decide +kernel
theorem dX0_shootersAt_29 : decode cX0_shootersAt 29 = .ok (.ifCond .ne 26, 3) := by decide +kernel
theorem dX0_shootersAt_32 : decode cX0_shootersAt 32 = .ok (.aload_n 0, 1) := by decide +kernel
theorem dX0_shootersAt_33 : decode cX0_shootersAt 33 = .ok (.iload 6, 2) := by decide +kernel
theorem dX0_shootersAt_35 : decode cX0_shootersAt 35 = .ok (.lload_n 3, 1) := by decide +kernel
theorem dX0_shootersAt_36 : decode cX0_shootersAt 36 = .ok (.invokevirtual 92, 3) := by decide +kernel
theorem dX0_shootersAt_39 : decode cX0_shootersAt 39 = .ok (.lload_n 1, 1) := by decide +kernel
theorem dX0_shootersAt_40 : decode cX0_shootersAt 40 = .ok (.land, 1) := by decide +kernel
theorem dX0_shootersAt_41 : decode cX0_shootersAt 41 = .ok (.lconst 0, 1) := by decide +kernel
theorem dX0_shootersAt_42 : decode cX0_shootersAt 42 = .ok (.lcmp, 1) := by decide +kernel
theorem dX0_shootersAt_43 : decode cX0_shootersAt 43 = .ok (.ifCond .eq 12, 3) := by decide +kernel
theorem dX0_shootersAt_46 : decode cX0_shootersAt 46 = .ok (.iload 5, 2) := by decide +kernel
theorem dX0_shootersAt_48 : decode cX0_shootersAt 48 = .ok (.iconst 1, 1) := by decide +kernel
theorem dX0_shootersAt_49 : decode cX0_shootersAt 49 = .ok (.iload 6, 2) := by decide +kernel
theorem dX0_shootersAt_51 : decode cX0_shootersAt 51 = .ok (.ishl, 1) := by decide +kernel
theorem dX0_shootersAt_52 : decode cX0_shootersAt 52 = .ok (.ior, 1) := by decide +kernel
theorem dX0_shootersAt_53 : decode cX0_shootersAt 53 = .ok (.istore 5, 2) := by decide +kernel
theorem dX0_shootersAt_55 : decode cX0_shootersAt 55 = .ok (.iinc 6 1, 3) := by decide +kernel
theorem dX0_shootersAt_58 : decode cX0_shootersAt 58 = .ok (.goto (-47), 3) := by decide +kernel
theorem dX0_shootersAt_61 : decode cX0_shootersAt 61 = .ok (.iload 5, 2) := by decide +kernel
theorem dX0_shootersAt_63 : decode cX0_shootersAt 63 = .ok (.ireturn, 1) := by decide +kernel
set_option maxRecDepth 20000 in
theorem ggX0_shotCells_X0_standing : GoodIn wsX0_shotCells wsX0_standing := goodIn_r _ [6, 1, 7, 28, 29, 30, 31, 32, 33, 34, 35, 36, 37, 38, 39, 40, 41] (by decide +kernel) (by decide +kernel)
set_option maxRecDepth 20000 in
theorem gX0_shotCells_X0_standing : GoodIn wsX0_shotCells (wsV RX0 88 RX0 yX0_standing wsX0_standing) := goodIn_app (goodIn_of _ (by decide +kernel)) ggX0_shotCells_X0_standing
set_option maxRecDepth 20000 in
theorem ggX0_shotCells_X0_seenBy : GoodIn wsX0_shotCells wsX0_seenBy := goodIn_r _ [11, 7, 12, 13, 14, 5, 15, 16, 17, 18, 19, 20, 21, 22, 23, 24, 25, 26, 27, 28, 29, 30, 31, 32, 33, 34, 35, 36, 37, 38, 39, 40, 41] (by decide +kernel) (by decide +kernel)
set_option maxRecDepth 20000 in
theorem gX0_shotCells_X0_seenBy : GoodIn wsX0_shotCells (wsV RX0 92 RX0 yX0_seenBy wsX0_seenBy) := goodIn_app (goodIn_of _ (by decide +kernel)) ggX0_shotCells_X0_seenBy
theorem dX0_shotCells_0 : decode cX0_shotCells 0 = .ok (.aload_n 0, 1) := by decide +kernel
theorem dX0_shotCells_1 : decode cX0_shotCells 1 = .ok (.invokevirtual 88, 3) := by decide +kernel
theorem dX0_shotCells_4 : decode cX0_shotCells 4 = .ok (.lstore_n 2, 1) := by decide +kernel
theorem dX0_shotCells_5 : decode cX0_shotCells 5 = .ok (.lconst 0, 1) := by decide +kernel
theorem dX0_shotCells_6 : decode cX0_shotCells 6 = .ok (.lstore 4, 2) := by decide +kernel
theorem dX0_shotCells_8 : decode cX0_shotCells 8 = .ok (.iconst 0, 1) := by decide +kernel
theorem dX0_shotCells_9 : decode cX0_shotCells 9 = .ok (.istore 6, 2) := by decide +kernel
theorem dX0_shotCells_11 : decode cX0_shotCells 11 = .ok (.iload 6, 2) := by decide +kernel
theorem dX0_shotCells_13 : decode cX0_shotCells 13 = .ok (.aload_n 0, 1) := by decide +kernel
theorem dX0_shotCells_14 : decode cX0_shotCells 14 = .ok (.getfield 21, 3) := by decide +kernel
theorem dX0_shotCells_17 : decode cX0_shotCells 17 = .ok (.if_icmp .ge 30, 3) := by decide +kernel
theorem dX0_shotCells_20 : decode cX0_shotCells 20 = .ok (.iload_n 1, 1) := by decide +kernel
theorem dX0_shotCells_21 : decode cX0_shotCells 21 = .ok (.iload 6, 2) := by decide +kernel
theorem dX0_shotCells_23 : decode cX0_shotCells 23 = .ok (.ishr, 1) := by decide +kernel
theorem dX0_shotCells_24 : decode cX0_shotCells 24 = .ok (.iconst 1, 1) := by decide +kernel
theorem dX0_shotCells_25 : decode cX0_shotCells 25 = .ok (.iand, 1) := by decide +kernel
theorem dX0_shotCells_26 : decode cX0_shotCells 26 = .ok (.ifCond .ne 15, 3) := by decide +kernel
theorem dX0_shotCells_29 : decode cX0_shotCells 29 = .ok (.lload 4, 2) := by decide +kernel
theorem dX0_shotCells_31 : decode cX0_shotCells 31 = .ok (.aload_n 0, 1) := by decide +kernel
theorem dX0_shotCells_32 : decode cX0_shotCells 32 = .ok (.iload 6, 2) := by decide +kernel
theorem dX0_shotCells_34 : decode cX0_shotCells 34 = .ok (.lload_n 2, 1) := by decide +kernel
theorem dX0_shotCells_35 : decode cX0_shotCells 35 = .ok (.invokevirtual 92, 3) := by decide +kernel
theorem dX0_shotCells_38 : decode cX0_shotCells 38 = .ok (.lor, 1) := by decide +kernel
theorem dX0_shotCells_39 : decode cX0_shotCells 39 = .ok (.lstore 4, 2) := by decide +kernel
theorem dX0_shotCells_41 : decode cX0_shotCells 41 = .ok (.iinc 6 1, 3) := by decide +kernel
theorem dX0_shotCells_44 : decode cX0_shotCells 44 = .ok (.goto (-33), 3) := by decide +kernel
theorem dX0_shotCells_47 : decode cX0_shotCells 47 = .ok (.lload 4, 2) := by decide +kernel
theorem dX0_shotCells_49 : decode cX0_shotCells 49 = .ok (.lreturn, 1) := by decide +kernel
set_option maxRecDepth 20000 in
theorem ggX0_coverersOf_X0_standing : GoodIn wsX0_coverersOf wsX0_standing := goodIn_r _ [7, 1, 2, 31, 32, 33, 34, 35, 36, 37, 38, 39, 40, 41, 42, 43, 44] (by decide +kernel) (by decide +kernel)
set_option maxRecDepth 20000 in
theorem gX0_coverersOf_X0_standing : GoodIn wsX0_coverersOf (wsV RX0 88 RX0 yX0_standing wsX0_standing) := goodIn_app (goodIn_of _ (by decide +kernel)) ggX0_coverersOf_X0_standing
set_option maxRecDepth 20000 in
theorem ggX0_coverersOf_X0_seenBy : GoodIn wsX0_coverersOf wsX0_seenBy := goodIn_r _ [11, 2, 12, 13, 14, 6, 15, 16, 17, 18, 19, 20, 21, 22, 23, 24, 25, 26, 27, 31, 32, 33, 34, 35, 36, 37, 38, 39, 40, 41, 42, 43, 44] (by decide +kernel) (by decide +kernel)
set_option maxRecDepth 20000 in
theorem gX0_coverersOf_X0_seenBy : GoodIn wsX0_coverersOf (wsV RX0 92 RX0 yX0_seenBy wsX0_seenBy) := goodIn_app (goodIn_of _ (by decide +kernel)) ggX0_coverersOf_X0_seenBy
set_option maxRecDepth 20000 in
theorem ggX0_coverersOf_X4_isIn : GoodIn wsX0_coverersOf wsX4_isIn := goodIn_r _ [30] (by decide +kernel) (by decide +kernel)
set_option maxRecDepth 20000 in
theorem gX0_coverersOf_X4_isIn_n96 : GoodIn wsX0_coverersOf (wsX4_isIn) := ggX0_coverersOf_X4_isIn
theorem dX0_coverersOf_0 : decode cX0_coverersOf 0 = .ok (.aload_n 0, 1) := by decide +kernel
theorem dX0_coverersOf_1 : decode cX0_coverersOf 1 = .ok (.invokevirtual 88, 3) := by decide +kernel
theorem dX0_coverersOf_4 : decode cX0_coverersOf 4 = .ok (.lstore_n 2, 1) := by decide +kernel
theorem dX0_coverersOf_5 : decode cX0_coverersOf 5 = .ok (.iconst 0, 1) := by decide +kernel
theorem dX0_coverersOf_6 : decode cX0_coverersOf 6 = .ok (.istore 4, 2) := by decide +kernel
theorem dX0_coverersOf_8 : decode cX0_coverersOf 8 = .ok (.iconst 0, 1) := by decide +kernel
theorem dX0_coverersOf_9 : decode cX0_coverersOf 9 = .ok (.istore 5, 2) := by decide +kernel
theorem dX0_coverersOf_11 : decode cX0_coverersOf 11 = .ok (.iload 5, 2) := by decide +kernel
theorem dX0_coverersOf_13 : decode cX0_coverersOf 13 = .ok (.aload_n 0, 1) := by decide +kernel
theorem dX0_coverersOf_14 : decode cX0_coverersOf 14 = .ok (.getfield 21, 3) := by decide +kernel
theorem dX0_coverersOf_17 : decode cX0_coverersOf 17 = .ok (.if_icmp .ge 37, 3) := by decide +kernel
theorem dX0_coverersOf_20 : decode cX0_coverersOf 20 = .ok (.aload_n 0, 1) := by decide +kernel
theorem dX0_coverersOf_21 : decode cX0_coverersOf 21 = .ok (.getfield 50, 3) := by decide +kernel
theorem dX0_coverersOf_24 : decode cX0_coverersOf 24 = .ok (.iload_n 1, 1) := by decide +kernel
theorem dX0_coverersOf_25 : decode cX0_coverersOf 25 = .ok (.iaload, 1) := by decide +kernel
theorem dX0_coverersOf_26 : decode cX0_coverersOf 26 = .ok (.aload_n 0, 1) := by decide +kernel
theorem dX0_coverersOf_27 : decode cX0_coverersOf 27 = .ok (.iload 5, 2) := by decide +kernel
theorem dX0_coverersOf_29 : decode cX0_coverersOf 29 = .ok (.lload_n 2, 1) := by decide +kernel
theorem dX0_coverersOf_30 : decode cX0_coverersOf 30 = .ok (.invokevirtual 92, 3) := by decide +kernel
theorem dX0_coverersOf_33 : decode cX0_coverersOf 33 = .ok (.invokestatic 96, 3) := by decide +kernel
theorem dX0_coverersOf_36 : decode cX0_coverersOf 36 = .ok (.ifCond .eq 12, 3) := by decide +kernel
theorem dX0_coverersOf_39 : decode cX0_coverersOf 39 = .ok (.iload 4, 2) := by decide +kernel
theorem dX0_coverersOf_41 : decode cX0_coverersOf 41 = .ok (.iconst 1, 1) := by decide +kernel
theorem dX0_coverersOf_42 : decode cX0_coverersOf 42 = .ok (.iload 5, 2) := by decide +kernel
theorem dX0_coverersOf_44 : decode cX0_coverersOf 44 = .ok (.ishl, 1) := by decide +kernel
theorem dX0_coverersOf_45 : decode cX0_coverersOf 45 = .ok (.ior, 1) := by decide +kernel
theorem dX0_coverersOf_46 : decode cX0_coverersOf 46 = .ok (.istore 4, 2) := by decide +kernel
theorem dX0_coverersOf_48 : decode cX0_coverersOf 48 = .ok (.iinc 5 1, 3) := by decide +kernel
theorem dX0_coverersOf_51 : decode cX0_coverersOf 51 = .ok (.goto (-40), 3) := by decide +kernel
theorem dX0_coverersOf_54 : decode cX0_coverersOf 54 = .ok (.iload 4, 2) := by decide +kernel
theorem dX0_coverersOf_56 : decode cX0_coverersOf 56 = .ok (.ireturn, 1) := by decide +kernel
set_option maxRecDepth 20000 in
theorem ggX0_soil_X0_standing : GoodIn wsX0_soil wsX0_standing := goodIn_r _ [8, 9, 10, 11, 12, 13, 14, 15, 16, 17, 18, 19, 20, 21, 22, 23, 24] (by decide +kernel) (by decide +kernel)
set_option maxRecDepth 20000 in
theorem gX0_soil_X0_standing : GoodIn wsX0_soil (wsV RX0 88 RX0 yX0_standing wsX0_standing) := goodIn_app (goodIn_of _ (by decide +kernel)) ggX0_soil_X0_standing
theorem dX0_soil_0 : decode cX0_soil 0 = .ok (.lconst 0, 1) := by decide +kernel
theorem dX0_soil_1 : decode cX0_soil 1 = .ok (.lstore_n 1, 1) := by decide +kernel
theorem dX0_soil_2 : decode cX0_soil 2 = .ok (.iconst 0, 1) := by decide +kernel
theorem dX0_soil_3 : decode cX0_soil 3 = .ok (.istore_n 3, 1) := by decide +kernel
theorem dX0_soil_4 : decode cX0_soil 4 = .ok (.iload_n 3, 1) := by decide +kernel
theorem dX0_soil_5 : decode cX0_soil 5 = .ok (.aload_n 0, 1) := by decide +kernel
theorem dX0_soil_6 : decode cX0_soil 6 = .ok (.getfield 18, 3) := by decide +kernel
theorem dX0_soil_9 : decode cX0_soil 9 = .ok (.if_icmp .ge 24, 3) := by decide +kernel
theorem dX0_soil_12 : decode cX0_soil 12 = .ok (.aload_n 0, 1) := by decide +kernel
theorem dX0_soil_13 : decode cX0_soil 13 = .ok (.getfield 37, 3) := by decide +kernel
theorem dX0_soil_16 : decode cX0_soil 16 = .ok (.iload_n 3, 1) := by decide +kernel
theorem dX0_soil_17 : decode cX0_soil 17 = .ok (.iaload, 1) := by decide +kernel
theorem dX0_soil_18 : decode cX0_soil 18 = .ok (.ifCond .le 9, 3) := by decide +kernel
theorem dX0_soil_21 : decode cX0_soil 21 = .ok (.lload_n 1, 1) := by decide +kernel
theorem dX0_soil_22 : decode cX0_soil 22 = .ok (.lconst 1, 1) := by decide +kernel
theorem dX0_soil_23 : decode cX0_soil 23 = .ok (.iload_n 3, 1) := by decide +kernel
theorem dX0_soil_24 : decode cX0_soil 24 = .ok (.lshl, 1) := by decide +kernel
theorem dX0_soil_25 : decode cX0_soil 25 = .ok (.lor, 1) := by decide +kernel
theorem dX0_soil_26 : decode cX0_soil 26 = .ok (.lstore_n 1, 1) := by decide +kernel
theorem dX0_soil_27 : decode cX0_soil 27 = .ok (.iinc 3 1, 3) := by decide +kernel
theorem dX0_soil_30 : decode cX0_soil 30 = .ok (.goto (-26), 3) := by decide +kernel
theorem dX0_soil_33 : decode cX0_soil 33 = .ok (.lload_n 1, 1) := by decide +kernel
theorem dX0_soil_34 : decode cX0_soil 34 = .ok (.aload_n 0, 1) := by decide +kernel
theorem dX0_soil_35 : decode cX0_soil 35 = .ok (.invokevirtual 88, 3) := by decide +kernel
theorem dX0_soil_38 : decode cX0_soil 38 = .ok (.ldc2_w 100, 3) := by decide +kernel
theorem dX0_soil_41 : decode cX0_soil 41 = .ok (.lxor, 1) := by decide +kernel
theorem dX0_soil_42 : decode cX0_soil 42 = .ok (.land, 1) := by decide +kernel
theorem dX0_soil_43 : decode cX0_soil 43 = .ok (.lreturn, 1) := by decide +kernel
set_option maxRecDepth 20000 in
theorem ggX0_openCells_X0_soil : GoodIn wsX0_openCells wsX0_soil := goodIn_r _ [6, 7, 8, 1, 9, 10, 11, 5, 12, 13, 14, 39, 40, 41, 42, 43, 44, 45, 46, 47, 48, 49, 50, 51, 52] (by decide +kernel) (by decide +kernel)
set_option maxRecDepth 20000 in
theorem gX0_openCells_X0_soil : GoodIn wsX0_openCells (wsV RX0 102 RX0 yX0_soil wsX0_soil) := goodIn_app (goodIn_of _ (by decide +kernel)) ggX0_openCells_X0_soil
set_option maxRecDepth 20000 in
theorem ggX0_openCells_X0_shotCells : GoodIn wsX0_openCells wsX0_shotCells := goodIn_r _ [18, 13, 9, 10, 11, 5, 12, 14, 19, 20, 21, 22, 23, 24, 25, 26, 27, 28, 29, 30, 31, 32, 33, 34, 35, 36, 37, 38, 39, 40, 41, 42, 43, 44, 45, 46, 47, 48, 49, 50, 51, 52] (by decide +kernel) (by decide +kernel)
set_option maxRecDepth 20000 in
theorem gX0_openCells_X0_shotCells : GoodIn wsX0_openCells (wsV RX0 105 RX0 yX0_shotCells wsX0_shotCells) := goodIn_app (goodIn_of _ (by decide +kernel)) ggX0_openCells_X0_shotCells
theorem dX0_openCells_0 : decode cX0_openCells 0 = .ok (.aload_n 0, 1) := by decide +kernel
theorem dX0_openCells_1 : decode cX0_openCells 1 = .ok (.invokevirtual 102, 3) := by decide +kernel
theorem dX0_openCells_4 : decode cX0_openCells 4 = .ok (.aload_n 0, 1) := by decide +kernel
theorem dX0_openCells_5 : decode cX0_openCells 5 = .ok (.iload_n 1, 1) := by decide +kernel
theorem dX0_openCells_6 : decode cX0_openCells 6 = .ok (.invokevirtual 105, 3) := by decide +kernel
theorem dX0_openCells_9 : decode cX0_openCells 9 = .ok (.ldc2_w 100, 3) := by decide +kernel
theorem dX0_openCells_12 : decode cX0_openCells 12 = .ok (.lxor, 1) := by decide +kernel
theorem dX0_openCells_13 : decode cX0_openCells 13 = .ok (.land, 1) := by decide +kernel
theorem dX0_openCells_14 : decode cX0_openCells 14 = .ok (.lreturn, 1) := by decide +kernel
set_option maxRecDepth 20000 in
theorem ggX0_nightsOf_X4_isIn : GoodIn wsX0_nightsOf wsX4_isIn := goodIn_r _ [5] (by decide +kernel) (by decide +kernel)
set_option maxRecDepth 20000 in
theorem gX0_nightsOf_X4_isIn_n96 : GoodIn wsX0_nightsOf (wsX4_isIn) := ggX0_nightsOf_X4_isIn
theorem dX0_nightsOf_0 : decode cX0_nightsOf 0 = .ok (.iload_n 1, 1) := by decide +kernel
theorem dX0_nightsOf_1 : decode cX0_nightsOf 1 = .ok (.aload_n 0, 1) := by decide +kernel
theorem dX0_nightsOf_2 : decode cX0_nightsOf 2 = .ok (.getfield 27, 3) := by decide +kernel
theorem dX0_nightsOf_5 : decode cX0_nightsOf 5 = .ok (.invokestatic 96, 3) := by decide +kernel
theorem dX0_nightsOf_8 : decode cX0_nightsOf 8 = .ok (.ifCond .eq 7, 3) := by decide +kernel
theorem dX0_nightsOf_11 : decode cX0_nightsOf 11 = .ok (.iconst 0, 1) := by decide +kernel
theorem dX0_nightsOf_12 : decode cX0_nightsOf 12 = .ok (.goto 9, 3) := by decide +kernel
theorem dX0_nightsOf_15 : decode cX0_nightsOf 15 = .ok (.aload_n 0, 1) := by decide +kernel
theorem dX0_nightsOf_16 : decode cX0_nightsOf 16 = .ok (.getfield 37, 3) := by decide +kernel
theorem dX0_nightsOf_19 : decode cX0_nightsOf 19 = .ok (.iload_n 1, 1) := by decide +kernel
theorem dX0_nightsOf_20 : decode cX0_nightsOf 20 = .ok (.iaload, 1) := by decide +kernel
theorem dX0_nightsOf_21 : decode cX0_nightsOf 21 = .ok (.ireturn, 1) := by decide +kernel
theorem dX0_nextTo_0 : decode cX0_nextTo 0 = .ok (.lload_n 1, 1) := by decide +kernel
theorem dX0_nextTo_1 : decode cX0_nextTo 1 = .ok (.aload_n 0, 1) := by decide +kernel
theorem dX0_nextTo_2 : decode cX0_nextTo 2 = .ok (.getfield 34, 3) := by decide +kernel
theorem dX0_nextTo_5 : decode cX0_nextTo 5 = .ok (.ldc2_w 100, 3) := by decide +kernel
theorem dX0_nextTo_8 : decode cX0_nextTo 8 = .ok (.lxor, 1) := by decide +kernel
theorem dX0_nextTo_9 : decode cX0_nextTo 9 = .ok (.land, 1) := by decide +kernel
theorem dX0_nextTo_10 : decode cX0_nextTo 10 = .ok (.iconst 1, 1) := by decide +kernel
theorem dX0_nextTo_11 : decode cX0_nextTo 11 = .ok (.lshl, 1) := by decide +kernel
theorem dX0_nextTo_12 : decode cX0_nextTo 12 = .ok (.lload_n 1, 1) := by decide +kernel
theorem dX0_nextTo_13 : decode cX0_nextTo 13 = .ok (.aload_n 0, 1) := by decide +kernel
theorem dX0_nextTo_14 : decode cX0_nextTo 14 = .ok (.getfield 31, 3) := by decide +kernel
theorem dX0_nextTo_17 : decode cX0_nextTo 17 = .ok (.ldc2_w 100, 3) := by decide +kernel
theorem dX0_nextTo_20 : decode cX0_nextTo 20 = .ok (.lxor, 1) := by decide +kernel
theorem dX0_nextTo_21 : decode cX0_nextTo 21 = .ok (.land, 1) := by decide +kernel
theorem dX0_nextTo_22 : decode cX0_nextTo 22 = .ok (.iconst 1, 1) := by decide +kernel
theorem dX0_nextTo_23 : decode cX0_nextTo 23 = .ok (.lshr, 1) := by decide +kernel
theorem dX0_nextTo_24 : decode cX0_nextTo 24 = .ok (.lor, 1) := by decide +kernel
theorem dX0_nextTo_25 : decode cX0_nextTo 25 = .ok (.lstore_n 3, 1) := by decide +kernel
theorem dX0_nextTo_26 : decode cX0_nextTo 26 = .ok (.lload_n 3, 1) := by decide +kernel
theorem dX0_nextTo_27 : decode cX0_nextTo 27 = .ok (.lload_n 1, 1) := by decide +kernel
theorem dX0_nextTo_28 : decode cX0_nextTo 28 = .ok (.aload_n 0, 1) := by decide +kernel
theorem dX0_nextTo_29 : decode cX0_nextTo 29 = .ok (.getfield 9, 3) := by decide +kernel
theorem dX0_nextTo_32 : decode cX0_nextTo 32 = .ok (.lshl, 1) := by decide +kernel
theorem dX0_nextTo_33 : decode cX0_nextTo 33 = .ok (.lor, 1) := by decide +kernel
theorem dX0_nextTo_34 : decode cX0_nextTo 34 = .ok (.lload_n 1, 1) := by decide +kernel
theorem dX0_nextTo_35 : decode cX0_nextTo 35 = .ok (.aload_n 0, 1) := by decide +kernel
theorem dX0_nextTo_36 : decode cX0_nextTo 36 = .ok (.getfield 9, 3) := by decide +kernel
theorem dX0_nextTo_39 : decode cX0_nextTo 39 = .ok (.lshr, 1) := by decide +kernel
theorem dX0_nextTo_40 : decode cX0_nextTo 40 = .ok (.lor, 1) := by decide +kernel
theorem dX0_nextTo_41 : decode cX0_nextTo 41 = .ok (.lreturn, 1) := by decide +kernel
theorem dX0_beside_0 : decode cX0_beside 0 = .ok (.iload_n 2, 1) := by decide +kernel
theorem dX0_beside_1 : decode cX0_beside 1 = .ok (.tableswitch 90 0 2 #[27, 48, 66], 27) := by decide +kernel
theorem dX0_beside_28 : decode cX0_beside 28 = .ok (.aload_n 0, 1) := by decide +kernel
theorem dX0_beside_29 : decode cX0_beside 29 = .ok (.getfield 44, 3) := by decide +kernel
theorem dX0_beside_32 : decode cX0_beside 32 = .ok (.iload_n 1, 1) := by decide +kernel
theorem dX0_beside_33 : decode cX0_beside 33 = .ok (.iaload, 1) := by decide +kernel
theorem dX0_beside_34 : decode cX0_beside 34 = .ok (.ifCond .le 12, 3) := by decide +kernel
theorem dX0_beside_37 : decode cX0_beside 37 = .ok (.iload_n 1, 1) := by decide +kernel
theorem dX0_beside_38 : decode cX0_beside 38 = .ok (.aload_n 0, 1) := by decide +kernel
theorem dX0_beside_39 : decode cX0_beside 39 = .ok (.getfield 9, 3) := by decide +kernel
theorem dX0_beside_42 : decode cX0_beside 42 = .ok (.isub, 1) := by decide +kernel
theorem dX0_beside_43 : decode cX0_beside 43 = .ok (.goto 5, 3) := by decide +kernel
theorem dX0_beside_46 : decode cX0_beside 46 = .ok (.bipush (-9), 2) := by decide +kernel
theorem dX0_beside_48 : decode cX0_beside 48 = .ok (.ireturn, 1) := by decide +kernel
theorem dX0_beside_49 : decode cX0_beside 49 = .ok (.aload_n 0, 1) := by decide +kernel
theorem dX0_beside_50 : decode cX0_beside 50 = .ok (.getfield 41, 3) := by decide +kernel
theorem dX0_beside_53 : decode cX0_beside 53 = .ok (.iload_n 1, 1) := by decide +kernel
theorem dX0_beside_54 : decode cX0_beside 54 = .ok (.iaload, 1) := by decide +kernel
theorem dX0_beside_55 : decode cX0_beside 55 = .ok (.ifCond .le 9, 3) := by decide +kernel
theorem dX0_beside_58 : decode cX0_beside 58 = .ok (.iload_n 1, 1) := by decide +kernel
theorem dX0_beside_59 : decode cX0_beside 59 = .ok (.iconst 1, 1) := by decide +kernel
theorem dX0_beside_60 : decode cX0_beside 60 = .ok (.isub, 1) := by decide +kernel
theorem dX0_beside_61 : decode cX0_beside 61 = .ok (.goto 5, 3) := by decide +kernel
theorem dX0_beside_64 : decode cX0_beside 64 = .ok (.bipush (-9), 2) := by decide +kernel
theorem dX0_beside_66 : decode cX0_beside 66 = .ok (.ireturn, 1) := by decide +kernel
theorem dX0_beside_67 : decode cX0_beside 67 = .ok (.aload_n 0, 1) := by decide +kernel
theorem dX0_beside_68 : decode cX0_beside 68 = .ok (.getfield 41, 3) := by decide +kernel
theorem dX0_beside_71 : decode cX0_beside 71 = .ok (.iload_n 1, 1) := by decide +kernel
theorem dX0_beside_72 : decode cX0_beside 72 = .ok (.iaload, 1) := by decide +kernel
theorem dX0_beside_73 : decode cX0_beside 73 = .ok (.aload_n 0, 1) := by decide +kernel
theorem dX0_beside_74 : decode cX0_beside 74 = .ok (.getfield 9, 3) := by decide +kernel
theorem dX0_beside_77 : decode cX0_beside 77 = .ok (.iconst 1, 1) := by decide +kernel
theorem dX0_beside_78 : decode cX0_beside 78 = .ok (.isub, 1) := by decide +kernel
theorem dX0_beside_79 : decode cX0_beside 79 = .ok (.if_icmp .ge 9, 3) := by decide +kernel
theorem dX0_beside_82 : decode cX0_beside 82 = .ok (.iload_n 1, 1) := by decide +kernel
theorem dX0_beside_83 : decode cX0_beside 83 = .ok (.iconst 1, 1) := by decide +kernel
theorem dX0_beside_84 : decode cX0_beside 84 = .ok (.iadd, 1) := by decide +kernel
theorem dX0_beside_85 : decode cX0_beside 85 = .ok (.goto 5, 3) := by decide +kernel
theorem dX0_beside_88 : decode cX0_beside 88 = .ok (.bipush (-9), 2) := by decide +kernel
theorem dX0_beside_90 : decode cX0_beside 90 = .ok (.ireturn, 1) := by decide +kernel
theorem dX0_beside_91 : decode cX0_beside 91 = .ok (.aload_n 0, 1) := by decide +kernel
theorem dX0_beside_92 : decode cX0_beside 92 = .ok (.getfield 44, 3) := by decide +kernel
theorem dX0_beside_95 : decode cX0_beside 95 = .ok (.iload_n 1, 1) := by decide +kernel
theorem dX0_beside_96 : decode cX0_beside 96 = .ok (.iaload, 1) := by decide +kernel
theorem dX0_beside_97 : decode cX0_beside 97 = .ok (.aload_n 0, 1) := by decide +kernel
theorem dX0_beside_98 : decode cX0_beside 98 = .ok (.getfield 15, 3) := by decide +kernel
theorem dX0_beside_101 : decode cX0_beside 101 = .ok (.iconst 1, 1) := by decide +kernel
theorem dX0_beside_102 : decode cX0_beside 102 = .ok (.isub, 1) := by decide +kernel
theorem dX0_beside_103 : decode cX0_beside 103 = .ok (.if_icmp .ge 12, 3) := by decide +kernel
theorem dX0_beside_106 : decode cX0_beside 106 = .ok (.iload_n 1, 1) := by decide +kernel
theorem dX0_beside_107 : decode cX0_beside 107 = .ok (.aload_n 0, 1) := by decide +kernel
theorem dX0_beside_108 : decode cX0_beside 108 = .ok (.getfield 9, 3) := by decide +kernel
theorem dX0_beside_111 : decode cX0_beside 111 = .ok (.iadd, 1) := by decide +kernel
theorem dX0_beside_112 : decode cX0_beside 112 = .ok (.goto 5, 3) := by decide +kernel
theorem dX0_beside_115 : decode cX0_beside 115 = .ok (.bipush (-9), 2) := by decide +kernel
theorem dX0_beside_117 : decode cX0_beside 117 = .ok (.ireturn, 1) := by decide +kernel
set_option maxRecDepth 20000 in
theorem ggX0_reachedFromWest_X0_nextTo : GoodIn wsX0_reachedFromWest wsX0_nextTo := goodIn_r _ [7, 8, 9, 1, 10, 11, 12, 13, 14, 15, 16, 17, 18, 19, 20, 21, 22, 23, 24] (by decide +kernel) (by decide +kernel)
set_option maxRecDepth 20000 in
theorem gX0_reachedFromWest_X0_nextTo : GoodIn wsX0_reachedFromWest (wsV RX0 109 RX0 yX0_nextTo wsX0_nextTo) := goodIn_app (goodIn_of _ (by decide +kernel)) ggX0_reachedFromWest_X0_nextTo
theorem dX0_reachedFromWest_0 : decode cX0_reachedFromWest 0 = .ok (.lload_n 1, 1) := by decide +kernel
theorem dX0_reachedFromWest_1 : decode cX0_reachedFromWest 1 = .ok (.aload_n 0, 1) := by decide +kernel
theorem dX0_reachedFromWest_2 : decode cX0_reachedFromWest 2 = .ok (.getfield 31, 3) := by decide +kernel
theorem dX0_reachedFromWest_5 : decode cX0_reachedFromWest 5 = .ok (.land, 1) := by decide +kernel
theorem dX0_reachedFromWest_6 : decode cX0_reachedFromWest 6 = .ok (.lstore_n 3, 1) := by decide +kernel
theorem dX0_reachedFromWest_7 : decode cX0_reachedFromWest 7 = .ok (.iconst 0, 1) := by decide +kernel
theorem dX0_reachedFromWest_8 : decode cX0_reachedFromWest 8 = .ok (.istore 5, 2) := by decide +kernel
theorem dX0_reachedFromWest_10 : decode cX0_reachedFromWest 10 = .ok (.iload 5, 2) := by decide +kernel
theorem dX0_reachedFromWest_12 : decode cX0_reachedFromWest 12 = .ok (.aload_n 0, 1) := by decide +kernel
theorem dX0_reachedFromWest_13 : decode cX0_reachedFromWest 13 = .ok (.getfield 18, 3) := by decide +kernel
theorem dX0_reachedFromWest_16 : decode cX0_reachedFromWest 16 = .ok (.if_icmp .ge 19, 3) := by decide +kernel
theorem dX0_reachedFromWest_19 : decode cX0_reachedFromWest 19 = .ok (.lload_n 3, 1) := by decide +kernel
theorem dX0_reachedFromWest_20 : decode cX0_reachedFromWest 20 = .ok (.aload_n 0, 1) := by decide +kernel
theorem dX0_reachedFromWest_21 : decode cX0_reachedFromWest 21 = .ok (.lload_n 3, 1) := by decide +kernel
theorem dX0_reachedFromWest_22 : decode cX0_reachedFromWest 22 = .ok (.invokevirtual 109, 3) := by decide +kernel
theorem dX0_reachedFromWest_25 : decode cX0_reachedFromWest 25 = .ok (.lload_n 1, 1) := by decide +kernel
theorem dX0_reachedFromWest_26 : decode cX0_reachedFromWest 26 = .ok (.land, 1) := by decide +kernel
theorem dX0_reachedFromWest_27 : decode cX0_reachedFromWest 27 = .ok (.lor, 1) := by decide +kernel
theorem dX0_reachedFromWest_28 : decode cX0_reachedFromWest 28 = .ok (.lstore_n 3, 1) := by decide +kernel
theorem dX0_reachedFromWest_29 : decode cX0_reachedFromWest 29 = .ok (.iinc 5 1, 3) := by decide +kernel
theorem dX0_reachedFromWest_32 : decode cX0_reachedFromWest 32 = .ok (.goto (-22), 3) := by decide +kernel
theorem dX0_reachedFromWest_35 : decode cX0_reachedFromWest 35 = .ok (.lload_n 3, 1) := by decide +kernel
theorem dX0_reachedFromWest_36 : decode cX0_reachedFromWest 36 = .ok (.lreturn, 1) := by decide +kernel
set_option maxRecDepth 20000 in
theorem ggX0_firstWrong_X0_soil : GoodIn wsX0_firstWrong wsX0_soil := goodIn_r _ [7, 8, 9, 10, 11, 12, 13, 6, 14, 15, 16, 26, 27, 28, 29, 30, 31, 32, 33, 34, 35, 36, 37, 38, 39] (by decide +kernel) (by decide +kernel)
set_option maxRecDepth 20000 in
theorem gX0_firstWrong_X0_soil : GoodIn wsX0_firstWrong (wsV RX0 102 RX0 yX0_soil wsX0_soil) := goodIn_app (goodIn_of _ (by decide +kernel)) ggX0_firstWrong_X0_soil
set_option maxRecDepth 20000 in
theorem ggX0_firstWrong_X4_isIn : GoodIn wsX0_firstWrong wsX4_isIn := goodIn_r _ [19] (by decide +kernel) (by decide +kernel)
set_option maxRecDepth 20000 in
theorem gX0_firstWrong_X4_isIn_n96 : GoodIn wsX0_firstWrong (wsX4_isIn) := ggX0_firstWrong_X4_isIn
set_option maxRecDepth 20000 in
theorem ggX0_firstWrong_X0_nextTo : GoodIn wsX0_firstWrong wsX0_nextTo := goodIn_r _ [23, 24, 10, 1, 25, 26, 27, 28, 29, 30, 31, 32, 33, 34, 35, 36, 37, 38, 39] (by decide +kernel) (by decide +kernel)
set_option maxRecDepth 20000 in
theorem gX0_firstWrong_X0_nextTo : GoodIn wsX0_firstWrong (wsV RX0 109 RX0 yX0_nextTo wsX0_nextTo) := goodIn_app (goodIn_of _ (by decide +kernel)) ggX0_firstWrong_X0_nextTo
theorem dX0_firstWrong_0 : decode cX0_firstWrong 0 = .ok (.aload_n 0, 1) := by decide +kernel
theorem dX0_firstWrong_1 : decode cX0_firstWrong 1 = .ok (.invokevirtual 102, 3) := by decide +kernel
theorem dX0_firstWrong_4 : decode cX0_firstWrong 4 = .ok (.lstore 4, 2) := by decide +kernel
theorem dX0_firstWrong_6 : decode cX0_firstWrong 6 = .ok (.aload_n 0, 1) := by decide +kernel
theorem dX0_firstWrong_7 : decode cX0_firstWrong 7 = .ok (.getfield 31, 3) := by decide +kernel
theorem dX0_firstWrong_10 : decode cX0_firstWrong 10 = .ok (.lstore 6, 2) := by decide +kernel
theorem dX0_firstWrong_12 : decode cX0_firstWrong 12 = .ok (.iconst 0, 1) := by decide +kernel
theorem dX0_firstWrong_13 : decode cX0_firstWrong 13 = .ok (.istore 8, 2) := by decide +kernel
theorem dX0_firstWrong_15 : decode cX0_firstWrong 15 = .ok (.iload 8, 2) := by decide +kernel
theorem dX0_firstWrong_17 : decode cX0_firstWrong 17 = .ok (.iload_n 3, 1) := by decide +kernel
theorem dX0_firstWrong_18 : decode cX0_firstWrong 18 = .ok (.if_icmp .ge 46, 3) := by decide +kernel
theorem dX0_firstWrong_21 : decode cX0_firstWrong 21 = .ok (.aload_n 1, 1) := by decide +kernel
theorem dX0_firstWrong_22 : decode cX0_firstWrong 22 = .ok (.getfield 58, 3) := by decide +kernel
theorem dX0_firstWrong_25 : decode cX0_firstWrong 25 = .ok (.iload_n 2, 1) := by decide +kernel
theorem dX0_firstWrong_26 : decode cX0_firstWrong 26 = .ok (.iload 8, 2) := by decide +kernel
theorem dX0_firstWrong_28 : decode cX0_firstWrong 28 = .ok (.iadd, 1) := by decide +kernel
theorem dX0_firstWrong_29 : decode cX0_firstWrong 29 = .ok (.iaload, 1) := by decide +kernel
theorem dX0_firstWrong_30 : decode cX0_firstWrong 30 = .ok (.istore 9, 2) := by decide +kernel
theorem dX0_firstWrong_32 : decode cX0_firstWrong 32 = .ok (.iload 9, 2) := by decide +kernel
theorem dX0_firstWrong_34 : decode cX0_firstWrong 34 = .ok (.lload 4, 2) := by decide +kernel
theorem dX0_firstWrong_36 : decode cX0_firstWrong 36 = .ok (.lload 6, 2) := by decide +kernel
theorem dX0_firstWrong_38 : decode cX0_firstWrong 38 = .ok (.land, 1) := by decide +kernel
theorem dX0_firstWrong_39 : decode cX0_firstWrong 39 = .ok (.invokestatic 96, 3) := by decide +kernel
theorem dX0_firstWrong_42 : decode cX0_firstWrong 42 = .ok (.ifCond .ne 6, 3) := by decide +kernel
theorem dX0_firstWrong_45 : decode cX0_firstWrong 45 = .ok (.iload 8, 2) := by decide +kernel
theorem dX0_firstWrong_47 : decode cX0_firstWrong 47 = .ok (.ireturn, 1) := by decide +kernel
theorem dX0_firstWrong_48 : decode cX0_firstWrong 48 = .ok (.aload_n 0, 1) := by decide +kernel
theorem dX0_firstWrong_49 : decode cX0_firstWrong 49 = .ok (.lconst 1, 1) := by decide +kernel
theorem dX0_firstWrong_50 : decode cX0_firstWrong 50 = .ok (.iload 9, 2) := by decide +kernel
theorem dX0_firstWrong_52 : decode cX0_firstWrong 52 = .ok (.lshl, 1) := by decide +kernel
theorem dX0_firstWrong_53 : decode cX0_firstWrong 53 = .ok (.invokevirtual 109, 3) := by decide +kernel
theorem dX0_firstWrong_56 : decode cX0_firstWrong 56 = .ok (.lstore 6, 2) := by decide +kernel
theorem dX0_firstWrong_58 : decode cX0_firstWrong 58 = .ok (.iinc 8 1, 3) := by decide +kernel
theorem dX0_firstWrong_61 : decode cX0_firstWrong 61 = .ok (.goto (-46), 3) := by decide +kernel
theorem dX0_firstWrong_64 : decode cX0_firstWrong 64 = .ok (.bipush (-9), 2) := by decide +kernel
theorem dX0_firstWrong_66 : decode cX0_firstWrong 66 = .ok (.ireturn, 1) := by decide +kernel
set_option maxRecDepth 20000 in
theorem ggX0_canBePost_X0_standing : GoodIn wsX0_canBePost wsX0_standing := goodIn_r _ [5, 6, 7, 21, 22, 23, 24, 25, 26, 27, 28, 29, 30, 31, 32, 33, 34] (by decide +kernel) (by decide +kernel)
set_option maxRecDepth 20000 in
theorem gX0_canBePost_X0_standing : GoodIn wsX0_canBePost (wsV RX0 88 RX0 yX0_standing wsX0_standing) := goodIn_app (goodIn_of _ (by decide +kernel)) ggX0_canBePost_X0_standing
set_option maxRecDepth 20000 in
theorem ggX0_canBePost_X4_isIn : GoodIn wsX0_canBePost wsX4_isIn := goodIn_r _ [10] (by decide +kernel) (by decide +kernel)
set_option maxRecDepth 20000 in
theorem gX0_canBePost_X4_isIn_n96 : GoodIn wsX0_canBePost (wsX4_isIn) := ggX0_canBePost_X4_isIn
set_option maxRecDepth 20000 in
theorem ggX0_canBePost_X0_seenFrom : GoodIn wsX0_canBePost wsX0_seenFrom := goodIn_r _ [14, 15, 16, 17, 18, 19, 20, 21, 22, 23, 24, 25, 26, 27, 28, 29, 30, 31, 32, 33, 34] (by decide +kernel) (by decide +kernel)
set_option maxRecDepth 20000 in
theorem gX0_canBePost_X0_seenFrom : GoodIn wsX0_canBePost (wsV RX0 78 RX0 yX0_seenFrom wsX0_seenFrom) := goodIn_app (goodIn_of _ (by decide +kernel)) ggX0_canBePost_X0_seenFrom
theorem dX0_canBePost_0 : decode cX0_canBePost 0 = .ok (.aload_n 0, 1) := by decide +kernel
theorem dX0_canBePost_1 : decode cX0_canBePost 1 = .ok (.invokevirtual 88, 3) := by decide +kernel
theorem dX0_canBePost_4 : decode cX0_canBePost 4 = .ok (.lstore_n 3, 1) := by decide +kernel
theorem dX0_canBePost_5 : decode cX0_canBePost 5 = .ok (.iload_n 1, 1) := by decide +kernel
theorem dX0_canBePost_6 : decode cX0_canBePost 6 = .ok (.iload_n 2, 1) := by decide +kernel
theorem dX0_canBePost_7 : decode cX0_canBePost 7 = .ok (.if_icmp .eq 29, 3) := by decide +kernel
theorem dX0_canBePost_10 : decode cX0_canBePost 10 = .ok (.iload_n 1, 1) := by decide +kernel
theorem dX0_canBePost_11 : decode cX0_canBePost 11 = .ok (.lload_n 3, 1) := by decide +kernel
theorem dX0_canBePost_12 : decode cX0_canBePost 12 = .ok (.invokestatic 96, 3) := by decide +kernel
theorem dX0_canBePost_15 : decode cX0_canBePost 15 = .ok (.ifCond .ne 21, 3) := by decide +kernel
theorem dX0_canBePost_18 : decode cX0_canBePost 18 = .ok (.iload_n 2, 1) := by decide +kernel
theorem dX0_canBePost_19 : decode cX0_canBePost 19 = .ok (.aload_n 0, 1) := by decide +kernel
theorem dX0_canBePost_20 : decode cX0_canBePost 20 = .ok (.iload_n 1, 1) := by decide +kernel
theorem dX0_canBePost_21 : decode cX0_canBePost 21 = .ok (.iconst 2, 1) := by decide +kernel
theorem dX0_canBePost_22 : decode cX0_canBePost 22 = .ok (.lload_n 3, 1) := by decide +kernel
theorem dX0_canBePost_23 : decode cX0_canBePost 23 = .ok (.invokevirtual 78, 3) := by decide +kernel
theorem dX0_canBePost_26 : decode cX0_canBePost 26 = .ok (.invokestatic 96, 3) := by decide +kernel
theorem dX0_canBePost_29 : decode cX0_canBePost 29 = .ok (.ifCond .ne 7, 3) := by decide +kernel
theorem dX0_canBePost_32 : decode cX0_canBePost 32 = .ok (.iconst 1, 1) := by decide +kernel
theorem dX0_canBePost_33 : decode cX0_canBePost 33 = .ok (.goto 4, 3) := by decide +kernel
theorem dX0_canBePost_36 : decode cX0_canBePost 36 = .ok (.iconst 0, 1) := by decide +kernel
theorem dX0_canBePost_37 : decode cX0_canBePost 37 = .ok (.ireturn, 1) := by decide +kernel
theorem dX0_addPost_0 : decode cX0_addPost 0 = .ok (.aload_n 0, 1) := by decide +kernel
theorem dX0_addPost_1 : decode cX0_addPost 1 = .ok (.getfield 47, 3) := by decide +kernel
theorem dX0_addPost_4 : decode cX0_addPost 4 = .ok (.aload_n 0, 1) := by decide +kernel
theorem dX0_addPost_5 : decode cX0_addPost 5 = .ok (.getfield 21, 3) := by decide +kernel
theorem dX0_addPost_8 : decode cX0_addPost 8 = .ok (.iconst 0, 1) := by decide +kernel
theorem dX0_addPost_9 : decode cX0_addPost 9 = .ok (.iastore, 1) := by decide +kernel
theorem dX0_addPost_10 : decode cX0_addPost 10 = .ok (.aload_n 0, 1) := by decide +kernel
theorem dX0_addPost_11 : decode cX0_addPost 11 = .ok (.getfield 50, 3) := by decide +kernel
theorem dX0_addPost_14 : decode cX0_addPost 14 = .ok (.aload_n 0, 1) := by decide +kernel
theorem dX0_addPost_15 : decode cX0_addPost 15 = .ok (.getfield 21, 3) := by decide +kernel
theorem dX0_addPost_18 : decode cX0_addPost 18 = .ok (.iload_n 1, 1) := by decide +kernel
theorem dX0_addPost_19 : decode cX0_addPost 19 = .ok (.iastore, 1) := by decide +kernel
theorem dX0_addPost_20 : decode cX0_addPost 20 = .ok (.aload_n 0, 1) := by decide +kernel
theorem dX0_addPost_21 : decode cX0_addPost 21 = .ok (.getfield 53, 3) := by decide +kernel
theorem dX0_addPost_24 : decode cX0_addPost 24 = .ok (.aload_n 0, 1) := by decide +kernel
theorem dX0_addPost_25 : decode cX0_addPost 25 = .ok (.getfield 21, 3) := by decide +kernel
theorem dX0_addPost_28 : decode cX0_addPost 28 = .ok (.iconst 2, 1) := by decide +kernel
theorem dX0_addPost_29 : decode cX0_addPost 29 = .ok (.iastore, 1) := by decide +kernel
theorem dX0_addPost_30 : decode cX0_addPost 30 = .ok (.aload_n 0, 1) := by decide +kernel
theorem dX0_addPost_31 : decode cX0_addPost 31 = .ok (.dup, 1) := by decide +kernel
theorem dX0_addPost_32 : decode cX0_addPost 32 = .ok (.getfield 21, 3) := by decide +kernel
theorem dX0_addPost_35 : decode cX0_addPost 35 = .ok (.iconst 1, 1) := by decide +kernel
theorem dX0_addPost_36 : decode cX0_addPost 36 = .ok (.iadd, 1) := by decide +kernel
theorem dX0_addPost_37 : decode cX0_addPost 37 = .ok (.putfield 21, 3) := by decide +kernel
theorem dX0_addPost_40 : decode cX0_addPost 40 = .ok (.return_, 1) := by decide +kernel
theorem dX0_removePost_0 : decode cX0_removePost 0 = .ok (.aload_n 0, 1) := by decide +kernel
theorem dX0_removePost_1 : decode cX0_removePost 1 = .ok (.dup, 1) := by decide +kernel
theorem dX0_removePost_2 : decode cX0_removePost 2 = .ok (.getfield 21, 3) := by decide +kernel
theorem dX0_removePost_5 : decode cX0_removePost 5 = .ok (.iconst 1, 1) := by decide +kernel
theorem dX0_removePost_6 : decode cX0_removePost 6 = .ok (.isub, 1) := by decide +kernel
theorem dX0_removePost_7 : decode cX0_removePost 7 = .ok (.putfield 21, 3) := by decide +kernel
theorem dX0_removePost_10 : decode cX0_removePost 10 = .ok (.return_, 1) := by decide +kernel
theorem dX1_init_0 : decode cX1_init 0 = .ok (.aload_n 0, 1) := by decide +kernel
theorem dX1_init_1 : decode cX1_init 1 = .ok (.invokespecial 3, 3) := by decide +kernel
theorem dX1_init_4 : decode cX1_init 4 = .ok (.aload_n 0, 1) := by decide +kernel
theorem dX1_init_5 : decode cX1_init 5 = .ok (.bipush 60, 2) := by decide +kernel
theorem dX1_init_7 : decode cX1_init 7 = .ok (.newarray .int, 2) := by decide +kernel
theorem dX1_init_9 : decode cX1_init 9 = .ok (.putfield 9, 3) := by decide +kernel
theorem dX1_init_12 : decode cX1_init 12 = .ok (.aload_n 0, 1) := by decide +kernel
theorem dX1_init_13 : decode cX1_init 13 = .ok (.iconst (-1), 1) := by decide +kernel
theorem dX1_init_14 : decode cX1_init 14 = .ok (.putfield 15, 3) := by decide +kernel
theorem dX1_init_17 : decode cX1_init 17 = .ok (.aload_n 0, 1) := by decide +kernel
theorem dX1_init_18 : decode cX1_init 18 = .ok (.iconst 0, 1) := by decide +kernel
theorem dX1_init_19 : decode cX1_init 19 = .ok (.putfield 19, 3) := by decide +kernel
theorem dX1_init_22 : decode cX1_init 22 = .ok (.return_, 1) := by decide +kernel
set_option maxRecDepth 20000 in
theorem ggX1_renew_J7_fill_53178 : GoodIn wsX1_renew wsJ7_fill_53178 := goodIn_r _ [7] (by decide +kernel) (by decide +kernel)
set_option maxRecDepth 20000 in
theorem gX1_renew_J7_fill_53178 : GoodIn wsX1_renew (va_wsS RX1 22 yJ7_fill_53178 wsJ7_fill_53178) := goodIn_app (goodIn_of _ (by decide +kernel)) ggX1_renew_J7_fill_53178
theorem dX1_renew_0 : decode cX1_renew 0 = .ok (.aload_n 0, 1) := by decide +kernel
theorem dX1_renew_1 : decode cX1_renew 1 = .ok (.iload_n 1, 1) := by decide +kernel
theorem dX1_renew_2 : decode cX1_renew 2 = .ok (.putfield 15, 3) := by decide +kernel
theorem dX1_renew_5 : decode cX1_renew 5 = .ok (.aload_n 0, 1) := by decide +kernel
theorem dX1_renew_6 : decode cX1_renew 6 = .ok (.iload_n 2, 1) := by decide +kernel
theorem dX1_renew_7 : decode cX1_renew 7 = .ok (.putfield 19, 3) := by decide +kernel
theorem dX1_renew_10 : decode cX1_renew 10 = .ok (.aload_n 0, 1) := by decide +kernel
theorem dX1_renew_11 : decode cX1_renew 11 = .ok (.getfield 9, 3) := by decide +kernel
theorem dX1_renew_14 : decode cX1_renew 14 = .ok (.iconst 0, 1) := by decide +kernel
theorem dX1_renew_15 : decode cX1_renew 15 = .ok (.invokestatic 22, 3) := by decide +kernel
theorem dX1_renew_18 : decode cX1_renew 18 = .ok (.return_, 1) := by decide +kernel
theorem dX1_empty_0 : decode cX1_empty 0 = .ok (.aload_n 0, 1) := by decide +kernel
theorem dX1_empty_1 : decode cX1_empty 1 = .ok (.iconst (-1), 1) := by decide +kernel
theorem dX1_empty_2 : decode cX1_empty 2 = .ok (.putfield 15, 3) := by decide +kernel
theorem dX1_empty_5 : decode cX1_empty 5 = .ok (.aload_n 0, 1) := by decide +kernel
theorem dX1_empty_6 : decode cX1_empty 6 = .ok (.iconst 0, 1) := by decide +kernel
theorem dX1_empty_7 : decode cX1_empty 7 = .ok (.putfield 19, 3) := by decide +kernel
theorem dX1_empty_10 : decode cX1_empty 10 = .ok (.return_, 1) := by decide +kernel
theorem dX1_isNothing_0 : decode cX1_isNothing 0 = .ok (.aload_n 0, 1) := by decide +kernel
theorem dX1_isNothing_1 : decode cX1_isNothing 1 = .ok (.getfield 15, 3) := by decide +kernel
theorem dX1_isNothing_4 : decode cX1_isNothing 4 = .ok (.iconst (-1), 1) := by decide +kernel
theorem dX1_isNothing_5 : decode cX1_isNothing 5 = .ok (.if_icmp .ne 7, 3) := by decide +kernel
theorem dX1_isNothing_8 : decode cX1_isNothing 8 = .ok (.iconst 1, 1) := by decide +kernel
theorem dX1_isNothing_9 : decode cX1_isNothing 9 = .ok (.goto 4, 3) := by decide +kernel
theorem dX1_isNothing_12 : decode cX1_isNothing 12 = .ok (.iconst 0, 1) := by decide +kernel
theorem dX1_isNothing_13 : decode cX1_isNothing 13 = .ok (.ireturn, 1) := by decide +kernel
theorem dX1_isOfOther_0 : decode cX1_isOfOther 0 = .ok (.aload_n 0, 1) := by decide +kernel
theorem dX1_isOfOther_1 : decode cX1_isOfOther 1 = .ok (.getfield 15, 3) := by decide +kernel
theorem dX1_isOfOther_4 : decode cX1_isOfOther 4 = .ok (.iconst (-1), 1) := by decide +kernel
theorem dX1_isOfOther_5 : decode cX1_isOfOther 5 = .ok (.if_icmp .eq 15, 3) := by decide +kernel
theorem dX1_isOfOther_8 : decode cX1_isOfOther 8 = .ok (.aload_n 0, 1) := by decide +kernel
theorem dX1_isOfOther_9 : decode cX1_isOfOther 9 = .ok (.getfield 15, 3) := by decide +kernel
theorem dX1_isOfOther_12 : decode cX1_isOfOther 12 = .ok (.iload_n 1, 1) := by decide +kernel
theorem dX1_isOfOther_13 : decode cX1_isOfOther 13 = .ok (.if_icmp .eq 7, 3) := by decide +kernel
theorem dX1_isOfOther_16 : decode cX1_isOfOther 16 = .ok (.iconst 1, 1) := by decide +kernel
theorem dX1_isOfOther_17 : decode cX1_isOfOther 17 = .ok (.goto 4, 3) := by decide +kernel
theorem dX1_isOfOther_20 : decode cX1_isOfOther 20 = .ok (.iconst 0, 1) := by decide +kernel
theorem dX1_isOfOther_21 : decode cX1_isOfOther 21 = .ok (.ireturn, 1) := by decide +kernel
theorem dX1_holds_0 : decode cX1_holds 0 = .ok (.iload_n 1, 1) := by decide +kernel
theorem dX1_holds_1 : decode cX1_holds 1 = .ok (.ifCond .lt 29, 3) := by decide +kernel
theorem dX1_holds_4 : decode cX1_holds 4 = .ok (.iload_n 2, 1) := by decide +kernel
theorem dX1_holds_5 : decode cX1_holds 5 = .ok (.ifCond .lt 25, 3) := by decide +kernel
theorem dX1_holds_8 : decode cX1_holds 8 = .ok (.iload_n 1, 1) := by decide +kernel
theorem dX1_holds_9 : decode cX1_holds 9 = .ok (.aload_n 0, 1) := by decide +kernel
theorem dX1_holds_10 : decode cX1_holds 10 = .ok (.getfield 19, 3) := by decide +kernel
theorem dX1_holds_13 : decode cX1_holds 13 = .ok (.if_icmp .gt 17, 3) := by decide +kernel
theorem dX1_holds_16 : decode cX1_holds 16 = .ok (.iload_n 2, 1) := by decide +kernel
theorem dX1_holds_17 : decode cX1_holds 17 = .ok (.aload_n 0, 1) := by decide +kernel
theorem dX1_holds_18 : decode cX1_holds 18 = .ok (.getfield 19, 3) := by decide +kernel
theorem dX1_holds_21 : decode cX1_holds 21 = .ok (.iload_n 1, 1) := by decide +kernel
theorem dX1_holds_22 : decode cX1_holds 22 = .ok (.isub, 1) := by decide +kernel
theorem dX1_holds_23 : decode cX1_holds 23 = .ok (.if_icmp .gt 7, 3) := by decide +kernel
theorem dX1_holds_26 : decode cX1_holds 26 = .ok (.iconst 1, 1) := by decide +kernel
theorem dX1_holds_27 : decode cX1_holds 27 = .ok (.goto 4, 3) := by decide +kernel
theorem dX1_holds_30 : decode cX1_holds 30 = .ok (.iconst 0, 1) := by decide +kernel
theorem dX1_holds_31 : decode cX1_holds 31 = .ok (.ireturn, 1) := by decide +kernel
theorem dX1_cut_0 : decode cX1_cut 0 = .ok (.aload_n 0, 1) := by decide +kernel
theorem dX1_cut_1 : decode cX1_cut 1 = .ok (.getfield 15, 3) := by decide +kernel
theorem dX1_cut_4 : decode cX1_cut 4 = .ok (.lookupswitch 34 #[(0, 28), (1, 31)], 28) := by decide +kernel
theorem dX1_cut_32 : decode cX1_cut 32 = .ok (.iload_n 1, 1) := by decide +kernel
theorem dX1_cut_33 : decode cX1_cut 33 = .ok (.i2b, 1) := by decide +kernel
theorem dX1_cut_34 : decode cX1_cut 34 = .ok (.ireturn, 1) := by decide +kernel
theorem dX1_cut_35 : decode cX1_cut 35 = .ok (.iload_n 1, 1) := by decide +kernel
theorem dX1_cut_36 : decode cX1_cut 36 = .ok (.i2s, 1) := by decide +kernel
theorem dX1_cut_37 : decode cX1_cut 37 = .ok (.ireturn, 1) := by decide +kernel
theorem dX1_cut_38 : decode cX1_cut 38 = .ok (.iload_n 1, 1) := by decide +kernel
theorem dX1_cut_39 : decode cX1_cut 39 = .ok (.ireturn, 1) := by decide +kernel
set_option maxRecDepth 20000 in
theorem ggX2_firstFault_X2_goesOn : GoodIn wsX2_firstFault wsX2_goesOn := goodIn_r _ [5, 6, 7, 8, 9, 10, 4, 11] (by decide +kernel) (by decide +kernel)
set_option maxRecDepth 20000 in
theorem gX2_firstFault_X2_goesOn : GoodIn wsX2_firstFault (va_wsS RX2 15 yX2_goesOn wsX2_goesOn) := goodIn_app (goodIn_of _ (by decide +kernel)) ggX2_firstFault_X2_goesOn
theorem dX2_firstFault_0 : decode cX2_firstFault 0 = .ok (.iconst 0, 1) := by decide +kernel
theorem dX2_firstFault_1 : decode cX2_firstFault 1 = .ok (.istore_n 3, 1) := by decide +kernel
theorem dX2_firstFault_2 : decode cX2_firstFault 2 = .ok (.iconst 0, 1) := by decide +kernel
theorem dX2_firstFault_3 : decode cX2_firstFault 3 = .ok (.istore 4, 2) := by decide +kernel
theorem dX2_firstFault_5 : decode cX2_firstFault 5 = .ok (.iconst 0, 1) := by decide +kernel
theorem dX2_firstFault_6 : decode cX2_firstFault 6 = .ok (.istore 5, 2) := by decide +kernel
theorem dX2_firstFault_8 : decode cX2_firstFault 8 = .ok (.iload 5, 2) := by decide +kernel
theorem dX2_firstFault_10 : decode cX2_firstFault 10 = .ok (.iload_n 2, 1) := by decide +kernel
theorem dX2_firstFault_11 : decode cX2_firstFault 11 = .ok (.if_icmp .ge 61, 3) := by decide +kernel
theorem dX2_firstFault_14 : decode cX2_firstFault 14 = .ok (.aload_n 0, 1) := by decide +kernel
theorem dX2_firstFault_15 : decode cX2_firstFault 15 = .ok (.getfield 9, 3) := by decide +kernel
theorem dX2_firstFault_18 : decode cX2_firstFault 18 = .ok (.iload_n 1, 1) := by decide +kernel
theorem dX2_firstFault_19 : decode cX2_firstFault 19 = .ok (.iload 5, 2) := by decide +kernel
theorem dX2_firstFault_21 : decode cX2_firstFault 21 = .ok (.iadd, 1) := by decide +kernel
theorem dX2_firstFault_22 : decode cX2_firstFault 22 = .ok (.iaload, 1) := by decide +kernel
theorem dX2_firstFault_23 : decode cX2_firstFault 23 = .ok (.istore 6, 2) := by decide +kernel
theorem dX2_firstFault_25 : decode cX2_firstFault 25 = .ok (.iload 5, 2) := by decide +kernel
theorem dX2_firstFault_27 : decode cX2_firstFault 27 = .ok (.iload 6, 2) := by decide +kernel
theorem dX2_firstFault_29 : decode cX2_firstFault 29 = .ok (.iload_n 3, 1) := by decide +kernel
theorem dX2_firstFault_30 : decode cX2_firstFault 30 = .ok (.iload 4, 2) := by decide +kernel
theorem dX2_firstFault_32 : decode cX2_firstFault 32 = .ok (.invokestatic 15, 3) := by decide +kernel
theorem dX2_firstFault_35 : decode cX2_firstFault 35 = .ok (.ifCond .ne 6, 3) := by decide +kernel
theorem dX2_firstFault_38 : decode cX2_firstFault 38 = .ok (.iload 5, 2) := by decide +kernel
theorem dX2_firstFault_40 : decode cX2_firstFault 40 = .ok (.ireturn, 1) := by decide +kernel
theorem dX2_firstFault_41 : decode cX2_firstFault 41 = .ok (.iload 5, 2) := by decide +kernel
theorem dX2_firstFault_43 : decode cX2_firstFault 43 = .ok (.iconst 1, 1) := by decide +kernel
theorem dX2_firstFault_44 : decode cX2_firstFault 44 = .ok (.if_icmp .ne 9, 3) := by decide +kernel
theorem dX2_firstFault_47 : decode cX2_firstFault 47 = .ok (.iload 6, 2) := by decide +kernel
theorem dX2_firstFault_49 : decode cX2_firstFault 49 = .ok (.bipush 48, 2) := by decide +kernel
theorem dX2_firstFault_51 : decode cX2_firstFault 51 = .ok (.isub, 1) := by decide +kernel
theorem dX2_firstFault_52 : decode cX2_firstFault 52 = .ok (.istore_n 3, 1) := by decide +kernel
theorem dX2_firstFault_53 : decode cX2_firstFault 53 = .ok (.iload 5, 2) := by decide +kernel
theorem dX2_firstFault_55 : decode cX2_firstFault 55 = .ok (.iconst 2, 1) := by decide +kernel
theorem dX2_firstFault_56 : decode cX2_firstFault 56 = .ok (.if_icmp .ne 10, 3) := by decide +kernel
theorem dX2_firstFault_59 : decode cX2_firstFault 59 = .ok (.iload 6, 2) := by decide +kernel
theorem dX2_firstFault_61 : decode cX2_firstFault 61 = .ok (.bipush 48, 2) := by decide +kernel
theorem dX2_firstFault_63 : decode cX2_firstFault 63 = .ok (.isub, 1) := by decide +kernel
theorem dX2_firstFault_64 : decode cX2_firstFault 64 = .ok (.istore 4, 2) := by decide +kernel
theorem dX2_firstFault_66 : decode cX2_firstFault 66 = .ok (.iinc 5 1, 3) := by decide +kernel
theorem dX2_firstFault_69 : decode cX2_firstFault 69 = .ok (.goto (-61), 3) := by decide +kernel
theorem dX2_firstFault_72 : decode cX2_firstFault 72 = .ok (.iload_n 2, 1) := by decide +kernel
theorem dX2_firstFault_73 : decode cX2_firstFault 73 = .ok (.iconst 3, 1) := by decide +kernel
theorem dX2_firstFault_74 : decode cX2_firstFault 74 = .ok (.isub, 1) := by decide +kernel
theorem dX2_firstFault_75 : decode cX2_firstFault 75 = .ok (.iload_n 3, 1) := by decide +kernel
theorem dX2_firstFault_76 : decode cX2_firstFault 76 = .ok (.iload 4, 2) := by decide +kernel
theorem dX2_firstFault_78 : decode cX2_firstFault 78 = .ok (.imul, 1) := by decide +kernel
theorem dX2_firstFault_79 : decode cX2_firstFault 79 = .ok (.isub, 1) := by decide +kernel
theorem dX2_firstFault_80 : decode cX2_firstFault 80 = .ok (.istore 5, 2) := by decide +kernel
theorem dX2_firstFault_82 : decode cX2_firstFault 82 = .ok (.iload 5, 2) := by decide +kernel
theorem dX2_firstFault_84 : decode cX2_firstFault 84 = .ok (.ifCond .le 15, 3) := by decide +kernel
theorem dX2_firstFault_87 : decode cX2_firstFault 87 = .ok (.iload 5, 2) := by decide +kernel
theorem dX2_firstFault_89 : decode cX2_firstFault 89 = .ok (.iconst 5, 1) := by decide +kernel
theorem dX2_firstFault_90 : decode cX2_firstFault 90 = .ok (.irem, 1) := by decide +kernel
theorem dX2_firstFault_91 : decode cX2_firstFault 91 = .ok (.ifCond .ne 8, 3) := by decide +kernel
theorem dX2_firstFault_94 : decode cX2_firstFault 94 = .ok (.bipush (-9), 2) := by decide +kernel
theorem dX2_firstFault_96 : decode cX2_firstFault 96 = .ok (.goto 4, 3) := by decide +kernel
theorem dX2_firstFault_99 : decode cX2_firstFault 99 = .ok (.iload_n 2, 1) := by decide +kernel
theorem dX2_firstFault_100 : decode cX2_firstFault 100 = .ok (.ireturn, 1) := by decide +kernel
set_option maxRecDepth 20000 in
theorem ggX2_goesOn_X4_isWithin : GoodIn wsX2_goesOn wsX4_isWithin := goodIn_r _ [3] (by decide +kernel) (by decide +kernel)
set_option maxRecDepth 20000 in
theorem gX2_goesOn_X4_isWithin_n21 : GoodIn wsX2_goesOn (wsX4_isWithin) := ggX2_goesOn_X4_isWithin
set_option maxRecDepth 20000 in
theorem ggX2_goesOn_X2_kindOf : GoodIn wsX2_goesOn wsX2_kindOf := goodIn_r _ [7] (by decide +kernel) (by decide +kernel)
set_option maxRecDepth 20000 in
theorem gX2_goesOn_X2_kindOf : GoodIn wsX2_goesOn (va_wsS RX2 25 yX2_kindOf wsX2_kindOf) := goodIn_app (goodIn_of _ (by decide +kernel)) ggX2_goesOn_X2_kindOf
theorem dX2_goesOn_0 : decode cX2_goesOn 0 = .ok (.iload_n 0, 1) := by decide +kernel
theorem dX2_goesOn_1 : decode cX2_goesOn 1 = .ok (.ifCond .ne 15, 3) := by decide +kernel
theorem dX2_goesOn_4 : decode cX2_goesOn 4 = .ok (.iload_n 1, 1) := by decide +kernel
theorem dX2_goesOn_5 : decode cX2_goesOn 5 = .ok (.bipush 112, 2) := by decide +kernel
theorem dX2_goesOn_7 : decode cX2_goesOn 7 = .ok (.if_icmp .ne 7, 3) := by decide +kernel
theorem dX2_goesOn_10 : decode cX2_goesOn 10 = .ok (.iconst 1, 1) := by decide +kernel
theorem dX2_goesOn_11 : decode cX2_goesOn 11 = .ok (.goto 4, 3) := by decide +kernel
theorem dX2_goesOn_14 : decode cX2_goesOn 14 = .ok (.iconst 0, 1) := by decide +kernel
theorem dX2_goesOn_15 : decode cX2_goesOn 15 = .ok (.ireturn, 1) := by decide +kernel
theorem dX2_goesOn_16 : decode cX2_goesOn 16 = .ok (.iload_n 0, 1) := by decide +kernel
theorem dX2_goesOn_17 : decode cX2_goesOn 17 = .ok (.iconst 3, 1) := by decide +kernel
theorem dX2_goesOn_18 : decode cX2_goesOn 18 = .ok (.if_icmp .ge 21, 3) := by decide +kernel
theorem dX2_goesOn_21 : decode cX2_goesOn 21 = .ok (.iload_n 1, 1) := by decide +kernel
theorem dX2_goesOn_22 : decode cX2_goesOn 22 = .ok (.bipush 50, 2) := by decide +kernel
theorem dX2_goesOn_24 : decode cX2_goesOn 24 = .ok (.if_icmp .lt 13, 3) := by decide +kernel
theorem dX2_goesOn_27 : decode cX2_goesOn 27 = .ok (.iload_n 1, 1) := by decide +kernel
theorem dX2_goesOn_28 : decode cX2_goesOn 28 = .ok (.bipush 54, 2) := by decide +kernel
theorem dX2_goesOn_30 : decode cX2_goesOn 30 = .ok (.if_icmp .gt 7, 3) := by decide +kernel
theorem dX2_goesOn_33 : decode cX2_goesOn 33 = .ok (.iconst 1, 1) := by decide +kernel
theorem dX2_goesOn_34 : decode cX2_goesOn 34 = .ok (.goto 4, 3) := by decide +kernel
theorem dX2_goesOn_37 : decode cX2_goesOn 37 = .ok (.iconst 0, 1) := by decide +kernel
theorem dX2_goesOn_38 : decode cX2_goesOn 38 = .ok (.ireturn, 1) := by decide +kernel
theorem dX2_goesOn_39 : decode cX2_goesOn 39 = .ok (.iload_n 0, 1) := by decide +kernel
theorem dX2_goesOn_40 : decode cX2_goesOn 40 = .ok (.iconst 3, 1) := by decide +kernel
theorem dX2_goesOn_41 : decode cX2_goesOn 41 = .ok (.isub, 1) := by decide +kernel
theorem dX2_goesOn_42 : decode cX2_goesOn 42 = .ok (.iload_n 2, 1) := by decide +kernel
theorem dX2_goesOn_43 : decode cX2_goesOn 43 = .ok (.iload_n 3, 1) := by decide +kernel
theorem dX2_goesOn_44 : decode cX2_goesOn 44 = .ok (.imul, 1) := by decide +kernel
theorem dX2_goesOn_45 : decode cX2_goesOn 45 = .ok (.isub, 1) := by decide +kernel
theorem dX2_goesOn_46 : decode cX2_goesOn 46 = .ok (.istore 4, 2) := by decide +kernel
theorem dX2_goesOn_48 : decode cX2_goesOn 48 = .ok (.iload 4, 2) := by decide +kernel
theorem dX2_goesOn_50 : decode cX2_goesOn 50 = .ok (.ifCond .ge 13, 3) := by decide +kernel
theorem dX2_goesOn_53 : decode cX2_goesOn 53 = .ok (.iload_n 1, 1) := by decide +kernel
theorem dX2_goesOn_54 : decode cX2_goesOn 54 = .ok (.bipush 48, 2) := by decide +kernel
theorem dX2_goesOn_56 : decode cX2_goesOn 56 = .ok (.isub, 1) := by decide +kernel
theorem dX2_goesOn_57 : decode cX2_goesOn 57 = .ok (.bipush 9, 2) := by decide +kernel
theorem dX2_goesOn_59 : decode cX2_goesOn 59 = .ok (.invokestatic 21, 3) := by decide +kernel
theorem dX2_goesOn_62 : decode cX2_goesOn 62 = .ok (.ireturn, 1) := by decide +kernel
theorem dX2_goesOn_63 : decode cX2_goesOn 63 = .ok (.iload 4, 2) := by decide +kernel
theorem dX2_goesOn_65 : decode cX2_goesOn 65 = .ok (.bipush 20, 2) := by decide +kernel
theorem dX2_goesOn_67 : decode cX2_goesOn 67 = .ok (.if_icmp .lt 5, 3) := by decide +kernel
theorem dX2_goesOn_70 : decode cX2_goesOn 70 = .ok (.iconst 0, 1) := by decide +kernel
theorem dX2_goesOn_71 : decode cX2_goesOn 71 = .ok (.ireturn, 1) := by decide +kernel
theorem dX2_goesOn_72 : decode cX2_goesOn 72 = .ok (.iload 4, 2) := by decide +kernel
theorem dX2_goesOn_74 : decode cX2_goesOn 74 = .ok (.iconst 5, 1) := by decide +kernel
theorem dX2_goesOn_75 : decode cX2_goesOn 75 = .ok (.irem, 1) := by decide +kernel
theorem dX2_goesOn_76 : decode cX2_goesOn 76 = .ok (.tableswitch 81 0 3 #[32, 44, 59, 70], 32) := by decide +kernel
