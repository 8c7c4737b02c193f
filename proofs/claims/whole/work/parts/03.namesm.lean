theorem dX7_init_0 : decode cX7_init 0 = .ok (.aload_n 0, 1) := by decide +kernel
theorem dX7_init_1 : decode cX7_init 1 = .ok (.invokespecial 1, 3) := by decide +kernel
theorem dX7_init_4 : decode cX7_init 4 = .ok (.aload_n 0, 1) := by decide +kernel
theorem dX7_init_5 : decode cX7_init 5 = .ok (.bipush 6, 2) := by decide +kernel
theorem dX7_init_7 : decode cX7_init 7 = .ok (.newarray .int, 2) := by decide +kernel
theorem dX7_init_9 : decode cX7_init 9 = .ok (.putfield 7, 3) := by decide +kernel
theorem dX7_init_12 : decode cX7_init 12 = .ok (.aload_n 0, 1) := by decide +kernel
theorem dX7_init_13 : decode cX7_init 13 = .ok (.lconst 1, 1) := by decide +kernel
theorem dX7_init_14 : decode cX7_init 14 = .ok (.putfield 13, 3) := by decide +kernel
theorem dX7_init_17 : decode cX7_init 17 = .ok (.aload_n 0, 1) := by decide +kernel
theorem dX7_init_18 : decode cX7_init 18 = .ok (.bipush 6, 2) := by decide +kernel
theorem dX7_init_20 : decode cX7_init 20 = .ok (.newarray .int, 2) := by decide +kernel
theorem dX7_init_22 : decode cX7_init 22 = .ok (.putfield 17, 3) := by decide +kernel
theorem dX7_init_25 : decode cX7_init 25 = .ok (.aload_n 0, 1) := by decide +kernel
theorem dX7_init_26 : decode cX7_init 26 = .ok (.sipush 240, 3) := by decide +kernel
theorem dX7_init_29 : decode cX7_init 29 = .ok (.newarray .int, 2) := by decide +kernel
theorem dX7_init_31 : decode cX7_init 31 = .ok (.putfield 20, 3) := by decide +kernel
theorem dX7_init_34 : decode cX7_init 34 = .ok (.aload_n 0, 1) := by decide +kernel
theorem dX7_init_35 : decode cX7_init 35 = .ok (.bipush 40, 2) := by decide +kernel
theorem dX7_init_37 : decode cX7_init 37 = .ok (.newarray .int, 2) := by decide +kernel
theorem dX7_init_39 : decode cX7_init 39 = .ok (.putfield 23, 3) := by decide +kernel
theorem dX7_init_42 : decode cX7_init 42 = .ok (.aload_n 0, 1) := by decide +kernel
theorem dX7_init_43 : decode cX7_init 43 = .ok (.iconst 4, 1) := by decide +kernel
theorem dX7_init_44 : decode cX7_init 44 = .ok (.newarray .int, 2) := by decide +kernel
theorem dX7_init_46 : decode cX7_init 46 = .ok (.putfield 26, 3) := by decide +kernel
theorem dX7_init_49 : decode cX7_init 49 = .ok (.aload_n 0, 1) := by decide +kernel
theorem dX7_init_50 : decode cX7_init 50 = .ok (.bipush 16, 2) := by decide +kernel
theorem dX7_init_52 : decode cX7_init 52 = .ok (.newarray .int, 2) := by decide +kernel
theorem dX7_init_54 : decode cX7_init 54 = .ok (.putfield 29, 3) := by decide +kernel
theorem dX7_init_57 : decode cX7_init 57 = .ok (.aload_n 0, 1) := by decide +kernel
theorem dX7_init_58 : decode cX7_init 58 = .ok (.bipush 16, 2) := by decide +kernel
theorem dX7_init_60 : decode cX7_init 60 = .ok (.newarray .int, 2) := by decide +kernel
theorem dX7_init_62 : decode cX7_init 62 = .ok (.putfield 32, 3) := by decide +kernel
theorem dX7_init_65 : decode cX7_init 65 = .ok (.aload_n 0, 1) := by decide +kernel
theorem dX7_init_66 : decode cX7_init 66 = .ok (.bipush 16, 2) := by decide +kernel
theorem dX7_init_68 : decode cX7_init 68 = .ok (.newarray .int, 2) := by decide +kernel
theorem dX7_init_70 : decode cX7_init 70 = .ok (.putfield 35, 3) := by decide +kernel
theorem dX7_init_73 : decode cX7_init 73 = .ok (.aload_n 0, 1) := by decide +kernel
theorem dX7_init_74 : decode cX7_init 74 = .ok (.bipush 16, 2) := by decide +kernel
theorem dX7_init_76 : decode cX7_init 76 = .ok (.newarray .int, 2) := by decide +kernel
theorem dX7_init_78 : decode cX7_init 78 = .ok (.putfield 38, 3) := by decide +kernel
theorem dX7_init_81 : decode cX7_init 81 = .ok (.aload_n 0, 1) := by decide +kernel
theorem dX7_init_82 : decode cX7_init 82 = .ok (.bipush 40, 2) := by decide +kernel
theorem dX7_init_84 : decode cX7_init 84 = .ok (.newarray .int, 2) := by decide +kernel
theorem dX7_init_86 : decode cX7_init 86 = .ok (.putfield 41, 3) := by decide +kernel
theorem dX7_init_89 : decode cX7_init 89 = .ok (.aload_n 0, 1) := by decide +kernel
theorem dX7_init_90 : decode cX7_init 90 = .ok (.bipush 40, 2) := by decide +kernel
theorem dX7_init_92 : decode cX7_init 92 = .ok (.newarray .int, 2) := by decide +kernel
theorem dX7_init_94 : decode cX7_init 94 = .ok (.putfield 44, 3) := by decide +kernel
theorem dX7_init_97 : decode cX7_init 97 = .ok (.aload_n 0, 1) := by decide +kernel
theorem dX7_init_98 : decode cX7_init 98 = .ok (.bipush 40, 2) := by decide +kernel
theorem dX7_init_100 : decode cX7_init 100 = .ok (.newarray .int, 2) := by decide +kernel
theorem dX7_init_102 : decode cX7_init 102 = .ok (.putfield 47, 3) := by decide +kernel
theorem dX7_init_105 : decode cX7_init 105 = .ok (.aload_n 0, 1) := by decide +kernel
theorem dX7_init_106 : decode cX7_init 106 = .ok (.bipush 40, 2) := by decide +kernel
theorem dX7_init_108 : decode cX7_init 108 = .ok (.newarray .int, 2) := by decide +kernel
theorem dX7_init_110 : decode cX7_init 110 = .ok (.putfield 50, 3) := by decide +kernel
theorem dX7_init_113 : decode cX7_init 113 = .ok (.aload_n 0, 1) := by decide +kernel
theorem dX7_init_114 : decode cX7_init 114 = .ok (.bipush 40, 2) := by decide +kernel
theorem dX7_init_116 : decode cX7_init 116 = .ok (.newarray .int, 2) := by decide +kernel
theorem dX7_init_118 : decode cX7_init 118 = .ok (.putfield 53, 3) := by decide +kernel
theorem dX7_init_121 : decode cX7_init 121 = .ok (.aload_n 0, 1) := by decide +kernel
theorem dX7_init_122 : decode cX7_init 122 = .ok (.bipush 40, 2) := by decide +kernel
theorem dX7_init_124 : decode cX7_init 124 = .ok (.newarray .int, 2) := by decide +kernel
theorem dX7_init_126 : decode cX7_init 126 = .ok (.putfield 56, 3) := by decide +kernel
theorem dX7_init_129 : decode cX7_init 129 = .ok (.aload_n 0, 1) := by decide +kernel
theorem dX7_init_130 : decode cX7_init 130 = .ok (.bipush 40, 2) := by decide +kernel
theorem dX7_init_132 : decode cX7_init 132 = .ok (.newarray .int, 2) := by decide +kernel
theorem dX7_init_134 : decode cX7_init 134 = .ok (.putfield 59, 3) := by decide +kernel
theorem dX7_init_137 : decode cX7_init 137 = .ok (.aload_n 0, 1) := by decide +kernel
theorem dX7_init_138 : decode cX7_init 138 = .ok (.bipush 40, 2) := by decide +kernel
theorem dX7_init_140 : decode cX7_init 140 = .ok (.newarray .boolean, 2) := by decide +kernel
theorem dX7_init_142 : decode cX7_init 142 = .ok (.putfield 62, 3) := by decide +kernel
theorem dX7_init_145 : decode cX7_init 145 = .ok (.aload_n 0, 1) := by decide +kernel
theorem dX7_init_146 : decode cX7_init 146 = .ok (.bipush 36, 2) := by decide +kernel
theorem dX7_init_148 : decode cX7_init 148 = .ok (.newarray .boolean, 2) := by decide +kernel
theorem dX7_init_150 : decode cX7_init 150 = .ok (.putfield 66, 3) := by decide +kernel
theorem dX7_init_153 : decode cX7_init 153 = .ok (.aload_n 0, 1) := by decide +kernel
theorem dX7_init_154 : decode cX7_init 154 = .ok (.bipush 36, 2) := by decide +kernel
theorem dX7_init_156 : decode cX7_init 156 = .ok (.newarray .int, 2) := by decide +kernel
theorem dX7_init_158 : decode cX7_init 158 = .ok (.putfield 69, 3) := by decide +kernel
theorem dX7_init_161 : decode cX7_init 161 = .ok (.aload_n 0, 1) := by decide +kernel
theorem dX7_init_162 : decode cX7_init 162 = .ok (.bipush 36, 2) := by decide +kernel
theorem dX7_init_164 : decode cX7_init 164 = .ok (.newarray .int, 2) := by decide +kernel
theorem dX7_init_166 : decode cX7_init 166 = .ok (.putfield 72, 3) := by decide +kernel
theorem dX7_init_169 : decode cX7_init 169 = .ok (.iconst 0, 1) := by decide +kernel
theorem dX7_init_170 : decode cX7_init 170 = .ok (.istore_n 1, 1) := by decide +kernel
theorem dX7_init_171 : decode cX7_init 171 = .ok (.iload_n 1, 1) := by decide +kernel
theorem dX7_init_172 : decode cX7_init 172 = .ok (.bipush 6, 2) := by decide +kernel
theorem dX7_init_174 : decode cX7_init 174 = .ok (.if_icmp .ge 17, 3) := by decide +kernel
theorem dX7_init_177 : decode cX7_init 177 = .ok (.aload_n 0, 1) := by decide +kernel
theorem dX7_init_178 : decode cX7_init 178 = .ok (.getfield 17, 3) := by decide +kernel
theorem dX7_init_181 : decode cX7_init 181 = .ok (.iload_n 1, 1) := by decide +kernel
theorem dX7_init_182 : decode cX7_init 182 = .ok (.bipush (-9), 2) := by decide +kernel
theorem dX7_init_184 : decode cX7_init 184 = .ok (.iastore, 1) := by decide +kernel
theorem dX7_init_185 : decode cX7_init 185 = .ok (.iinc 1 1, 3) := by decide +kernel
theorem dX7_init_188 : decode cX7_init 188 = .ok (.goto (-17), 3) := by decide +kernel
theorem dX7_init_191 : decode cX7_init 191 = .ok (.return_, 1) := by decide +kernel
theorem dX7_in_0 : decode cX7_in 0 = .ok (.iload_n 0, 1) := by decide +kernel
theorem dX7_in_1 : decode cX7_in 1 = .ok (.iload_n 1, 1) := by decide +kernel
theorem dX7_in_2 : decode cX7_in 2 = .ok (.if_icmp .lt 12, 3) := by decide +kernel
theorem dX7_in_5 : decode cX7_in 5 = .ok (.iload_n 0, 1) := by decide +kernel
theorem dX7_in_6 : decode cX7_in 6 = .ok (.iload_n 2, 1) := by decide +kernel
theorem dX7_in_7 : decode cX7_in 7 = .ok (.if_icmp .gt 7, 3) := by decide +kernel
theorem dX7_in_10 : decode cX7_in 10 = .ok (.iconst 1, 1) := by decide +kernel
theorem dX7_in_11 : decode cX7_in 11 = .ok (.goto 4, 3) := by decide +kernel
theorem dX7_in_14 : decode cX7_in 14 = .ok (.iconst 0, 1) := by decide +kernel
theorem dX7_in_15 : decode cX7_in 15 = .ok (.ireturn, 1) := by decide +kernel
theorem dX7_meets_0 : decode cX7_meets 0 = .ok (.aload_n 0, 1) := by decide +kernel
theorem dX7_meets_1 : decode cX7_meets 1 = .ok (.iload_n 1, 1) := by decide +kernel
theorem dX7_meets_2 : decode cX7_meets 2 = .ok (.putfield 75, 3) := by decide +kernel
theorem dX7_meets_5 : decode cX7_meets 5 = .ok (.aload_n 0, 1) := by decide +kernel
theorem dX7_meets_6 : decode cX7_meets 6 = .ok (.getfield 7, 3) := by decide +kernel
theorem dX7_meets_9 : decode cX7_meets 9 = .ok (.iload_n 1, 1) := by decide +kernel
theorem dX7_meets_10 : decode cX7_meets 10 = .ok (.dup2, 1) := by decide +kernel
theorem dX7_meets_11 : decode cX7_meets 11 = .ok (.iaload, 1) := by decide +kernel
theorem dX7_meets_12 : decode cX7_meets 12 = .ok (.iconst 1, 1) := by decide +kernel
theorem dX7_meets_13 : decode cX7_meets 13 = .ok (.iadd, 1) := by decide +kernel
theorem dX7_meets_14 : decode cX7_meets 14 = .ok (.iastore, 1) := by decide +kernel
theorem dX7_meets_15 : decode cX7_meets 15 = .ok (.bipush (-3), 2) := by decide +kernel
theorem dX7_meets_17 : decode cX7_meets 17 = .ok (.ireturn, 1) := by decide +kernel
theorem dX7_size_0 : decode cX7_size 0 = .ok (.lload_n 0, 1) := by decide +kernel
theorem dX7_size_1 : decode cX7_size 1 = .ok (.lconst 0, 1) := by decide +kernel
theorem dX7_size_2 : decode cX7_size 2 = .ok (.lcmp, 1) := by decide +kernel
theorem dX7_size_3 : decode cX7_size 3 = .ok (.ifCond .ge 8, 3) := by decide +kernel
theorem dX7_size_6 : decode cX7_size 6 = .ok (.lload_n 0, 1) := by decide +kernel
theorem dX7_size_7 : decode cX7_size 7 = .ok (.lneg, 1) := by decide +kernel
theorem dX7_size_8 : decode cX7_size 8 = .ok (.goto 4, 3) := by decide +kernel
theorem dX7_size_11 : decode cX7_size 11 = .ok (.lload_n 0, 1) := by decide +kernel
theorem dX7_size_12 : decode cX7_size 12 = .ok (.lreturn, 1) := by decide +kernel
set_option maxRecDepth 20000 in
theorem ggX7_divisor_X7_size : GoodIn wsX7_divisor wsX7_size := goodIn_r _ [4] (by decide +kernel) (by decide +kernel)
set_option maxRecDepth 20000 in
theorem gX7_divisor_X7_size : GoodIn wsX7_divisor (va_wsS RX7 79 yX7_size wsX7_size) := goodIn_app (goodIn_of _ (by decide +kernel)) ggX7_divisor_X7_size
theorem dX7_divisor_0 : decode cX7_divisor 0 = .ok (.lload_n 0, 1) := by decide +kernel
theorem dX7_divisor_1 : decode cX7_divisor 1 = .ok (.invokestatic 79, 3) := by decide +kernel
theorem dX7_divisor_4 : decode cX7_divisor 4 = .ok (.lstore 4, 2) := by decide +kernel
theorem dX7_divisor_6 : decode cX7_divisor 6 = .ok (.lload_n 2, 1) := by decide +kernel
theorem dX7_divisor_7 : decode cX7_divisor 7 = .ok (.invokestatic 79, 3) := by decide +kernel
theorem dX7_divisor_10 : decode cX7_divisor 10 = .ok (.lstore 6, 2) := by decide +kernel
theorem dX7_divisor_12 : decode cX7_divisor 12 = .ok (.lload 6, 2) := by decide +kernel
theorem dX7_divisor_14 : decode cX7_divisor 14 = .ok (.lconst 0, 1) := by decide +kernel
theorem dX7_divisor_15 : decode cX7_divisor 15 = .ok (.lcmp, 1) := by decide +kernel
theorem dX7_divisor_16 : decode cX7_divisor 16 = .ok (.ifCond .eq 21, 3) := by decide +kernel
theorem dX7_divisor_19 : decode cX7_divisor 19 = .ok (.lload 4, 2) := by decide +kernel
theorem dX7_divisor_21 : decode cX7_divisor 21 = .ok (.lload 6, 2) := by decide +kernel
theorem dX7_divisor_23 : decode cX7_divisor 23 = .ok (.lrem, 1) := by decide +kernel
theorem dX7_divisor_24 : decode cX7_divisor 24 = .ok (.lstore 8, 2) := by decide +kernel
theorem dX7_divisor_26 : decode cX7_divisor 26 = .ok (.lload 6, 2) := by decide +kernel
theorem dX7_divisor_28 : decode cX7_divisor 28 = .ok (.lstore 4, 2) := by decide +kernel
theorem dX7_divisor_30 : decode cX7_divisor 30 = .ok (.lload 8, 2) := by decide +kernel
theorem dX7_divisor_32 : decode cX7_divisor 32 = .ok (.lstore 6, 2) := by decide +kernel
theorem dX7_divisor_34 : decode cX7_divisor 34 = .ok (.goto (-22), 3) := by decide +kernel
theorem dX7_divisor_37 : decode cX7_divisor 37 = .ok (.lload 4, 2) := by decide +kernel
theorem dX7_divisor_39 : decode cX7_divisor 39 = .ok (.lreturn, 1) := by decide +kernel
set_option maxRecDepth 20000 in
theorem ggX7_tell_X7_divisor : GoodIn wsX7_tell wsX7_divisor := goodIn_r _ [6, 7, 8, 5, 9] (by decide +kernel) (by decide +kernel)
set_option maxRecDepth 20000 in
theorem gX7_tell_X7_divisor : GoodIn wsX7_tell (va_wsS RX7 83 yX7_divisor wsX7_divisor) := goodIn_app (goodIn_of _ (by decide +kernel)) ggX7_tell_X7_divisor
theorem dX7_tell_0 : decode cX7_tell 0 = .ok (.lload_n 3, 1) := by decide +kernel
theorem dX7_tell_1 : decode cX7_tell 1 = .ok (.lconst 0, 1) := by decide +kernel
theorem dX7_tell_2 : decode cX7_tell 2 = .ok (.lcmp, 1) := by decide +kernel
theorem dX7_tell_3 : decode cX7_tell 3 = .ok (.ifCond .ge 12, 3) := by decide +kernel
theorem dX7_tell_6 : decode cX7_tell 6 = .ok (.lload_n 1, 1) := by decide +kernel
theorem dX7_tell_7 : decode cX7_tell 7 = .ok (.lload_n 3, 1) := by decide +kernel
theorem dX7_tell_8 : decode cX7_tell 8 = .ok (.invokestatic 83, 3) := by decide +kernel
theorem dX7_tell_11 : decode cX7_tell 11 = .ok (.lneg, 1) := by decide +kernel
theorem dX7_tell_12 : decode cX7_tell 12 = .ok (.goto 8, 3) := by decide +kernel
theorem dX7_tell_15 : decode cX7_tell 15 = .ok (.lload_n 1, 1) := by decide +kernel
theorem dX7_tell_16 : decode cX7_tell 16 = .ok (.lload_n 3, 1) := by decide +kernel
theorem dX7_tell_17 : decode cX7_tell 17 = .ok (.invokestatic 83, 3) := by decide +kernel
theorem dX7_tell_20 : decode cX7_tell 20 = .ok (.lstore 6, 2) := by decide +kernel
theorem dX7_tell_22 : decode cX7_tell 22 = .ok (.aload_n 0, 1) := by decide +kernel
theorem dX7_tell_23 : decode cX7_tell 23 = .ok (.lload_n 1, 1) := by decide +kernel
theorem dX7_tell_24 : decode cX7_tell 24 = .ok (.lload 6, 2) := by decide +kernel
theorem dX7_tell_26 : decode cX7_tell 26 = .ok (.ldiv, 1) := by decide +kernel
theorem dX7_tell_27 : decode cX7_tell 27 = .ok (.putfield 87, 3) := by decide +kernel
theorem dX7_tell_30 : decode cX7_tell 30 = .ok (.aload_n 0, 1) := by decide +kernel
theorem dX7_tell_31 : decode cX7_tell 31 = .ok (.lload_n 3, 1) := by decide +kernel
theorem dX7_tell_32 : decode cX7_tell 32 = .ok (.lload 6, 2) := by decide +kernel
theorem dX7_tell_34 : decode cX7_tell 34 = .ok (.ldiv, 1) := by decide +kernel
theorem dX7_tell_35 : decode cX7_tell 35 = .ok (.putfield 13, 3) := by decide +kernel
theorem dX7_tell_38 : decode cX7_tell 38 = .ok (.iload 5, 2) := by decide +kernel
theorem dX7_tell_40 : decode cX7_tell 40 = .ok (.ireturn, 1) := by decide +kernel
theorem dX7_ask_0 : decode cX7_ask 0 = .ok (.aload_n 0, 1) := by decide +kernel
theorem dX7_ask_1 : decode cX7_ask 1 = .ok (.lload_n 1, 1) := by decide +kernel
theorem dX7_ask_2 : decode cX7_ask 2 = .ok (.putfield 90, 3) := by decide +kernel
theorem dX7_ask_5 : decode cX7_ask 5 = .ok (.iload_n 3, 1) := by decide +kernel
theorem dX7_ask_6 : decode cX7_ask 6 = .ok (.ireturn, 1) := by decide +kernel
set_option maxRecDepth 20000 in
theorem ggX7_isRow_X7_in : GoodIn wsX7_isRow wsX7_in := goodIn_r _ [4] (by decide +kernel) (by decide +kernel)
set_option maxRecDepth 20000 in
theorem gX7_isRow_X7_in : GoodIn wsX7_isRow (va_wsS RX7 93 yX7_in wsX7_in) := goodIn_app (goodIn_of _ (by decide +kernel)) ggX7_isRow_X7_in
theorem dX7_isRow_0 : decode cX7_isRow 0 = .ok (.iload_n 0, 1) := by decide +kernel
theorem dX7_isRow_1 : decode cX7_isRow 1 = .ok (.iconst 0, 1) := by decide +kernel
theorem dX7_isRow_2 : decode cX7_isRow 2 = .ok (.iconst 5, 1) := by decide +kernel
theorem dX7_isRow_3 : decode cX7_isRow 3 = .ok (.invokestatic 93, 3) := by decide +kernel
theorem dX7_isRow_6 : decode cX7_isRow 6 = .ok (.ireturn, 1) := by decide +kernel
set_option maxRecDepth 20000 in
theorem ggX7_looked_X7_isRow : GoodIn wsX7_looked wsX7_isRow := goodIn_r _ [5, 6, 7, 4, 8] (by decide +kernel) (by decide +kernel)
set_option maxRecDepth 20000 in
theorem gX7_looked_X7_isRow : GoodIn wsX7_looked (va_wsS RX7 97 yX7_isRow wsX7_isRow) := goodIn_app (goodIn_of _ (by decide +kernel)) ggX7_looked_X7_isRow
set_option maxRecDepth 20000 in
theorem ggX7_looked_X7_meets : GoodIn wsX7_looked wsX7_meets := goodIn_r _ [12, 13, 14, 15, 16, 17, 18, 19, 20, 21, 22, 23, 24, 25, 26, 27, 28, 29, 30, 31, 32, 33, 34, 35, 36, 37, 38, 39, 40, 41, 42, 43, 44] (by decide +kernel) (by decide +kernel)
set_option maxRecDepth 20000 in
theorem gX7_looked_X7_meets : GoodIn wsX7_looked (wsV RX7 101 RX7 yX7_meets wsX7_meets) := goodIn_app (goodIn_of _ (by decide +kernel)) ggX7_looked_X7_meets
theorem dX7_looked_0 : decode cX7_looked 0 = .ok (.iload_n 1, 1) := by decide +kernel
theorem dX7_looked_1 : decode cX7_looked 1 = .ok (.invokestatic 97, 3) := by decide +kernel
theorem dX7_looked_4 : decode cX7_looked 4 = .ok (.ifCond .ne 7, 3) := by decide +kernel
theorem dX7_looked_7 : decode cX7_looked 7 = .ok (.iconst (-1), 1) := by decide +kernel
theorem dX7_looked_8 : decode cX7_looked 8 = .ok (.goto 21, 3) := by decide +kernel
theorem dX7_looked_11 : decode cX7_looked 11 = .ok (.aload_n 0, 1) := by decide +kernel
theorem dX7_looked_12 : decode cX7_looked 12 = .ok (.getfield 17, 3) := by decide +kernel
theorem dX7_looked_15 : decode cX7_looked 15 = .ok (.iload_n 1, 1) := by decide +kernel
theorem dX7_looked_16 : decode cX7_looked 16 = .ok (.iaload, 1) := by decide +kernel
theorem dX7_looked_17 : decode cX7_looked 17 = .ok (.ifCond .ge 11, 3) := by decide +kernel
theorem dX7_looked_20 : decode cX7_looked 20 = .ok (.aload_n 0, 1) := by decide +kernel
theorem dX7_looked_21 : decode cX7_looked 21 = .ok (.iconst 1, 1) := by decide +kernel
theorem dX7_looked_22 : decode cX7_looked 22 = .ok (.invokevirtual 101, 3) := by decide +kernel
theorem dX7_looked_25 : decode cX7_looked 25 = .ok (.goto 4, 3) := by decide +kernel
theorem dX7_looked_28 : decode cX7_looked 28 = .ok (.iconst 0, 1) := by decide +kernel
theorem dX7_looked_29 : decode cX7_looked 29 = .ok (.ireturn, 1) := by decide +kernel
set_option maxRecDepth 20000 in
theorem ggX7_row_X7_isRow : GoodIn wsX7_row wsX7_isRow := goodIn_r _ [6, 7, 8, 5, 9] (by decide +kernel) (by decide +kernel)
set_option maxRecDepth 20000 in
theorem gX7_row_X7_isRow : GoodIn wsX7_row (va_wsS RX7 97 yX7_isRow wsX7_isRow) := goodIn_app (goodIn_of _ (by decide +kernel)) ggX7_row_X7_isRow
set_option maxRecDepth 20000 in
theorem ggX7_row_X7_meets : GoodIn wsX7_row wsX7_meets := goodIn_r _ [13, 14, 15, 16, 17, 18, 19, 20, 21, 22, 23, 24, 25, 26, 27, 28, 29, 30, 31, 32, 33, 34, 35, 36, 37, 38, 39, 40, 41, 42, 43, 44, 45] (by decide +kernel) (by decide +kernel)
set_option maxRecDepth 20000 in
theorem gX7_row_X7_meets : GoodIn wsX7_row (wsV RX7 101 RX7 yX7_meets wsX7_meets) := goodIn_app (goodIn_of _ (by decide +kernel)) ggX7_row_X7_meets
theorem dX7_row_0 : decode cX7_row 0 = .ok (.iload_n 1, 1) := by decide +kernel
theorem dX7_row_1 : decode cX7_row 1 = .ok (.invokestatic 97, 3) := by decide +kernel
theorem dX7_row_4 : decode cX7_row 4 = .ok (.ifCond .eq 9, 3) := by decide +kernel
theorem dX7_row_7 : decode cX7_row 7 = .ok (.iload_n 2, 1) := by decide +kernel
theorem dX7_row_8 : decode cX7_row 8 = .ok (.bipush 40, 2) := by decide +kernel
theorem dX7_row_10 : decode cX7_row 10 = .ok (.if_icmp .le 5, 3) := by decide +kernel
theorem dX7_row_13 : decode cX7_row 13 = .ok (.iconst (-1), 1) := by decide +kernel
theorem dX7_row_14 : decode cX7_row 14 = .ok (.ireturn, 1) := by decide +kernel
theorem dX7_row_15 : decode cX7_row 15 = .ok (.iload_n 2, 1) := by decide +kernel
theorem dX7_row_16 : decode cX7_row 16 = .ok (.ifCond .ge 9, 3) := by decide +kernel
theorem dX7_row_19 : decode cX7_row 19 = .ok (.aload_n 0, 1) := by decide +kernel
theorem dX7_row_20 : decode cX7_row 20 = .ok (.iconst 5, 1) := by decide +kernel
theorem dX7_row_21 : decode cX7_row 21 = .ok (.invokevirtual 101, 3) := by decide +kernel
theorem dX7_row_24 : decode cX7_row 24 = .ok (.ireturn, 1) := by decide +kernel
theorem dX7_row_25 : decode cX7_row 25 = .ok (.aload_n 0, 1) := by decide +kernel
theorem dX7_row_26 : decode cX7_row 26 = .ok (.getfield 17, 3) := by decide +kernel
theorem dX7_row_29 : decode cX7_row 29 = .ok (.iload_n 1, 1) := by decide +kernel
theorem dX7_row_30 : decode cX7_row 30 = .ok (.iload_n 2, 1) := by decide +kernel
theorem dX7_row_31 : decode cX7_row 31 = .ok (.iastore, 1) := by decide +kernel
theorem dX7_row_32 : decode cX7_row 32 = .ok (.iconst 0, 1) := by decide +kernel
theorem dX7_row_33 : decode cX7_row 33 = .ok (.istore_n 3, 1) := by decide +kernel
theorem dX7_row_34 : decode cX7_row 34 = .ok (.iload_n 3, 1) := by decide +kernel
theorem dX7_row_35 : decode cX7_row 35 = .ok (.bipush 40, 2) := by decide +kernel
theorem dX7_row_37 : decode cX7_row 37 = .ok (.if_icmp .ge 21, 3) := by decide +kernel
theorem dX7_row_40 : decode cX7_row 40 = .ok (.aload_n 0, 1) := by decide +kernel
theorem dX7_row_41 : decode cX7_row 41 = .ok (.getfield 20, 3) := by decide +kernel
theorem dX7_row_44 : decode cX7_row 44 = .ok (.bipush 40, 2) := by decide +kernel
theorem dX7_row_46 : decode cX7_row 46 = .ok (.iload_n 1, 1) := by decide +kernel
theorem dX7_row_47 : decode cX7_row 47 = .ok (.imul, 1) := by decide +kernel
theorem dX7_row_48 : decode cX7_row 48 = .ok (.iload_n 3, 1) := by decide +kernel
theorem dX7_row_49 : decode cX7_row 49 = .ok (.iadd, 1) := by decide +kernel
theorem dX7_row_50 : decode cX7_row 50 = .ok (.iconst 0, 1) := by decide +kernel
theorem dX7_row_51 : decode cX7_row 51 = .ok (.iastore, 1) := by decide +kernel
theorem dX7_row_52 : decode cX7_row 52 = .ok (.iinc 3 1, 3) := by decide +kernel
theorem dX7_row_55 : decode cX7_row 55 = .ok (.goto (-21), 3) := by decide +kernel
theorem dX7_row_58 : decode cX7_row 58 = .ok (.iload_n 2, 1) := by decide +kernel
theorem dX7_row_59 : decode cX7_row 59 = .ok (.ireturn, 1) := by decide +kernel
set_option maxRecDepth 20000 in
theorem ggX7_lay_X7_in : GoodIn wsX7_lay wsX7_in := goodIn_r _ [9] (by decide +kernel) (by decide +kernel)
set_option maxRecDepth 20000 in
theorem gX7_lay_X7_in : GoodIn wsX7_lay (va_wsS RX7 93 yX7_in wsX7_in) := goodIn_app (goodIn_of _ (by decide +kernel)) ggX7_lay_X7_in
set_option maxRecDepth 20000 in
theorem ggX7_lay_X7_looked : GoodIn wsX7_lay wsX7_looked := goodIn_r _ [13, 3, 14, 15, 8, 16, 6, 7, 9, 17, 18, 19, 20, 21, 22, 23, 24, 25, 26, 27, 28, 29, 30, 31, 32, 33, 34, 35, 36, 37, 38, 39, 40, 41, 42, 43, 44, 45, 46, 47, 48, 49, 50, 51, 52] (by decide +kernel) (by decide +kernel)
set_option maxRecDepth 20000 in
theorem gX7_lay_X7_looked : GoodIn wsX7_lay (wsV RX7 107 RX7 yX7_looked wsX7_looked) := goodIn_app (goodIn_of _ (by decide +kernel)) ggX7_lay_X7_looked
set_option maxRecDepth 20000 in
theorem ggX7_lay_X7_meets : GoodIn wsX7_lay wsX7_meets := goodIn_r _ [20, 21, 22, 23, 24, 25, 26, 27, 28, 29, 30, 31, 32, 33, 34, 35, 36, 37, 38, 39, 40, 41, 42, 43, 44, 45, 46, 47, 48, 49, 50, 51, 52] (by decide +kernel) (by decide +kernel)
set_option maxRecDepth 20000 in
theorem gX7_lay_X7_meets : GoodIn wsX7_lay (wsV RX7 101 RX7 yX7_meets wsX7_meets) := goodIn_app (goodIn_of _ (by decide +kernel)) ggX7_lay_X7_meets
theorem dX7_lay_0 : decode cX7_lay 0 = .ok (.iload_n 3, 1) := by decide +kernel
theorem dX7_lay_1 : decode cX7_lay 1 = .ok (.ldc 105, 2) := by decide +kernel
theorem dX7_lay_3 : decode cX7_lay 3 = .ok (.ldc 106, 2) := by decide +kernel
theorem dX7_lay_5 : decode cX7_lay 5 = .ok (.invokestatic 93, 3) := by decide +kernel
theorem dX7_lay_8 : decode cX7_lay 8 = .ok (.ifCond .ne 5, 3) := by decide +kernel
theorem dX7_lay_11 : decode cX7_lay 11 = .ok (.iconst (-1), 1) := by decide +kernel
theorem dX7_lay_12 : decode cX7_lay 12 = .ok (.ireturn, 1) := by decide +kernel
theorem dX7_lay_13 : decode cX7_lay 13 = .ok (.aload_n 0, 1) := by decide +kernel
theorem dX7_lay_14 : decode cX7_lay 14 = .ok (.iload_n 1, 1) := by decide +kernel
theorem dX7_lay_15 : decode cX7_lay 15 = .ok (.invokevirtual 107, 3) := by decide +kernel
theorem dX7_lay_18 : decode cX7_lay 18 = .ok (.istore 4, 2) := by decide +kernel
theorem dX7_lay_20 : decode cX7_lay 20 = .ok (.iload 4, 2) := by decide +kernel
theorem dX7_lay_22 : decode cX7_lay 22 = .ok (.ifCond .ge 6, 3) := by decide +kernel
theorem dX7_lay_25 : decode cX7_lay 25 = .ok (.iload 4, 2) := by decide +kernel
theorem dX7_lay_27 : decode cX7_lay 27 = .ok (.ireturn, 1) := by decide +kernel
theorem dX7_lay_28 : decode cX7_lay 28 = .ok (.iload_n 2, 1) := by decide +kernel
theorem dX7_lay_29 : decode cX7_lay 29 = .ok (.iconst 0, 1) := by decide +kernel
theorem dX7_lay_30 : decode cX7_lay 30 = .ok (.aload_n 0, 1) := by decide +kernel
theorem dX7_lay_31 : decode cX7_lay 31 = .ok (.getfield 17, 3) := by decide +kernel
theorem dX7_lay_34 : decode cX7_lay 34 = .ok (.iload_n 1, 1) := by decide +kernel
theorem dX7_lay_35 : decode cX7_lay 35 = .ok (.iaload, 1) := by decide +kernel
theorem dX7_lay_36 : decode cX7_lay 36 = .ok (.iconst 1, 1) := by decide +kernel
theorem dX7_lay_37 : decode cX7_lay 37 = .ok (.isub, 1) := by decide +kernel
theorem dX7_lay_38 : decode cX7_lay 38 = .ok (.invokestatic 93, 3) := by decide +kernel
theorem dX7_lay_41 : decode cX7_lay 41 = .ok (.ifCond .ne 9, 3) := by decide +kernel
theorem dX7_lay_44 : decode cX7_lay 44 = .ok (.aload_n 0, 1) := by decide +kernel
theorem dX7_lay_45 : decode cX7_lay 45 = .ok (.iconst 2, 1) := by decide +kernel
theorem dX7_lay_46 : decode cX7_lay 46 = .ok (.invokevirtual 101, 3) := by decide +kernel
theorem dX7_lay_49 : decode cX7_lay 49 = .ok (.ireturn, 1) := by decide +kernel
theorem dX7_lay_50 : decode cX7_lay 50 = .ok (.aload_n 0, 1) := by decide +kernel
theorem dX7_lay_51 : decode cX7_lay 51 = .ok (.aload_n 0, 1) := by decide +kernel
theorem dX7_lay_52 : decode cX7_lay 52 = .ok (.getfield 20, 3) := by decide +kernel
theorem dX7_lay_55 : decode cX7_lay 55 = .ok (.bipush 40, 2) := by decide +kernel
theorem dX7_lay_57 : decode cX7_lay 57 = .ok (.iload_n 1, 1) := by decide +kernel
theorem dX7_lay_58 : decode cX7_lay 58 = .ok (.imul, 1) := by decide +kernel
theorem dX7_lay_59 : decode cX7_lay 59 = .ok (.iload_n 2, 1) := by decide +kernel
theorem dX7_lay_60 : decode cX7_lay 60 = .ok (.iadd, 1) := by decide +kernel
theorem dX7_lay_61 : decode cX7_lay 61 = .ok (.iaload, 1) := by decide +kernel
theorem dX7_lay_62 : decode cX7_lay 62 = .ok (.i2l, 1) := by decide +kernel
theorem dX7_lay_63 : decode cX7_lay 63 = .ok (.putfield 90, 3) := by decide +kernel
theorem dX7_lay_66 : decode cX7_lay 66 = .ok (.aload_n 0, 1) := by decide +kernel
theorem dX7_lay_67 : decode cX7_lay 67 = .ok (.getfield 20, 3) := by decide +kernel
theorem dX7_lay_70 : decode cX7_lay 70 = .ok (.bipush 40, 2) := by decide +kernel
theorem dX7_lay_72 : decode cX7_lay 72 = .ok (.iload_n 1, 1) := by decide +kernel
theorem dX7_lay_73 : decode cX7_lay 73 = .ok (.imul, 1) := by decide +kernel
theorem dX7_lay_74 : decode cX7_lay 74 = .ok (.iload_n 2, 1) := by decide +kernel
theorem dX7_lay_75 : decode cX7_lay 75 = .ok (.iadd, 1) := by decide +kernel
theorem dX7_lay_76 : decode cX7_lay 76 = .ok (.iload_n 3, 1) := by decide +kernel
theorem dX7_lay_77 : decode cX7_lay 77 = .ok (.iastore, 1) := by decide +kernel
theorem dX7_lay_78 : decode cX7_lay 78 = .ok (.iconst 1, 1) := by decide +kernel
theorem dX7_lay_79 : decode cX7_lay 79 = .ok (.ireturn, 1) := by decide +kernel
set_option maxRecDepth 20000 in
theorem ggX7_tear_X7_looked : GoodIn wsX7_tear wsX7_looked := goodIn_r _ [6, 1, 7, 8, 5, 9, 10, 11, 12, 13, 14, 15, 16, 17, 18, 19, 20, 21, 22, 23, 24, 25, 26, 27, 28, 29, 30, 31, 32, 33, 34, 35, 36, 37, 38, 39, 40, 41, 42, 43, 44, 45, 46, 47, 48] (by decide +kernel) (by decide +kernel)
set_option maxRecDepth 20000 in
theorem gX7_tear_X7_looked : GoodIn wsX7_tear (wsV RX7 107 RX7 yX7_looked wsX7_looked) := goodIn_app (goodIn_of _ (by decide +kernel)) ggX7_tear_X7_looked
theorem dX7_tear_0 : decode cX7_tear 0 = .ok (.aload_n 0, 1) := by decide +kernel
theorem dX7_tear_1 : decode cX7_tear 1 = .ok (.iload_n 1, 1) := by decide +kernel
theorem dX7_tear_2 : decode cX7_tear 2 = .ok (.invokevirtual 107, 3) := by decide +kernel
theorem dX7_tear_5 : decode cX7_tear 5 = .ok (.istore_n 2, 1) := by decide +kernel
theorem dX7_tear_6 : decode cX7_tear 6 = .ok (.iload_n 2, 1) := by decide +kernel
theorem dX7_tear_7 : decode cX7_tear 7 = .ok (.ifCond .ge 5, 3) := by decide +kernel
theorem dX7_tear_10 : decode cX7_tear 10 = .ok (.iload_n 2, 1) := by decide +kernel
theorem dX7_tear_11 : decode cX7_tear 11 = .ok (.ireturn, 1) := by decide +kernel
theorem dX7_tear_12 : decode cX7_tear 12 = .ok (.aload_n 0, 1) := by decide +kernel
theorem dX7_tear_13 : decode cX7_tear 13 = .ok (.getfield 17, 3) := by decide +kernel
theorem dX7_tear_16 : decode cX7_tear 16 = .ok (.iload_n 1, 1) := by decide +kernel
theorem dX7_tear_17 : decode cX7_tear 17 = .ok (.bipush (-9), 2) := by decide +kernel
theorem dX7_tear_19 : decode cX7_tear 19 = .ok (.iastore, 1) := by decide +kernel
theorem dX7_tear_20 : decode cX7_tear 20 = .ok (.iconst 1, 1) := by decide +kernel
theorem dX7_tear_21 : decode cX7_tear 21 = .ok (.ireturn, 1) := by decide +kernel
set_option maxRecDepth 20000 in
theorem ggX7_copy_X7_isRow : GoodIn wsX7_copy wsX7_isRow := goodIn_r _ [7, 8, 9, 6, 10] (by decide +kernel) (by decide +kernel)
set_option maxRecDepth 20000 in
theorem gX7_copy_X7_isRow : GoodIn wsX7_copy (va_wsS RX7 97 yX7_isRow wsX7_isRow) := goodIn_app (goodIn_of _ (by decide +kernel)) ggX7_copy_X7_isRow
set_option maxRecDepth 20000 in
theorem ggX7_copy_X7_meets : GoodIn wsX7_copy wsX7_meets := goodIn_r _ [14, 15, 16, 17, 18, 19, 20, 21, 22, 23, 24, 25, 26, 27, 28, 29, 30, 31, 32, 33, 34, 35, 36, 37, 38, 39, 40, 41, 42, 43, 44, 45, 46] (by decide +kernel) (by decide +kernel)
set_option maxRecDepth 20000 in
theorem gX7_copy_X7_meets : GoodIn wsX7_copy (wsV RX7 101 RX7 yX7_meets wsX7_meets) := goodIn_app (goodIn_of _ (by decide +kernel)) ggX7_copy_X7_meets
theorem dX7_copy_0 : decode cX7_copy 0 = .ok (.iload_n 1, 1) := by decide +kernel
theorem dX7_copy_1 : decode cX7_copy 1 = .ok (.invokestatic 97, 3) := by decide +kernel
theorem dX7_copy_4 : decode cX7_copy 4 = .ok (.ifCond .eq 10, 3) := by decide +kernel
theorem dX7_copy_7 : decode cX7_copy 7 = .ok (.iload_n 3, 1) := by decide +kernel
theorem dX7_copy_8 : decode cX7_copy 8 = .ok (.invokestatic 97, 3) := by decide +kernel
theorem dX7_copy_11 : decode cX7_copy 11 = .ok (.ifCond .ne 5, 3) := by decide +kernel
theorem dX7_copy_14 : decode cX7_copy 14 = .ok (.iconst (-1), 1) := by decide +kernel
theorem dX7_copy_15 : decode cX7_copy 15 = .ok (.ireturn, 1) := by decide +kernel
theorem dX7_copy_16 : decode cX7_copy 16 = .ok (.iload 5, 2) := by decide +kernel
theorem dX7_copy_18 : decode cX7_copy 18 = .ok (.ifCond .ge 9, 3) := by decide +kernel
theorem dX7_copy_21 : decode cX7_copy 21 = .ok (.aload_n 0, 1) := by decide +kernel
theorem dX7_copy_22 : decode cX7_copy 22 = .ok (.iconst 5, 1) := by decide +kernel
theorem dX7_copy_23 : decode cX7_copy 23 = .ok (.invokevirtual 101, 3) := by decide +kernel
theorem dX7_copy_26 : decode cX7_copy 26 = .ok (.ireturn, 1) := by decide +kernel
theorem dX7_copy_27 : decode cX7_copy 27 = .ok (.aload_n 0, 1) := by decide +kernel
theorem dX7_copy_28 : decode cX7_copy 28 = .ok (.getfield 17, 3) := by decide +kernel
theorem dX7_copy_31 : decode cX7_copy 31 = .ok (.iload_n 1, 1) := by decide +kernel
theorem dX7_copy_32 : decode cX7_copy 32 = .ok (.iaload, 1) := by decide +kernel
theorem dX7_copy_33 : decode cX7_copy 33 = .ok (.ifCond .lt 12, 3) := by decide +kernel
theorem dX7_copy_36 : decode cX7_copy 36 = .ok (.aload_n 0, 1) := by decide +kernel
theorem dX7_copy_37 : decode cX7_copy 37 = .ok (.getfield 17, 3) := by decide +kernel
theorem dX7_copy_40 : decode cX7_copy 40 = .ok (.iload_n 3, 1) := by decide +kernel
theorem dX7_copy_41 : decode cX7_copy 41 = .ok (.iaload, 1) := by decide +kernel
theorem dX7_copy_42 : decode cX7_copy 42 = .ok (.ifCond .ge 9, 3) := by decide +kernel
theorem dX7_copy_45 : decode cX7_copy 45 = .ok (.aload_n 0, 1) := by decide +kernel
theorem dX7_copy_46 : decode cX7_copy 46 = .ok (.iconst 1, 1) := by decide +kernel
theorem dX7_copy_47 : decode cX7_copy 47 = .ok (.invokevirtual 101, 3) := by decide +kernel
theorem dX7_copy_50 : decode cX7_copy 50 = .ok (.ireturn, 1) := by decide +kernel
theorem dX7_copy_51 : decode cX7_copy 51 = .ok (.iload_n 2, 1) := by decide +kernel
theorem dX7_copy_52 : decode cX7_copy 52 = .ok (.ifCond .lt 43, 3) := by decide +kernel
theorem dX7_copy_55 : decode cX7_copy 55 = .ok (.iload 4, 2) := by decide +kernel
theorem dX7_copy_57 : decode cX7_copy 57 = .ok (.ifCond .lt 38, 3) := by decide +kernel
theorem dX7_copy_60 : decode cX7_copy 60 = .ok (.iload_n 2, 1) := by decide +kernel
theorem dX7_copy_61 : decode cX7_copy 61 = .ok (.i2l, 1) := by decide +kernel
theorem dX7_copy_62 : decode cX7_copy 62 = .ok (.iload 5, 2) := by decide +kernel
theorem dX7_copy_64 : decode cX7_copy 64 = .ok (.i2l, 1) := by decide +kernel
theorem dX7_copy_65 : decode cX7_copy 65 = .ok (.ladd, 1) := by decide +kernel
theorem dX7_copy_66 : decode cX7_copy 66 = .ok (.aload_n 0, 1) := by decide +kernel
theorem dX7_copy_67 : decode cX7_copy 67 = .ok (.getfield 17, 3) := by decide +kernel
theorem dX7_copy_70 : decode cX7_copy 70 = .ok (.iload_n 1, 1) := by decide +kernel
theorem dX7_copy_71 : decode cX7_copy 71 = .ok (.iaload, 1) := by decide +kernel
theorem dX7_copy_72 : decode cX7_copy 72 = .ok (.i2l, 1) := by decide +kernel
theorem dX7_copy_73 : decode cX7_copy 73 = .ok (.lcmp, 1) := by decide +kernel
theorem dX7_copy_74 : decode cX7_copy 74 = .ok (.ifCond .gt 21, 3) := by decide +kernel
theorem dX7_copy_77 : decode cX7_copy 77 = .ok (.iload 4, 2) := by decide +kernel
theorem dX7_copy_79 : decode cX7_copy 79 = .ok (.i2l, 1) := by decide +kernel
theorem dX7_copy_80 : decode cX7_copy 80 = .ok (.iload 5, 2) := by decide +kernel
theorem dX7_copy_82 : decode cX7_copy 82 = .ok (.i2l, 1) := by decide +kernel
theorem dX7_copy_83 : decode cX7_copy 83 = .ok (.ladd, 1) := by decide +kernel
theorem dX7_copy_84 : decode cX7_copy 84 = .ok (.aload_n 0, 1) := by decide +kernel
theorem dX7_copy_85 : decode cX7_copy 85 = .ok (.getfield 17, 3) := by decide +kernel
theorem dX7_copy_88 : decode cX7_copy 88 = .ok (.iload_n 3, 1) := by decide +kernel
theorem dX7_copy_89 : decode cX7_copy 89 = .ok (.iaload, 1) := by decide +kernel
theorem dX7_copy_90 : decode cX7_copy 90 = .ok (.i2l, 1) := by decide +kernel
theorem dX7_copy_91 : decode cX7_copy 91 = .ok (.lcmp, 1) := by decide +kernel
theorem dX7_copy_92 : decode cX7_copy 92 = .ok (.ifCond .le 9, 3) := by decide +kernel
theorem dX7_copy_95 : decode cX7_copy 95 = .ok (.aload_n 0, 1) := by decide +kernel
theorem dX7_copy_96 : decode cX7_copy 96 = .ok (.iconst 2, 1) := by decide +kernel
theorem dX7_copy_97 : decode cX7_copy 97 = .ok (.invokevirtual 101, 3) := by decide +kernel
theorem dX7_copy_100 : decode cX7_copy 100 = .ok (.ireturn, 1) := by decide +kernel
theorem dX7_copy_101 : decode cX7_copy 101 = .ok (.iconst 0, 1) := by decide +kernel
theorem dX7_copy_102 : decode cX7_copy 102 = .ok (.istore 6, 2) := by decide +kernel
theorem dX7_copy_104 : decode cX7_copy 104 = .ok (.iload 6, 2) := by decide +kernel
theorem dX7_copy_106 : decode cX7_copy 106 = .ok (.iload 5, 2) := by decide +kernel
theorem dX7_copy_108 : decode cX7_copy 108 = .ok (.if_icmp .ge 30, 3) := by decide +kernel
theorem dX7_copy_111 : decode cX7_copy 111 = .ok (.aload_n 0, 1) := by decide +kernel
theorem dX7_copy_112 : decode cX7_copy 112 = .ok (.getfield 23, 3) := by decide +kernel
theorem dX7_copy_115 : decode cX7_copy 115 = .ok (.iload 6, 2) := by decide +kernel
theorem dX7_copy_117 : decode cX7_copy 117 = .ok (.aload_n 0, 1) := by decide +kernel
theorem dX7_copy_118 : decode cX7_copy 118 = .ok (.getfield 20, 3) := by decide +kernel
theorem dX7_copy_121 : decode cX7_copy 121 = .ok (.bipush 40, 2) := by decide +kernel
theorem dX7_copy_123 : decode cX7_copy 123 = .ok (.iload_n 1, 1) := by decide +kernel
theorem dX7_copy_124 : decode cX7_copy 124 = .ok (.imul, 1) := by decide +kernel
theorem dX7_copy_125 : decode cX7_copy 125 = .ok (.iload_n 2, 1) := by decide +kernel
theorem dX7_copy_126 : decode cX7_copy 126 = .ok (.iadd, 1) := by decide +kernel
theorem dX7_copy_127 : decode cX7_copy 127 = .ok (.iload 6, 2) := by decide +kernel
theorem dX7_copy_129 : decode cX7_copy 129 = .ok (.iadd, 1) := by decide +kernel
theorem dX7_copy_130 : decode cX7_copy 130 = .ok (.iaload, 1) := by decide +kernel
theorem dX7_copy_131 : decode cX7_copy 131 = .ok (.iastore, 1) := by decide +kernel
theorem dX7_copy_132 : decode cX7_copy 132 = .ok (.iinc 6 1, 3) := by decide +kernel
theorem dX7_copy_135 : decode cX7_copy 135 = .ok (.goto (-31), 3) := by decide +kernel
theorem dX7_copy_138 : decode cX7_copy 138 = .ok (.iconst 0, 1) := by decide +kernel
theorem dX7_copy_139 : decode cX7_copy 139 = .ok (.istore 6, 2) := by decide +kernel
theorem dX7_copy_141 : decode cX7_copy 141 = .ok (.iload 6, 2) := by decide +kernel
theorem dX7_copy_143 : decode cX7_copy 143 = .ok (.iload 5, 2) := by decide +kernel
theorem dX7_copy_145 : decode cX7_copy 145 = .ok (.if_icmp .ge 31, 3) := by decide +kernel
theorem dX7_copy_148 : decode cX7_copy 148 = .ok (.aload_n 0, 1) := by decide +kernel
theorem dX7_copy_149 : decode cX7_copy 149 = .ok (.getfield 20, 3) := by decide +kernel
theorem dX7_copy_152 : decode cX7_copy 152 = .ok (.bipush 40, 2) := by decide +kernel
theorem dX7_copy_154 : decode cX7_copy 154 = .ok (.iload_n 3, 1) := by decide +kernel
theorem dX7_copy_155 : decode cX7_copy 155 = .ok (.imul, 1) := by decide +kernel
theorem dX7_copy_156 : decode cX7_copy 156 = .ok (.iload 4, 2) := by decide +kernel
theorem dX7_copy_158 : decode cX7_copy 158 = .ok (.iadd, 1) := by decide +kernel
theorem dX7_copy_159 : decode cX7_copy 159 = .ok (.iload 6, 2) := by decide +kernel
theorem dX7_copy_161 : decode cX7_copy 161 = .ok (.iadd, 1) := by decide +kernel
theorem dX7_copy_162 : decode cX7_copy 162 = .ok (.aload_n 0, 1) := by decide +kernel
theorem dX7_copy_163 : decode cX7_copy 163 = .ok (.getfield 23, 3) := by decide +kernel
theorem dX7_copy_166 : decode cX7_copy 166 = .ok (.iload 6, 2) := by decide +kernel
theorem dX7_copy_168 : decode cX7_copy 168 = .ok (.iaload, 1) := by decide +kernel
theorem dX7_copy_169 : decode cX7_copy 169 = .ok (.iastore, 1) := by decide +kernel
theorem dX7_copy_170 : decode cX7_copy 170 = .ok (.iinc 6 1, 3) := by decide +kernel
theorem dX7_copy_173 : decode cX7_copy 173 = .ok (.goto (-32), 3) := by decide +kernel
theorem dX7_copy_176 : decode cX7_copy 176 = .ok (.iconst 1, 1) := by decide +kernel
theorem dX7_copy_177 : decode cX7_copy 177 = .ok (.ireturn, 1) := by decide +kernel
set_option maxRecDepth 20000 in
theorem ggX7_mean_X7_looked : GoodIn wsX7_mean wsX7_looked := goodIn_r _ [7, 1, 8, 9, 6, 10, 11, 12, 13, 14, 15, 16, 17, 18, 19, 25, 26, 27, 28, 29, 30, 31, 32, 33, 34, 35, 36, 37, 38, 39, 40, 41, 42, 43, 44, 45, 46, 47, 48, 49, 50, 51, 52, 53, 54] (by decide +kernel) (by decide +kernel)
set_option maxRecDepth 20000 in
theorem gX7_mean_X7_looked : GoodIn wsX7_mean (wsV RX7 107 RX7 yX7_looked wsX7_looked) := goodIn_app (goodIn_of _ (by decide +kernel)) ggX7_mean_X7_looked
set_option maxRecDepth 20000 in
theorem ggX7_mean_X7_meets : GoodIn wsX7_mean wsX7_meets := goodIn_r _ [17, 18, 19, 25, 26, 27, 28, 29, 30, 31, 32, 33, 34, 35, 36, 37, 38, 39, 40, 41, 42, 43, 44, 45, 46, 47, 48, 49, 50, 51, 52, 53, 54] (by decide +kernel) (by decide +kernel)
set_option maxRecDepth 20000 in
theorem gX7_mean_X7_meets : GoodIn wsX7_mean (wsV RX7 101 RX7 yX7_meets wsX7_meets) := goodIn_app (goodIn_of _ (by decide +kernel)) ggX7_mean_X7_meets
set_option maxRecDepth 20000 in
theorem ggX7_mean_X7_ask : GoodIn wsX7_mean wsX7_ask := goodIn_r _ [23, 24, 25, 26, 27, 28, 29, 30, 31, 32, 33, 34, 35, 36, 37, 38, 39, 40, 41, 42, 43, 44, 45, 46, 47, 48, 49, 50, 51, 52, 53, 54] (by decide +kernel) (by decide +kernel)
set_option maxRecDepth 20000 in
theorem gX7_mean_X7_ask : GoodIn wsX7_mean (wsV RX7 110 RX7 yX7_ask wsX7_ask) := goodIn_app (goodIn_of _ (by decide +kernel)) ggX7_mean_X7_ask
theorem dX7_mean_0 : decode cX7_mean 0 = .ok (.aload_n 0, 1) := by decide +kernel
theorem dX7_mean_1 : decode cX7_mean 1 = .ok (.iload_n 1, 1) := by decide +kernel
theorem dX7_mean_2 : decode cX7_mean 2 = .ok (.invokevirtual 107, 3) := by decide +kernel
theorem dX7_mean_5 : decode cX7_mean 5 = .ok (.istore_n 2, 1) := by decide +kernel
theorem dX7_mean_6 : decode cX7_mean 6 = .ok (.iload_n 2, 1) := by decide +kernel
theorem dX7_mean_7 : decode cX7_mean 7 = .ok (.ifCond .ge 5, 3) := by decide +kernel
theorem dX7_mean_10 : decode cX7_mean 10 = .ok (.iload_n 2, 1) := by decide +kernel
theorem dX7_mean_11 : decode cX7_mean 11 = .ok (.ireturn, 1) := by decide +kernel
theorem dX7_mean_12 : decode cX7_mean 12 = .ok (.lconst 0, 1) := by decide +kernel
theorem dX7_mean_13 : decode cX7_mean 13 = .ok (.lstore_n 3, 1) := by decide +kernel
theorem dX7_mean_14 : decode cX7_mean 14 = .ok (.iconst 0, 1) := by decide +kernel
theorem dX7_mean_15 : decode cX7_mean 15 = .ok (.istore 5, 2) := by decide +kernel
theorem dX7_mean_17 : decode cX7_mean 17 = .ok (.iconst 0, 1) := by decide +kernel
theorem dX7_mean_18 : decode cX7_mean 18 = .ok (.istore 6, 2) := by decide +kernel
theorem dX7_mean_20 : decode cX7_mean 20 = .ok (.iload 6, 2) := by decide +kernel
theorem dX7_mean_22 : decode cX7_mean 22 = .ok (.aload_n 0, 1) := by decide +kernel
theorem dX7_mean_23 : decode cX7_mean 23 = .ok (.getfield 17, 3) := by decide +kernel
theorem dX7_mean_26 : decode cX7_mean 26 = .ok (.iload_n 1, 1) := by decide +kernel
theorem dX7_mean_27 : decode cX7_mean 27 = .ok (.iaload, 1) := by decide +kernel
theorem dX7_mean_28 : decode cX7_mean 28 = .ok (.if_icmp .ge 57, 3) := by decide +kernel
theorem dX7_mean_31 : decode cX7_mean 31 = .ok (.aload_n 0, 1) := by decide +kernel
theorem dX7_mean_32 : decode cX7_mean 32 = .ok (.getfield 20, 3) := by decide +kernel
theorem dX7_mean_35 : decode cX7_mean 35 = .ok (.bipush 40, 2) := by decide +kernel
theorem dX7_mean_37 : decode cX7_mean 37 = .ok (.iload_n 1, 1) := by decide +kernel
theorem dX7_mean_38 : decode cX7_mean 38 = .ok (.imul, 1) := by decide +kernel
theorem dX7_mean_39 : decode cX7_mean 39 = .ok (.iload 6, 2) := by decide +kernel
theorem dX7_mean_41 : decode cX7_mean 41 = .ok (.iadd, 1) := by decide +kernel
theorem dX7_mean_42 : decode cX7_mean 42 = .ok (.iaload, 1) := by decide +kernel
theorem dX7_mean_43 : decode cX7_mean 43 = .ok (.istore 7, 2) := by decide +kernel
theorem dX7_mean_45 : decode cX7_mean 45 = .ok (.lload_n 3, 1) := by decide +kernel
theorem dX7_mean_46 : decode cX7_mean 46 = .ok (.iload 7, 2) := by decide +kernel
theorem dX7_mean_48 : decode cX7_mean 48 = .ok (.bipush (-9), 2) := by decide +kernel
theorem dX7_mean_50 : decode cX7_mean 50 = .ok (.if_icmp .ne 7, 3) := by decide +kernel
theorem dX7_mean_53 : decode cX7_mean 53 = .ok (.lconst 0, 1) := by decide +kernel
theorem dX7_mean_54 : decode cX7_mean 54 = .ok (.goto 6, 3) := by decide +kernel
theorem dX7_mean_57 : decode cX7_mean 57 = .ok (.iload 7, 2) := by decide +kernel
theorem dX7_mean_59 : decode cX7_mean 59 = .ok (.i2l, 1) := by decide +kernel
theorem dX7_mean_60 : decode cX7_mean 60 = .ok (.ladd, 1) := by decide +kernel
theorem dX7_mean_61 : decode cX7_mean 61 = .ok (.lstore_n 3, 1) := by decide +kernel
theorem dX7_mean_62 : decode cX7_mean 62 = .ok (.iload 5, 2) := by decide +kernel
theorem dX7_mean_64 : decode cX7_mean 64 = .ok (.iload 7, 2) := by decide +kernel
theorem dX7_mean_66 : decode cX7_mean 66 = .ok (.bipush (-9), 2) := by decide +kernel
theorem dX7_mean_68 : decode cX7_mean 68 = .ok (.if_icmp .ne 7, 3) := by decide +kernel
theorem dX7_mean_71 : decode cX7_mean 71 = .ok (.iconst 0, 1) := by decide +kernel
theorem dX7_mean_72 : decode cX7_mean 72 = .ok (.goto 4, 3) := by decide +kernel
theorem dX7_mean_75 : decode cX7_mean 75 = .ok (.iconst 1, 1) := by decide +kernel
theorem dX7_mean_76 : decode cX7_mean 76 = .ok (.iadd, 1) := by decide +kernel
theorem dX7_mean_77 : decode cX7_mean 77 = .ok (.istore 5, 2) := by decide +kernel
theorem dX7_mean_79 : decode cX7_mean 79 = .ok (.iinc 6 1, 3) := by decide +kernel
theorem dX7_mean_82 : decode cX7_mean 82 = .ok (.goto (-62), 3) := by decide +kernel
theorem dX7_mean_85 : decode cX7_mean 85 = .ok (.iload 5, 2) := by decide +kernel
theorem dX7_mean_87 : decode cX7_mean 87 = .ok (.ifCond .ne 11, 3) := by decide +kernel
theorem dX7_mean_90 : decode cX7_mean 90 = .ok (.aload_n 0, 1) := by decide +kernel
theorem dX7_mean_91 : decode cX7_mean 91 = .ok (.iconst 4, 1) := by decide +kernel
theorem dX7_mean_92 : decode cX7_mean 92 = .ok (.invokevirtual 101, 3) := by decide +kernel
theorem dX7_mean_95 : decode cX7_mean 95 = .ok (.goto 13, 3) := by decide +kernel
theorem dX7_mean_98 : decode cX7_mean 98 = .ok (.aload_n 0, 1) := by decide +kernel
theorem dX7_mean_99 : decode cX7_mean 99 = .ok (.lload_n 3, 1) := by decide +kernel
theorem dX7_mean_100 : decode cX7_mean 100 = .ok (.iload 5, 2) := by decide +kernel
theorem dX7_mean_102 : decode cX7_mean 102 = .ok (.i2l, 1) := by decide +kernel
theorem dX7_mean_103 : decode cX7_mean 103 = .ok (.ldiv, 1) := by decide +kernel
theorem dX7_mean_104 : decode cX7_mean 104 = .ok (.iconst 1, 1) := by decide +kernel
theorem dX7_mean_105 : decode cX7_mean 105 = .ok (.invokevirtual 110, 3) := by decide +kernel
theorem dX7_mean_108 : decode cX7_mean 108 = .ok (.ireturn, 1) := by decide +kernel
set_option maxRecDepth 20000 in
theorem ggX7_plateau_X7_in : GoodIn wsX7_plateau wsX7_in := goodIn_r _ [8] (by decide +kernel) (by decide +kernel)
set_option maxRecDepth 20000 in
theorem gX7_plateau_X7_in : GoodIn wsX7_plateau (va_wsS RX7 93 yX7_in wsX7_in) := goodIn_app (goodIn_of _ (by decide +kernel)) ggX7_plateau_X7_in
set_option maxRecDepth 20000 in
theorem ggX7_plateau_X7_looked : GoodIn wsX7_plateau wsX7_looked := goodIn_r _ [12, 2, 13, 14, 7, 15, 5, 6, 8, 16, 17, 18, 19, 20, 21, 39, 40, 41, 42, 43, 44, 45, 46, 47, 48, 49, 50, 51, 52, 53, 54, 55, 56, 57, 58, 59, 60, 61, 62, 63, 64, 65, 66, 67, 68] (by decide +kernel) (by decide +kernel)
set_option maxRecDepth 20000 in
theorem gX7_plateau_X7_looked : GoodIn wsX7_plateau (wsV RX7 107 RX7 yX7_looked wsX7_looked) := goodIn_app (goodIn_of _ (by decide +kernel)) ggX7_plateau_X7_looked
set_option maxRecDepth 20000 in
theorem ggX7_plateau_X7_tell : GoodIn wsX7_plateau wsX7_tell := goodIn_r _ [25, 26, 27, 28, 29, 7, 30, 31, 32, 33, 39, 40, 41, 42, 43, 44, 45, 46, 47, 48, 49, 50, 51, 52, 53, 54, 55, 56, 57, 58, 59, 60, 61, 62, 63, 64, 65, 66, 67, 68] (by decide +kernel) (by decide +kernel)
set_option maxRecDepth 20000 in
theorem gX7_plateau_X7_tell : GoodIn wsX7_plateau (wsV RX7 114 RX7 yX7_tell wsX7_tell) := goodIn_app (goodIn_of _ (by decide +kernel)) ggX7_plateau_X7_tell
set_option maxRecDepth 20000 in
theorem ggX7_plateau_X7_ask : GoodIn wsX7_plateau wsX7_ask := goodIn_r _ [37, 38, 39, 40, 41, 42, 43, 44, 45, 46, 47, 48, 49, 50, 51, 52, 53, 54, 55, 56, 57, 58, 59, 60, 61, 62, 63, 64, 65, 66, 67, 68] (by decide +kernel) (by decide +kernel)
set_option maxRecDepth 20000 in
theorem gX7_plateau_X7_ask : GoodIn wsX7_plateau (wsV RX7 110 RX7 yX7_ask wsX7_ask) := goodIn_app (goodIn_of _ (by decide +kernel)) ggX7_plateau_X7_ask
theorem dX7_plateau_0 : decode cX7_plateau 0 = .ok (.iload_n 2, 1) := by decide +kernel
theorem dX7_plateau_1 : decode cX7_plateau 1 = .ok (.iconst 0, 1) := by decide +kernel
theorem dX7_plateau_2 : decode cX7_plateau 2 = .ok (.ldc 106, 2) := by decide +kernel
theorem dX7_plateau_4 : decode cX7_plateau 4 = .ok (.invokestatic 93, 3) := by decide +kernel
theorem dX7_plateau_7 : decode cX7_plateau 7 = .ok (.ifCond .eq 13, 3) := by decide +kernel
theorem dX7_plateau_10 : decode cX7_plateau 10 = .ok (.iload_n 3, 1) := by decide +kernel
theorem dX7_plateau_11 : decode cX7_plateau 11 = .ok (.iconst 1, 1) := by decide +kernel
theorem dX7_plateau_12 : decode cX7_plateau 12 = .ok (.bipush 40, 2) := by decide +kernel
theorem dX7_plateau_14 : decode cX7_plateau 14 = .ok (.invokestatic 93, 3) := by decide +kernel
theorem dX7_plateau_17 : decode cX7_plateau 17 = .ok (.ifCond .ne 5, 3) := by decide +kernel
theorem dX7_plateau_20 : decode cX7_plateau 20 = .ok (.iconst (-1), 1) := by decide +kernel
theorem dX7_plateau_21 : decode cX7_plateau 21 = .ok (.ireturn, 1) := by decide +kernel
theorem dX7_plateau_22 : decode cX7_plateau 22 = .ok (.aload_n 0, 1) := by decide +kernel
theorem dX7_plateau_23 : decode cX7_plateau 23 = .ok (.iload_n 1, 1) := by decide +kernel
theorem dX7_plateau_24 : decode cX7_plateau 24 = .ok (.invokevirtual 107, 3) := by decide +kernel
theorem dX7_plateau_27 : decode cX7_plateau 27 = .ok (.istore 4, 2) := by decide +kernel
theorem dX7_plateau_29 : decode cX7_plateau 29 = .ok (.iload 4, 2) := by decide +kernel
theorem dX7_plateau_31 : decode cX7_plateau 31 = .ok (.ifCond .ge 6, 3) := by decide +kernel
theorem dX7_plateau_34 : decode cX7_plateau 34 = .ok (.iload 4, 2) := by decide +kernel
theorem dX7_plateau_36 : decode cX7_plateau 36 = .ok (.ireturn, 1) := by decide +kernel
theorem dX7_plateau_37 : decode cX7_plateau 37 = .ok (.bipush (-9), 2) := by decide +kernel
theorem dX7_plateau_39 : decode cX7_plateau 39 = .ok (.istore 5, 2) := by decide +kernel
theorem dX7_plateau_41 : decode cX7_plateau 41 = .ok (.iload_n 3, 1) := by decide +kernel
theorem dX7_plateau_42 : decode cX7_plateau 42 = .ok (.iconst 1, 1) := by decide +kernel
theorem dX7_plateau_43 : decode cX7_plateau 43 = .ok (.isub, 1) := by decide +kernel
theorem dX7_plateau_44 : decode cX7_plateau 44 = .ok (.istore 6, 2) := by decide +kernel
theorem dX7_plateau_46 : decode cX7_plateau 46 = .ok (.lconst 0, 1) := by decide +kernel
theorem dX7_plateau_47 : decode cX7_plateau 47 = .ok (.lstore 7, 2) := by decide +kernel
theorem dX7_plateau_49 : decode cX7_plateau 49 = .ok (.iconst 0, 1) := by decide +kernel
theorem dX7_plateau_50 : decode cX7_plateau 50 = .ok (.istore 9, 2) := by decide +kernel
theorem dX7_plateau_52 : decode cX7_plateau 52 = .ok (.iload 9, 2) := by decide +kernel
theorem dX7_plateau_54 : decode cX7_plateau 54 = .ok (.aload_n 0, 1) := by decide +kernel
theorem dX7_plateau_55 : decode cX7_plateau 55 = .ok (.getfield 17, 3) := by decide +kernel
theorem dX7_plateau_58 : decode cX7_plateau 58 = .ok (.iload_n 1, 1) := by decide +kernel
theorem dX7_plateau_59 : decode cX7_plateau 59 = .ok (.iaload, 1) := by decide +kernel
theorem dX7_plateau_60 : decode cX7_plateau 60 = .ok (.if_icmp .ge 150, 3) := by decide +kernel
theorem dX7_plateau_63 : decode cX7_plateau 63 = .ok (.ldc 106, 2) := by decide +kernel
theorem dX7_plateau_65 : decode cX7_plateau 65 = .ok (.istore 10, 2) := by decide +kernel
theorem dX7_plateau_67 : decode cX7_plateau 67 = .ok (.ldc 105, 2) := by decide +kernel
theorem dX7_plateau_69 : decode cX7_plateau 69 = .ok (.istore 11, 2) := by decide +kernel
theorem dX7_plateau_71 : decode cX7_plateau 71 = .ok (.lconst 0, 1) := by decide +kernel
theorem dX7_plateau_72 : decode cX7_plateau 72 = .ok (.lstore 12, 2) := by decide +kernel
theorem dX7_plateau_74 : decode cX7_plateau 74 = .ok (.iload 9, 2) := by decide +kernel
theorem dX7_plateau_76 : decode cX7_plateau 76 = .ok (.istore 14, 2) := by decide +kernel
theorem dX7_plateau_78 : decode cX7_plateau 78 = .ok (.iload 14, 2) := by decide +kernel
theorem dX7_plateau_80 : decode cX7_plateau 80 = .ok (.aload_n 0, 1) := by decide +kernel
theorem dX7_plateau_81 : decode cX7_plateau 81 = .ok (.getfield 17, 3) := by decide +kernel
theorem dX7_plateau_84 : decode cX7_plateau 84 = .ok (.iload_n 1, 1) := by decide +kernel
theorem dX7_plateau_85 : decode cX7_plateau 85 = .ok (.iaload, 1) := by decide +kernel
theorem dX7_plateau_86 : decode cX7_plateau 86 = .ok (.if_icmp .ge 118, 3) := by decide +kernel
theorem dX7_plateau_89 : decode cX7_plateau 89 = .ok (.aload_n 0, 1) := by decide +kernel
theorem dX7_plateau_90 : decode cX7_plateau 90 = .ok (.getfield 20, 3) := by decide +kernel
theorem dX7_plateau_93 : decode cX7_plateau 93 = .ok (.bipush 40, 2) := by decide +kernel
theorem dX7_plateau_95 : decode cX7_plateau 95 = .ok (.iload_n 1, 1) := by decide +kernel
theorem dX7_plateau_96 : decode cX7_plateau 96 = .ok (.imul, 1) := by decide +kernel
theorem dX7_plateau_97 : decode cX7_plateau 97 = .ok (.iload 14, 2) := by decide +kernel
theorem dX7_plateau_99 : decode cX7_plateau 99 = .ok (.iadd, 1) := by decide +kernel
theorem dX7_plateau_100 : decode cX7_plateau 100 = .ok (.iaload, 1) := by decide +kernel
theorem dX7_plateau_101 : decode cX7_plateau 101 = .ok (.bipush (-9), 2) := by decide +kernel
theorem dX7_plateau_103 : decode cX7_plateau 103 = .ok (.if_icmp .eq 101, 3) := by decide +kernel
theorem dX7_plateau_106 : decode cX7_plateau 106 = .ok (.aload_n 0, 1) := by decide +kernel
theorem dX7_plateau_107 : decode cX7_plateau 107 = .ok (.getfield 20, 3) := by decide +kernel
theorem dX7_plateau_110 : decode cX7_plateau 110 = .ok (.bipush 40, 2) := by decide +kernel
theorem dX7_plateau_112 : decode cX7_plateau 112 = .ok (.iload_n 1, 1) := by decide +kernel
theorem dX7_plateau_113 : decode cX7_plateau 113 = .ok (.imul, 1) := by decide +kernel
theorem dX7_plateau_114 : decode cX7_plateau 114 = .ok (.iload 14, 2) := by decide +kernel
theorem dX7_plateau_116 : decode cX7_plateau 116 = .ok (.iadd, 1) := by decide +kernel
theorem dX7_plateau_117 : decode cX7_plateau 117 = .ok (.iaload, 1) := by decide +kernel
theorem dX7_plateau_118 : decode cX7_plateau 118 = .ok (.istore 15, 2) := by decide +kernel
theorem dX7_plateau_120 : decode cX7_plateau 120 = .ok (.iload 15, 2) := by decide +kernel
theorem dX7_plateau_122 : decode cX7_plateau 122 = .ok (.iload 10, 2) := by decide +kernel
theorem dX7_plateau_124 : decode cX7_plateau 124 = .ok (.if_icmp .ge 8, 3) := by decide +kernel
theorem dX7_plateau_127 : decode cX7_plateau 127 = .ok (.iload 15, 2) := by decide +kernel
theorem dX7_plateau_129 : decode cX7_plateau 129 = .ok (.goto 5, 3) := by decide +kernel
theorem dX7_plateau_132 : decode cX7_plateau 132 = .ok (.iload 10, 2) := by decide +kernel
theorem dX7_plateau_134 : decode cX7_plateau 134 = .ok (.istore 10, 2) := by decide +kernel
theorem dX7_plateau_136 : decode cX7_plateau 136 = .ok (.iload 15, 2) := by decide +kernel
theorem dX7_plateau_138 : decode cX7_plateau 138 = .ok (.iload 11, 2) := by decide +kernel
theorem dX7_plateau_140 : decode cX7_plateau 140 = .ok (.if_icmp .le 8, 3) := by decide +kernel
theorem dX7_plateau_143 : decode cX7_plateau 143 = .ok (.iload 15, 2) := by decide +kernel
theorem dX7_plateau_145 : decode cX7_plateau 145 = .ok (.goto 5, 3) := by decide +kernel
theorem dX7_plateau_148 : decode cX7_plateau 148 = .ok (.iload 11, 2) := by decide +kernel
theorem dX7_plateau_150 : decode cX7_plateau 150 = .ok (.istore 11, 2) := by decide +kernel
theorem dX7_plateau_152 : decode cX7_plateau 152 = .ok (.lload 12, 2) := by decide +kernel
theorem dX7_plateau_154 : decode cX7_plateau 154 = .ok (.iload 15, 2) := by decide +kernel
theorem dX7_plateau_156 : decode cX7_plateau 156 = .ok (.i2l, 1) := by decide +kernel
theorem dX7_plateau_157 : decode cX7_plateau 157 = .ok (.ladd, 1) := by decide +kernel
theorem dX7_plateau_158 : decode cX7_plateau 158 = .ok (.lstore 12, 2) := by decide +kernel
theorem dX7_plateau_160 : decode cX7_plateau 160 = .ok (.iload 11, 2) := by decide +kernel
theorem dX7_plateau_162 : decode cX7_plateau 162 = .ok (.iload 10, 2) := by decide +kernel
theorem dX7_plateau_164 : decode cX7_plateau 164 = .ok (.isub, 1) := by decide +kernel
theorem dX7_plateau_165 : decode cX7_plateau 165 = .ok (.iload_n 2, 1) := by decide +kernel
theorem dX7_plateau_166 : decode cX7_plateau 166 = .ok (.if_icmp .gt 32, 3) := by decide +kernel
theorem dX7_plateau_169 : decode cX7_plateau 169 = .ok (.iload 14, 2) := by decide +kernel
theorem dX7_plateau_171 : decode cX7_plateau 171 = .ok (.iload 9, 2) := by decide +kernel
theorem dX7_plateau_173 : decode cX7_plateau 173 = .ok (.isub, 1) := by decide +kernel
theorem dX7_plateau_174 : decode cX7_plateau 174 = .ok (.iconst 1, 1) := by decide +kernel
theorem dX7_plateau_175 : decode cX7_plateau 175 = .ok (.iadd, 1) := by decide +kernel
theorem dX7_plateau_176 : decode cX7_plateau 176 = .ok (.iload 6, 2) := by decide +kernel
theorem dX7_plateau_178 : decode cX7_plateau 178 = .ok (.if_icmp .le 20, 3) := by decide +kernel
theorem dX7_plateau_181 : decode cX7_plateau 181 = .ok (.iload 9, 2) := by decide +kernel
theorem dX7_plateau_183 : decode cX7_plateau 183 = .ok (.istore 5, 2) := by decide +kernel
theorem dX7_plateau_185 : decode cX7_plateau 185 = .ok (.iload 14, 2) := by decide +kernel
theorem dX7_plateau_187 : decode cX7_plateau 187 = .ok (.iload 9, 2) := by decide +kernel
theorem dX7_plateau_189 : decode cX7_plateau 189 = .ok (.isub, 1) := by decide +kernel
theorem dX7_plateau_190 : decode cX7_plateau 190 = .ok (.iconst 1, 1) := by decide +kernel
theorem dX7_plateau_191 : decode cX7_plateau 191 = .ok (.iadd, 1) := by decide +kernel
theorem dX7_plateau_192 : decode cX7_plateau 192 = .ok (.istore 6, 2) := by decide +kernel
theorem dX7_plateau_194 : decode cX7_plateau 194 = .ok (.lload 12, 2) := by decide +kernel
theorem dX7_plateau_196 : decode cX7_plateau 196 = .ok (.lstore 7, 2) := by decide +kernel
theorem dX7_plateau_198 : decode cX7_plateau 198 = .ok (.iinc 14 1, 3) := by decide +kernel
theorem dX7_plateau_201 : decode cX7_plateau 201 = .ok (.goto (-123), 3) := by decide +kernel
theorem dX7_plateau_204 : decode cX7_plateau 204 = .ok (.iinc 9 1, 3) := by decide +kernel
theorem dX7_plateau_207 : decode cX7_plateau 207 = .ok (.goto (-155), 3) := by decide +kernel
theorem dX7_plateau_210 : decode cX7_plateau 210 = .ok (.iload 5, 2) := by decide +kernel
theorem dX7_plateau_212 : decode cX7_plateau 212 = .ok (.ifCond .ge 8, 3) := by decide +kernel
theorem dX7_plateau_215 : decode cX7_plateau 215 = .ok (.bipush (-9), 2) := by decide +kernel
theorem dX7_plateau_217 : decode cX7_plateau 217 = .ok (.goto 21, 3) := by decide +kernel
theorem dX7_plateau_220 : decode cX7_plateau 220 = .ok (.aload_n 0, 1) := by decide +kernel
theorem dX7_plateau_221 : decode cX7_plateau 221 = .ok (.iload 6, 2) := by decide +kernel
theorem dX7_plateau_223 : decode cX7_plateau 223 = .ok (.i2l, 1) := by decide +kernel
theorem dX7_plateau_224 : decode cX7_plateau 224 = .ok (.aload_n 0, 1) := by decide +kernel
theorem dX7_plateau_225 : decode cX7_plateau 225 = .ok (.lload 7, 2) := by decide +kernel
theorem dX7_plateau_227 : decode cX7_plateau 227 = .ok (.iload 6, 2) := by decide +kernel
theorem dX7_plateau_229 : decode cX7_plateau 229 = .ok (.i2l, 1) := by decide +kernel
theorem dX7_plateau_230 : decode cX7_plateau 230 = .ok (.iload 5, 2) := by decide +kernel
theorem dX7_plateau_232 : decode cX7_plateau 232 = .ok (.invokevirtual 114, 3) := by decide +kernel
theorem dX7_plateau_235 : decode cX7_plateau 235 = .ok (.invokevirtual 110, 3) := by decide +kernel
theorem dX7_plateau_238 : decode cX7_plateau 238 = .ok (.ireturn, 1) := by decide +kernel
set_option maxRecDepth 20000 in
theorem ggX7_isTable_X7_in : GoodIn wsX7_isTable wsX7_in := goodIn_r _ [4] (by decide +kernel) (by decide +kernel)
set_option maxRecDepth 20000 in
theorem gX7_isTable_X7_in : GoodIn wsX7_isTable (va_wsS RX7 93 yX7_in wsX7_in) := goodIn_app (goodIn_of _ (by decide +kernel)) ggX7_isTable_X7_in
theorem dX7_isTable_0 : decode cX7_isTable 0 = .ok (.iload_n 0, 1) := by decide +kernel
theorem dX7_isTable_1 : decode cX7_isTable 1 = .ok (.iconst 0, 1) := by decide +kernel
theorem dX7_isTable_2 : decode cX7_isTable 2 = .ok (.iconst 3, 1) := by decide +kernel
theorem dX7_isTable_3 : decode cX7_isTable 3 = .ok (.invokestatic 93, 3) := by decide +kernel
theorem dX7_isTable_6 : decode cX7_isTable 6 = .ok (.ireturn, 1) := by decide +kernel
set_option maxRecDepth 20000 in
theorem ggX7_isX_X7_in : GoodIn wsX7_isX wsX7_in := goodIn_r _ [4] (by decide +kernel) (by decide +kernel)
set_option maxRecDepth 20000 in
theorem gX7_isX_X7_in : GoodIn wsX7_isX (va_wsS RX7 93 yX7_in wsX7_in) := goodIn_app (goodIn_of _ (by decide +kernel)) ggX7_isX_X7_in
theorem dX7_isX_0 : decode cX7_isX 0 = .ok (.iload_n 0, 1) := by decide +kernel
theorem dX7_isX_1 : decode cX7_isX 1 = .ok (.bipush (-20), 2) := by decide +kernel
theorem dX7_isX_3 : decode cX7_isX 3 = .ok (.bipush 20, 2) := by decide +kernel
theorem dX7_isX_5 : decode cX7_isX 5 = .ok (.invokestatic 93, 3) := by decide +kernel
theorem dX7_isX_8 : decode cX7_isX 8 = .ok (.ireturn, 1) := by decide +kernel
set_option maxRecDepth 20000 in
theorem ggX7_point_X7_isTable : GoodIn wsX7_point wsX7_isTable := goodIn_r _ [7, 8, 9, 6, 10] (by decide +kernel) (by decide +kernel)
set_option maxRecDepth 20000 in
theorem gX7_point_X7_isTable : GoodIn wsX7_point (va_wsS RX7 118 yX7_isTable wsX7_isTable) := goodIn_app (goodIn_of _ (by decide +kernel)) ggX7_point_X7_isTable
set_option maxRecDepth 20000 in
theorem ggX7_point_X7_isX : GoodIn wsX7_point wsX7_isX := goodIn_r _ [13, 8, 9, 6, 10] (by decide +kernel) (by decide +kernel)
set_option maxRecDepth 20000 in
theorem gX7_point_X7_isX : GoodIn wsX7_point (va_wsS RX7 121 yX7_isX wsX7_isX) := goodIn_app (goodIn_of _ (by decide +kernel)) ggX7_point_X7_isX
set_option maxRecDepth 20000 in
theorem ggX7_point_X7_in : GoodIn wsX7_point wsX7_in := goodIn_r _ [10] (by decide +kernel) (by decide +kernel)
set_option maxRecDepth 20000 in
theorem gX7_point_X7_in : GoodIn wsX7_point (va_wsS RX7 93 yX7_in wsX7_in) := goodIn_app (goodIn_of _ (by decide +kernel)) ggX7_point_X7_in
theorem dX7_point_0 : decode cX7_point 0 = .ok (.iload_n 1, 1) := by decide +kernel
theorem dX7_point_1 : decode cX7_point 1 = .ok (.invokestatic 118, 3) := by decide +kernel
theorem dX7_point_4 : decode cX7_point 4 = .ok (.ifCond .eq 27, 3) := by decide +kernel
theorem dX7_point_7 : decode cX7_point 7 = .ok (.iload_n 2, 1) := by decide +kernel
theorem dX7_point_8 : decode cX7_point 8 = .ok (.invokestatic 121, 3) := by decide +kernel
theorem dX7_point_11 : decode cX7_point 11 = .ok (.ifCond .eq 20, 3) := by decide +kernel
theorem dX7_point_14 : decode cX7_point 14 = .ok (.iload_n 3, 1) := by decide +kernel
theorem dX7_point_15 : decode cX7_point 15 = .ok (.sipush (-10000), 3) := by decide +kernel
theorem dX7_point_18 : decode cX7_point 18 = .ok (.sipush 10000, 3) := by decide +kernel
theorem dX7_point_21 : decode cX7_point 21 = .ok (.invokestatic 93, 3) := by decide +kernel
theorem dX7_point_24 : decode cX7_point 24 = .ok (.ifCond .eq 7, 3) := by decide +kernel
theorem dX7_point_27 : decode cX7_point 27 = .ok (.iconst 1, 1) := by decide +kernel
theorem dX7_point_28 : decode cX7_point 28 = .ok (.goto 4, 3) := by decide +kernel
theorem dX7_point_31 : decode cX7_point 31 = .ok (.iconst 0, 1) := by decide +kernel
theorem dX7_point_32 : decode cX7_point 32 = .ok (.istore 4, 2) := by decide +kernel
theorem dX7_point_34 : decode cX7_point 34 = .ok (.iconst 0, 1) := by decide +kernel
theorem dX7_point_35 : decode cX7_point 35 = .ok (.istore 5, 2) := by decide +kernel
theorem dX7_point_37 : decode cX7_point 37 = .ok (.iload 4, 2) := by decide +kernel
theorem dX7_point_39 : decode cX7_point 39 = .ok (.ifCond .eq 42, 3) := by decide +kernel
theorem dX7_point_42 : decode cX7_point 42 = .ok (.iload 5, 2) := by decide +kernel
theorem dX7_point_44 : decode cX7_point 44 = .ok (.aload_n 0, 1) := by decide +kernel
theorem dX7_point_45 : decode cX7_point 45 = .ok (.getfield 26, 3) := by decide +kernel
theorem dX7_point_48 : decode cX7_point 48 = .ok (.iload_n 1, 1) := by decide +kernel
theorem dX7_point_49 : decode cX7_point 49 = .ok (.iaload, 1) := by decide +kernel
theorem dX7_point_50 : decode cX7_point 50 = .ok (.if_icmp .ge 31, 3) := by decide +kernel
theorem dX7_point_53 : decode cX7_point 53 = .ok (.aload_n 0, 1) := by decide +kernel
theorem dX7_point_54 : decode cX7_point 54 = .ok (.getfield 29, 3) := by decide +kernel
theorem dX7_point_57 : decode cX7_point 57 = .ok (.iconst 4, 1) := by decide +kernel
theorem dX7_point_58 : decode cX7_point 58 = .ok (.iload_n 1, 1) := by decide +kernel
theorem dX7_point_59 : decode cX7_point 59 = .ok (.imul, 1) := by decide +kernel
theorem dX7_point_60 : decode cX7_point 60 = .ok (.iload 5, 2) := by decide +kernel
theorem dX7_point_62 : decode cX7_point 62 = .ok (.iadd, 1) := by decide +kernel
theorem dX7_point_63 : decode cX7_point 63 = .ok (.iaload, 1) := by decide +kernel
theorem dX7_point_64 : decode cX7_point 64 = .ok (.iload_n 2, 1) := by decide +kernel
theorem dX7_point_65 : decode cX7_point 65 = .ok (.if_icmp .eq 7, 3) := by decide +kernel
theorem dX7_point_68 : decode cX7_point 68 = .ok (.iconst 1, 1) := by decide +kernel
theorem dX7_point_69 : decode cX7_point 69 = .ok (.goto 4, 3) := by decide +kernel
theorem dX7_point_72 : decode cX7_point 72 = .ok (.iconst 0, 1) := by decide +kernel
theorem dX7_point_73 : decode cX7_point 73 = .ok (.istore 4, 2) := by decide +kernel
theorem dX7_point_75 : decode cX7_point 75 = .ok (.iinc 5 1, 3) := by decide +kernel
theorem dX7_point_78 : decode cX7_point 78 = .ok (.goto (-41), 3) := by decide +kernel
theorem dX7_point_81 : decode cX7_point 81 = .ok (.iload 4, 2) := by decide +kernel
theorem dX7_point_83 : decode cX7_point 83 = .ok (.ifCond .ne 5, 3) := by decide +kernel
theorem dX7_point_86 : decode cX7_point 86 = .ok (.iconst (-1), 1) := by decide +kernel
theorem dX7_point_87 : decode cX7_point 87 = .ok (.ireturn, 1) := by decide +kernel
theorem dX7_point_88 : decode cX7_point 88 = .ok (.aload_n 0, 1) := by decide +kernel
theorem dX7_point_89 : decode cX7_point 89 = .ok (.getfield 26, 3) := by decide +kernel
theorem dX7_point_92 : decode cX7_point 92 = .ok (.iload_n 1, 1) := by decide +kernel
theorem dX7_point_93 : decode cX7_point 93 = .ok (.iaload, 1) := by decide +kernel
theorem dX7_point_94 : decode cX7_point 94 = .ok (.iconst 4, 1) := by decide +kernel
theorem dX7_point_95 : decode cX7_point 95 = .ok (.if_icmp .ne 6, 3) := by decide +kernel
theorem dX7_point_98 : decode cX7_point 98 = .ok (.bipush (-2), 2) := by decide +kernel
theorem dX7_point_100 : decode cX7_point 100 = .ok (.ireturn, 1) := by decide +kernel
theorem dX7_point_101 : decode cX7_point 101 = .ok (.aload_n 0, 1) := by decide +kernel
theorem dX7_point_102 : decode cX7_point 102 = .ok (.getfield 29, 3) := by decide +kernel
theorem dX7_point_105 : decode cX7_point 105 = .ok (.iconst 4, 1) := by decide +kernel
theorem dX7_point_106 : decode cX7_point 106 = .ok (.iload_n 1, 1) := by decide +kernel
theorem dX7_point_107 : decode cX7_point 107 = .ok (.imul, 1) := by decide +kernel
theorem dX7_point_108 : decode cX7_point 108 = .ok (.aload_n 0, 1) := by decide +kernel
theorem dX7_point_109 : decode cX7_point 109 = .ok (.getfield 26, 3) := by decide +kernel
theorem dX7_point_112 : decode cX7_point 112 = .ok (.iload_n 1, 1) := by decide +kernel
theorem dX7_point_113 : decode cX7_point 113 = .ok (.iaload, 1) := by decide +kernel
theorem dX7_point_114 : decode cX7_point 114 = .ok (.iadd, 1) := by decide +kernel
theorem dX7_point_115 : decode cX7_point 115 = .ok (.iload_n 2, 1) := by decide +kernel
theorem dX7_point_116 : decode cX7_point 116 = .ok (.iastore, 1) := by decide +kernel
theorem dX7_point_117 : decode cX7_point 117 = .ok (.aload_n 0, 1) := by decide +kernel
theorem dX7_point_118 : decode cX7_point 118 = .ok (.getfield 32, 3) := by decide +kernel
theorem dX7_point_121 : decode cX7_point 121 = .ok (.iconst 4, 1) := by decide +kernel
theorem dX7_point_122 : decode cX7_point 122 = .ok (.iload_n 1, 1) := by decide +kernel
theorem dX7_point_123 : decode cX7_point 123 = .ok (.imul, 1) := by decide +kernel
theorem dX7_point_124 : decode cX7_point 124 = .ok (.aload_n 0, 1) := by decide +kernel
theorem dX7_point_125 : decode cX7_point 125 = .ok (.getfield 26, 3) := by decide +kernel
theorem dX7_point_128 : decode cX7_point 128 = .ok (.iload_n 1, 1) := by decide +kernel
theorem dX7_point_129 : decode cX7_point 129 = .ok (.iaload, 1) := by decide +kernel
theorem dX7_point_130 : decode cX7_point 130 = .ok (.iadd, 1) := by decide +kernel
theorem dX7_point_131 : decode cX7_point 131 = .ok (.iload_n 3, 1) := by decide +kernel
theorem dX7_point_132 : decode cX7_point 132 = .ok (.iastore, 1) := by decide +kernel
theorem dX7_point_133 : decode cX7_point 133 = .ok (.aload_n 0, 1) := by decide +kernel
theorem dX7_point_134 : decode cX7_point 134 = .ok (.getfield 26, 3) := by decide +kernel
theorem dX7_point_137 : decode cX7_point 137 = .ok (.iload_n 1, 1) := by decide +kernel
theorem dX7_point_138 : decode cX7_point 138 = .ok (.dup2, 1) := by decide +kernel
theorem dX7_point_139 : decode cX7_point 139 = .ok (.iaload, 1) := by decide +kernel
theorem dX7_point_140 : decode cX7_point 140 = .ok (.iconst 1, 1) := by decide +kernel
theorem dX7_point_141 : decode cX7_point 141 = .ok (.iadd, 1) := by decide +kernel
theorem dX7_point_142 : decode cX7_point 142 = .ok (.iastore, 1) := by decide +kernel
theorem dX7_point_143 : decode cX7_point 143 = .ok (.aload_n 0, 1) := by decide +kernel
theorem dX7_point_144 : decode cX7_point 144 = .ok (.getfield 26, 3) := by decide +kernel
theorem dX7_point_147 : decode cX7_point 147 = .ok (.iload_n 1, 1) := by decide +kernel
theorem dX7_point_148 : decode cX7_point 148 = .ok (.iaload, 1) := by decide +kernel
theorem dX7_point_149 : decode cX7_point 149 = .ok (.ireturn, 1) := by decide +kernel
set_option maxRecDepth 20000 in
theorem ggX7_clear_X7_isTable : GoodIn wsX7_clear wsX7_isTable := goodIn_r _ [5, 6, 7, 4, 8] (by decide +kernel) (by decide +kernel)
set_option maxRecDepth 20000 in
theorem gX7_clear_X7_isTable : GoodIn wsX7_clear (va_wsS RX7 118 yX7_isTable wsX7_isTable) := goodIn_app (goodIn_of _ (by decide +kernel)) ggX7_clear_X7_isTable
theorem dX7_clear_0 : decode cX7_clear 0 = .ok (.iload_n 1, 1) := by decide +kernel
theorem dX7_clear_1 : decode cX7_clear 1 = .ok (.invokestatic 118, 3) := by decide +kernel
theorem dX7_clear_4 : decode cX7_clear 4 = .ok (.ifCond .ne 5, 3) := by decide +kernel
theorem dX7_clear_7 : decode cX7_clear 7 = .ok (.iconst (-1), 1) := by decide +kernel
theorem dX7_clear_8 : decode cX7_clear 8 = .ok (.ireturn, 1) := by decide +kernel
theorem dX7_clear_9 : decode cX7_clear 9 = .ok (.aload_n 0, 1) := by decide +kernel
theorem dX7_clear_10 : decode cX7_clear 10 = .ok (.getfield 26, 3) := by decide +kernel
theorem dX7_clear_13 : decode cX7_clear 13 = .ok (.iload_n 1, 1) := by decide +kernel
theorem dX7_clear_14 : decode cX7_clear 14 = .ok (.iaload, 1) := by decide +kernel
theorem dX7_clear_15 : decode cX7_clear 15 = .ok (.istore_n 2, 1) := by decide +kernel
theorem dX7_clear_16 : decode cX7_clear 16 = .ok (.aload_n 0, 1) := by decide +kernel
theorem dX7_clear_17 : decode cX7_clear 17 = .ok (.getfield 26, 3) := by decide +kernel
theorem dX7_clear_20 : decode cX7_clear 20 = .ok (.iload_n 1, 1) := by decide +kernel
theorem dX7_clear_21 : decode cX7_clear 21 = .ok (.iconst 0, 1) := by decide +kernel
theorem dX7_clear_22 : decode cX7_clear 22 = .ok (.iastore, 1) := by decide +kernel
theorem dX7_clear_23 : decode cX7_clear 23 = .ok (.iload_n 2, 1) := by decide +kernel
theorem dX7_clear_24 : decode cX7_clear 24 = .ok (.ireturn, 1) := by decide +kernel
set_option maxRecDepth 20000 in
theorem ggX7_add_X7_divisor : GoodIn wsX7_add wsX7_divisor := goodIn_r _ [6, 7, 8, 5, 9] (by decide +kernel) (by decide +kernel)
set_option maxRecDepth 20000 in
theorem gX7_add_X7_divisor : GoodIn wsX7_add (va_wsS RX7 83 yX7_divisor wsX7_divisor) := goodIn_app (goodIn_of _ (by decide +kernel)) ggX7_add_X7_divisor
theorem dX7_add_0 : decode cX7_add 0 = .ok (.aload_n 0, 1) := by decide +kernel
theorem dX7_add_1 : decode cX7_add 1 = .ok (.getfield 124, 3) := by decide +kernel
theorem dX7_add_4 : decode cX7_add 4 = .ok (.lload_n 3, 1) := by decide +kernel
theorem dX7_add_5 : decode cX7_add 5 = .ok (.invokestatic 83, 3) := by decide +kernel
theorem dX7_add_8 : decode cX7_add 8 = .ok (.lstore 5, 2) := by decide +kernel
theorem dX7_add_10 : decode cX7_add 10 = .ok (.aload_n 0, 1) := by decide +kernel
theorem dX7_add_11 : decode cX7_add 11 = .ok (.getfield 127, 3) := by decide +kernel
theorem dX7_add_14 : decode cX7_add 14 = .ok (.lload_n 3, 1) := by decide +kernel
theorem dX7_add_15 : decode cX7_add 15 = .ok (.lload 5, 2) := by decide +kernel
theorem dX7_add_17 : decode cX7_add 17 = .ok (.ldiv, 1) := by decide +kernel
theorem dX7_add_18 : decode cX7_add 18 = .ok (.lmul, 1) := by decide +kernel
theorem dX7_add_19 : decode cX7_add 19 = .ok (.lload_n 1, 1) := by decide +kernel
theorem dX7_add_20 : decode cX7_add 20 = .ok (.aload_n 0, 1) := by decide +kernel
theorem dX7_add_21 : decode cX7_add 21 = .ok (.getfield 124, 3) := by decide +kernel
theorem dX7_add_24 : decode cX7_add 24 = .ok (.lload 5, 2) := by decide +kernel
theorem dX7_add_26 : decode cX7_add 26 = .ok (.ldiv, 1) := by decide +kernel
theorem dX7_add_27 : decode cX7_add 27 = .ok (.lmul, 1) := by decide +kernel
theorem dX7_add_28 : decode cX7_add 28 = .ok (.ladd, 1) := by decide +kernel
theorem dX7_add_29 : decode cX7_add 29 = .ok (.lstore 7, 2) := by decide +kernel
theorem dX7_add_31 : decode cX7_add 31 = .ok (.aload_n 0, 1) := by decide +kernel
theorem dX7_add_32 : decode cX7_add 32 = .ok (.getfield 124, 3) := by decide +kernel
theorem dX7_add_35 : decode cX7_add 35 = .ok (.lload 5, 2) := by decide +kernel
theorem dX7_add_37 : decode cX7_add 37 = .ok (.ldiv, 1) := by decide +kernel
theorem dX7_add_38 : decode cX7_add 38 = .ok (.lload_n 3, 1) := by decide +kernel
theorem dX7_add_39 : decode cX7_add 39 = .ok (.lmul, 1) := by decide +kernel
theorem dX7_add_40 : decode cX7_add 40 = .ok (.lstore 9, 2) := by decide +kernel
theorem dX7_add_42 : decode cX7_add 42 = .ok (.lload 7, 2) := by decide +kernel
theorem dX7_add_44 : decode cX7_add 44 = .ok (.lload 9, 2) := by decide +kernel
theorem dX7_add_46 : decode cX7_add 46 = .ok (.invokestatic 83, 3) := by decide +kernel
theorem dX7_add_49 : decode cX7_add 49 = .ok (.lstore 11, 2) := by decide +kernel
theorem dX7_add_51 : decode cX7_add 51 = .ok (.aload_n 0, 1) := by decide +kernel
theorem dX7_add_52 : decode cX7_add 52 = .ok (.lload 7, 2) := by decide +kernel
theorem dX7_add_54 : decode cX7_add 54 = .ok (.lload 11, 2) := by decide +kernel
theorem dX7_add_56 : decode cX7_add 56 = .ok (.ldiv, 1) := by decide +kernel
theorem dX7_add_57 : decode cX7_add 57 = .ok (.putfield 127, 3) := by decide +kernel
theorem dX7_add_60 : decode cX7_add 60 = .ok (.aload_n 0, 1) := by decide +kernel
theorem dX7_add_61 : decode cX7_add 61 = .ok (.lload 9, 2) := by decide +kernel
theorem dX7_add_63 : decode cX7_add 63 = .ok (.lload 11, 2) := by decide +kernel
theorem dX7_add_65 : decode cX7_add 65 = .ok (.ldiv, 1) := by decide +kernel
theorem dX7_add_66 : decode cX7_add 66 = .ok (.putfield 124, 3) := by decide +kernel
theorem dX7_add_69 : decode cX7_add 69 = .ok (.return_, 1) := by decide +kernel
set_option maxRecDepth 20000 in
theorem ggX7_addCurve_X7_size : GoodIn wsX7_addCurve wsX7_size := goodIn_r _ [7] (by decide +kernel) (by decide +kernel)
set_option maxRecDepth 20000 in
theorem gX7_addCurve_X7_size : GoodIn wsX7_addCurve (va_wsS RX7 79 yX7_size wsX7_size) := goodIn_app (goodIn_of _ (by decide +kernel)) ggX7_addCurve_X7_size
set_option maxRecDepth 20000 in
theorem ggX7_addCurve_X7_add : GoodIn wsX7_addCurve wsX7_add := goodIn_r _ [11, 12, 13, 14, 15, 6, 16, 4, 5, 7, 17, 18, 19, 20, 21, 22, 23, 24, 25, 26, 27, 28, 29, 30, 31, 32, 33, 34, 35, 36, 37, 38, 39, 40, 41, 42, 43, 44, 45, 46] (by decide +kernel) (by decide +kernel)
set_option maxRecDepth 20000 in
theorem gX7_addCurve_X7_add : GoodIn wsX7_addCurve (wsV RX7 130 RX7 yX7_add wsX7_add) := goodIn_app (goodIn_of _ (by decide +kernel)) ggX7_addCurve_X7_add
theorem dX7_addCurve_0 : decode cX7_addCurve 0 = .ok (.iconst 0, 1) := by decide +kernel
theorem dX7_addCurve_1 : decode cX7_addCurve 1 = .ok (.istore 4, 2) := by decide +kernel
theorem dX7_addCurve_3 : decode cX7_addCurve 3 = .ok (.iload 4, 2) := by decide +kernel
theorem dX7_addCurve_5 : decode cX7_addCurve 5 = .ok (.aload_n 0, 1) := by decide +kernel
theorem dX7_addCurve_6 : decode cX7_addCurve 6 = .ok (.getfield 26, 3) := by decide +kernel
theorem dX7_addCurve_9 : decode cX7_addCurve 9 = .ok (.iload_n 1, 1) := by decide +kernel
theorem dX7_addCurve_10 : decode cX7_addCurve 10 = .ok (.iaload, 1) := by decide +kernel
theorem dX7_addCurve_11 : decode cX7_addCurve 11 = .ok (.if_icmp .ge 128, 3) := by decide +kernel
theorem dX7_addCurve_14 : decode cX7_addCurve 14 = .ok (.iload_n 3, 1) := by decide +kernel
theorem dX7_addCurve_15 : decode cX7_addCurve 15 = .ok (.i2l, 1) := by decide +kernel
theorem dX7_addCurve_16 : decode cX7_addCurve 16 = .ok (.aload_n 0, 1) := by decide +kernel
theorem dX7_addCurve_17 : decode cX7_addCurve 17 = .ok (.getfield 32, 3) := by decide +kernel
theorem dX7_addCurve_20 : decode cX7_addCurve 20 = .ok (.iconst 4, 1) := by decide +kernel
theorem dX7_addCurve_21 : decode cX7_addCurve 21 = .ok (.iload_n 1, 1) := by decide +kernel
theorem dX7_addCurve_22 : decode cX7_addCurve 22 = .ok (.imul, 1) := by decide +kernel
theorem dX7_addCurve_23 : decode cX7_addCurve 23 = .ok (.iload 4, 2) := by decide +kernel
theorem dX7_addCurve_25 : decode cX7_addCurve 25 = .ok (.iadd, 1) := by decide +kernel
theorem dX7_addCurve_26 : decode cX7_addCurve 26 = .ok (.iaload, 1) := by decide +kernel
theorem dX7_addCurve_27 : decode cX7_addCurve 27 = .ok (.i2l, 1) := by decide +kernel
theorem dX7_addCurve_28 : decode cX7_addCurve 28 = .ok (.lmul, 1) := by decide +kernel
theorem dX7_addCurve_29 : decode cX7_addCurve 29 = .ok (.lstore 5, 2) := by decide +kernel
theorem dX7_addCurve_31 : decode cX7_addCurve 31 = .ok (.lconst 1, 1) := by decide +kernel
theorem dX7_addCurve_32 : decode cX7_addCurve 32 = .ok (.lstore 7, 2) := by decide +kernel
theorem dX7_addCurve_34 : decode cX7_addCurve 34 = .ok (.iconst 0, 1) := by decide +kernel
theorem dX7_addCurve_35 : decode cX7_addCurve 35 = .ok (.istore 9, 2) := by decide +kernel
theorem dX7_addCurve_37 : decode cX7_addCurve 37 = .ok (.iload 9, 2) := by decide +kernel
theorem dX7_addCurve_39 : decode cX7_addCurve 39 = .ok (.aload_n 0, 1) := by decide +kernel
theorem dX7_addCurve_40 : decode cX7_addCurve 40 = .ok (.getfield 26, 3) := by decide +kernel
theorem dX7_addCurve_43 : decode cX7_addCurve 43 = .ok (.iload_n 1, 1) := by decide +kernel
theorem dX7_addCurve_44 : decode cX7_addCurve 44 = .ok (.iaload, 1) := by decide +kernel
theorem dX7_addCurve_45 : decode cX7_addCurve 45 = .ok (.if_icmp .ge 64, 3) := by decide +kernel
theorem dX7_addCurve_48 : decode cX7_addCurve 48 = .ok (.iload 9, 2) := by decide +kernel
theorem dX7_addCurve_50 : decode cX7_addCurve 50 = .ok (.iload 4, 2) := by decide +kernel
theorem dX7_addCurve_52 : decode cX7_addCurve 52 = .ok (.if_icmp .eq 51, 3) := by decide +kernel
theorem dX7_addCurve_55 : decode cX7_addCurve 55 = .ok (.lload 5, 2) := by decide +kernel
theorem dX7_addCurve_57 : decode cX7_addCurve 57 = .ok (.iload_n 2, 1) := by decide +kernel
theorem dX7_addCurve_58 : decode cX7_addCurve 58 = .ok (.aload_n 0, 1) := by decide +kernel
theorem dX7_addCurve_59 : decode cX7_addCurve 59 = .ok (.getfield 29, 3) := by decide +kernel
theorem dX7_addCurve_62 : decode cX7_addCurve 62 = .ok (.iconst 4, 1) := by decide +kernel
theorem dX7_addCurve_63 : decode cX7_addCurve 63 = .ok (.iload_n 1, 1) := by decide +kernel
theorem dX7_addCurve_64 : decode cX7_addCurve 64 = .ok (.imul, 1) := by decide +kernel
theorem dX7_addCurve_65 : decode cX7_addCurve 65 = .ok (.iload 9, 2) := by decide +kernel
theorem dX7_addCurve_67 : decode cX7_addCurve 67 = .ok (.iadd, 1) := by decide +kernel
theorem dX7_addCurve_68 : decode cX7_addCurve 68 = .ok (.iaload, 1) := by decide +kernel
theorem dX7_addCurve_69 : decode cX7_addCurve 69 = .ok (.isub, 1) := by decide +kernel
theorem dX7_addCurve_70 : decode cX7_addCurve 70 = .ok (.i2l, 1) := by decide +kernel
theorem dX7_addCurve_71 : decode cX7_addCurve 71 = .ok (.lmul, 1) := by decide +kernel
theorem dX7_addCurve_72 : decode cX7_addCurve 72 = .ok (.lstore 5, 2) := by decide +kernel
theorem dX7_addCurve_74 : decode cX7_addCurve 74 = .ok (.lload 7, 2) := by decide +kernel
theorem dX7_addCurve_76 : decode cX7_addCurve 76 = .ok (.aload_n 0, 1) := by decide +kernel
theorem dX7_addCurve_77 : decode cX7_addCurve 77 = .ok (.getfield 29, 3) := by decide +kernel
theorem dX7_addCurve_80 : decode cX7_addCurve 80 = .ok (.iconst 4, 1) := by decide +kernel
theorem dX7_addCurve_81 : decode cX7_addCurve 81 = .ok (.iload_n 1, 1) := by decide +kernel
theorem dX7_addCurve_82 : decode cX7_addCurve 82 = .ok (.imul, 1) := by decide +kernel
theorem dX7_addCurve_83 : decode cX7_addCurve 83 = .ok (.iload 4, 2) := by decide +kernel
theorem dX7_addCurve_85 : decode cX7_addCurve 85 = .ok (.iadd, 1) := by decide +kernel
theorem dX7_addCurve_86 : decode cX7_addCurve 86 = .ok (.iaload, 1) := by decide +kernel
theorem dX7_addCurve_87 : decode cX7_addCurve 87 = .ok (.aload_n 0, 1) := by decide +kernel
theorem dX7_addCurve_88 : decode cX7_addCurve 88 = .ok (.getfield 29, 3) := by decide +kernel
theorem dX7_addCurve_91 : decode cX7_addCurve 91 = .ok (.iconst 4, 1) := by decide +kernel
theorem dX7_addCurve_92 : decode cX7_addCurve 92 = .ok (.iload_n 1, 1) := by decide +kernel
theorem dX7_addCurve_93 : decode cX7_addCurve 93 = .ok (.imul, 1) := by decide +kernel
theorem dX7_addCurve_94 : decode cX7_addCurve 94 = .ok (.iload 9, 2) := by decide +kernel
theorem dX7_addCurve_96 : decode cX7_addCurve 96 = .ok (.iadd, 1) := by decide +kernel
theorem dX7_addCurve_97 : decode cX7_addCurve 97 = .ok (.iaload, 1) := by decide +kernel
theorem dX7_addCurve_98 : decode cX7_addCurve 98 = .ok (.isub, 1) := by decide +kernel
theorem dX7_addCurve_99 : decode cX7_addCurve 99 = .ok (.i2l, 1) := by decide +kernel
theorem dX7_addCurve_100 : decode cX7_addCurve 100 = .ok (.lmul, 1) := by decide +kernel
theorem dX7_addCurve_101 : decode cX7_addCurve 101 = .ok (.lstore 7, 2) := by decide +kernel
theorem dX7_addCurve_103 : decode cX7_addCurve 103 = .ok (.iinc 9 1, 3) := by decide +kernel
theorem dX7_addCurve_106 : decode cX7_addCurve 106 = .ok (.goto (-69), 3) := by decide +kernel
theorem dX7_addCurve_109 : decode cX7_addCurve 109 = .ok (.aload_n 0, 1) := by decide +kernel
theorem dX7_addCurve_110 : decode cX7_addCurve 110 = .ok (.lload 7, 2) := by decide +kernel
theorem dX7_addCurve_112 : decode cX7_addCurve 112 = .ok (.lconst 0, 1) := by decide +kernel
theorem dX7_addCurve_113 : decode cX7_addCurve 113 = .ok (.lcmp, 1) := by decide +kernel
theorem dX7_addCurve_114 : decode cX7_addCurve 114 = .ok (.ifCond .ge 9, 3) := by decide +kernel
theorem dX7_addCurve_117 : decode cX7_addCurve 117 = .ok (.lload 5, 2) := by decide +kernel
theorem dX7_addCurve_119 : decode cX7_addCurve 119 = .ok (.lneg, 1) := by decide +kernel
theorem dX7_addCurve_120 : decode cX7_addCurve 120 = .ok (.goto 5, 3) := by decide +kernel
theorem dX7_addCurve_123 : decode cX7_addCurve 123 = .ok (.lload 5, 2) := by decide +kernel
theorem dX7_addCurve_125 : decode cX7_addCurve 125 = .ok (.lload 7, 2) := by decide +kernel
theorem dX7_addCurve_127 : decode cX7_addCurve 127 = .ok (.invokestatic 79, 3) := by decide +kernel
theorem dX7_addCurve_130 : decode cX7_addCurve 130 = .ok (.invokevirtual 130, 3) := by decide +kernel
theorem dX7_addCurve_133 : decode cX7_addCurve 133 = .ok (.iinc 4 1, 3) := by decide +kernel
theorem dX7_addCurve_136 : decode cX7_addCurve 136 = .ok (.goto (-133), 3) := by decide +kernel
theorem dX7_addCurve_139 : decode cX7_addCurve 139 = .ok (.return_, 1) := by decide +kernel
set_option maxRecDepth 20000 in
theorem ggX7_curve_X7_isTable : GoodIn wsX7_curve wsX7_isTable := goodIn_r _ [7, 8, 9, 6, 10] (by decide +kernel) (by decide +kernel)
set_option maxRecDepth 20000 in
theorem gX7_curve_X7_isTable : GoodIn wsX7_curve (va_wsS RX7 118 yX7_isTable wsX7_isTable) := goodIn_app (goodIn_of _ (by decide +kernel)) ggX7_curve_X7_isTable
set_option maxRecDepth 20000 in
theorem ggX7_curve_X7_isX : GoodIn wsX7_curve wsX7_isX := goodIn_r _ [13, 8, 9, 6, 10] (by decide +kernel) (by decide +kernel)
set_option maxRecDepth 20000 in
theorem gX7_curve_X7_isX : GoodIn wsX7_curve (va_wsS RX7 121 yX7_isX wsX7_isX) := goodIn_app (goodIn_of _ (by decide +kernel)) ggX7_curve_X7_isX
set_option maxRecDepth 20000 in
theorem ggX7_curve_X7_addCurve : GoodIn wsX7_curve wsX7_addCurve := goodIn_r _ [17, 1, 18, 19, 20, 21, 6, 22, 23, 24, 25, 26, 3, 2, 27, 28, 29, 36, 37, 38, 39, 40, 41, 42, 43, 44, 45, 46, 47, 48, 49, 50, 51, 52, 53, 54, 55, 56, 57, 58, 59, 60, 61, 62, 63, 64, 65] (by decide +kernel) (by decide +kernel)
set_option maxRecDepth 20000 in
theorem gX7_curve_X7_addCurve : GoodIn wsX7_curve (wsV RX7 134 RX7 yX7_addCurve wsX7_addCurve) := goodIn_app (goodIn_of _ (by decide +kernel)) ggX7_curve_X7_addCurve
set_option maxRecDepth 20000 in
theorem ggX7_curve_X7_tell : GoodIn wsX7_curve wsX7_tell := goodIn_r _ [33, 34, 35, 27, 28, 6, 29, 20, 21, 22, 36, 37, 38, 39, 40, 41, 42, 43, 44, 45, 46, 47, 48, 49, 50, 51, 52, 53, 54, 55, 56, 57, 58, 59, 60, 61, 62, 63, 64, 65] (by decide +kernel) (by decide +kernel)
set_option maxRecDepth 20000 in
theorem gX7_curve_X7_tell : GoodIn wsX7_curve (wsV RX7 114 RX7 yX7_tell wsX7_tell) := goodIn_app (goodIn_of _ (by decide +kernel)) ggX7_curve_X7_tell
theorem dX7_curve_0 : decode cX7_curve 0 = .ok (.iload_n 1, 1) := by decide +kernel
theorem dX7_curve_1 : decode cX7_curve 1 = .ok (.invokestatic 118, 3) := by decide +kernel
theorem dX7_curve_4 : decode cX7_curve 4 = .ok (.ifCond .eq 10, 3) := by decide +kernel
theorem dX7_curve_7 : decode cX7_curve 7 = .ok (.iload_n 2, 1) := by decide +kernel
theorem dX7_curve_8 : decode cX7_curve 8 = .ok (.invokestatic 121, 3) := by decide +kernel
theorem dX7_curve_11 : decode cX7_curve 11 = .ok (.ifCond .ne 5, 3) := by decide +kernel
theorem dX7_curve_14 : decode cX7_curve 14 = .ok (.iconst (-1), 1) := by decide +kernel
theorem dX7_curve_15 : decode cX7_curve 15 = .ok (.ireturn, 1) := by decide +kernel
theorem dX7_curve_16 : decode cX7_curve 16 = .ok (.aload_n 0, 1) := by decide +kernel
theorem dX7_curve_17 : decode cX7_curve 17 = .ok (.getfield 26, 3) := by decide +kernel
theorem dX7_curve_20 : decode cX7_curve 20 = .ok (.iload_n 1, 1) := by decide +kernel
theorem dX7_curve_21 : decode cX7_curve 21 = .ok (.iaload, 1) := by decide +kernel
theorem dX7_curve_22 : decode cX7_curve 22 = .ok (.ifCond .ne 6, 3) := by decide +kernel
theorem dX7_curve_25 : decode cX7_curve 25 = .ok (.bipush (-4), 2) := by decide +kernel
theorem dX7_curve_27 : decode cX7_curve 27 = .ok (.ireturn, 1) := by decide +kernel
theorem dX7_curve_28 : decode cX7_curve 28 = .ok (.aload_n 0, 1) := by decide +kernel
theorem dX7_curve_29 : decode cX7_curve 29 = .ok (.lconst 0, 1) := by decide +kernel
theorem dX7_curve_30 : decode cX7_curve 30 = .ok (.putfield 127, 3) := by decide +kernel
theorem dX7_curve_33 : decode cX7_curve 33 = .ok (.aload_n 0, 1) := by decide +kernel
theorem dX7_curve_34 : decode cX7_curve 34 = .ok (.lconst 1, 1) := by decide +kernel
theorem dX7_curve_35 : decode cX7_curve 35 = .ok (.putfield 124, 3) := by decide +kernel
theorem dX7_curve_38 : decode cX7_curve 38 = .ok (.aload_n 0, 1) := by decide +kernel
theorem dX7_curve_39 : decode cX7_curve 39 = .ok (.iload_n 1, 1) := by decide +kernel
theorem dX7_curve_40 : decode cX7_curve 40 = .ok (.iload_n 2, 1) := by decide +kernel
theorem dX7_curve_41 : decode cX7_curve 41 = .ok (.iconst 1, 1) := by decide +kernel
theorem dX7_curve_42 : decode cX7_curve 42 = .ok (.invokevirtual 134, 3) := by decide +kernel
theorem dX7_curve_45 : decode cX7_curve 45 = .ok (.aload_n 0, 1) := by decide +kernel
theorem dX7_curve_46 : decode cX7_curve 46 = .ok (.aload_n 0, 1) := by decide +kernel
theorem dX7_curve_47 : decode cX7_curve 47 = .ok (.getfield 127, 3) := by decide +kernel
theorem dX7_curve_50 : decode cX7_curve 50 = .ok (.aload_n 0, 1) := by decide +kernel
theorem dX7_curve_51 : decode cX7_curve 51 = .ok (.getfield 124, 3) := by decide +kernel
theorem dX7_curve_54 : decode cX7_curve 54 = .ok (.iconst 1, 1) := by decide +kernel
theorem dX7_curve_55 : decode cX7_curve 55 = .ok (.invokevirtual 114, 3) := by decide +kernel
theorem dX7_curve_58 : decode cX7_curve 58 = .ok (.ireturn, 1) := by decide +kernel
theorem dX7_isBelow_0 : decode cX7_isBelow 0 = .ok (.lload_n 0, 1) := by decide +kernel
theorem dX7_isBelow_1 : decode cX7_isBelow 1 = .ok (.lstore 8, 2) := by decide +kernel
theorem dX7_isBelow_3 : decode cX7_isBelow 3 = .ok (.lload_n 2, 1) := by decide +kernel
theorem dX7_isBelow_4 : decode cX7_isBelow 4 = .ok (.lstore 10, 2) := by decide +kernel
theorem dX7_isBelow_6 : decode cX7_isBelow 6 = .ok (.lload 4, 2) := by decide +kernel
theorem dX7_isBelow_8 : decode cX7_isBelow 8 = .ok (.lstore 12, 2) := by decide +kernel
theorem dX7_isBelow_10 : decode cX7_isBelow 10 = .ok (.lload 6, 2) := by decide +kernel
theorem dX7_isBelow_12 : decode cX7_isBelow 12 = .ok (.lstore 14, 2) := by decide +kernel
theorem dX7_isBelow_14 : decode cX7_isBelow 14 = .ok (.iconst 0, 1) := by decide +kernel
theorem dX7_isBelow_15 : decode cX7_isBelow 15 = .ok (.istore 16, 2) := by decide +kernel
theorem dX7_isBelow_17 : decode cX7_isBelow 17 = .ok (.lload 8, 2) := by decide +kernel
theorem dX7_isBelow_19 : decode cX7_isBelow 19 = .ok (.lload 10, 2) := by decide +kernel
theorem dX7_isBelow_21 : decode cX7_isBelow 21 = .ok (.ldiv, 1) := by decide +kernel
theorem dX7_isBelow_22 : decode cX7_isBelow 22 = .ok (.lload 12, 2) := by decide +kernel
theorem dX7_isBelow_24 : decode cX7_isBelow 24 = .ok (.lload 14, 2) := by decide +kernel
theorem dX7_isBelow_26 : decode cX7_isBelow 26 = .ok (.ldiv, 1) := by decide +kernel
theorem dX7_isBelow_27 : decode cX7_isBelow 27 = .ok (.lcmp, 1) := by decide +kernel
theorem dX7_isBelow_28 : decode cX7_isBelow 28 = .ok (.ifCond .ne 68, 3) := by decide +kernel
theorem dX7_isBelow_31 : decode cX7_isBelow 31 = .ok (.lload 8, 2) := by decide +kernel
theorem dX7_isBelow_33 : decode cX7_isBelow 33 = .ok (.lload 10, 2) := by decide +kernel
theorem dX7_isBelow_35 : decode cX7_isBelow 35 = .ok (.lrem, 1) := by decide +kernel
theorem dX7_isBelow_36 : decode cX7_isBelow 36 = .ok (.lconst 0, 1) := by decide +kernel
theorem dX7_isBelow_37 : decode cX7_isBelow 37 = .ok (.lcmp, 1) := by decide +kernel
theorem dX7_isBelow_38 : decode cX7_isBelow 38 = .ok (.ifCond .eq 58, 3) := by decide +kernel
theorem dX7_isBelow_41 : decode cX7_isBelow 41 = .ok (.lload 12, 2) := by decide +kernel
theorem dX7_isBelow_43 : decode cX7_isBelow 43 = .ok (.lload 14, 2) := by decide +kernel
theorem dX7_isBelow_45 : decode cX7_isBelow 45 = .ok (.lrem, 1) := by decide +kernel
theorem dX7_isBelow_46 : decode cX7_isBelow 46 = .ok (.lconst 0, 1) := by decide +kernel
theorem dX7_isBelow_47 : decode cX7_isBelow 47 = .ok (.lcmp, 1) := by decide +kernel
theorem dX7_isBelow_48 : decode cX7_isBelow 48 = .ok (.ifCond .eq 48, 3) := by decide +kernel
theorem dX7_isBelow_51 : decode cX7_isBelow 51 = .ok (.lload 8, 2) := by decide +kernel
theorem dX7_isBelow_53 : decode cX7_isBelow 53 = .ok (.lload 10, 2) := by decide +kernel
theorem dX7_isBelow_55 : decode cX7_isBelow 55 = .ok (.lrem, 1) := by decide +kernel
theorem dX7_isBelow_56 : decode cX7_isBelow 56 = .ok (.lstore 17, 2) := by decide +kernel
theorem dX7_isBelow_58 : decode cX7_isBelow 58 = .ok (.lload 12, 2) := by decide +kernel
theorem dX7_isBelow_60 : decode cX7_isBelow 60 = .ok (.lload 14, 2) := by decide +kernel
theorem dX7_isBelow_62 : decode cX7_isBelow 62 = .ok (.lrem, 1) := by decide +kernel
theorem dX7_isBelow_63 : decode cX7_isBelow 63 = .ok (.lstore 19, 2) := by decide +kernel
theorem dX7_isBelow_65 : decode cX7_isBelow 65 = .ok (.lload 10, 2) := by decide +kernel
theorem dX7_isBelow_67 : decode cX7_isBelow 67 = .ok (.lstore 8, 2) := by decide +kernel
theorem dX7_isBelow_69 : decode cX7_isBelow 69 = .ok (.lload 17, 2) := by decide +kernel
theorem dX7_isBelow_71 : decode cX7_isBelow 71 = .ok (.lstore 10, 2) := by decide +kernel
theorem dX7_isBelow_73 : decode cX7_isBelow 73 = .ok (.lload 14, 2) := by decide +kernel
theorem dX7_isBelow_75 : decode cX7_isBelow 75 = .ok (.lstore 12, 2) := by decide +kernel
theorem dX7_isBelow_77 : decode cX7_isBelow 77 = .ok (.lload 19, 2) := by decide +kernel
theorem dX7_isBelow_79 : decode cX7_isBelow 79 = .ok (.lstore 14, 2) := by decide +kernel
theorem dX7_isBelow_81 : decode cX7_isBelow 81 = .ok (.iload 16, 2) := by decide +kernel
theorem dX7_isBelow_83 : decode cX7_isBelow 83 = .ok (.ifCond .ne 7, 3) := by decide +kernel
theorem dX7_isBelow_86 : decode cX7_isBelow 86 = .ok (.iconst 1, 1) := by decide +kernel
theorem dX7_isBelow_87 : decode cX7_isBelow 87 = .ok (.goto 4, 3) := by decide +kernel
theorem dX7_isBelow_90 : decode cX7_isBelow 90 = .ok (.iconst 0, 1) := by decide +kernel
theorem dX7_isBelow_91 : decode cX7_isBelow 91 = .ok (.istore 16, 2) := by decide +kernel
theorem dX7_isBelow_93 : decode cX7_isBelow 93 = .ok (.goto (-76), 3) := by decide +kernel
theorem dX7_isBelow_96 : decode cX7_isBelow 96 = .ok (.lload 8, 2) := by decide +kernel
theorem dX7_isBelow_98 : decode cX7_isBelow 98 = .ok (.lload 10, 2) := by decide +kernel
theorem dX7_isBelow_100 : decode cX7_isBelow 100 = .ok (.ldiv, 1) := by decide +kernel
theorem dX7_isBelow_101 : decode cX7_isBelow 101 = .ok (.lload 12, 2) := by decide +kernel
theorem dX7_isBelow_103 : decode cX7_isBelow 103 = .ok (.lload 14, 2) := by decide +kernel
theorem dX7_isBelow_105 : decode cX7_isBelow 105 = .ok (.ldiv, 1) := by decide +kernel
theorem dX7_isBelow_106 : decode cX7_isBelow 106 = .ok (.lcmp, 1) := by decide +kernel
theorem dX7_isBelow_107 : decode cX7_isBelow 107 = .ok (.ifCond .eq 33, 3) := by decide +kernel
theorem dX7_isBelow_110 : decode cX7_isBelow 110 = .ok (.lload 8, 2) := by decide +kernel
theorem dX7_isBelow_112 : decode cX7_isBelow 112 = .ok (.lload 10, 2) := by decide +kernel
theorem dX7_isBelow_114 : decode cX7_isBelow 114 = .ok (.ldiv, 1) := by decide +kernel
theorem dX7_isBelow_115 : decode cX7_isBelow 115 = .ok (.lload 12, 2) := by decide +kernel
theorem dX7_isBelow_117 : decode cX7_isBelow 117 = .ok (.lload 14, 2) := by decide +kernel
theorem dX7_isBelow_119 : decode cX7_isBelow 119 = .ok (.ldiv, 1) := by decide +kernel
theorem dX7_isBelow_120 : decode cX7_isBelow 120 = .ok (.lcmp, 1) := by decide +kernel
theorem dX7_isBelow_121 : decode cX7_isBelow 121 = .ok (.ifCond .ge 7, 3) := by decide +kernel
theorem dX7_isBelow_124 : decode cX7_isBelow 124 = .ok (.iconst 1, 1) := by decide +kernel
theorem dX7_isBelow_125 : decode cX7_isBelow 125 = .ok (.goto 4, 3) := by decide +kernel
theorem dX7_isBelow_128 : decode cX7_isBelow 128 = .ok (.iconst 0, 1) := by decide +kernel
theorem dX7_isBelow_129 : decode cX7_isBelow 129 = .ok (.iload 16, 2) := by decide +kernel
theorem dX7_isBelow_131 : decode cX7_isBelow 131 = .ok (.if_icmp .eq 7, 3) := by decide +kernel
theorem dX7_isBelow_134 : decode cX7_isBelow 134 = .ok (.iconst 1, 1) := by decide +kernel
theorem dX7_isBelow_135 : decode cX7_isBelow 135 = .ok (.goto 4, 3) := by decide +kernel
theorem dX7_isBelow_138 : decode cX7_isBelow 138 = .ok (.iconst 0, 1) := by decide +kernel
theorem dX7_isBelow_139 : decode cX7_isBelow 139 = .ok (.ireturn, 1) := by decide +kernel
theorem dX7_isBelow_140 : decode cX7_isBelow 140 = .ok (.lload 8, 2) := by decide +kernel
theorem dX7_isBelow_142 : decode cX7_isBelow 142 = .ok (.lload 10, 2) := by decide +kernel
theorem dX7_isBelow_144 : decode cX7_isBelow 144 = .ok (.lrem, 1) := by decide +kernel
theorem dX7_isBelow_145 : decode cX7_isBelow 145 = .ok (.lconst 0, 1) := by decide +kernel
theorem dX7_isBelow_146 : decode cX7_isBelow 146 = .ok (.lcmp, 1) := by decide +kernel
theorem dX7_isBelow_147 : decode cX7_isBelow 147 = .ok (.ifCond .eq 7, 3) := by decide +kernel
theorem dX7_isBelow_150 : decode cX7_isBelow 150 = .ok (.iconst 1, 1) := by decide +kernel
theorem dX7_isBelow_151 : decode cX7_isBelow 151 = .ok (.goto 4, 3) := by decide +kernel
theorem dX7_isBelow_154 : decode cX7_isBelow 154 = .ok (.iconst 0, 1) := by decide +kernel
theorem dX7_isBelow_155 : decode cX7_isBelow 155 = .ok (.istore 17, 2) := by decide +kernel
theorem dX7_isBelow_157 : decode cX7_isBelow 157 = .ok (.lload 12, 2) := by decide +kernel
theorem dX7_isBelow_159 : decode cX7_isBelow 159 = .ok (.lload 14, 2) := by decide +kernel
theorem dX7_isBelow_161 : decode cX7_isBelow 161 = .ok (.lrem, 1) := by decide +kernel
theorem dX7_isBelow_162 : decode cX7_isBelow 162 = .ok (.lconst 0, 1) := by decide +kernel
theorem dX7_isBelow_163 : decode cX7_isBelow 163 = .ok (.lcmp, 1) := by decide +kernel
theorem dX7_isBelow_164 : decode cX7_isBelow 164 = .ok (.ifCond .eq 7, 3) := by decide +kernel
theorem dX7_isBelow_167 : decode cX7_isBelow 167 = .ok (.iconst 1, 1) := by decide +kernel
theorem dX7_isBelow_168 : decode cX7_isBelow 168 = .ok (.goto 4, 3) := by decide +kernel
theorem dX7_isBelow_171 : decode cX7_isBelow 171 = .ok (.iconst 0, 1) := by decide +kernel
theorem dX7_isBelow_172 : decode cX7_isBelow 172 = .ok (.istore 18, 2) := by decide +kernel
theorem dX7_isBelow_174 : decode cX7_isBelow 174 = .ok (.iload 17, 2) := by decide +kernel
theorem dX7_isBelow_176 : decode cX7_isBelow 176 = .ok (.iload 18, 2) := by decide +kernel
theorem dX7_isBelow_178 : decode cX7_isBelow 178 = .ok (.if_icmp .eq 14, 3) := by decide +kernel
theorem dX7_isBelow_181 : decode cX7_isBelow 181 = .ok (.iload 18, 2) := by decide +kernel
theorem dX7_isBelow_183 : decode cX7_isBelow 183 = .ok (.iload 16, 2) := by decide +kernel
theorem dX7_isBelow_185 : decode cX7_isBelow 185 = .ok (.if_icmp .eq 7, 3) := by decide +kernel
theorem dX7_isBelow_188 : decode cX7_isBelow 188 = .ok (.iconst 1, 1) := by decide +kernel
theorem dX7_isBelow_189 : decode cX7_isBelow 189 = .ok (.goto 4, 3) := by decide +kernel
theorem dX7_isBelow_192 : decode cX7_isBelow 192 = .ok (.iconst 0, 1) := by decide +kernel
theorem dX7_isBelow_193 : decode cX7_isBelow 193 = .ok (.ireturn, 1) := by decide +kernel
set_option maxRecDepth 20000 in
theorem ggX7_apart_X7_isTable : GoodIn wsX7_apart wsX7_isTable := goodIn_r _ [8, 9, 10, 7, 11] (by decide +kernel) (by decide +kernel)
set_option maxRecDepth 20000 in
theorem gX7_apart_X7_isTable : GoodIn wsX7_apart (va_wsS RX7 118 yX7_isTable wsX7_isTable) := goodIn_app (goodIn_of _ (by decide +kernel)) ggX7_apart_X7_isTable
set_option maxRecDepth 20000 in
theorem ggX7_apart_X7_isX : GoodIn wsX7_apart wsX7_isX := goodIn_r _ [14, 9, 10, 7, 11] (by decide +kernel) (by decide +kernel)
set_option maxRecDepth 20000 in
theorem gX7_apart_X7_isX : GoodIn wsX7_apart (va_wsS RX7 121 yX7_isX wsX7_isX) := goodIn_app (goodIn_of _ (by decide +kernel)) ggX7_apart_X7_isX
set_option maxRecDepth 20000 in
theorem ggX7_apart_X7_addCurve : GoodIn wsX7_apart wsX7_addCurve := goodIn_r _ [18, 1, 19, 20, 21, 22, 7, 23, 24, 25, 26, 27, 4, 3, 28, 29, 30, 40, 41, 42, 43, 44, 45, 46, 47, 48, 49, 50, 51, 52, 53, 54, 55, 56, 57, 58, 59, 60, 61, 62, 63, 64, 65, 66, 67, 68, 69] (by decide +kernel) (by decide +kernel)
set_option maxRecDepth 20000 in
theorem gX7_apart_X7_addCurve : GoodIn wsX7_apart (wsV RX7 134 RX7 yX7_addCurve wsX7_addCurve) := goodIn_app (goodIn_of _ (by decide +kernel)) ggX7_apart_X7_addCurve
set_option maxRecDepth 20000 in
theorem ggX7_apart_X7_size : GoodIn wsX7_apart wsX7_size := goodIn_r _ [23] (by decide +kernel) (by decide +kernel)
set_option maxRecDepth 20000 in
theorem gX7_apart_X7_size : GoodIn wsX7_apart (va_wsS RX7 79 yX7_size wsX7_size) := goodIn_app (goodIn_of _ (by decide +kernel)) ggX7_apart_X7_size
set_option maxRecDepth 20000 in
theorem ggX7_apart_X7_isBelow : GoodIn wsX7_apart wsX7_isBelow := goodIn_r _ [33] (by decide +kernel) (by decide +kernel)
set_option maxRecDepth 20000 in
theorem gX7_apart_X7_isBelow : GoodIn wsX7_apart (va_wsS RX7 140 yX7_isBelow wsX7_isBelow) := goodIn_app (goodIn_of _ (by decide +kernel)) ggX7_apart_X7_isBelow
set_option maxRecDepth 20000 in
theorem ggX7_apart_X7_tell : GoodIn wsX7_apart wsX7_tell := goodIn_r _ [37, 38, 39, 28, 29, 7, 30, 21, 22, 23, 40, 41, 42, 43, 44, 45, 46, 47, 48, 49, 50, 51, 52, 53, 54, 55, 56, 57, 58, 59, 60, 61, 62, 63, 64, 65, 66, 67, 68, 69] (by decide +kernel) (by decide +kernel)
set_option maxRecDepth 20000 in
theorem gX7_apart_X7_tell : GoodIn wsX7_apart (wsV RX7 114 RX7 yX7_tell wsX7_tell) := goodIn_app (goodIn_of _ (by decide +kernel)) ggX7_apart_X7_tell
theorem dX7_apart_0 : decode cX7_apart 0 = .ok (.iload_n 1, 1) := by decide +kernel
theorem dX7_apart_1 : decode cX7_apart 1 = .ok (.invokestatic 118, 3) := by decide +kernel
theorem dX7_apart_4 : decode cX7_apart 4 = .ok (.ifCond .eq 31, 3) := by decide +kernel
theorem dX7_apart_7 : decode cX7_apart 7 = .ok (.iload_n 2, 1) := by decide +kernel
theorem dX7_apart_8 : decode cX7_apart 8 = .ok (.invokestatic 118, 3) := by decide +kernel
theorem dX7_apart_11 : decode cX7_apart 11 = .ok (.ifCond .eq 24, 3) := by decide +kernel
theorem dX7_apart_14 : decode cX7_apart 14 = .ok (.iload_n 3, 1) := by decide +kernel
theorem dX7_apart_15 : decode cX7_apart 15 = .ok (.invokestatic 121, 3) := by decide +kernel
theorem dX7_apart_18 : decode cX7_apart 18 = .ok (.ifCond .eq 17, 3) := by decide +kernel
theorem dX7_apart_21 : decode cX7_apart 21 = .ok (.iload 4, 2) := by decide +kernel
theorem dX7_apart_23 : decode cX7_apart 23 = .ok (.invokestatic 121, 3) := by decide +kernel
theorem dX7_apart_26 : decode cX7_apart 26 = .ok (.ifCond .eq 9, 3) := by decide +kernel
theorem dX7_apart_29 : decode cX7_apart 29 = .ok (.iload_n 3, 1) := by decide +kernel
theorem dX7_apart_30 : decode cX7_apart 30 = .ok (.iload 4, 2) := by decide +kernel
theorem dX7_apart_32 : decode cX7_apart 32 = .ok (.if_icmp .le 5, 3) := by decide +kernel
theorem dX7_apart_35 : decode cX7_apart 35 = .ok (.iconst (-1), 1) := by decide +kernel
theorem dX7_apart_36 : decode cX7_apart 36 = .ok (.ireturn, 1) := by decide +kernel
theorem dX7_apart_37 : decode cX7_apart 37 = .ok (.aload_n 0, 1) := by decide +kernel
theorem dX7_apart_38 : decode cX7_apart 38 = .ok (.getfield 26, 3) := by decide +kernel
theorem dX7_apart_41 : decode cX7_apart 41 = .ok (.iload_n 1, 1) := by decide +kernel
theorem dX7_apart_42 : decode cX7_apart 42 = .ok (.iaload, 1) := by decide +kernel
theorem dX7_apart_43 : decode cX7_apart 43 = .ok (.ifCond .eq 12, 3) := by decide +kernel
theorem dX7_apart_46 : decode cX7_apart 46 = .ok (.aload_n 0, 1) := by decide +kernel
theorem dX7_apart_47 : decode cX7_apart 47 = .ok (.getfield 26, 3) := by decide +kernel
theorem dX7_apart_50 : decode cX7_apart 50 = .ok (.iload_n 2, 1) := by decide +kernel
theorem dX7_apart_51 : decode cX7_apart 51 = .ok (.iaload, 1) := by decide +kernel
theorem dX7_apart_52 : decode cX7_apart 52 = .ok (.ifCond .ne 6, 3) := by decide +kernel
theorem dX7_apart_55 : decode cX7_apart 55 = .ok (.bipush (-4), 2) := by decide +kernel
theorem dX7_apart_57 : decode cX7_apart 57 = .ok (.ireturn, 1) := by decide +kernel
theorem dX7_apart_58 : decode cX7_apart 58 = .ok (.iload_n 3, 1) := by decide +kernel
theorem dX7_apart_59 : decode cX7_apart 59 = .ok (.istore 5, 2) := by decide +kernel
theorem dX7_apart_61 : decode cX7_apart 61 = .ok (.ldc2_w 138, 3) := by decide +kernel
theorem dX7_apart_64 : decode cX7_apart 64 = .ok (.lstore 6, 2) := by decide +kernel
theorem dX7_apart_66 : decode cX7_apart 66 = .ok (.lconst 1, 1) := by decide +kernel
theorem dX7_apart_67 : decode cX7_apart 67 = .ok (.lstore 8, 2) := by decide +kernel
theorem dX7_apart_69 : decode cX7_apart 69 = .ok (.iload_n 3, 1) := by decide +kernel
theorem dX7_apart_70 : decode cX7_apart 70 = .ok (.istore 10, 2) := by decide +kernel
theorem dX7_apart_72 : decode cX7_apart 72 = .ok (.iload 10, 2) := by decide +kernel
theorem dX7_apart_74 : decode cX7_apart 74 = .ok (.iload 4, 2) := by decide +kernel
theorem dX7_apart_76 : decode cX7_apart 76 = .ok (.if_icmp .gt 82, 3) := by decide +kernel
theorem dX7_apart_79 : decode cX7_apart 79 = .ok (.aload_n 0, 1) := by decide +kernel
theorem dX7_apart_80 : decode cX7_apart 80 = .ok (.lconst 0, 1) := by decide +kernel
theorem dX7_apart_81 : decode cX7_apart 81 = .ok (.putfield 127, 3) := by decide +kernel
theorem dX7_apart_84 : decode cX7_apart 84 = .ok (.aload_n 0, 1) := by decide +kernel
theorem dX7_apart_85 : decode cX7_apart 85 = .ok (.lconst 1, 1) := by decide +kernel
theorem dX7_apart_86 : decode cX7_apart 86 = .ok (.putfield 124, 3) := by decide +kernel
theorem dX7_apart_89 : decode cX7_apart 89 = .ok (.aload_n 0, 1) := by decide +kernel
theorem dX7_apart_90 : decode cX7_apart 90 = .ok (.iload_n 1, 1) := by decide +kernel
theorem dX7_apart_91 : decode cX7_apart 91 = .ok (.iload 10, 2) := by decide +kernel
theorem dX7_apart_93 : decode cX7_apart 93 = .ok (.iconst 1, 1) := by decide +kernel
theorem dX7_apart_94 : decode cX7_apart 94 = .ok (.invokevirtual 134, 3) := by decide +kernel
theorem dX7_apart_97 : decode cX7_apart 97 = .ok (.aload_n 0, 1) := by decide +kernel
theorem dX7_apart_98 : decode cX7_apart 98 = .ok (.iload_n 2, 1) := by decide +kernel
theorem dX7_apart_99 : decode cX7_apart 99 = .ok (.iload 10, 2) := by decide +kernel
theorem dX7_apart_101 : decode cX7_apart 101 = .ok (.iconst (-1), 1) := by decide +kernel
theorem dX7_apart_102 : decode cX7_apart 102 = .ok (.invokevirtual 134, 3) := by decide +kernel
theorem dX7_apart_105 : decode cX7_apart 105 = .ok (.lload 6, 2) := by decide +kernel
theorem dX7_apart_107 : decode cX7_apart 107 = .ok (.lconst 0, 1) := by decide +kernel
theorem dX7_apart_108 : decode cX7_apart 108 = .ok (.lcmp, 1) := by decide +kernel
theorem dX7_apart_109 : decode cX7_apart 109 = .ok (.ifCond .lt 24, 3) := by decide +kernel
theorem dX7_apart_112 : decode cX7_apart 112 = .ok (.lload 6, 2) := by decide +kernel
theorem dX7_apart_114 : decode cX7_apart 114 = .ok (.lload 8, 2) := by decide +kernel
theorem dX7_apart_116 : decode cX7_apart 116 = .ok (.aload_n 0, 1) := by decide +kernel
theorem dX7_apart_117 : decode cX7_apart 117 = .ok (.getfield 127, 3) := by decide +kernel
theorem dX7_apart_120 : decode cX7_apart 120 = .ok (.invokestatic 79, 3) := by decide +kernel
theorem dX7_apart_123 : decode cX7_apart 123 = .ok (.aload_n 0, 1) := by decide +kernel
theorem dX7_apart_124 : decode cX7_apart 124 = .ok (.getfield 124, 3) := by decide +kernel
theorem dX7_apart_127 : decode cX7_apart 127 = .ok (.invokestatic 140, 3) := by decide +kernel
theorem dX7_apart_130 : decode cX7_apart 130 = .ok (.ifCond .eq 22, 3) := by decide +kernel
theorem dX7_apart_133 : decode cX7_apart 133 = .ok (.iload 10, 2) := by decide +kernel
theorem dX7_apart_135 : decode cX7_apart 135 = .ok (.istore 5, 2) := by decide +kernel
theorem dX7_apart_137 : decode cX7_apart 137 = .ok (.aload_n 0, 1) := by decide +kernel
theorem dX7_apart_138 : decode cX7_apart 138 = .ok (.getfield 127, 3) := by decide +kernel
theorem dX7_apart_141 : decode cX7_apart 141 = .ok (.invokestatic 79, 3) := by decide +kernel
theorem dX7_apart_144 : decode cX7_apart 144 = .ok (.lstore 6, 2) := by decide +kernel
theorem dX7_apart_146 : decode cX7_apart 146 = .ok (.aload_n 0, 1) := by decide +kernel
theorem dX7_apart_147 : decode cX7_apart 147 = .ok (.getfield 124, 3) := by decide +kernel
theorem dX7_apart_150 : decode cX7_apart 150 = .ok (.lstore 8, 2) := by decide +kernel
theorem dX7_apart_152 : decode cX7_apart 152 = .ok (.iinc 10 1, 3) := by decide +kernel
theorem dX7_apart_155 : decode cX7_apart 155 = .ok (.goto (-83), 3) := by decide +kernel
theorem dX7_apart_158 : decode cX7_apart 158 = .ok (.aload_n 0, 1) := by decide +kernel
theorem dX7_apart_159 : decode cX7_apart 159 = .ok (.lload 6, 2) := by decide +kernel
theorem dX7_apart_161 : decode cX7_apart 161 = .ok (.lload 8, 2) := by decide +kernel
theorem dX7_apart_163 : decode cX7_apart 163 = .ok (.bipush 100, 2) := by decide +kernel
theorem dX7_apart_165 : decode cX7_apart 165 = .ok (.iload 5, 2) := by decide +kernel
theorem dX7_apart_167 : decode cX7_apart 167 = .ok (.iadd, 1) := by decide +kernel
theorem dX7_apart_168 : decode cX7_apart 168 = .ok (.invokevirtual 114, 3) := by decide +kernel
theorem dX7_apart_171 : decode cX7_apart 171 = .ok (.ireturn, 1) := by decide +kernel
set_option maxRecDepth 20000 in
theorem ggX7_isBulb_X7_in : GoodIn wsX7_isBulb wsX7_in := goodIn_r _ [5] (by decide +kernel) (by decide +kernel)
set_option maxRecDepth 20000 in
theorem gX7_isBulb_X7_in : GoodIn wsX7_isBulb (va_wsS RX7 93 yX7_in wsX7_in) := goodIn_app (goodIn_of _ (by decide +kernel)) ggX7_isBulb_X7_in
theorem dX7_isBulb_0 : decode cX7_isBulb 0 = .ok (.iload_n 1, 1) := by decide +kernel
theorem dX7_isBulb_1 : decode cX7_isBulb 1 = .ok (.iconst 0, 1) := by decide +kernel
theorem dX7_isBulb_2 : decode cX7_isBulb 2 = .ok (.aload_n 0, 1) := by decide +kernel
theorem dX7_isBulb_3 : decode cX7_isBulb 3 = .ok (.getfield 144, 3) := by decide +kernel
theorem dX7_isBulb_6 : decode cX7_isBulb 6 = .ok (.iconst 1, 1) := by decide +kernel
theorem dX7_isBulb_7 : decode cX7_isBulb 7 = .ok (.isub, 1) := by decide +kernel
theorem dX7_isBulb_8 : decode cX7_isBulb 8 = .ok (.invokestatic 93, 3) := by decide +kernel
theorem dX7_isBulb_11 : decode cX7_isBulb 11 = .ok (.ireturn, 1) := by decide +kernel
set_option maxRecDepth 20000 in
theorem ggX7_bulb_X7_in : GoodIn wsX7_bulb wsX7_in := goodIn_r _ [7] (by decide +kernel) (by decide +kernel)
set_option maxRecDepth 20000 in
theorem gX7_bulb_X7_in : GoodIn wsX7_bulb (va_wsS RX7 93 yX7_in wsX7_in) := goodIn_app (goodIn_of _ (by decide +kernel)) ggX7_bulb_X7_in
theorem dX7_bulb_0 : decode cX7_bulb 0 = .ok (.iload_n 1, 1) := by decide +kernel
theorem dX7_bulb_1 : decode cX7_bulb 1 = .ok (.iconst 0, 1) := by decide +kernel
theorem dX7_bulb_2 : decode cX7_bulb 2 = .ok (.iconst 3, 1) := by decide +kernel
theorem dX7_bulb_3 : decode cX7_bulb 3 = .ok (.invokestatic 93, 3) := by decide +kernel
theorem dX7_bulb_6 : decode cX7_bulb 6 = .ok (.ifCond .eq 14, 3) := by decide +kernel
theorem dX7_bulb_9 : decode cX7_bulb 9 = .ok (.iload_n 2, 1) := by decide +kernel
theorem dX7_bulb_10 : decode cX7_bulb 10 = .ok (.iconst 0, 1) := by decide +kernel
theorem dX7_bulb_11 : decode cX7_bulb 11 = .ok (.sipush 10000, 3) := by decide +kernel
theorem dX7_bulb_14 : decode cX7_bulb 14 = .ok (.invokestatic 93, 3) := by decide +kernel
theorem dX7_bulb_17 : decode cX7_bulb 17 = .ok (.ifCond .ne 5, 3) := by decide +kernel
theorem dX7_bulb_20 : decode cX7_bulb 20 = .ok (.iconst (-1), 1) := by decide +kernel
theorem dX7_bulb_21 : decode cX7_bulb 21 = .ok (.ireturn, 1) := by decide +kernel
theorem dX7_bulb_22 : decode cX7_bulb 22 = .ok (.aload_n 0, 1) := by decide +kernel
theorem dX7_bulb_23 : decode cX7_bulb 23 = .ok (.getfield 144, 3) := by decide +kernel
theorem dX7_bulb_26 : decode cX7_bulb 26 = .ok (.bipush 16, 2) := by decide +kernel
theorem dX7_bulb_28 : decode cX7_bulb 28 = .ok (.if_icmp .ne 6, 3) := by decide +kernel
theorem dX7_bulb_31 : decode cX7_bulb 31 = .ok (.bipush (-2), 2) := by decide +kernel
theorem dX7_bulb_33 : decode cX7_bulb 33 = .ok (.ireturn, 1) := by decide +kernel
theorem dX7_bulb_34 : decode cX7_bulb 34 = .ok (.aload_n 0, 1) := by decide +kernel
theorem dX7_bulb_35 : decode cX7_bulb 35 = .ok (.getfield 35, 3) := by decide +kernel
theorem dX7_bulb_38 : decode cX7_bulb 38 = .ok (.aload_n 0, 1) := by decide +kernel
theorem dX7_bulb_39 : decode cX7_bulb 39 = .ok (.getfield 144, 3) := by decide +kernel
theorem dX7_bulb_42 : decode cX7_bulb 42 = .ok (.iload_n 1, 1) := by decide +kernel
theorem dX7_bulb_43 : decode cX7_bulb 43 = .ok (.iastore, 1) := by decide +kernel
theorem dX7_bulb_44 : decode cX7_bulb 44 = .ok (.aload_n 0, 1) := by decide +kernel
theorem dX7_bulb_45 : decode cX7_bulb 45 = .ok (.getfield 38, 3) := by decide +kernel
theorem dX7_bulb_48 : decode cX7_bulb 48 = .ok (.aload_n 0, 1) := by decide +kernel
theorem dX7_bulb_49 : decode cX7_bulb 49 = .ok (.getfield 144, 3) := by decide +kernel
theorem dX7_bulb_52 : decode cX7_bulb 52 = .ok (.iload_n 2, 1) := by decide +kernel
theorem dX7_bulb_53 : decode cX7_bulb 53 = .ok (.iastore, 1) := by decide +kernel
theorem dX7_bulb_54 : decode cX7_bulb 54 = .ok (.aload_n 0, 1) := by decide +kernel
theorem dX7_bulb_55 : decode cX7_bulb 55 = .ok (.dup, 1) := by decide +kernel
theorem dX7_bulb_56 : decode cX7_bulb 56 = .ok (.getfield 144, 3) := by decide +kernel
theorem dX7_bulb_59 : decode cX7_bulb 59 = .ok (.iconst 1, 1) := by decide +kernel
theorem dX7_bulb_60 : decode cX7_bulb 60 = .ok (.iadd, 1) := by decide +kernel
theorem dX7_bulb_61 : decode cX7_bulb 61 = .ok (.putfield 144, 3) := by decide +kernel
theorem dX7_bulb_64 : decode cX7_bulb 64 = .ok (.aload_n 0, 1) := by decide +kernel
theorem dX7_bulb_65 : decode cX7_bulb 65 = .ok (.getfield 144, 3) := by decide +kernel
theorem dX7_bulb_68 : decode cX7_bulb 68 = .ok (.iconst 1, 1) := by decide +kernel
theorem dX7_bulb_69 : decode cX7_bulb 69 = .ok (.isub, 1) := by decide +kernel
theorem dX7_bulb_70 : decode cX7_bulb 70 = .ok (.ireturn, 1) := by decide +kernel
theorem dX7_lastOf_0 : decode cX7_lastOf 0 = .ok (.bipush (-9), 2) := by decide +kernel
theorem dX7_lastOf_2 : decode cX7_lastOf 2 = .ok (.istore 4, 2) := by decide +kernel
theorem dX7_lastOf_4 : decode cX7_lastOf 4 = .ok (.iconst 0, 1) := by decide +kernel
theorem dX7_lastOf_5 : decode cX7_lastOf 5 = .ok (.istore 5, 2) := by decide +kernel
theorem dX7_lastOf_7 : decode cX7_lastOf 7 = .ok (.iload 5, 2) := by decide +kernel
theorem dX7_lastOf_9 : decode cX7_lastOf 9 = .ok (.iload_n 3, 1) := by decide +kernel
theorem dX7_lastOf_10 : decode cX7_lastOf 10 = .ok (.if_icmp .ge 50, 3) := by decide +kernel
theorem dX7_lastOf_13 : decode cX7_lastOf 13 = .ok (.aload_n 0, 1) := by decide +kernel
theorem dX7_lastOf_14 : decode cX7_lastOf 14 = .ok (.getfield 41, 3) := by decide +kernel
theorem dX7_lastOf_17 : decode cX7_lastOf 17 = .ok (.iload 5, 2) := by decide +kernel
theorem dX7_lastOf_19 : decode cX7_lastOf 19 = .ok (.iaload, 1) := by decide +kernel
theorem dX7_lastOf_20 : decode cX7_lastOf 20 = .ok (.iload_n 1, 1) := by decide +kernel
theorem dX7_lastOf_21 : decode cX7_lastOf 21 = .ok (.if_icmp .ne 29, 3) := by decide +kernel
theorem dX7_lastOf_24 : decode cX7_lastOf 24 = .ok (.aload_n 0, 1) := by decide +kernel
theorem dX7_lastOf_25 : decode cX7_lastOf 25 = .ok (.getfield 62, 3) := by decide +kernel
theorem dX7_lastOf_28 : decode cX7_lastOf 28 = .ok (.iload 5, 2) := by decide +kernel
theorem dX7_lastOf_30 : decode cX7_lastOf 30 = .ok (.baload, 1) := by decide +kernel
theorem dX7_lastOf_31 : decode cX7_lastOf 31 = .ok (.ifCond .ne 19, 3) := by decide +kernel
theorem dX7_lastOf_34 : decode cX7_lastOf 34 = .ok (.aload_n 0, 1) := by decide +kernel
theorem dX7_lastOf_35 : decode cX7_lastOf 35 = .ok (.getfield 50, 3) := by decide +kernel
theorem dX7_lastOf_38 : decode cX7_lastOf 38 = .ok (.iload 5, 2) := by decide +kernel
theorem dX7_lastOf_40 : decode cX7_lastOf 40 = .ok (.iaload, 1) := by decide +kernel
theorem dX7_lastOf_41 : decode cX7_lastOf 41 = .ok (.iload_n 2, 1) := by decide +kernel
theorem dX7_lastOf_42 : decode cX7_lastOf 42 = .ok (.if_icmp .gt 8, 3) := by decide +kernel
theorem dX7_lastOf_45 : decode cX7_lastOf 45 = .ok (.iload 5, 2) := by decide +kernel
theorem dX7_lastOf_47 : decode cX7_lastOf 47 = .ok (.goto 5, 3) := by decide +kernel
theorem dX7_lastOf_50 : decode cX7_lastOf 50 = .ok (.iload 4, 2) := by decide +kernel
theorem dX7_lastOf_52 : decode cX7_lastOf 52 = .ok (.istore 4, 2) := by decide +kernel
theorem dX7_lastOf_54 : decode cX7_lastOf 54 = .ok (.iinc 5 1, 3) := by decide +kernel
theorem dX7_lastOf_57 : decode cX7_lastOf 57 = .ok (.goto (-50), 3) := by decide +kernel
theorem dX7_lastOf_60 : decode cX7_lastOf 60 = .ok (.iload 4, 2) := by decide +kernel
theorem dX7_lastOf_62 : decode cX7_lastOf 62 = .ok (.ireturn, 1) := by decide +kernel
set_option maxRecDepth 20000 in
theorem ggX7_latestOf_X7_lastOf : GoodIn wsX7_latestOf wsX7_lastOf := goodIn_r _ [7, 8, 9, 10, 11, 12, 13, 14, 15, 16, 17, 18, 19, 20, 21, 22, 23, 24, 25, 26, 27, 28, 29, 30, 31, 32, 33, 34, 35, 36, 37, 38, 39, 40] (by decide +kernel) (by decide +kernel)
set_option maxRecDepth 20000 in
theorem gX7_latestOf_X7_lastOf : GoodIn wsX7_latestOf (wsV RX7 150 RX7 yX7_lastOf wsX7_lastOf) := goodIn_app (goodIn_of _ (by decide +kernel)) ggX7_latestOf_X7_lastOf
theorem dX7_latestOf_0 : decode cX7_latestOf 0 = .ok (.aload_n 0, 1) := by decide +kernel
theorem dX7_latestOf_1 : decode cX7_latestOf 1 = .ok (.iload_n 1, 1) := by decide +kernel
theorem dX7_latestOf_2 : decode cX7_latestOf 2 = .ok (.ldc 106, 2) := by decide +kernel
theorem dX7_latestOf_4 : decode cX7_latestOf 4 = .ok (.aload_n 0, 1) := by decide +kernel
theorem dX7_latestOf_5 : decode cX7_latestOf 5 = .ok (.getfield 147, 3) := by decide +kernel
theorem dX7_latestOf_8 : decode cX7_latestOf 8 = .ok (.invokevirtual 150, 3) := by decide +kernel
theorem dX7_latestOf_11 : decode cX7_latestOf 11 = .ok (.ireturn, 1) := by decide +kernel
set_option maxRecDepth 20000 in
theorem ggX7_tells_X7_latestOf : GoodIn wsX7_tells wsX7_latestOf := goodIn_r _ [10, 11, 1, 12, 13, 14, 9, 15, 2, 3, 16, 17, 18, 19, 20, 21, 22, 23, 24, 25, 26, 27, 28, 29, 30, 31, 32, 33, 34, 35, 36, 37, 38, 39, 40, 41, 42, 43, 44, 45, 46] (by decide +kernel) (by decide +kernel)
set_option maxRecDepth 20000 in
theorem gX7_tells_X7_latestOf : GoodIn wsX7_tells (wsV RX7 154 RX7 yX7_latestOf wsX7_latestOf) := goodIn_app (goodIn_of _ (by decide +kernel)) ggX7_tells_X7_latestOf
theorem dX7_tells_0 : decode cX7_tells 0 = .ok (.iconst 0, 1) := by decide +kernel
theorem dX7_tells_1 : decode cX7_tells 1 = .ok (.istore_n 3, 1) := by decide +kernel
theorem dX7_tells_2 : decode cX7_tells 2 = .ok (.iconst 0, 1) := by decide +kernel
theorem dX7_tells_3 : decode cX7_tells 3 = .ok (.istore 4, 2) := by decide +kernel
theorem dX7_tells_5 : decode cX7_tells 5 = .ok (.iconst 0, 1) := by decide +kernel
theorem dX7_tells_6 : decode cX7_tells 6 = .ok (.istore 5, 2) := by decide +kernel
theorem dX7_tells_8 : decode cX7_tells 8 = .ok (.iload 5, 2) := by decide +kernel
theorem dX7_tells_10 : decode cX7_tells 10 = .ok (.aload_n 0, 1) := by decide +kernel
theorem dX7_tells_11 : decode cX7_tells 11 = .ok (.getfield 147, 3) := by decide +kernel
theorem dX7_tells_14 : decode cX7_tells 14 = .ok (.if_icmp .ge 59, 3) := by decide +kernel
theorem dX7_tells_17 : decode cX7_tells 17 = .ok (.iload_n 3, 1) := by decide +kernel
theorem dX7_tells_18 : decode cX7_tells 18 = .ok (.aload_n 0, 1) := by decide +kernel
theorem dX7_tells_19 : decode cX7_tells 19 = .ok (.getfield 41, 3) := by decide +kernel
theorem dX7_tells_22 : decode cX7_tells 22 = .ok (.iload 5, 2) := by decide +kernel
theorem dX7_tells_24 : decode cX7_tells 24 = .ok (.iaload, 1) := by decide +kernel
theorem dX7_tells_25 : decode cX7_tells 25 = .ok (.iload_n 1, 1) := by decide +kernel
theorem dX7_tells_26 : decode cX7_tells 26 = .ok (.if_icmp .ne 7, 3) := by decide +kernel
theorem dX7_tells_29 : decode cX7_tells 29 = .ok (.iconst 1, 1) := by decide +kernel
theorem dX7_tells_30 : decode cX7_tells 30 = .ok (.goto 4, 3) := by decide +kernel
theorem dX7_tells_33 : decode cX7_tells 33 = .ok (.iconst 0, 1) := by decide +kernel
theorem dX7_tells_34 : decode cX7_tells 34 = .ok (.iadd, 1) := by decide +kernel
theorem dX7_tells_35 : decode cX7_tells 35 = .ok (.istore_n 3, 1) := by decide +kernel
theorem dX7_tells_36 : decode cX7_tells 36 = .ok (.iload 4, 2) := by decide +kernel
theorem dX7_tells_38 : decode cX7_tells 38 = .ok (.aload_n 0, 1) := by decide +kernel
theorem dX7_tells_39 : decode cX7_tells 39 = .ok (.getfield 41, 3) := by decide +kernel
theorem dX7_tells_42 : decode cX7_tells 42 = .ok (.iload 5, 2) := by decide +kernel
theorem dX7_tells_44 : decode cX7_tells 44 = .ok (.iaload, 1) := by decide +kernel
theorem dX7_tells_45 : decode cX7_tells 45 = .ok (.iload_n 1, 1) := by decide +kernel
theorem dX7_tells_46 : decode cX7_tells 46 = .ok (.if_icmp .ne 17, 3) := by decide +kernel
theorem dX7_tells_49 : decode cX7_tells 49 = .ok (.aload_n 0, 1) := by decide +kernel
theorem dX7_tells_50 : decode cX7_tells 50 = .ok (.getfield 62, 3) := by decide +kernel
theorem dX7_tells_53 : decode cX7_tells 53 = .ok (.iload 5, 2) := by decide +kernel
theorem dX7_tells_55 : decode cX7_tells 55 = .ok (.baload, 1) := by decide +kernel
theorem dX7_tells_56 : decode cX7_tells 56 = .ok (.ifCond .eq 7, 3) := by decide +kernel
theorem dX7_tells_59 : decode cX7_tells 59 = .ok (.iconst 1, 1) := by decide +kernel
theorem dX7_tells_60 : decode cX7_tells 60 = .ok (.goto 4, 3) := by decide +kernel
theorem dX7_tells_63 : decode cX7_tells 63 = .ok (.iconst 0, 1) := by decide +kernel
theorem dX7_tells_64 : decode cX7_tells 64 = .ok (.iadd, 1) := by decide +kernel
theorem dX7_tells_65 : decode cX7_tells 65 = .ok (.istore 4, 2) := by decide +kernel
theorem dX7_tells_67 : decode cX7_tells 67 = .ok (.iinc 5 1, 3) := by decide +kernel
theorem dX7_tells_70 : decode cX7_tells 70 = .ok (.goto (-62), 3) := by decide +kernel
theorem dX7_tells_73 : decode cX7_tells 73 = .ok (.iload_n 2, 1) := by decide +kernel
theorem dX7_tells_74 : decode cX7_tells 74 = .ok (.ifCond .ne 12, 3) := by decide +kernel
theorem dX7_tells_77 : decode cX7_tells 77 = .ok (.aload_n 0, 1) := by decide +kernel
theorem dX7_tells_78 : decode cX7_tells 78 = .ok (.getfield 35, 3) := by decide +kernel
theorem dX7_tells_81 : decode cX7_tells 81 = .ok (.iload_n 1, 1) := by decide +kernel
theorem dX7_tells_82 : decode cX7_tells 82 = .ok (.iaload, 1) := by decide +kernel
theorem dX7_tells_83 : decode cX7_tells 83 = .ok (.goto 41, 3) := by decide +kernel
theorem dX7_tells_86 : decode cX7_tells 86 = .ok (.iload_n 2, 1) := by decide +kernel
theorem dX7_tells_87 : decode cX7_tells 87 = .ok (.iconst 1, 1) := by decide +kernel
theorem dX7_tells_88 : decode cX7_tells 88 = .ok (.if_icmp .ne 12, 3) := by decide +kernel
theorem dX7_tells_91 : decode cX7_tells 91 = .ok (.aload_n 0, 1) := by decide +kernel
theorem dX7_tells_92 : decode cX7_tells 92 = .ok (.getfield 38, 3) := by decide +kernel
theorem dX7_tells_95 : decode cX7_tells 95 = .ok (.iload_n 1, 1) := by decide +kernel
theorem dX7_tells_96 : decode cX7_tells 96 = .ok (.iaload, 1) := by decide +kernel
theorem dX7_tells_97 : decode cX7_tells 97 = .ok (.goto 27, 3) := by decide +kernel
theorem dX7_tells_100 : decode cX7_tells 100 = .ok (.iload_n 2, 1) := by decide +kernel
theorem dX7_tells_101 : decode cX7_tells 101 = .ok (.iconst 2, 1) := by decide +kernel
theorem dX7_tells_102 : decode cX7_tells 102 = .ok (.if_icmp .ne 7, 3) := by decide +kernel
theorem dX7_tells_105 : decode cX7_tells 105 = .ok (.iload_n 3, 1) := by decide +kernel
theorem dX7_tells_106 : decode cX7_tells 106 = .ok (.goto 18, 3) := by decide +kernel
theorem dX7_tells_109 : decode cX7_tells 109 = .ok (.iload_n 2, 1) := by decide +kernel
theorem dX7_tells_110 : decode cX7_tells 110 = .ok (.iconst 3, 1) := by decide +kernel
theorem dX7_tells_111 : decode cX7_tells 111 = .ok (.if_icmp .ne 8, 3) := by decide +kernel
theorem dX7_tells_114 : decode cX7_tells 114 = .ok (.iload 4, 2) := by decide +kernel
theorem dX7_tells_116 : decode cX7_tells 116 = .ok (.goto 8, 3) := by decide +kernel
theorem dX7_tells_119 : decode cX7_tells 119 = .ok (.aload_n 0, 1) := by decide +kernel
theorem dX7_tells_120 : decode cX7_tells 120 = .ok (.iload_n 1, 1) := by decide +kernel
theorem dX7_tells_121 : decode cX7_tells 121 = .ok (.invokevirtual 154, 3) := by decide +kernel
theorem dX7_tells_124 : decode cX7_tells 124 = .ok (.ireturn, 1) := by decide +kernel
set_option maxRecDepth 20000 in
theorem ggX7_told_X7_isBulb : GoodIn wsX7_told wsX7_isBulb := goodIn_r _ [5, 6, 7, 8, 4, 9, 29, 30, 31, 32, 33, 34, 35, 36, 37, 38, 39, 40, 41, 42, 43, 44, 45, 46, 47, 48, 49, 50, 51, 52, 53, 54, 55, 56, 57, 58] (by decide +kernel) (by decide +kernel)
set_option maxRecDepth 20000 in
theorem gX7_told_X7_isBulb : GoodIn wsX7_told (wsV RX7 157 RX7 yX7_isBulb wsX7_isBulb) := goodIn_app (goodIn_of _ (by decide +kernel)) ggX7_told_X7_isBulb
set_option maxRecDepth 20000 in
theorem ggX7_told_X7_in : GoodIn wsX7_told wsX7_in := goodIn_r _ [9] (by decide +kernel) (by decide +kernel)
set_option maxRecDepth 20000 in
theorem gX7_told_X7_in : GoodIn wsX7_told (va_wsS RX7 93 yX7_in wsX7_in) := goodIn_app (goodIn_of _ (by decide +kernel)) ggX7_told_X7_in
set_option maxRecDepth 20000 in
theorem ggX7_told_X7_tells : GoodIn wsX7_told wsX7_tells := goodIn_r _ [13, 14, 15, 16, 17, 18, 19, 20, 21, 4, 22, 23, 24, 25, 26, 27, 28, 29, 30, 31, 32, 33, 34, 35, 36, 37, 38, 39, 40, 41, 42, 43, 44, 45, 46, 47, 48, 49, 50, 51, 52, 53, 54, 55, 56, 57, 58] (by decide +kernel) (by decide +kernel)
set_option maxRecDepth 20000 in
theorem gX7_told_X7_tells : GoodIn wsX7_told (wsV RX7 160 RX7 yX7_tells wsX7_tells) := goodIn_app (goodIn_of _ (by decide +kernel)) ggX7_told_X7_tells
theorem dX7_told_0 : decode cX7_told 0 = .ok (.aload_n 0, 1) := by decide +kernel
theorem dX7_told_1 : decode cX7_told 1 = .ok (.iload_n 1, 1) := by decide +kernel
theorem dX7_told_2 : decode cX7_told 2 = .ok (.invokevirtual 157, 3) := by decide +kernel
theorem dX7_told_5 : decode cX7_told 5 = .ok (.ifCond .eq 21, 3) := by decide +kernel
theorem dX7_told_8 : decode cX7_told 8 = .ok (.iload_n 2, 1) := by decide +kernel
theorem dX7_told_9 : decode cX7_told 9 = .ok (.iconst 0, 1) := by decide +kernel
theorem dX7_told_10 : decode cX7_told 10 = .ok (.iconst 4, 1) := by decide +kernel
theorem dX7_told_11 : decode cX7_told 11 = .ok (.invokestatic 93, 3) := by decide +kernel
theorem dX7_told_14 : decode cX7_told 14 = .ok (.ifCond .eq 12, 3) := by decide +kernel
theorem dX7_told_17 : decode cX7_told 17 = .ok (.aload_n 0, 1) := by decide +kernel
theorem dX7_told_18 : decode cX7_told 18 = .ok (.iload_n 1, 1) := by decide +kernel
theorem dX7_told_19 : decode cX7_told 19 = .ok (.iload_n 2, 1) := by decide +kernel
theorem dX7_told_20 : decode cX7_told 20 = .ok (.invokevirtual 160, 3) := by decide +kernel
theorem dX7_told_23 : decode cX7_told 23 = .ok (.goto 4, 3) := by decide +kernel
theorem dX7_told_26 : decode cX7_told 26 = .ok (.iconst (-1), 1) := by decide +kernel
theorem dX7_told_27 : decode cX7_told 27 = .ok (.ireturn, 1) := by decide +kernel
theorem dX7_is_0 : decode cX7_is 0 = .ok (.aload_n 0, 1) := by decide +kernel
theorem dX7_is_1 : decode cX7_is 1 = .ok (.getfield 35, 3) := by decide +kernel
theorem dX7_is_4 : decode cX7_is 4 = .ok (.iload_n 1, 1) := by decide +kernel
theorem dX7_is_5 : decode cX7_is 5 = .ok (.iaload, 1) := by decide +kernel
theorem dX7_is_6 : decode cX7_is 6 = .ok (.iload_n 2, 1) := by decide +kernel
theorem dX7_is_7 : decode cX7_is 7 = .ok (.if_icmp .eq 18, 3) := by decide +kernel
theorem dX7_is_10 : decode cX7_is 10 = .ok (.iload_n 2, 1) := by decide +kernel
theorem dX7_is_11 : decode cX7_is 11 = .ok (.iconst 2, 1) := by decide +kernel
theorem dX7_is_12 : decode cX7_is 12 = .ok (.if_icmp .ne 17, 3) := by decide +kernel
theorem dX7_is_15 : decode cX7_is 15 = .ok (.aload_n 0, 1) := by decide +kernel
theorem dX7_is_16 : decode cX7_is 16 = .ok (.getfield 35, 3) := by decide +kernel
theorem dX7_is_19 : decode cX7_is 19 = .ok (.iload_n 1, 1) := by decide +kernel
theorem dX7_is_20 : decode cX7_is 20 = .ok (.iaload, 1) := by decide +kernel
theorem dX7_is_21 : decode cX7_is 21 = .ok (.iconst 3, 1) := by decide +kernel
theorem dX7_is_22 : decode cX7_is 22 = .ok (.if_icmp .ne 7, 3) := by decide +kernel
theorem dX7_is_25 : decode cX7_is 25 = .ok (.iconst 1, 1) := by decide +kernel
theorem dX7_is_26 : decode cX7_is 26 = .ok (.goto 4, 3) := by decide +kernel
theorem dX7_is_29 : decode cX7_is 29 = .ok (.iconst 0, 1) := by decide +kernel
theorem dX7_is_30 : decode cX7_is 30 = .ok (.ireturn, 1) := by decide +kernel
theorem dX7_restsOn_0 : decode cX7_restsOn 0 = .ok (.iconst 0, 1) := by decide +kernel
theorem dX7_restsOn_1 : decode cX7_restsOn 1 = .ok (.istore_n 3, 1) := by decide +kernel
theorem dX7_restsOn_2 : decode cX7_restsOn 2 = .ok (.aload_n 0, 1) := by decide +kernel
theorem dX7_restsOn_3 : decode cX7_restsOn 3 = .ok (.getfield 59, 3) := by decide +kernel
theorem dX7_restsOn_6 : decode cX7_restsOn 6 = .ok (.iload_n 1, 1) := by decide +kernel
theorem dX7_restsOn_7 : decode cX7_restsOn 7 = .ok (.iaload, 1) := by decide +kernel
theorem dX7_restsOn_8 : decode cX7_restsOn 8 = .ok (.istore 4, 2) := by decide +kernel
theorem dX7_restsOn_10 : decode cX7_restsOn 10 = .ok (.iload 4, 2) := by decide +kernel
theorem dX7_restsOn_12 : decode cX7_restsOn 12 = .ok (.ifCond .lt 36, 3) := by decide +kernel
theorem dX7_restsOn_15 : decode cX7_restsOn 15 = .ok (.iload_n 3, 1) := by decide +kernel
theorem dX7_restsOn_16 : decode cX7_restsOn 16 = .ok (.ifCond .ne 14, 3) := by decide +kernel
theorem dX7_restsOn_19 : decode cX7_restsOn 19 = .ok (.aload_n 0, 1) := by decide +kernel
theorem dX7_restsOn_20 : decode cX7_restsOn 20 = .ok (.getfield 41, 3) := by decide +kernel
theorem dX7_restsOn_23 : decode cX7_restsOn 23 = .ok (.iload 4, 2) := by decide +kernel
theorem dX7_restsOn_25 : decode cX7_restsOn 25 = .ok (.iaload, 1) := by decide +kernel
theorem dX7_restsOn_26 : decode cX7_restsOn 26 = .ok (.iload_n 2, 1) := by decide +kernel
theorem dX7_restsOn_27 : decode cX7_restsOn 27 = .ok (.if_icmp .ne 7, 3) := by decide +kernel
theorem dX7_restsOn_30 : decode cX7_restsOn 30 = .ok (.iconst 1, 1) := by decide +kernel
theorem dX7_restsOn_31 : decode cX7_restsOn 31 = .ok (.goto 4, 3) := by decide +kernel
theorem dX7_restsOn_34 : decode cX7_restsOn 34 = .ok (.iconst 0, 1) := by decide +kernel
theorem dX7_restsOn_35 : decode cX7_restsOn 35 = .ok (.istore_n 3, 1) := by decide +kernel
theorem dX7_restsOn_36 : decode cX7_restsOn 36 = .ok (.aload_n 0, 1) := by decide +kernel
theorem dX7_restsOn_37 : decode cX7_restsOn 37 = .ok (.getfield 59, 3) := by decide +kernel
theorem dX7_restsOn_40 : decode cX7_restsOn 40 = .ok (.iload 4, 2) := by decide +kernel
theorem dX7_restsOn_42 : decode cX7_restsOn 42 = .ok (.iaload, 1) := by decide +kernel
theorem dX7_restsOn_43 : decode cX7_restsOn 43 = .ok (.istore 4, 2) := by decide +kernel
theorem dX7_restsOn_45 : decode cX7_restsOn 45 = .ok (.goto (-35), 3) := by decide +kernel
theorem dX7_restsOn_48 : decode cX7_restsOn 48 = .ok (.iload_n 3, 1) := by decide +kernel
theorem dX7_restsOn_49 : decode cX7_restsOn 49 = .ok (.ireturn, 1) := by decide +kernel
set_option maxRecDepth 20000 in
theorem ggX7_mark_X7_isBulb : GoodIn wsX7_mark wsX7_isBulb := goodIn_r _ [9, 10, 11, 12, 8, 13, 31, 32, 33, 34, 35, 36, 37, 38, 39, 40, 41, 42, 43, 44, 45, 46, 47, 48, 49, 50, 51, 52, 53, 54, 55, 56, 57, 58, 59, 60] (by decide +kernel) (by decide +kernel)
set_option maxRecDepth 20000 in
theorem gX7_mark_X7_isBulb : GoodIn wsX7_mark (wsV RX7 157 RX7 yX7_isBulb wsX7_isBulb) := goodIn_app (goodIn_of _ (by decide +kernel)) ggX7_mark_X7_isBulb
set_option maxRecDepth 20000 in
theorem ggX7_mark_X7_in : GoodIn wsX7_mark wsX7_in := goodIn_r _ [13] (by decide +kernel) (by decide +kernel)
set_option maxRecDepth 20000 in
theorem gX7_mark_X7_in : GoodIn wsX7_mark (va_wsS RX7 93 yX7_in wsX7_in) := goodIn_app (goodIn_of _ (by decide +kernel)) ggX7_mark_X7_in
set_option maxRecDepth 20000 in
theorem ggX7_mark_X7_is : GoodIn wsX7_mark wsX7_is := goodIn_r _ [17, 18, 31, 32, 33, 34, 35, 36, 37, 38, 39, 40, 41, 42, 43, 44, 45, 46, 47, 48, 49, 50, 51, 52, 53, 54, 55, 56, 57, 58, 59, 60] (by decide +kernel) (by decide +kernel)
set_option maxRecDepth 20000 in
theorem gX7_mark_X7_is : GoodIn wsX7_mark (wsV RX7 164 RX7 yX7_is wsX7_is) := goodIn_app (goodIn_of _ (by decide +kernel)) ggX7_mark_X7_is
set_option maxRecDepth 20000 in
theorem ggX7_mark_X7_meets : GoodIn wsX7_mark wsX7_meets := goodIn_r _ [22, 23, 24, 31, 32, 33, 34, 35, 36, 37, 38, 39, 40, 41, 42, 43, 44, 45, 46, 47, 48, 49, 50, 51, 52, 53, 54, 55, 56, 57, 58, 59, 60] (by decide +kernel) (by decide +kernel)
set_option maxRecDepth 20000 in
theorem gX7_mark_X7_meets : GoodIn wsX7_mark (wsV RX7 101 RX7 yX7_meets wsX7_meets) := goodIn_app (goodIn_of _ (by decide +kernel)) ggX7_mark_X7_meets
set_option maxRecDepth 20000 in
theorem ggX7_mark_X7_restsOn : GoodIn wsX7_mark wsX7_restsOn := goodIn_r _ [28, 29, 30, 31, 32, 33, 34, 35, 36, 37, 38, 39, 40, 41, 42, 43, 44, 45, 46, 47, 48, 49, 50, 51, 52, 53, 54, 55, 56, 57, 58, 59, 60] (by decide +kernel) (by decide +kernel)
set_option maxRecDepth 20000 in
theorem gX7_mark_X7_restsOn : GoodIn wsX7_mark (wsV RX7 168 RX7 yX7_restsOn wsX7_restsOn) := goodIn_app (goodIn_of _ (by decide +kernel)) ggX7_mark_X7_restsOn
theorem dX7_mark_0 : decode cX7_mark 0 = .ok (.aload_n 0, 1) := by decide +kernel
theorem dX7_mark_1 : decode cX7_mark 1 = .ok (.iload_n 1, 1) := by decide +kernel
theorem dX7_mark_2 : decode cX7_mark 2 = .ok (.invokevirtual 157, 3) := by decide +kernel
theorem dX7_mark_5 : decode cX7_mark 5 = .ok (.ifCond .eq 12, 3) := by decide +kernel
theorem dX7_mark_8 : decode cX7_mark 8 = .ok (.iload_n 2, 1) := by decide +kernel
theorem dX7_mark_9 : decode cX7_mark 9 = .ok (.iconst 1, 1) := by decide +kernel
theorem dX7_mark_10 : decode cX7_mark 10 = .ok (.iconst 3, 1) := by decide +kernel
theorem dX7_mark_11 : decode cX7_mark 11 = .ok (.invokestatic 93, 3) := by decide +kernel
theorem dX7_mark_14 : decode cX7_mark 14 = .ok (.ifCond .ne 5, 3) := by decide +kernel
theorem dX7_mark_17 : decode cX7_mark 17 = .ok (.iconst (-1), 1) := by decide +kernel
theorem dX7_mark_18 : decode cX7_mark 18 = .ok (.ireturn, 1) := by decide +kernel
theorem dX7_mark_19 : decode cX7_mark 19 = .ok (.aload_n 0, 1) := by decide +kernel
theorem dX7_mark_20 : decode cX7_mark 20 = .ok (.iload_n 1, 1) := by decide +kernel
theorem dX7_mark_21 : decode cX7_mark 21 = .ok (.iload_n 2, 1) := by decide +kernel
theorem dX7_mark_22 : decode cX7_mark 22 = .ok (.invokevirtual 164, 3) := by decide +kernel
theorem dX7_mark_25 : decode cX7_mark 25 = .ok (.ifCond .ne 9, 3) := by decide +kernel
theorem dX7_mark_28 : decode cX7_mark 28 = .ok (.aload_n 0, 1) := by decide +kernel
theorem dX7_mark_29 : decode cX7_mark 29 = .ok (.iconst 3, 1) := by decide +kernel
theorem dX7_mark_30 : decode cX7_mark 30 = .ok (.invokevirtual 101, 3) := by decide +kernel
theorem dX7_mark_33 : decode cX7_mark 33 = .ok (.ireturn, 1) := by decide +kernel
theorem dX7_mark_34 : decode cX7_mark 34 = .ok (.iload_n 2, 1) := by decide +kernel
theorem dX7_mark_35 : decode cX7_mark 35 = .ok (.iconst 1, 1) := by decide +kernel
theorem dX7_mark_36 : decode cX7_mark 36 = .ok (.if_icmp .ne 10, 3) := by decide +kernel
theorem dX7_mark_39 : decode cX7_mark 39 = .ok (.aload_n 0, 1) := by decide +kernel
theorem dX7_mark_40 : decode cX7_mark 40 = .ok (.getfield 38, 3) := by decide +kernel
theorem dX7_mark_43 : decode cX7_mark 43 = .ok (.iload_n 1, 1) := by decide +kernel
theorem dX7_mark_44 : decode cX7_mark 44 = .ok (.iaload, 1) := by decide +kernel
theorem dX7_mark_45 : decode cX7_mark 45 = .ok (.ireturn, 1) := by decide +kernel
theorem dX7_mark_46 : decode cX7_mark 46 = .ok (.iconst 0, 1) := by decide +kernel
theorem dX7_mark_47 : decode cX7_mark 47 = .ok (.istore_n 3, 1) := by decide +kernel
theorem dX7_mark_48 : decode cX7_mark 48 = .ok (.iconst 0, 1) := by decide +kernel
theorem dX7_mark_49 : decode cX7_mark 49 = .ok (.istore 4, 2) := by decide +kernel
theorem dX7_mark_51 : decode cX7_mark 51 = .ok (.iload 4, 2) := by decide +kernel
theorem dX7_mark_53 : decode cX7_mark 53 = .ok (.aload_n 0, 1) := by decide +kernel
theorem dX7_mark_54 : decode cX7_mark 54 = .ok (.getfield 147, 3) := by decide +kernel
theorem dX7_mark_57 : decode cX7_mark 57 = .ok (.if_icmp .ge 56, 3) := by decide +kernel
theorem dX7_mark_60 : decode cX7_mark 60 = .ok (.iload_n 3, 1) := by decide +kernel
theorem dX7_mark_61 : decode cX7_mark 61 = .ok (.aload_n 0, 1) := by decide +kernel
theorem dX7_mark_62 : decode cX7_mark 62 = .ok (.getfield 62, 3) := by decide +kernel
theorem dX7_mark_65 : decode cX7_mark 65 = .ok (.iload 4, 2) := by decide +kernel
theorem dX7_mark_67 : decode cX7_mark 67 = .ok (.baload, 1) := by decide +kernel
theorem dX7_mark_68 : decode cX7_mark 68 = .ok (.ifCond .ne 36, 3) := by decide +kernel
theorem dX7_mark_71 : decode cX7_mark 71 = .ok (.iload_n 2, 1) := by decide +kernel
theorem dX7_mark_72 : decode cX7_mark 72 = .ok (.iconst 2, 1) := by decide +kernel
theorem dX7_mark_73 : decode cX7_mark 73 = .ok (.if_icmp .ne 17, 3) := by decide +kernel
theorem dX7_mark_76 : decode cX7_mark 76 = .ok (.aload_n 0, 1) := by decide +kernel
theorem dX7_mark_77 : decode cX7_mark 77 = .ok (.getfield 44, 3) := by decide +kernel
theorem dX7_mark_80 : decode cX7_mark 80 = .ok (.iload 4, 2) := by decide +kernel
theorem dX7_mark_82 : decode cX7_mark 82 = .ok (.iaload, 1) := by decide +kernel
theorem dX7_mark_83 : decode cX7_mark 83 = .ok (.iload_n 1, 1) := by decide +kernel
theorem dX7_mark_84 : decode cX7_mark 84 = .ok (.if_icmp .ne 20, 3) := by decide +kernel
theorem dX7_mark_87 : decode cX7_mark 87 = .ok (.goto 13, 3) := by decide +kernel
theorem dX7_mark_90 : decode cX7_mark 90 = .ok (.aload_n 0, 1) := by decide +kernel
theorem dX7_mark_91 : decode cX7_mark 91 = .ok (.iload 4, 2) := by decide +kernel
theorem dX7_mark_93 : decode cX7_mark 93 = .ok (.iload_n 1, 1) := by decide +kernel
theorem dX7_mark_94 : decode cX7_mark 94 = .ok (.invokevirtual 168, 3) := by decide +kernel
theorem dX7_mark_97 : decode cX7_mark 97 = .ok (.ifCond .eq 7, 3) := by decide +kernel
theorem dX7_mark_100 : decode cX7_mark 100 = .ok (.iconst 1, 1) := by decide +kernel
theorem dX7_mark_101 : decode cX7_mark 101 = .ok (.goto 4, 3) := by decide +kernel
theorem dX7_mark_104 : decode cX7_mark 104 = .ok (.iconst 0, 1) := by decide +kernel
theorem dX7_mark_105 : decode cX7_mark 105 = .ok (.iadd, 1) := by decide +kernel
theorem dX7_mark_106 : decode cX7_mark 106 = .ok (.istore_n 3, 1) := by decide +kernel
theorem dX7_mark_107 : decode cX7_mark 107 = .ok (.iinc 4 1, 3) := by decide +kernel
theorem dX7_mark_110 : decode cX7_mark 110 = .ok (.goto (-59), 3) := by decide +kernel
theorem dX7_mark_113 : decode cX7_mark 113 = .ok (.iload_n 3, 1) := by decide +kernel
theorem dX7_mark_114 : decode cX7_mark 114 = .ok (.ireturn, 1) := by decide +kernel
set_option maxRecDepth 20000 in
theorem ggX7_stem_X7_isBulb : GoodIn wsX7_stem wsX7_isBulb := goodIn_r _ [9, 10, 11, 12, 8, 13, 37, 38, 39, 40, 41, 42, 43, 44, 45, 46, 47, 48, 49, 50, 51, 52, 53, 54, 55, 56, 57, 58, 59, 60, 61, 62, 63, 64, 65, 66] (by decide +kernel) (by decide +kernel)
set_option maxRecDepth 20000 in
theorem gX7_stem_X7_isBulb : GoodIn wsX7_stem (wsV RX7 157 RX7 yX7_isBulb wsX7_isBulb) := goodIn_app (goodIn_of _ (by decide +kernel)) ggX7_stem_X7_isBulb
set_option maxRecDepth 20000 in
theorem ggX7_stem_X7_in : GoodIn wsX7_stem wsX7_in := goodIn_r _ [13] (by decide +kernel) (by decide +kernel)
set_option maxRecDepth 20000 in
theorem gX7_stem_X7_in : GoodIn wsX7_stem (va_wsS RX7 93 yX7_in wsX7_in) := goodIn_app (goodIn_of _ (by decide +kernel)) ggX7_stem_X7_in
set_option maxRecDepth 20000 in
theorem ggX7_stem_X7_is : GoodIn wsX7_stem wsX7_is := goodIn_r _ [17, 18, 37, 38, 39, 40, 41, 42, 43, 44, 45, 46, 47, 48, 49, 50, 51, 52, 53, 54, 55, 56, 57, 58, 59, 60, 61, 62, 63, 64, 65, 66] (by decide +kernel) (by decide +kernel)
set_option maxRecDepth 20000 in
theorem gX7_stem_X7_is : GoodIn wsX7_stem (wsV RX7 164 RX7 yX7_is wsX7_is) := goodIn_app (goodIn_of _ (by decide +kernel)) ggX7_stem_X7_is
set_option maxRecDepth 20000 in
theorem ggX7_stem_X7_meets : GoodIn wsX7_stem wsX7_meets := goodIn_r _ [22, 23, 24, 37, 38, 39, 40, 41, 42, 43, 44, 45, 46, 47, 48, 49, 50, 51, 52, 53, 54, 55, 56, 57, 58, 59, 60, 61, 62, 63, 64, 65, 66] (by decide +kernel) (by decide +kernel)
set_option maxRecDepth 20000 in
theorem gX7_stem_X7_meets : GoodIn wsX7_stem (wsV RX7 101 RX7 yX7_meets wsX7_meets) := goodIn_app (goodIn_of _ (by decide +kernel)) ggX7_stem_X7_meets
set_option maxRecDepth 20000 in
theorem ggX7_stem_X7_tell : GoodIn wsX7_stem wsX7_tell := goodIn_r _ [28, 29, 30, 31, 32, 8, 33, 34, 35, 36, 37, 38, 39, 40, 41, 42, 43, 44, 45, 46, 47, 48, 49, 50, 51, 52, 53, 54, 55, 56, 57, 58, 59, 60, 61, 62, 63, 64, 65, 66] (by decide +kernel) (by decide +kernel)
set_option maxRecDepth 20000 in
theorem gX7_stem_X7_tell : GoodIn wsX7_stem (wsV RX7 114 RX7 yX7_tell wsX7_tell) := goodIn_app (goodIn_of _ (by decide +kernel)) ggX7_stem_X7_tell
theorem dX7_stem_0 : decode cX7_stem 0 = .ok (.aload_n 0, 1) := by decide +kernel
theorem dX7_stem_1 : decode cX7_stem 1 = .ok (.iload_n 1, 1) := by decide +kernel
theorem dX7_stem_2 : decode cX7_stem 2 = .ok (.invokevirtual 157, 3) := by decide +kernel
theorem dX7_stem_5 : decode cX7_stem 5 = .ok (.ifCond .eq 49, 3) := by decide +kernel
theorem dX7_stem_8 : decode cX7_stem 8 = .ok (.iload_n 2, 1) := by decide +kernel
theorem dX7_stem_9 : decode cX7_stem 9 = .ok (.ldc 105, 2) := by decide +kernel
theorem dX7_stem_11 : decode cX7_stem 11 = .ok (.ldc 106, 2) := by decide +kernel
theorem dX7_stem_13 : decode cX7_stem 13 = .ok (.invokestatic 93, 3) := by decide +kernel
theorem dX7_stem_16 : decode cX7_stem 16 = .ok (.ifCond .eq 38, 3) := by decide +kernel
theorem dX7_stem_19 : decode cX7_stem 19 = .ok (.iload_n 3, 1) := by decide +kernel
theorem dX7_stem_20 : decode cX7_stem 20 = .ok (.iconst 0, 1) := by decide +kernel
theorem dX7_stem_21 : decode cX7_stem 21 = .ok (.sipush 1000, 3) := by decide +kernel
theorem dX7_stem_24 : decode cX7_stem 24 = .ok (.invokestatic 93, 3) := by decide +kernel
theorem dX7_stem_27 : decode cX7_stem 27 = .ok (.ifCond .eq 27, 3) := by decide +kernel
theorem dX7_stem_30 : decode cX7_stem 30 = .ok (.iload 4, 2) := by decide +kernel
theorem dX7_stem_32 : decode cX7_stem 32 = .ok (.ldc 105, 2) := by decide +kernel
theorem dX7_stem_34 : decode cX7_stem 34 = .ok (.ldc 106, 2) := by decide +kernel
theorem dX7_stem_36 : decode cX7_stem 36 = .ok (.invokestatic 93, 3) := by decide +kernel
theorem dX7_stem_39 : decode cX7_stem 39 = .ok (.ifCond .eq 15, 3) := by decide +kernel
theorem dX7_stem_42 : decode cX7_stem 42 = .ok (.iload 5, 2) := by decide +kernel
theorem dX7_stem_44 : decode cX7_stem 44 = .ok (.ldc 105, 2) := by decide +kernel
theorem dX7_stem_46 : decode cX7_stem 46 = .ok (.ldc 106, 2) := by decide +kernel
theorem dX7_stem_48 : decode cX7_stem 48 = .ok (.invokestatic 93, 3) := by decide +kernel
theorem dX7_stem_51 : decode cX7_stem 51 = .ok (.ifCond .ne 5, 3) := by decide +kernel
theorem dX7_stem_54 : decode cX7_stem 54 = .ok (.iconst (-1), 1) := by decide +kernel
theorem dX7_stem_55 : decode cX7_stem 55 = .ok (.ireturn, 1) := by decide +kernel
theorem dX7_stem_56 : decode cX7_stem 56 = .ok (.aload_n 0, 1) := by decide +kernel
theorem dX7_stem_57 : decode cX7_stem 57 = .ok (.iload_n 1, 1) := by decide +kernel
theorem dX7_stem_58 : decode cX7_stem 58 = .ok (.iconst 1, 1) := by decide +kernel
theorem dX7_stem_59 : decode cX7_stem 59 = .ok (.invokevirtual 164, 3) := by decide +kernel
theorem dX7_stem_62 : decode cX7_stem 62 = .ok (.ifCond .ne 9, 3) := by decide +kernel
theorem dX7_stem_65 : decode cX7_stem 65 = .ok (.aload_n 0, 1) := by decide +kernel
theorem dX7_stem_66 : decode cX7_stem 66 = .ok (.iconst 3, 1) := by decide +kernel
theorem dX7_stem_67 : decode cX7_stem 67 = .ok (.invokevirtual 101, 3) := by decide +kernel
theorem dX7_stem_70 : decode cX7_stem 70 = .ok (.ireturn, 1) := by decide +kernel
theorem dX7_stem_71 : decode cX7_stem 71 = .ok (.aload_n 0, 1) := by decide +kernel
theorem dX7_stem_72 : decode cX7_stem 72 = .ok (.ldc2_w 171, 3) := by decide +kernel
theorem dX7_stem_75 : decode cX7_stem 75 = .ok (.iload_n 2, 1) := by decide +kernel
theorem dX7_stem_76 : decode cX7_stem 76 = .ok (.i2l, 1) := by decide +kernel
theorem dX7_stem_77 : decode cX7_stem 77 = .ok (.lmul, 1) := by decide +kernel
theorem dX7_stem_78 : decode cX7_stem 78 = .ok (.ldc2_w 173, 3) := by decide +kernel
theorem dX7_stem_81 : decode cX7_stem 81 = .ok (.iload_n 3, 1) := by decide +kernel
theorem dX7_stem_82 : decode cX7_stem 82 = .ok (.i2l, 1) := by decide +kernel
theorem dX7_stem_83 : decode cX7_stem 83 = .ok (.lmul, 1) := by decide +kernel
theorem dX7_stem_84 : decode cX7_stem 84 = .ok (.iload 4, 2) := by decide +kernel
theorem dX7_stem_86 : decode cX7_stem 86 = .ok (.iload 5, 2) := by decide +kernel
theorem dX7_stem_88 : decode cX7_stem 88 = .ok (.isub, 1) := by decide +kernel
theorem dX7_stem_89 : decode cX7_stem 89 = .ok (.i2l, 1) := by decide +kernel
theorem dX7_stem_90 : decode cX7_stem 90 = .ok (.lmul, 1) := by decide +kernel
theorem dX7_stem_91 : decode cX7_stem 91 = .ok (.ladd, 1) := by decide +kernel
theorem dX7_stem_92 : decode cX7_stem 92 = .ok (.ldc2_w 171, 3) := by decide +kernel
theorem dX7_stem_95 : decode cX7_stem 95 = .ok (.iconst 1, 1) := by decide +kernel
theorem dX7_stem_96 : decode cX7_stem 96 = .ok (.invokevirtual 114, 3) := by decide +kernel
theorem dX7_stem_99 : decode cX7_stem 99 = .ok (.ireturn, 1) := by decide +kernel
set_option maxRecDepth 20000 in
theorem ggX7_currents_X7_isBulb : GoodIn wsX7_currents wsX7_isBulb := goodIn_r _ [7, 8, 9, 10, 6, 11, 35, 36, 37, 38, 39, 40, 41, 42, 43, 44, 45, 46, 47, 48, 49, 50, 51, 52, 53, 54, 55, 56, 57, 58, 59, 60, 61, 62, 63, 64] (by decide +kernel) (by decide +kernel)
set_option maxRecDepth 20000 in
theorem gX7_currents_X7_isBulb : GoodIn wsX7_currents (wsV RX7 157 RX7 yX7_isBulb wsX7_isBulb) := goodIn_app (goodIn_of _ (by decide +kernel)) ggX7_currents_X7_isBulb
set_option maxRecDepth 20000 in
theorem ggX7_currents_X7_in : GoodIn wsX7_currents wsX7_in := goodIn_r _ [11] (by decide +kernel) (by decide +kernel)
set_option maxRecDepth 20000 in
theorem gX7_currents_X7_in : GoodIn wsX7_currents (va_wsS RX7 93 yX7_in wsX7_in) := goodIn_app (goodIn_of _ (by decide +kernel)) ggX7_currents_X7_in
set_option maxRecDepth 20000 in
theorem ggX7_currents_X7_is : GoodIn wsX7_currents wsX7_is := goodIn_r _ [15, 16, 35, 36, 37, 38, 39, 40, 41, 42, 43, 44, 45, 46, 47, 48, 49, 50, 51, 52, 53, 54, 55, 56, 57, 58, 59, 60, 61, 62, 63, 64] (by decide +kernel) (by decide +kernel)
set_option maxRecDepth 20000 in
theorem gX7_currents_X7_is : GoodIn wsX7_currents (wsV RX7 164 RX7 yX7_is wsX7_is) := goodIn_app (goodIn_of _ (by decide +kernel)) ggX7_currents_X7_is
set_option maxRecDepth 20000 in
theorem ggX7_currents_X7_meets : GoodIn wsX7_currents wsX7_meets := goodIn_r _ [20, 21, 22, 35, 36, 37, 38, 39, 40, 41, 42, 43, 44, 45, 46, 47, 48, 49, 50, 51, 52, 53, 54, 55, 56, 57, 58, 59, 60, 61, 62, 63, 64] (by decide +kernel) (by decide +kernel)
set_option maxRecDepth 20000 in
theorem gX7_currents_X7_meets : GoodIn wsX7_currents (wsV RX7 101 RX7 yX7_meets wsX7_meets) := goodIn_app (goodIn_of _ (by decide +kernel)) ggX7_currents_X7_meets
set_option maxRecDepth 20000 in
theorem ggX7_currents_X7_tell : GoodIn wsX7_currents wsX7_tell := goodIn_r _ [26, 27, 28, 29, 30, 6, 31, 32, 33, 34, 35, 36, 37, 38, 39, 40, 41, 42, 43, 44, 45, 46, 47, 48, 49, 50, 51, 52, 53, 54, 55, 56, 57, 58, 59, 60, 61, 62, 63, 64] (by decide +kernel) (by decide +kernel)
set_option maxRecDepth 20000 in
theorem gX7_currents_X7_tell : GoodIn wsX7_currents (wsV RX7 114 RX7 yX7_tell wsX7_tell) := goodIn_app (goodIn_of _ (by decide +kernel)) ggX7_currents_X7_tell
theorem dX7_currents_0 : decode cX7_currents 0 = .ok (.aload_n 0, 1) := by decide +kernel
theorem dX7_currents_1 : decode cX7_currents 1 = .ok (.iload_n 1, 1) := by decide +kernel
theorem dX7_currents_2 : decode cX7_currents 2 = .ok (.invokevirtual 157, 3) := by decide +kernel
theorem dX7_currents_5 : decode cX7_currents 5 = .ok (.ifCond .eq 47, 3) := by decide +kernel
theorem dX7_currents_8 : decode cX7_currents 8 = .ok (.iload_n 2, 1) := by decide +kernel
theorem dX7_currents_9 : decode cX7_currents 9 = .ok (.ldc 105, 2) := by decide +kernel
theorem dX7_currents_11 : decode cX7_currents 11 = .ok (.ldc 106, 2) := by decide +kernel
theorem dX7_currents_13 : decode cX7_currents 13 = .ok (.invokestatic 93, 3) := by decide +kernel
theorem dX7_currents_16 : decode cX7_currents 16 = .ok (.ifCond .eq 36, 3) := by decide +kernel
theorem dX7_currents_19 : decode cX7_currents 19 = .ok (.iload 4, 2) := by decide +kernel
theorem dX7_currents_21 : decode cX7_currents 21 = .ok (.ldc 105, 2) := by decide +kernel
theorem dX7_currents_23 : decode cX7_currents 23 = .ok (.ldc 106, 2) := by decide +kernel
theorem dX7_currents_25 : decode cX7_currents 25 = .ok (.invokestatic 93, 3) := by decide +kernel
theorem dX7_currents_28 : decode cX7_currents 28 = .ok (.ifCond .eq 24, 3) := by decide +kernel
theorem dX7_currents_31 : decode cX7_currents 31 = .ok (.iload_n 3, 1) := by decide +kernel
theorem dX7_currents_32 : decode cX7_currents 32 = .ok (.iconst 1, 1) := by decide +kernel
theorem dX7_currents_33 : decode cX7_currents 33 = .ok (.bipush 100, 2) := by decide +kernel
theorem dX7_currents_35 : decode cX7_currents 35 = .ok (.invokestatic 93, 3) := by decide +kernel
theorem dX7_currents_38 : decode cX7_currents 38 = .ok (.ifCond .eq 14, 3) := by decide +kernel
theorem dX7_currents_41 : decode cX7_currents 41 = .ok (.iload 5, 2) := by decide +kernel
theorem dX7_currents_43 : decode cX7_currents 43 = .ok (.iconst 1, 1) := by decide +kernel
theorem dX7_currents_44 : decode cX7_currents 44 = .ok (.bipush 100, 2) := by decide +kernel
theorem dX7_currents_46 : decode cX7_currents 46 = .ok (.invokestatic 93, 3) := by decide +kernel
theorem dX7_currents_49 : decode cX7_currents 49 = .ok (.ifCond .ne 5, 3) := by decide +kernel
theorem dX7_currents_52 : decode cX7_currents 52 = .ok (.iconst (-1), 1) := by decide +kernel
theorem dX7_currents_53 : decode cX7_currents 53 = .ok (.ireturn, 1) := by decide +kernel
theorem dX7_currents_54 : decode cX7_currents 54 = .ok (.aload_n 0, 1) := by decide +kernel
theorem dX7_currents_55 : decode cX7_currents 55 = .ok (.iload_n 1, 1) := by decide +kernel
theorem dX7_currents_56 : decode cX7_currents 56 = .ok (.iconst 2, 1) := by decide +kernel
theorem dX7_currents_57 : decode cX7_currents 57 = .ok (.invokevirtual 164, 3) := by decide +kernel
theorem dX7_currents_60 : decode cX7_currents 60 = .ok (.ifCond .ne 9, 3) := by decide +kernel
theorem dX7_currents_63 : decode cX7_currents 63 = .ok (.aload_n 0, 1) := by decide +kernel
theorem dX7_currents_64 : decode cX7_currents 64 = .ok (.iconst 3, 1) := by decide +kernel
theorem dX7_currents_65 : decode cX7_currents 65 = .ok (.invokevirtual 101, 3) := by decide +kernel
theorem dX7_currents_68 : decode cX7_currents 68 = .ok (.ireturn, 1) := by decide +kernel
theorem dX7_currents_69 : decode cX7_currents 69 = .ok (.iload_n 3, 1) := by decide +kernel
theorem dX7_currents_70 : decode cX7_currents 70 = .ok (.iload 5, 2) := by decide +kernel
theorem dX7_currents_72 : decode cX7_currents 72 = .ok (.if_icmp .ne 11, 3) := by decide +kernel
theorem dX7_currents_75 : decode cX7_currents 75 = .ok (.aload_n 0, 1) := by decide +kernel
theorem dX7_currents_76 : decode cX7_currents 76 = .ok (.iconst 4, 1) := by decide +kernel
theorem dX7_currents_77 : decode cX7_currents 77 = .ok (.invokevirtual 101, 3) := by decide +kernel
theorem dX7_currents_80 : decode cX7_currents 80 = .ok (.goto 38, 3) := by decide +kernel
theorem dX7_currents_83 : decode cX7_currents 83 = .ok (.aload_n 0, 1) := by decide +kernel
theorem dX7_currents_84 : decode cX7_currents 84 = .ok (.iload_n 2, 1) := by decide +kernel
theorem dX7_currents_85 : decode cX7_currents 85 = .ok (.i2l, 1) := by decide +kernel
theorem dX7_currents_86 : decode cX7_currents 86 = .ok (.iload 5, 2) := by decide +kernel
theorem dX7_currents_88 : decode cX7_currents 88 = .ok (.i2l, 1) := by decide +kernel
theorem dX7_currents_89 : decode cX7_currents 89 = .ok (.lmul, 1) := by decide +kernel
theorem dX7_currents_90 : decode cX7_currents 90 = .ok (.iload 5, 2) := by decide +kernel
theorem dX7_currents_92 : decode cX7_currents 92 = .ok (.i2l, 1) := by decide +kernel
theorem dX7_currents_93 : decode cX7_currents 93 = .ok (.lmul, 1) := by decide +kernel
theorem dX7_currents_94 : decode cX7_currents 94 = .ok (.iload 4, 2) := by decide +kernel
theorem dX7_currents_96 : decode cX7_currents 96 = .ok (.i2l, 1) := by decide +kernel
theorem dX7_currents_97 : decode cX7_currents 97 = .ok (.iload_n 3, 1) := by decide +kernel
theorem dX7_currents_98 : decode cX7_currents 98 = .ok (.i2l, 1) := by decide +kernel
theorem dX7_currents_99 : decode cX7_currents 99 = .ok (.lmul, 1) := by decide +kernel
theorem dX7_currents_100 : decode cX7_currents 100 = .ok (.iload_n 3, 1) := by decide +kernel
theorem dX7_currents_101 : decode cX7_currents 101 = .ok (.i2l, 1) := by decide +kernel
theorem dX7_currents_102 : decode cX7_currents 102 = .ok (.lmul, 1) := by decide +kernel
theorem dX7_currents_103 : decode cX7_currents 103 = .ok (.lsub, 1) := by decide +kernel
theorem dX7_currents_104 : decode cX7_currents 104 = .ok (.iload 5, 2) := by decide +kernel
theorem dX7_currents_106 : decode cX7_currents 106 = .ok (.iload 5, 2) := by decide +kernel
theorem dX7_currents_108 : decode cX7_currents 108 = .ok (.imul, 1) := by decide +kernel
theorem dX7_currents_109 : decode cX7_currents 109 = .ok (.iload_n 3, 1) := by decide +kernel
theorem dX7_currents_110 : decode cX7_currents 110 = .ok (.iload_n 3, 1) := by decide +kernel
theorem dX7_currents_111 : decode cX7_currents 111 = .ok (.imul, 1) := by decide +kernel
theorem dX7_currents_112 : decode cX7_currents 112 = .ok (.isub, 1) := by decide +kernel
theorem dX7_currents_113 : decode cX7_currents 113 = .ok (.i2l, 1) := by decide +kernel
theorem dX7_currents_114 : decode cX7_currents 114 = .ok (.iconst 1, 1) := by decide +kernel
theorem dX7_currents_115 : decode cX7_currents 115 = .ok (.invokevirtual 114, 3) := by decide +kernel
theorem dX7_currents_118 : decode cX7_currents 118 = .ok (.ireturn, 1) := by decide +kernel
set_option maxRecDepth 20000 in
theorem ggX7_compare_X7_looked : GoodIn wsX7_compare wsX7_looked := goodIn_r _ [8, 1, 9, 10, 7, 11, 12, 13, 14, 15, 16, 17, 18, 19, 20, 33, 34, 35, 36, 37, 38, 39, 40, 41, 42, 43, 44, 45, 46, 47, 48, 49, 50, 51, 52, 53, 54, 55, 56, 57, 58, 59, 60, 61, 62] (by decide +kernel) (by decide +kernel)
set_option maxRecDepth 20000 in
theorem gX7_compare_X7_looked : GoodIn wsX7_compare (wsV RX7 107 RX7 yX7_looked wsX7_looked) := goodIn_app (goodIn_of _ (by decide +kernel)) ggX7_compare_X7_looked
set_option maxRecDepth 20000 in
theorem ggX7_compare_X7_meets : GoodIn wsX7_compare wsX7_meets := goodIn_r _ [18, 19, 20, 33, 34, 35, 36, 37, 38, 39, 40, 41, 42, 43, 44, 45, 46, 47, 48, 49, 50, 51, 52, 53, 54, 55, 56, 57, 58, 59, 60, 61, 62] (by decide +kernel) (by decide +kernel)
set_option maxRecDepth 20000 in
theorem gX7_compare_X7_meets : GoodIn wsX7_compare (wsV RX7 101 RX7 yX7_meets wsX7_meets) := goodIn_app (goodIn_of _ (by decide +kernel)) ggX7_compare_X7_meets
set_option maxRecDepth 20000 in
theorem ggX7_compare_X7_in : GoodIn wsX7_compare wsX7_in := goodIn_r _ [14] (by decide +kernel) (by decide +kernel)
set_option maxRecDepth 20000 in
theorem gX7_compare_X7_in : GoodIn wsX7_compare (va_wsS RX7 93 yX7_in wsX7_in) := goodIn_app (goodIn_of _ (by decide +kernel)) ggX7_compare_X7_in
set_option maxRecDepth 20000 in
theorem ggX7_compare_X7_tell : GoodIn wsX7_compare wsX7_tell := goodIn_r _ [24, 25, 26, 27, 28, 7, 29, 30, 31, 32, 33, 34, 35, 36, 37, 38, 39, 40, 41, 42, 43, 44, 45, 46, 47, 48, 49, 50, 51, 52, 53, 54, 55, 56, 57, 58, 59, 60, 61, 62] (by decide +kernel) (by decide +kernel)
set_option maxRecDepth 20000 in
theorem gX7_compare_X7_tell : GoodIn wsX7_compare (wsV RX7 114 RX7 yX7_tell wsX7_tell) := goodIn_app (goodIn_of _ (by decide +kernel)) ggX7_compare_X7_tell
theorem dX7_compare_0 : decode cX7_compare 0 = .ok (.aload_n 0, 1) := by decide +kernel
theorem dX7_compare_1 : decode cX7_compare 1 = .ok (.iload_n 1, 1) := by decide +kernel
theorem dX7_compare_2 : decode cX7_compare 2 = .ok (.invokevirtual 107, 3) := by decide +kernel
theorem dX7_compare_5 : decode cX7_compare 5 = .ok (.istore_n 3, 1) := by decide +kernel
theorem dX7_compare_6 : decode cX7_compare 6 = .ok (.iload_n 3, 1) := by decide +kernel
theorem dX7_compare_7 : decode cX7_compare 7 = .ok (.ifCond .ge 5, 3) := by decide +kernel
theorem dX7_compare_10 : decode cX7_compare 10 = .ok (.iload_n 3, 1) := by decide +kernel
theorem dX7_compare_11 : decode cX7_compare 11 = .ok (.ireturn, 1) := by decide +kernel
theorem dX7_compare_12 : decode cX7_compare 12 = .ok (.aload_n 0, 1) := by decide +kernel
theorem dX7_compare_13 : decode cX7_compare 13 = .ok (.getfield 17, 3) := by decide +kernel
theorem dX7_compare_16 : decode cX7_compare 16 = .ok (.iload_n 1, 1) := by decide +kernel
theorem dX7_compare_17 : decode cX7_compare 17 = .ok (.iaload, 1) := by decide +kernel
theorem dX7_compare_18 : decode cX7_compare 18 = .ok (.istore 4, 2) := by decide +kernel
theorem dX7_compare_20 : decode cX7_compare 20 = .ok (.iload 4, 2) := by decide +kernel
theorem dX7_compare_22 : decode cX7_compare 22 = .ok (.iconst 4, 1) := by decide +kernel
theorem dX7_compare_23 : decode cX7_compare 23 = .ok (.if_icmp .lt 14, 3) := by decide +kernel
theorem dX7_compare_26 : decode cX7_compare 26 = .ok (.iload 4, 2) := by decide +kernel
theorem dX7_compare_28 : decode cX7_compare 28 = .ok (.iconst 2, 1) := by decide +kernel
theorem dX7_compare_29 : decode cX7_compare 29 = .ok (.irem, 1) := by decide +kernel
theorem dX7_compare_30 : decode cX7_compare 30 = .ok (.ifCond .ne 7, 3) := by decide +kernel
theorem dX7_compare_33 : decode cX7_compare 33 = .ok (.iconst 1, 1) := by decide +kernel
theorem dX7_compare_34 : decode cX7_compare 34 = .ok (.goto 4, 3) := by decide +kernel
theorem dX7_compare_37 : decode cX7_compare 37 = .ok (.iconst 0, 1) := by decide +kernel
theorem dX7_compare_38 : decode cX7_compare 38 = .ok (.istore 5, 2) := by decide +kernel
theorem dX7_compare_40 : decode cX7_compare 40 = .ok (.iconst 0, 1) := by decide +kernel
theorem dX7_compare_41 : decode cX7_compare 41 = .ok (.istore 6, 2) := by decide +kernel
theorem dX7_compare_43 : decode cX7_compare 43 = .ok (.iload 6, 2) := by decide +kernel
theorem dX7_compare_45 : decode cX7_compare 45 = .ok (.iload 4, 2) := by decide +kernel
theorem dX7_compare_47 : decode cX7_compare 47 = .ok (.if_icmp .ge 38, 3) := by decide +kernel
theorem dX7_compare_50 : decode cX7_compare 50 = .ok (.iload 5, 2) := by decide +kernel
theorem dX7_compare_52 : decode cX7_compare 52 = .ok (.ifCond .eq 24, 3) := by decide +kernel
theorem dX7_compare_55 : decode cX7_compare 55 = .ok (.aload_n 0, 1) := by decide +kernel
theorem dX7_compare_56 : decode cX7_compare 56 = .ok (.getfield 20, 3) := by decide +kernel
theorem dX7_compare_59 : decode cX7_compare 59 = .ok (.bipush 40, 2) := by decide +kernel
theorem dX7_compare_61 : decode cX7_compare 61 = .ok (.iload_n 1, 1) := by decide +kernel
theorem dX7_compare_62 : decode cX7_compare 62 = .ok (.imul, 1) := by decide +kernel
theorem dX7_compare_63 : decode cX7_compare 63 = .ok (.iload 6, 2) := by decide +kernel
theorem dX7_compare_65 : decode cX7_compare 65 = .ok (.iadd, 1) := by decide +kernel
theorem dX7_compare_66 : decode cX7_compare 66 = .ok (.iaload, 1) := by decide +kernel
theorem dX7_compare_67 : decode cX7_compare 67 = .ok (.bipush (-9), 2) := by decide +kernel
theorem dX7_compare_69 : decode cX7_compare 69 = .ok (.if_icmp .eq 7, 3) := by decide +kernel
theorem dX7_compare_72 : decode cX7_compare 72 = .ok (.iconst 1, 1) := by decide +kernel
theorem dX7_compare_73 : decode cX7_compare 73 = .ok (.goto 4, 3) := by decide +kernel
theorem dX7_compare_76 : decode cX7_compare 76 = .ok (.iconst 0, 1) := by decide +kernel
theorem dX7_compare_77 : decode cX7_compare 77 = .ok (.istore 5, 2) := by decide +kernel
theorem dX7_compare_79 : decode cX7_compare 79 = .ok (.iinc 6 1, 3) := by decide +kernel
theorem dX7_compare_82 : decode cX7_compare 82 = .ok (.goto (-39), 3) := by decide +kernel
theorem dX7_compare_85 : decode cX7_compare 85 = .ok (.iload 5, 2) := by decide +kernel
theorem dX7_compare_87 : decode cX7_compare 87 = .ok (.ifCond .ne 9, 3) := by decide +kernel
theorem dX7_compare_90 : decode cX7_compare 90 = .ok (.aload_n 0, 1) := by decide +kernel
theorem dX7_compare_91 : decode cX7_compare 91 = .ok (.iconst 5, 1) := by decide +kernel
theorem dX7_compare_92 : decode cX7_compare 92 = .ok (.invokevirtual 101, 3) := by decide +kernel
theorem dX7_compare_95 : decode cX7_compare 95 = .ok (.ireturn, 1) := by decide +kernel
theorem dX7_compare_96 : decode cX7_compare 96 = .ok (.iload_n 2, 1) := by decide +kernel
theorem dX7_compare_97 : decode cX7_compare 97 = .ok (.iconst 0, 1) := by decide +kernel
theorem dX7_compare_98 : decode cX7_compare 98 = .ok (.iload 4, 2) := by decide +kernel
theorem dX7_compare_100 : decode cX7_compare 100 = .ok (.iconst 2, 1) := by decide +kernel
theorem dX7_compare_101 : decode cX7_compare 101 = .ok (.idiv, 1) := by decide +kernel
theorem dX7_compare_102 : decode cX7_compare 102 = .ok (.iconst 2, 1) := by decide +kernel
theorem dX7_compare_103 : decode cX7_compare 103 = .ok (.isub, 1) := by decide +kernel
theorem dX7_compare_104 : decode cX7_compare 104 = .ok (.invokestatic 93, 3) := by decide +kernel
theorem dX7_compare_107 : decode cX7_compare 107 = .ok (.ifCond .ne 6, 3) := by decide +kernel
theorem dX7_compare_110 : decode cX7_compare 110 = .ok (.bipush (-9), 2) := by decide +kernel
theorem dX7_compare_112 : decode cX7_compare 112 = .ok (.ireturn, 1) := by decide +kernel
theorem dX7_compare_113 : decode cX7_compare 113 = .ok (.bipush 40, 2) := by decide +kernel
theorem dX7_compare_115 : decode cX7_compare 115 = .ok (.iload_n 1, 1) := by decide +kernel
theorem dX7_compare_116 : decode cX7_compare 116 = .ok (.imul, 1) := by decide +kernel
theorem dX7_compare_117 : decode cX7_compare 117 = .ok (.istore 6, 2) := by decide +kernel
theorem dX7_compare_119 : decode cX7_compare 119 = .ok (.aload_n 0, 1) := by decide +kernel
theorem dX7_compare_120 : decode cX7_compare 120 = .ok (.getfield 20, 3) := by decide +kernel
theorem dX7_compare_123 : decode cX7_compare 123 = .ok (.iload 6, 2) := by decide +kernel
theorem dX7_compare_125 : decode cX7_compare 125 = .ok (.iconst 1, 1) := by decide +kernel
theorem dX7_compare_126 : decode cX7_compare 126 = .ok (.iadd, 1) := by decide +kernel
theorem dX7_compare_127 : decode cX7_compare 127 = .ok (.iload_n 2, 1) := by decide +kernel
theorem dX7_compare_128 : decode cX7_compare 128 = .ok (.iadd, 1) := by decide +kernel
theorem dX7_compare_129 : decode cX7_compare 129 = .ok (.iaload, 1) := by decide +kernel
theorem dX7_compare_130 : decode cX7_compare 130 = .ok (.i2l, 1) := by decide +kernel
theorem dX7_compare_131 : decode cX7_compare 131 = .ok (.aload_n 0, 1) := by decide +kernel
theorem dX7_compare_132 : decode cX7_compare 132 = .ok (.getfield 20, 3) := by decide +kernel
theorem dX7_compare_135 : decode cX7_compare 135 = .ok (.iload 6, 2) := by decide +kernel
theorem dX7_compare_137 : decode cX7_compare 137 = .ok (.iload 4, 2) := by decide +kernel
theorem dX7_compare_139 : decode cX7_compare 139 = .ok (.iadd, 1) := by decide +kernel
theorem dX7_compare_140 : decode cX7_compare 140 = .ok (.iconst 2, 1) := by decide +kernel
theorem dX7_compare_141 : decode cX7_compare 141 = .ok (.isub, 1) := by decide +kernel
theorem dX7_compare_142 : decode cX7_compare 142 = .ok (.iload_n 2, 1) := by decide +kernel
theorem dX7_compare_143 : decode cX7_compare 143 = .ok (.isub, 1) := by decide +kernel
theorem dX7_compare_144 : decode cX7_compare 144 = .ok (.iaload, 1) := by decide +kernel
theorem dX7_compare_145 : decode cX7_compare 145 = .ok (.i2l, 1) := by decide +kernel
theorem dX7_compare_146 : decode cX7_compare 146 = .ok (.ladd, 1) := by decide +kernel
theorem dX7_compare_147 : decode cX7_compare 147 = .ok (.aload_n 0, 1) := by decide +kernel
theorem dX7_compare_148 : decode cX7_compare 148 = .ok (.getfield 20, 3) := by decide +kernel
theorem dX7_compare_151 : decode cX7_compare 151 = .ok (.iload 6, 2) := by decide +kernel
theorem dX7_compare_153 : decode cX7_compare 153 = .ok (.iaload, 1) := by decide +kernel
theorem dX7_compare_154 : decode cX7_compare 154 = .ok (.i2l, 1) := by decide +kernel
theorem dX7_compare_155 : decode cX7_compare 155 = .ok (.lsub, 1) := by decide +kernel
theorem dX7_compare_156 : decode cX7_compare 156 = .ok (.aload_n 0, 1) := by decide +kernel
theorem dX7_compare_157 : decode cX7_compare 157 = .ok (.getfield 20, 3) := by decide +kernel
theorem dX7_compare_160 : decode cX7_compare 160 = .ok (.iload 6, 2) := by decide +kernel
theorem dX7_compare_162 : decode cX7_compare 162 = .ok (.iload 4, 2) := by decide +kernel
theorem dX7_compare_164 : decode cX7_compare 164 = .ok (.iadd, 1) := by decide +kernel
theorem dX7_compare_165 : decode cX7_compare 165 = .ok (.iconst 1, 1) := by decide +kernel
theorem dX7_compare_166 : decode cX7_compare 166 = .ok (.isub, 1) := by decide +kernel
theorem dX7_compare_167 : decode cX7_compare 167 = .ok (.iaload, 1) := by decide +kernel
theorem dX7_compare_168 : decode cX7_compare 168 = .ok (.i2l, 1) := by decide +kernel
theorem dX7_compare_169 : decode cX7_compare 169 = .ok (.lsub, 1) := by decide +kernel
theorem dX7_compare_170 : decode cX7_compare 170 = .ok (.lstore 7, 2) := by decide +kernel
theorem dX7_compare_172 : decode cX7_compare 172 = .ok (.aload_n 0, 1) := by decide +kernel
theorem dX7_compare_173 : decode cX7_compare 173 = .ok (.lload 7, 2) := by decide +kernel
theorem dX7_compare_175 : decode cX7_compare 175 = .ok (.ldc2_w 175, 3) := by decide +kernel
theorem dX7_compare_178 : decode cX7_compare 178 = .ok (.iconst 1, 1) := by decide +kernel
theorem dX7_compare_179 : decode cX7_compare 179 = .ok (.invokevirtual 114, 3) := by decide +kernel
theorem dX7_compare_182 : decode cX7_compare 182 = .ok (.ireturn, 1) := by decide +kernel
set_option maxRecDepth 20000 in
theorem ggX7_isCertificate_X7_in : GoodIn wsX7_isCertificate wsX7_in := goodIn_r _ [5] (by decide +kernel) (by decide +kernel)
set_option maxRecDepth 20000 in
theorem gX7_isCertificate_X7_in : GoodIn wsX7_isCertificate (va_wsS RX7 93 yX7_in wsX7_in) := goodIn_app (goodIn_of _ (by decide +kernel)) ggX7_isCertificate_X7_in
theorem dX7_isCertificate_0 : decode cX7_isCertificate 0 = .ok (.iload_n 1, 1) := by decide +kernel
theorem dX7_isCertificate_1 : decode cX7_isCertificate 1 = .ok (.iconst 0, 1) := by decide +kernel
theorem dX7_isCertificate_2 : decode cX7_isCertificate 2 = .ok (.aload_n 0, 1) := by decide +kernel
theorem dX7_isCertificate_3 : decode cX7_isCertificate 3 = .ok (.getfield 147, 3) := by decide +kernel
theorem dX7_isCertificate_6 : decode cX7_isCertificate 6 = .ok (.iconst 1, 1) := by decide +kernel
theorem dX7_isCertificate_7 : decode cX7_isCertificate 7 = .ok (.isub, 1) := by decide +kernel
theorem dX7_isCertificate_8 : decode cX7_isCertificate 8 = .ok (.invokestatic 93, 3) := by decide +kernel
theorem dX7_isCertificate_11 : decode cX7_isCertificate 11 = .ok (.ireturn, 1) := by decide +kernel
set_option maxRecDepth 20000 in
theorem ggX7_isDay_X7_in : GoodIn wsX7_isDay wsX7_in := goodIn_r _ [5] (by decide +kernel) (by decide +kernel)
set_option maxRecDepth 20000 in
theorem gX7_isDay_X7_in : GoodIn wsX7_isDay (va_wsS RX7 93 yX7_in wsX7_in) := goodIn_app (goodIn_of _ (by decide +kernel)) ggX7_isDay_X7_in
theorem dX7_isDay_0 : decode cX7_isDay 0 = .ok (.iload_n 0, 1) := by decide +kernel
theorem dX7_isDay_1 : decode cX7_isDay 1 = .ok (.iconst 0, 1) := by decide +kernel
theorem dX7_isDay_2 : decode cX7_isDay 2 = .ok (.ldc 106, 2) := by decide +kernel
theorem dX7_isDay_4 : decode cX7_isDay 4 = .ok (.invokestatic 93, 3) := by decide +kernel
theorem dX7_isDay_7 : decode cX7_isDay 7 = .ok (.ireturn, 1) := by decide +kernel
set_option maxRecDepth 20000 in
theorem ggX7_certify_X7_isBulb : GoodIn wsX7_certify wsX7_isBulb := goodIn_r _ [13, 14, 15, 16, 12, 17, 27, 28, 29, 30, 31, 32, 33, 34, 35, 36, 37, 38, 39, 40, 41, 42, 43, 44, 45, 46, 47, 48, 49, 50, 51, 52, 53, 54, 55, 56] (by decide +kernel) (by decide +kernel)
set_option maxRecDepth 20000 in
theorem gX7_certify_X7_isBulb : GoodIn wsX7_certify (wsV RX7 157 RX7 yX7_isBulb wsX7_isBulb) := goodIn_app (goodIn_of _ (by decide +kernel)) ggX7_certify_X7_isBulb
set_option maxRecDepth 20000 in
theorem ggX7_certify_X7_in : GoodIn wsX7_certify wsX7_in := goodIn_r _ [17] (by decide +kernel) (by decide +kernel)
set_option maxRecDepth 20000 in
theorem gX7_certify_X7_in : GoodIn wsX7_certify (va_wsS RX7 93 yX7_in wsX7_in) := goodIn_app (goodIn_of _ (by decide +kernel)) ggX7_certify_X7_in
set_option maxRecDepth 20000 in
theorem ggX7_certify_X7_isDay : GoodIn wsX7_certify wsX7_isDay := goodIn_r _ [20, 21, 15, 16, 12, 17] (by decide +kernel) (by decide +kernel)
set_option maxRecDepth 20000 in
theorem gX7_certify_X7_isDay : GoodIn wsX7_certify (va_wsS RX7 177 yX7_isDay wsX7_isDay) := goodIn_app (goodIn_of _ (by decide +kernel)) ggX7_certify_X7_isDay
set_option maxRecDepth 20000 in
theorem ggX7_certify_X7_lastOf : GoodIn wsX7_certify wsX7_lastOf := goodIn_r _ [25, 2, 26, 5, 27, 28, 29, 30, 31, 32, 33, 34, 35, 36, 37, 38, 39, 40, 41, 42, 43, 44, 45, 46, 47, 48, 49, 50, 51, 52, 53, 54, 55, 56] (by decide +kernel) (by decide +kernel)
set_option maxRecDepth 20000 in
theorem gX7_certify_X7_lastOf : GoodIn wsX7_certify (wsV RX7 150 RX7 yX7_lastOf wsX7_lastOf) := goodIn_app (goodIn_of _ (by decide +kernel)) ggX7_certify_X7_lastOf
theorem dX7_certify_0 : decode cX7_certify 0 = .ok (.aload_n 0, 1) := by decide +kernel
theorem dX7_certify_1 : decode cX7_certify 1 = .ok (.iload_n 1, 1) := by decide +kernel
theorem dX7_certify_2 : decode cX7_certify 2 = .ok (.invokevirtual 157, 3) := by decide +kernel
theorem dX7_certify_5 : decode cX7_certify 5 = .ok (.ifCond .eq 66, 3) := by decide +kernel
theorem dX7_certify_8 : decode cX7_certify 8 = .ok (.iload_n 2, 1) := by decide +kernel
theorem dX7_certify_9 : decode cX7_certify 9 = .ok (.bipush (-9), 2) := by decide +kernel
theorem dX7_certify_11 : decode cX7_certify 11 = .ok (.if_icmp .eq 11, 3) := by decide +kernel
theorem dX7_certify_14 : decode cX7_certify 14 = .ok (.aload_n 0, 1) := by decide +kernel
theorem dX7_certify_15 : decode cX7_certify 15 = .ok (.iload_n 2, 1) := by decide +kernel
theorem dX7_certify_16 : decode cX7_certify 16 = .ok (.invokevirtual 157, 3) := by decide +kernel
theorem dX7_certify_19 : decode cX7_certify 19 = .ok (.ifCond .eq 52, 3) := by decide +kernel
theorem dX7_certify_22 : decode cX7_certify 22 = .ok (.iload_n 2, 1) := by decide +kernel
theorem dX7_certify_23 : decode cX7_certify 23 = .ok (.iload_n 1, 1) := by decide +kernel
theorem dX7_certify_24 : decode cX7_certify 24 = .ok (.if_icmp .eq 47, 3) := by decide +kernel
theorem dX7_certify_27 : decode cX7_certify 27 = .ok (.iload_n 3, 1) := by decide +kernel
theorem dX7_certify_28 : decode cX7_certify 28 = .ok (.iconst 0, 1) := by decide +kernel
theorem dX7_certify_29 : decode cX7_certify 29 = .ok (.bipush 7, 2) := by decide +kernel
theorem dX7_certify_31 : decode cX7_certify 31 = .ok (.invokestatic 93, 3) := by decide +kernel
theorem dX7_certify_34 : decode cX7_certify 34 = .ok (.ifCond .eq 37, 3) := by decide +kernel
theorem dX7_certify_37 : decode cX7_certify 37 = .ok (.iload 4, 2) := by decide +kernel
theorem dX7_certify_39 : decode cX7_certify 39 = .ok (.invokestatic 177, 3) := by decide +kernel
theorem dX7_certify_42 : decode cX7_certify 42 = .ok (.ifCond .eq 29, 3) := by decide +kernel
theorem dX7_certify_45 : decode cX7_certify 45 = .ok (.iload 5, 2) := by decide +kernel
theorem dX7_certify_47 : decode cX7_certify 47 = .ok (.sipush (-10000), 3) := by decide +kernel
theorem dX7_certify_50 : decode cX7_certify 50 = .ok (.sipush 10000, 3) := by decide +kernel
theorem dX7_certify_53 : decode cX7_certify 53 = .ok (.invokestatic 93, 3) := by decide +kernel
theorem dX7_certify_56 : decode cX7_certify 56 = .ok (.ifCond .eq 15, 3) := by decide +kernel
theorem dX7_certify_59 : decode cX7_certify 59 = .ok (.iload 6, 2) := by decide +kernel
theorem dX7_certify_61 : decode cX7_certify 61 = .ok (.iconst 0, 1) := by decide +kernel
theorem dX7_certify_62 : decode cX7_certify 62 = .ok (.sipush 10000, 3) := by decide +kernel
theorem dX7_certify_65 : decode cX7_certify 65 = .ok (.invokestatic 93, 3) := by decide +kernel
theorem dX7_certify_68 : decode cX7_certify 68 = .ok (.ifCond .ne 5, 3) := by decide +kernel
theorem dX7_certify_71 : decode cX7_certify 71 = .ok (.iconst (-1), 1) := by decide +kernel
theorem dX7_certify_72 : decode cX7_certify 72 = .ok (.ireturn, 1) := by decide +kernel
theorem dX7_certify_73 : decode cX7_certify 73 = .ok (.aload_n 0, 1) := by decide +kernel
theorem dX7_certify_74 : decode cX7_certify 74 = .ok (.getfield 147, 3) := by decide +kernel
theorem dX7_certify_77 : decode cX7_certify 77 = .ok (.bipush 40, 2) := by decide +kernel
theorem dX7_certify_79 : decode cX7_certify 79 = .ok (.if_icmp .ne 6, 3) := by decide +kernel
theorem dX7_certify_82 : decode cX7_certify 82 = .ok (.bipush (-2), 2) := by decide +kernel
theorem dX7_certify_84 : decode cX7_certify 84 = .ok (.ireturn, 1) := by decide +kernel
theorem dX7_certify_85 : decode cX7_certify 85 = .ok (.iload_n 2, 1) := by decide +kernel
theorem dX7_certify_86 : decode cX7_certify 86 = .ok (.bipush (-9), 2) := by decide +kernel
theorem dX7_certify_88 : decode cX7_certify 88 = .ok (.if_icmp .ne 8, 3) := by decide +kernel
theorem dX7_certify_91 : decode cX7_certify 91 = .ok (.bipush (-9), 2) := by decide +kernel
theorem dX7_certify_93 : decode cX7_certify 93 = .ok (.goto 14, 3) := by decide +kernel
theorem dX7_certify_96 : decode cX7_certify 96 = .ok (.aload_n 0, 1) := by decide +kernel
theorem dX7_certify_97 : decode cX7_certify 97 = .ok (.iload_n 2, 1) := by decide +kernel
theorem dX7_certify_98 : decode cX7_certify 98 = .ok (.iload 4, 2) := by decide +kernel
theorem dX7_certify_100 : decode cX7_certify 100 = .ok (.aload_n 0, 1) := by decide +kernel
theorem dX7_certify_101 : decode cX7_certify 101 = .ok (.getfield 147, 3) := by decide +kernel
theorem dX7_certify_104 : decode cX7_certify 104 = .ok (.invokevirtual 150, 3) := by decide +kernel
theorem dX7_certify_107 : decode cX7_certify 107 = .ok (.istore 7, 2) := by decide +kernel
theorem dX7_certify_109 : decode cX7_certify 109 = .ok (.iload_n 2, 1) := by decide +kernel
theorem dX7_certify_110 : decode cX7_certify 110 = .ok (.bipush (-9), 2) := by decide +kernel
theorem dX7_certify_112 : decode cX7_certify 112 = .ok (.if_icmp .eq 11, 3) := by decide +kernel
theorem dX7_certify_115 : decode cX7_certify 115 = .ok (.iload 7, 2) := by decide +kernel
theorem dX7_certify_117 : decode cX7_certify 117 = .ok (.ifCond .ge 6, 3) := by decide +kernel
theorem dX7_certify_120 : decode cX7_certify 120 = .ok (.bipush (-4), 2) := by decide +kernel
theorem dX7_certify_122 : decode cX7_certify 122 = .ok (.ireturn, 1) := by decide +kernel
theorem dX7_certify_123 : decode cX7_certify 123 = .ok (.aload_n 0, 1) := by decide +kernel
theorem dX7_certify_124 : decode cX7_certify 124 = .ok (.getfield 41, 3) := by decide +kernel
theorem dX7_certify_127 : decode cX7_certify 127 = .ok (.aload_n 0, 1) := by decide +kernel
theorem dX7_certify_128 : decode cX7_certify 128 = .ok (.getfield 147, 3) := by decide +kernel
theorem dX7_certify_131 : decode cX7_certify 131 = .ok (.iload_n 1, 1) := by decide +kernel
theorem dX7_certify_132 : decode cX7_certify 132 = .ok (.iastore, 1) := by decide +kernel
theorem dX7_certify_133 : decode cX7_certify 133 = .ok (.aload_n 0, 1) := by decide +kernel
theorem dX7_certify_134 : decode cX7_certify 134 = .ok (.getfield 44, 3) := by decide +kernel
theorem dX7_certify_137 : decode cX7_certify 137 = .ok (.aload_n 0, 1) := by decide +kernel
theorem dX7_certify_138 : decode cX7_certify 138 = .ok (.getfield 147, 3) := by decide +kernel
theorem dX7_certify_141 : decode cX7_certify 141 = .ok (.iload_n 2, 1) := by decide +kernel
theorem dX7_certify_142 : decode cX7_certify 142 = .ok (.iastore, 1) := by decide +kernel
theorem dX7_certify_143 : decode cX7_certify 143 = .ok (.aload_n 0, 1) := by decide +kernel
theorem dX7_certify_144 : decode cX7_certify 144 = .ok (.getfield 47, 3) := by decide +kernel
theorem dX7_certify_147 : decode cX7_certify 147 = .ok (.aload_n 0, 1) := by decide +kernel
theorem dX7_certify_148 : decode cX7_certify 148 = .ok (.getfield 147, 3) := by decide +kernel
theorem dX7_certify_151 : decode cX7_certify 151 = .ok (.iload_n 3, 1) := by decide +kernel
theorem dX7_certify_152 : decode cX7_certify 152 = .ok (.iastore, 1) := by decide +kernel
theorem dX7_certify_153 : decode cX7_certify 153 = .ok (.aload_n 0, 1) := by decide +kernel
theorem dX7_certify_154 : decode cX7_certify 154 = .ok (.getfield 50, 3) := by decide +kernel
theorem dX7_certify_157 : decode cX7_certify 157 = .ok (.aload_n 0, 1) := by decide +kernel
theorem dX7_certify_158 : decode cX7_certify 158 = .ok (.getfield 147, 3) := by decide +kernel
theorem dX7_certify_161 : decode cX7_certify 161 = .ok (.iload 4, 2) := by decide +kernel
theorem dX7_certify_163 : decode cX7_certify 163 = .ok (.iastore, 1) := by decide +kernel
theorem dX7_certify_164 : decode cX7_certify 164 = .ok (.aload_n 0, 1) := by decide +kernel
theorem dX7_certify_165 : decode cX7_certify 165 = .ok (.getfield 53, 3) := by decide +kernel
theorem dX7_certify_168 : decode cX7_certify 168 = .ok (.aload_n 0, 1) := by decide +kernel
theorem dX7_certify_169 : decode cX7_certify 169 = .ok (.getfield 147, 3) := by decide +kernel
theorem dX7_certify_172 : decode cX7_certify 172 = .ok (.iload 5, 2) := by decide +kernel
theorem dX7_certify_174 : decode cX7_certify 174 = .ok (.iastore, 1) := by decide +kernel
theorem dX7_certify_175 : decode cX7_certify 175 = .ok (.aload_n 0, 1) := by decide +kernel
theorem dX7_certify_176 : decode cX7_certify 176 = .ok (.getfield 56, 3) := by decide +kernel
theorem dX7_certify_179 : decode cX7_certify 179 = .ok (.aload_n 0, 1) := by decide +kernel
theorem dX7_certify_180 : decode cX7_certify 180 = .ok (.getfield 147, 3) := by decide +kernel
theorem dX7_certify_183 : decode cX7_certify 183 = .ok (.iload 6, 2) := by decide +kernel
theorem dX7_certify_185 : decode cX7_certify 185 = .ok (.iastore, 1) := by decide +kernel
theorem dX7_certify_186 : decode cX7_certify 186 = .ok (.aload_n 0, 1) := by decide +kernel
theorem dX7_certify_187 : decode cX7_certify 187 = .ok (.getfield 59, 3) := by decide +kernel
theorem dX7_certify_190 : decode cX7_certify 190 = .ok (.aload_n 0, 1) := by decide +kernel
theorem dX7_certify_191 : decode cX7_certify 191 = .ok (.getfield 147, 3) := by decide +kernel
theorem dX7_certify_194 : decode cX7_certify 194 = .ok (.iload 7, 2) := by decide +kernel
theorem dX7_certify_196 : decode cX7_certify 196 = .ok (.iastore, 1) := by decide +kernel
theorem dX7_certify_197 : decode cX7_certify 197 = .ok (.aload_n 0, 1) := by decide +kernel
theorem dX7_certify_198 : decode cX7_certify 198 = .ok (.dup, 1) := by decide +kernel
theorem dX7_certify_199 : decode cX7_certify 199 = .ok (.getfield 147, 3) := by decide +kernel
theorem dX7_certify_202 : decode cX7_certify 202 = .ok (.iconst 1, 1) := by decide +kernel
theorem dX7_certify_203 : decode cX7_certify 203 = .ok (.iadd, 1) := by decide +kernel
theorem dX7_certify_204 : decode cX7_certify 204 = .ok (.putfield 147, 3) := by decide +kernel
theorem dX7_certify_207 : decode cX7_certify 207 = .ok (.aload_n 0, 1) := by decide +kernel
theorem dX7_certify_208 : decode cX7_certify 208 = .ok (.getfield 147, 3) := by decide +kernel
theorem dX7_certify_211 : decode cX7_certify 211 = .ok (.iconst 1, 1) := by decide +kernel
theorem dX7_certify_212 : decode cX7_certify 212 = .ok (.isub, 1) := by decide +kernel
theorem dX7_certify_213 : decode cX7_certify 213 = .ok (.ireturn, 1) := by decide +kernel
theorem dX7_tellsOf_0 : decode cX7_tellsOf 0 = .ok (.iload_n 2, 1) := by decide +kernel
theorem dX7_tellsOf_1 : decode cX7_tellsOf 1 = .ok (.tableswitch 89 0 5 #[39, 46, 53, 60, 67, 74], 39) := by decide +kernel
theorem dX7_tellsOf_40 : decode cX7_tellsOf 40 = .ok (.aload_n 0, 1) := by decide +kernel
theorem dX7_tellsOf_41 : decode cX7_tellsOf 41 = .ok (.getfield 41, 3) := by decide +kernel
theorem dX7_tellsOf_44 : decode cX7_tellsOf 44 = .ok (.iload_n 1, 1) := by decide +kernel
theorem dX7_tellsOf_45 : decode cX7_tellsOf 45 = .ok (.iaload, 1) := by decide +kernel
theorem dX7_tellsOf_46 : decode cX7_tellsOf 46 = .ok (.ireturn, 1) := by decide +kernel
theorem dX7_tellsOf_47 : decode cX7_tellsOf 47 = .ok (.aload_n 0, 1) := by decide +kernel
theorem dX7_tellsOf_48 : decode cX7_tellsOf 48 = .ok (.getfield 44, 3) := by decide +kernel
theorem dX7_tellsOf_51 : decode cX7_tellsOf 51 = .ok (.iload_n 1, 1) := by decide +kernel
theorem dX7_tellsOf_52 : decode cX7_tellsOf 52 = .ok (.iaload, 1) := by decide +kernel
theorem dX7_tellsOf_53 : decode cX7_tellsOf 53 = .ok (.ireturn, 1) := by decide +kernel
theorem dX7_tellsOf_54 : decode cX7_tellsOf 54 = .ok (.aload_n 0, 1) := by decide +kernel
theorem dX7_tellsOf_55 : decode cX7_tellsOf 55 = .ok (.getfield 47, 3) := by decide +kernel
theorem dX7_tellsOf_58 : decode cX7_tellsOf 58 = .ok (.iload_n 1, 1) := by decide +kernel
theorem dX7_tellsOf_59 : decode cX7_tellsOf 59 = .ok (.iaload, 1) := by decide +kernel
theorem dX7_tellsOf_60 : decode cX7_tellsOf 60 = .ok (.ireturn, 1) := by decide +kernel
theorem dX7_tellsOf_61 : decode cX7_tellsOf 61 = .ok (.aload_n 0, 1) := by decide +kernel
theorem dX7_tellsOf_62 : decode cX7_tellsOf 62 = .ok (.getfield 50, 3) := by decide +kernel
theorem dX7_tellsOf_65 : decode cX7_tellsOf 65 = .ok (.iload_n 1, 1) := by decide +kernel
theorem dX7_tellsOf_66 : decode cX7_tellsOf 66 = .ok (.iaload, 1) := by decide +kernel
theorem dX7_tellsOf_67 : decode cX7_tellsOf 67 = .ok (.ireturn, 1) := by decide +kernel
theorem dX7_tellsOf_68 : decode cX7_tellsOf 68 = .ok (.aload_n 0, 1) := by decide +kernel
theorem dX7_tellsOf_69 : decode cX7_tellsOf 69 = .ok (.getfield 56, 3) := by decide +kernel
theorem dX7_tellsOf_72 : decode cX7_tellsOf 72 = .ok (.iload_n 1, 1) := by decide +kernel
theorem dX7_tellsOf_73 : decode cX7_tellsOf 73 = .ok (.iaload, 1) := by decide +kernel
theorem dX7_tellsOf_74 : decode cX7_tellsOf 74 = .ok (.ireturn, 1) := by decide +kernel
theorem dX7_tellsOf_75 : decode cX7_tellsOf 75 = .ok (.aload_n 0, 1) := by decide +kernel
theorem dX7_tellsOf_76 : decode cX7_tellsOf 76 = .ok (.getfield 62, 3) := by decide +kernel
theorem dX7_tellsOf_79 : decode cX7_tellsOf 79 = .ok (.iload_n 1, 1) := by decide +kernel
theorem dX7_tellsOf_80 : decode cX7_tellsOf 80 = .ok (.baload, 1) := by decide +kernel
theorem dX7_tellsOf_81 : decode cX7_tellsOf 81 = .ok (.ifCond .eq 7, 3) := by decide +kernel
theorem dX7_tellsOf_84 : decode cX7_tellsOf 84 = .ok (.iconst 1, 1) := by decide +kernel
theorem dX7_tellsOf_85 : decode cX7_tellsOf 85 = .ok (.goto 4, 3) := by decide +kernel
theorem dX7_tellsOf_88 : decode cX7_tellsOf 88 = .ok (.iconst 0, 1) := by decide +kernel
theorem dX7_tellsOf_89 : decode cX7_tellsOf 89 = .ok (.ireturn, 1) := by decide +kernel
theorem dX7_tellsOf_90 : decode cX7_tellsOf 90 = .ok (.aload_n 0, 1) := by decide +kernel
theorem dX7_tellsOf_91 : decode cX7_tellsOf 91 = .ok (.getfield 59, 3) := by decide +kernel
theorem dX7_tellsOf_94 : decode cX7_tellsOf 94 = .ok (.iload_n 1, 1) := by decide +kernel
theorem dX7_tellsOf_95 : decode cX7_tellsOf 95 = .ok (.iaload, 1) := by decide +kernel
theorem dX7_tellsOf_96 : decode cX7_tellsOf 96 = .ok (.ireturn, 1) := by decide +kernel
set_option maxRecDepth 20000 in
theorem ggX7_certificate_X7_isCertificate : GoodIn wsX7_certificate wsX7_isCertificate := goodIn_r _ [5, 6, 7, 8, 4, 9, 21, 22, 23, 24, 25, 26, 27, 28, 29, 30, 31, 32, 33, 34, 35, 36, 37, 38, 39, 40, 41, 42, 43, 44, 45, 46, 47, 48, 49, 50] (by decide +kernel) (by decide +kernel)
set_option maxRecDepth 20000 in
theorem gX7_certificate_X7_isCertificate : GoodIn wsX7_certificate (wsV RX7 180 RX7 yX7_isCertificate wsX7_isCertificate) := goodIn_app (goodIn_of _ (by decide +kernel)) ggX7_certificate_X7_isCertificate
set_option maxRecDepth 20000 in
theorem ggX7_certificate_X7_in : GoodIn wsX7_certificate wsX7_in := goodIn_r _ [9] (by decide +kernel) (by decide +kernel)
set_option maxRecDepth 20000 in
theorem gX7_certificate_X7_in : GoodIn wsX7_certificate (va_wsS RX7 93 yX7_in wsX7_in) := goodIn_app (goodIn_of _ (by decide +kernel)) ggX7_certificate_X7_in
set_option maxRecDepth 20000 in
theorem ggX7_certificate_X7_tellsOf : GoodIn wsX7_certificate wsX7_tellsOf := goodIn_r _ [13, 14, 15, 16, 17, 18, 19, 20, 21, 22, 23, 24, 25, 26, 27, 28, 29, 30, 31, 32, 33, 34, 35, 36, 37, 38, 39, 40, 41, 42, 43, 44, 45, 46, 47, 48, 49, 50] (by decide +kernel) (by decide +kernel)
set_option maxRecDepth 20000 in
theorem gX7_certificate_X7_tellsOf : GoodIn wsX7_certificate (wsV RX7 183 RX7 yX7_tellsOf wsX7_tellsOf) := goodIn_app (goodIn_of _ (by decide +kernel)) ggX7_certificate_X7_tellsOf
theorem dX7_certificate_0 : decode cX7_certificate 0 = .ok (.aload_n 0, 1) := by decide +kernel
theorem dX7_certificate_1 : decode cX7_certificate 1 = .ok (.iload_n 1, 1) := by decide +kernel
theorem dX7_certificate_2 : decode cX7_certificate 2 = .ok (.invokevirtual 180, 3) := by decide +kernel
theorem dX7_certificate_5 : decode cX7_certificate 5 = .ok (.ifCond .eq 22, 3) := by decide +kernel
theorem dX7_certificate_8 : decode cX7_certificate 8 = .ok (.iload_n 2, 1) := by decide +kernel
theorem dX7_certificate_9 : decode cX7_certificate 9 = .ok (.iconst 0, 1) := by decide +kernel
theorem dX7_certificate_10 : decode cX7_certificate 10 = .ok (.bipush 6, 2) := by decide +kernel
theorem dX7_certificate_12 : decode cX7_certificate 12 = .ok (.invokestatic 93, 3) := by decide +kernel
theorem dX7_certificate_15 : decode cX7_certificate 15 = .ok (.ifCond .eq 12, 3) := by decide +kernel
theorem dX7_certificate_18 : decode cX7_certificate 18 = .ok (.aload_n 0, 1) := by decide +kernel
theorem dX7_certificate_19 : decode cX7_certificate 19 = .ok (.iload_n 1, 1) := by decide +kernel
theorem dX7_certificate_20 : decode cX7_certificate 20 = .ok (.iload_n 2, 1) := by decide +kernel
theorem dX7_certificate_21 : decode cX7_certificate 21 = .ok (.invokevirtual 183, 3) := by decide +kernel
theorem dX7_certificate_24 : decode cX7_certificate 24 = .ok (.goto 4, 3) := by decide +kernel
theorem dX7_certificate_27 : decode cX7_certificate 27 = .ok (.iconst (-1), 1) := by decide +kernel
theorem dX7_certificate_28 : decode cX7_certificate 28 = .ok (.ireturn, 1) := by decide +kernel
set_option maxRecDepth 20000 in
theorem ggX7_offset_X7_isCertificate : GoodIn wsX7_offset wsX7_isCertificate := goodIn_r _ [6, 7, 8, 9, 5, 10, 16, 17, 18, 19, 20, 21, 22, 23, 24, 25, 26, 27, 28, 29, 30, 31, 32, 33, 34, 35, 36, 37, 38, 39, 40, 41, 42, 43, 44, 45] (by decide +kernel) (by decide +kernel)
set_option maxRecDepth 20000 in
theorem gX7_offset_X7_isCertificate : GoodIn wsX7_offset (wsV RX7 180 RX7 yX7_isCertificate wsX7_isCertificate) := goodIn_app (goodIn_of _ (by decide +kernel)) ggX7_offset_X7_isCertificate
set_option maxRecDepth 20000 in
theorem ggX7_offset_X7_ask : GoodIn wsX7_offset wsX7_ask := goodIn_r _ [14, 15, 16, 17, 18, 19, 20, 21, 22, 23, 24, 25, 26, 27, 28, 29, 30, 31, 32, 33, 34, 35, 36, 37, 38, 39, 40, 41, 42, 43, 44, 45] (by decide +kernel) (by decide +kernel)
set_option maxRecDepth 20000 in
theorem gX7_offset_X7_ask : GoodIn wsX7_offset (wsV RX7 110 RX7 yX7_ask wsX7_ask) := goodIn_app (goodIn_of _ (by decide +kernel)) ggX7_offset_X7_ask
theorem dX7_offset_0 : decode cX7_offset 0 = .ok (.aload_n 0, 1) := by decide +kernel
theorem dX7_offset_1 : decode cX7_offset 1 = .ok (.iload_n 1, 1) := by decide +kernel
theorem dX7_offset_2 : decode cX7_offset 2 = .ok (.invokevirtual 180, 3) := by decide +kernel
theorem dX7_offset_5 : decode cX7_offset 5 = .ok (.ifCond .eq 18, 3) := by decide +kernel
theorem dX7_offset_8 : decode cX7_offset 8 = .ok (.aload_n 0, 1) := by decide +kernel
theorem dX7_offset_9 : decode cX7_offset 9 = .ok (.aload_n 0, 1) := by decide +kernel
theorem dX7_offset_10 : decode cX7_offset 10 = .ok (.getfield 53, 3) := by decide +kernel
theorem dX7_offset_13 : decode cX7_offset 13 = .ok (.iload_n 1, 1) := by decide +kernel
theorem dX7_offset_14 : decode cX7_offset 14 = .ok (.iaload, 1) := by decide +kernel
theorem dX7_offset_15 : decode cX7_offset 15 = .ok (.i2l, 1) := by decide +kernel
theorem dX7_offset_16 : decode cX7_offset 16 = .ok (.iconst 1, 1) := by decide +kernel
theorem dX7_offset_17 : decode cX7_offset 17 = .ok (.invokevirtual 110, 3) := by decide +kernel
theorem dX7_offset_20 : decode cX7_offset 20 = .ok (.goto 4, 3) := by decide +kernel
theorem dX7_offset_23 : decode cX7_offset 23 = .ok (.iconst (-1), 1) := by decide +kernel
theorem dX7_offset_24 : decode cX7_offset 24 = .ok (.ireturn, 1) := by decide +kernel
set_option maxRecDepth 20000 in
theorem ggX7_wrong_X7_in : GoodIn wsX7_wrong wsX7_in := goodIn_r _ [9] (by decide +kernel) (by decide +kernel)
set_option maxRecDepth 20000 in
theorem gX7_wrong_X7_in : GoodIn wsX7_wrong (va_wsS RX7 93 yX7_in wsX7_in) := goodIn_app (goodIn_of _ (by decide +kernel)) ggX7_wrong_X7_in
set_option maxRecDepth 20000 in
theorem ggX7_wrong_X7_isDay : GoodIn wsX7_wrong wsX7_isDay := goodIn_r _ [12, 13, 6, 7, 8, 9] (by decide +kernel) (by decide +kernel)
set_option maxRecDepth 20000 in
theorem gX7_wrong_X7_isDay : GoodIn wsX7_wrong (va_wsS RX7 177 yX7_isDay wsX7_isDay) := goodIn_app (goodIn_of _ (by decide +kernel)) ggX7_wrong_X7_isDay
theorem dX7_wrong_0 : decode cX7_wrong 0 = .ok (.iload_n 1, 1) := by decide +kernel
theorem dX7_wrong_1 : decode cX7_wrong 1 = .ok (.iconst 0, 1) := by decide +kernel
theorem dX7_wrong_2 : decode cX7_wrong 2 = .ok (.bipush 7, 2) := by decide +kernel
theorem dX7_wrong_4 : decode cX7_wrong 4 = .ok (.invokestatic 93, 3) := by decide +kernel
theorem dX7_wrong_7 : decode cX7_wrong 7 = .ok (.ifCond .eq 22, 3) := by decide +kernel
theorem dX7_wrong_10 : decode cX7_wrong 10 = .ok (.iload_n 2, 1) := by decide +kernel
theorem dX7_wrong_11 : decode cX7_wrong 11 = .ok (.invokestatic 177, 3) := by decide +kernel
theorem dX7_wrong_14 : decode cX7_wrong 14 = .ok (.ifCond .eq 15, 3) := by decide +kernel
theorem dX7_wrong_17 : decode cX7_wrong 17 = .ok (.iload_n 3, 1) := by decide +kernel
theorem dX7_wrong_18 : decode cX7_wrong 18 = .ok (.invokestatic 177, 3) := by decide +kernel
theorem dX7_wrong_21 : decode cX7_wrong 21 = .ok (.ifCond .eq 8, 3) := by decide +kernel
theorem dX7_wrong_24 : decode cX7_wrong 24 = .ok (.iload_n 2, 1) := by decide +kernel
theorem dX7_wrong_25 : decode cX7_wrong 25 = .ok (.iload_n 3, 1) := by decide +kernel
theorem dX7_wrong_26 : decode cX7_wrong 26 = .ok (.if_icmp .le 5, 3) := by decide +kernel
theorem dX7_wrong_29 : decode cX7_wrong 29 = .ok (.iconst (-1), 1) := by decide +kernel
theorem dX7_wrong_30 : decode cX7_wrong 30 = .ok (.ireturn, 1) := by decide +kernel
theorem dX7_wrong_31 : decode cX7_wrong 31 = .ok (.iconst 0, 1) := by decide +kernel
theorem dX7_wrong_32 : decode cX7_wrong 32 = .ok (.istore 4, 2) := by decide +kernel
theorem dX7_wrong_34 : decode cX7_wrong 34 = .ok (.iconst 0, 1) := by decide +kernel
theorem dX7_wrong_35 : decode cX7_wrong 35 = .ok (.istore 5, 2) := by decide +kernel
theorem dX7_wrong_37 : decode cX7_wrong 37 = .ok (.iload 5, 2) := by decide +kernel
theorem dX7_wrong_39 : decode cX7_wrong 39 = .ok (.aload_n 0, 1) := by decide +kernel
theorem dX7_wrong_40 : decode cX7_wrong 40 = .ok (.getfield 147, 3) := by decide +kernel
theorem dX7_wrong_43 : decode cX7_wrong 43 = .ok (.if_icmp .ge 119, 3) := by decide +kernel
theorem dX7_wrong_46 : decode cX7_wrong 46 = .ok (.aload_n 0, 1) := by decide +kernel
theorem dX7_wrong_47 : decode cX7_wrong 47 = .ok (.getfield 47, 3) := by decide +kernel
theorem dX7_wrong_50 : decode cX7_wrong 50 = .ok (.iload 5, 2) := by decide +kernel
theorem dX7_wrong_52 : decode cX7_wrong 52 = .ok (.iaload, 1) := by decide +kernel
theorem dX7_wrong_53 : decode cX7_wrong 53 = .ok (.iload_n 1, 1) := by decide +kernel
theorem dX7_wrong_54 : decode cX7_wrong 54 = .ok (.if_icmp .ne 18, 3) := by decide +kernel
theorem dX7_wrong_57 : decode cX7_wrong 57 = .ok (.aload_n 0, 1) := by decide +kernel
theorem dX7_wrong_58 : decode cX7_wrong 58 = .ok (.getfield 50, 3) := by decide +kernel
theorem dX7_wrong_61 : decode cX7_wrong 61 = .ok (.iload 5, 2) := by decide +kernel
theorem dX7_wrong_63 : decode cX7_wrong 63 = .ok (.iaload, 1) := by decide +kernel
theorem dX7_wrong_64 : decode cX7_wrong 64 = .ok (.iload_n 2, 1) := by decide +kernel
theorem dX7_wrong_65 : decode cX7_wrong 65 = .ok (.iload_n 3, 1) := by decide +kernel
theorem dX7_wrong_66 : decode cX7_wrong 66 = .ok (.invokestatic 93, 3) := by decide +kernel
theorem dX7_wrong_69 : decode cX7_wrong 69 = .ok (.ifCond .ne 28, 3) := by decide +kernel
theorem dX7_wrong_72 : decode cX7_wrong 72 = .ok (.aload_n 0, 1) := by decide +kernel
theorem dX7_wrong_73 : decode cX7_wrong 73 = .ok (.getfield 59, 3) := by decide +kernel
theorem dX7_wrong_76 : decode cX7_wrong 76 = .ok (.iload 5, 2) := by decide +kernel
theorem dX7_wrong_78 : decode cX7_wrong 78 = .ok (.iaload, 1) := by decide +kernel
theorem dX7_wrong_79 : decode cX7_wrong 79 = .ok (.ifCond .lt 22, 3) := by decide +kernel
theorem dX7_wrong_82 : decode cX7_wrong 82 = .ok (.aload_n 0, 1) := by decide +kernel
theorem dX7_wrong_83 : decode cX7_wrong 83 = .ok (.getfield 62, 3) := by decide +kernel
theorem dX7_wrong_86 : decode cX7_wrong 86 = .ok (.aload_n 0, 1) := by decide +kernel
theorem dX7_wrong_87 : decode cX7_wrong 87 = .ok (.getfield 59, 3) := by decide +kernel
theorem dX7_wrong_90 : decode cX7_wrong 90 = .ok (.iload 5, 2) := by decide +kernel
theorem dX7_wrong_92 : decode cX7_wrong 92 = .ok (.iaload, 1) := by decide +kernel
theorem dX7_wrong_93 : decode cX7_wrong 93 = .ok (.baload, 1) := by decide +kernel
theorem dX7_wrong_94 : decode cX7_wrong 94 = .ok (.ifCond .eq 7, 3) := by decide +kernel
theorem dX7_wrong_97 : decode cX7_wrong 97 = .ok (.iconst 1, 1) := by decide +kernel
theorem dX7_wrong_98 : decode cX7_wrong 98 = .ok (.goto 4, 3) := by decide +kernel
theorem dX7_wrong_101 : decode cX7_wrong 101 = .ok (.iconst 0, 1) := by decide +kernel
theorem dX7_wrong_102 : decode cX7_wrong 102 = .ok (.istore 6, 2) := by decide +kernel
theorem dX7_wrong_104 : decode cX7_wrong 104 = .ok (.iload 4, 2) := by decide +kernel
theorem dX7_wrong_106 : decode cX7_wrong 106 = .ok (.iload 6, 2) := by decide +kernel
theorem dX7_wrong_108 : decode cX7_wrong 108 = .ok (.ifCond .eq 17, 3) := by decide +kernel
theorem dX7_wrong_111 : decode cX7_wrong 111 = .ok (.aload_n 0, 1) := by decide +kernel
theorem dX7_wrong_112 : decode cX7_wrong 112 = .ok (.getfield 62, 3) := by decide +kernel
theorem dX7_wrong_115 : decode cX7_wrong 115 = .ok (.iload 5, 2) := by decide +kernel
theorem dX7_wrong_117 : decode cX7_wrong 117 = .ok (.baload, 1) := by decide +kernel
theorem dX7_wrong_118 : decode cX7_wrong 118 = .ok (.ifCond .ne 7, 3) := by decide +kernel
theorem dX7_wrong_121 : decode cX7_wrong 121 = .ok (.iconst 1, 1) := by decide +kernel
theorem dX7_wrong_122 : decode cX7_wrong 122 = .ok (.goto 4, 3) := by decide +kernel
theorem dX7_wrong_125 : decode cX7_wrong 125 = .ok (.iconst 0, 1) := by decide +kernel
theorem dX7_wrong_126 : decode cX7_wrong 126 = .ok (.iadd, 1) := by decide +kernel
theorem dX7_wrong_127 : decode cX7_wrong 127 = .ok (.istore 4, 2) := by decide +kernel
theorem dX7_wrong_129 : decode cX7_wrong 129 = .ok (.aload_n 0, 1) := by decide +kernel
theorem dX7_wrong_130 : decode cX7_wrong 130 = .ok (.getfield 62, 3) := by decide +kernel
theorem dX7_wrong_133 : decode cX7_wrong 133 = .ok (.iload 5, 2) := by decide +kernel
theorem dX7_wrong_135 : decode cX7_wrong 135 = .ok (.aload_n 0, 1) := by decide +kernel
theorem dX7_wrong_136 : decode cX7_wrong 136 = .ok (.getfield 62, 3) := by decide +kernel
theorem dX7_wrong_139 : decode cX7_wrong 139 = .ok (.iload 5, 2) := by decide +kernel
theorem dX7_wrong_141 : decode cX7_wrong 141 = .ok (.baload, 1) := by decide +kernel
theorem dX7_wrong_142 : decode cX7_wrong 142 = .ok (.ifCond .ne 8, 3) := by decide +kernel
theorem dX7_wrong_145 : decode cX7_wrong 145 = .ok (.iload 6, 2) := by decide +kernel
theorem dX7_wrong_147 : decode cX7_wrong 147 = .ok (.ifCond .eq 7, 3) := by decide +kernel
theorem dX7_wrong_150 : decode cX7_wrong 150 = .ok (.iconst 1, 1) := by decide +kernel
theorem dX7_wrong_151 : decode cX7_wrong 151 = .ok (.goto 4, 3) := by decide +kernel
theorem dX7_wrong_154 : decode cX7_wrong 154 = .ok (.iconst 0, 1) := by decide +kernel
theorem dX7_wrong_155 : decode cX7_wrong 155 = .ok (.bastore, 1) := by decide +kernel
theorem dX7_wrong_156 : decode cX7_wrong 156 = .ok (.iinc 5 1, 3) := by decide +kernel
theorem dX7_wrong_159 : decode cX7_wrong 159 = .ok (.goto (-122), 3) := by decide +kernel
theorem dX7_wrong_162 : decode cX7_wrong 162 = .ok (.iload 4, 2) := by decide +kernel
theorem dX7_wrong_164 : decode cX7_wrong 164 = .ok (.ireturn, 1) := by decide +kernel
set_option maxRecDepth 20000 in
theorem ggX7_passes_X7_isBulb : GoodIn wsX7_passes wsX7_isBulb := goodIn_r _ [8, 9, 10, 11, 7, 12, 29, 30, 31, 32, 33, 34, 35, 36, 37, 38, 39, 40, 41, 42, 43, 44, 45, 46, 47, 48, 49, 50, 51, 52, 53, 54, 55, 56, 57, 58] (by decide +kernel) (by decide +kernel)
set_option maxRecDepth 20000 in
theorem gX7_passes_X7_isBulb : GoodIn wsX7_passes (wsV RX7 157 RX7 yX7_isBulb wsX7_isBulb) := goodIn_app (goodIn_of _ (by decide +kernel)) ggX7_passes_X7_isBulb
set_option maxRecDepth 20000 in
theorem ggX7_passes_X7_latestOf : GoodIn wsX7_passes wsX7_latestOf := goodIn_r _ [16, 17, 18, 19, 20, 21, 7, 22, 23, 24, 25, 29, 30, 31, 32, 33, 34, 35, 36, 37, 38, 39, 40, 41, 42, 43, 44, 45, 46, 47, 48, 49, 50, 51, 52, 53, 54, 55, 56, 57, 58] (by decide +kernel) (by decide +kernel)
set_option maxRecDepth 20000 in
theorem gX7_passes_X7_latestOf : GoodIn wsX7_passes (wsV RX7 154 RX7 yX7_latestOf wsX7_latestOf) := goodIn_app (goodIn_of _ (by decide +kernel)) ggX7_passes_X7_latestOf
set_option maxRecDepth 20000 in
theorem ggX7_passes_X7_size : GoodIn wsX7_passes wsX7_size := goodIn_r _ [28] (by decide +kernel) (by decide +kernel)
set_option maxRecDepth 20000 in
theorem gX7_passes_X7_size : GoodIn wsX7_passes (va_wsS RX7 79 yX7_size wsX7_size) := goodIn_app (goodIn_of _ (by decide +kernel)) ggX7_passes_X7_size
theorem dX7_passes_0 : decode cX7_passes 0 = .ok (.aload_n 0, 1) := by decide +kernel
theorem dX7_passes_1 : decode cX7_passes 1 = .ok (.iload_n 1, 1) := by decide +kernel
theorem dX7_passes_2 : decode cX7_passes 2 = .ok (.invokevirtual 157, 3) := by decide +kernel
theorem dX7_passes_5 : decode cX7_passes 5 = .ok (.ifCond .ne 5, 3) := by decide +kernel
theorem dX7_passes_8 : decode cX7_passes 8 = .ok (.iconst (-1), 1) := by decide +kernel
theorem dX7_passes_9 : decode cX7_passes 9 = .ok (.ireturn, 1) := by decide +kernel
theorem dX7_passes_10 : decode cX7_passes 10 = .ok (.aload_n 0, 1) := by decide +kernel
theorem dX7_passes_11 : decode cX7_passes 11 = .ok (.iload_n 1, 1) := by decide +kernel
theorem dX7_passes_12 : decode cX7_passes 12 = .ok (.invokevirtual 154, 3) := by decide +kernel
theorem dX7_passes_15 : decode cX7_passes 15 = .ok (.istore_n 2, 1) := by decide +kernel
theorem dX7_passes_16 : decode cX7_passes 16 = .ok (.iload_n 2, 1) := by decide +kernel
theorem dX7_passes_17 : decode cX7_passes 17 = .ok (.ifCond .ge 8, 3) := by decide +kernel
theorem dX7_passes_20 : decode cX7_passes 20 = .ok (.bipush (-4), 2) := by decide +kernel
theorem dX7_passes_22 : decode cX7_passes 22 = .ok (.goto 37, 3) := by decide +kernel
theorem dX7_passes_25 : decode cX7_passes 25 = .ok (.aload_n 0, 1) := by decide +kernel
theorem dX7_passes_26 : decode cX7_passes 26 = .ok (.getfield 53, 3) := by decide +kernel
theorem dX7_passes_29 : decode cX7_passes 29 = .ok (.iload_n 2, 1) := by decide +kernel
theorem dX7_passes_30 : decode cX7_passes 30 = .ok (.iaload, 1) := by decide +kernel
theorem dX7_passes_31 : decode cX7_passes 31 = .ok (.i2l, 1) := by decide +kernel
theorem dX7_passes_32 : decode cX7_passes 32 = .ok (.invokestatic 79, 3) := by decide +kernel
theorem dX7_passes_35 : decode cX7_passes 35 = .ok (.aload_n 0, 1) := by decide +kernel
theorem dX7_passes_36 : decode cX7_passes 36 = .ok (.getfield 56, 3) := by decide +kernel
theorem dX7_passes_39 : decode cX7_passes 39 = .ok (.iload_n 2, 1) := by decide +kernel
theorem dX7_passes_40 : decode cX7_passes 40 = .ok (.iaload, 1) := by decide +kernel
theorem dX7_passes_41 : decode cX7_passes 41 = .ok (.i2l, 1) := by decide +kernel
theorem dX7_passes_42 : decode cX7_passes 42 = .ok (.ladd, 1) := by decide +kernel
theorem dX7_passes_43 : decode cX7_passes 43 = .ok (.aload_n 0, 1) := by decide +kernel
theorem dX7_passes_44 : decode cX7_passes 44 = .ok (.getfield 38, 3) := by decide +kernel
theorem dX7_passes_47 : decode cX7_passes 47 = .ok (.iload_n 1, 1) := by decide +kernel
theorem dX7_passes_48 : decode cX7_passes 48 = .ok (.iaload, 1) := by decide +kernel
theorem dX7_passes_49 : decode cX7_passes 49 = .ok (.i2l, 1) := by decide +kernel
theorem dX7_passes_50 : decode cX7_passes 50 = .ok (.lcmp, 1) := by decide +kernel
theorem dX7_passes_51 : decode cX7_passes 51 = .ok (.ifCond .gt 7, 3) := by decide +kernel
theorem dX7_passes_54 : decode cX7_passes 54 = .ok (.iconst 1, 1) := by decide +kernel
theorem dX7_passes_55 : decode cX7_passes 55 = .ok (.goto 4, 3) := by decide +kernel
theorem dX7_passes_58 : decode cX7_passes 58 = .ok (.iconst 0, 1) := by decide +kernel
theorem dX7_passes_59 : decode cX7_passes 59 = .ok (.ireturn, 1) := by decide +kernel
set_option maxRecDepth 20000 in
theorem ggX7_whole_X7_isCertificate : GoodIn wsX7_whole wsX7_isCertificate := goodIn_r _ [7, 8, 9, 10, 6, 11, 17, 18, 19, 20, 21, 22, 23, 24, 25, 26, 27, 28, 29, 30, 31, 32, 33, 34, 35, 36, 37, 38, 39, 40, 41, 42, 43, 44, 45, 46] (by decide +kernel) (by decide +kernel)
set_option maxRecDepth 20000 in
theorem gX7_whole_X7_isCertificate : GoodIn wsX7_whole (wsV RX7 180 RX7 yX7_isCertificate wsX7_isCertificate) := goodIn_app (goodIn_of _ (by decide +kernel)) ggX7_whole_X7_isCertificate
set_option maxRecDepth 20000 in
theorem ggX7_whole_X7_ask : GoodIn wsX7_whole wsX7_ask := goodIn_r _ [15, 16, 17, 18, 19, 20, 21, 22, 23, 24, 25, 26, 27, 28, 29, 30, 31, 32, 33, 34, 35, 36, 37, 38, 39, 40, 41, 42, 43, 44, 45, 46] (by decide +kernel) (by decide +kernel)
set_option maxRecDepth 20000 in
theorem gX7_whole_X7_ask : GoodIn wsX7_whole (wsV RX7 110 RX7 yX7_ask wsX7_ask) := goodIn_app (goodIn_of _ (by decide +kernel)) ggX7_whole_X7_ask
theorem dX7_whole_0 : decode cX7_whole 0 = .ok (.aload_n 0, 1) := by decide +kernel
theorem dX7_whole_1 : decode cX7_whole 1 = .ok (.iload_n 1, 1) := by decide +kernel
theorem dX7_whole_2 : decode cX7_whole 2 = .ok (.invokevirtual 180, 3) := by decide +kernel
theorem dX7_whole_5 : decode cX7_whole 5 = .ok (.ifCond .ne 5, 3) := by decide +kernel
theorem dX7_whole_8 : decode cX7_whole 8 = .ok (.iconst (-1), 1) := by decide +kernel
theorem dX7_whole_9 : decode cX7_whole 9 = .ok (.ireturn, 1) := by decide +kernel
theorem dX7_whole_10 : decode cX7_whole 10 = .ok (.iconst 0, 1) := by decide +kernel
theorem dX7_whole_11 : decode cX7_whole 11 = .ok (.istore_n 2, 1) := by decide +kernel
theorem dX7_whole_12 : decode cX7_whole 12 = .ok (.lconst 0, 1) := by decide +kernel
theorem dX7_whole_13 : decode cX7_whole 13 = .ok (.lstore_n 3, 1) := by decide +kernel
theorem dX7_whole_14 : decode cX7_whole 14 = .ok (.iload_n 1, 1) := by decide +kernel
theorem dX7_whole_15 : decode cX7_whole 15 = .ok (.istore 5, 2) := by decide +kernel
theorem dX7_whole_17 : decode cX7_whole 17 = .ok (.iload 5, 2) := by decide +kernel
theorem dX7_whole_19 : decode cX7_whole 19 = .ok (.ifCond .lt 38, 3) := by decide +kernel
theorem dX7_whole_22 : decode cX7_whole 22 = .ok (.iinc 2 1, 3) := by decide +kernel
theorem dX7_whole_25 : decode cX7_whole 25 = .ok (.lload_n 3, 1) := by decide +kernel
theorem dX7_whole_26 : decode cX7_whole 26 = .ok (.aload_n 0, 1) := by decide +kernel
theorem dX7_whole_27 : decode cX7_whole 27 = .ok (.getfield 56, 3) := by decide +kernel
theorem dX7_whole_30 : decode cX7_whole 30 = .ok (.iload 5, 2) := by decide +kernel
theorem dX7_whole_32 : decode cX7_whole 32 = .ok (.iaload, 1) := by decide +kernel
theorem dX7_whole_33 : decode cX7_whole 33 = .ok (.i2l, 1) := by decide +kernel
theorem dX7_whole_34 : decode cX7_whole 34 = .ok (.aload_n 0, 1) := by decide +kernel
theorem dX7_whole_35 : decode cX7_whole 35 = .ok (.getfield 56, 3) := by decide +kernel
theorem dX7_whole_38 : decode cX7_whole 38 = .ok (.iload 5, 2) := by decide +kernel
theorem dX7_whole_40 : decode cX7_whole 40 = .ok (.iaload, 1) := by decide +kernel
theorem dX7_whole_41 : decode cX7_whole 41 = .ok (.i2l, 1) := by decide +kernel
theorem dX7_whole_42 : decode cX7_whole 42 = .ok (.lmul, 1) := by decide +kernel
theorem dX7_whole_43 : decode cX7_whole 43 = .ok (.ladd, 1) := by decide +kernel
theorem dX7_whole_44 : decode cX7_whole 44 = .ok (.lstore_n 3, 1) := by decide +kernel
theorem dX7_whole_45 : decode cX7_whole 45 = .ok (.aload_n 0, 1) := by decide +kernel
theorem dX7_whole_46 : decode cX7_whole 46 = .ok (.getfield 59, 3) := by decide +kernel
theorem dX7_whole_49 : decode cX7_whole 49 = .ok (.iload 5, 2) := by decide +kernel
theorem dX7_whole_51 : decode cX7_whole 51 = .ok (.iaload, 1) := by decide +kernel
theorem dX7_whole_52 : decode cX7_whole 52 = .ok (.istore 5, 2) := by decide +kernel
theorem dX7_whole_54 : decode cX7_whole 54 = .ok (.goto (-37), 3) := by decide +kernel
theorem dX7_whole_57 : decode cX7_whole 57 = .ok (.aload_n 0, 1) := by decide +kernel
theorem dX7_whole_58 : decode cX7_whole 58 = .ok (.lload_n 3, 1) := by decide +kernel
theorem dX7_whole_59 : decode cX7_whole 59 = .ok (.iload_n 2, 1) := by decide +kernel
theorem dX7_whole_60 : decode cX7_whole 60 = .ok (.invokevirtual 110, 3) := by decide +kernel
theorem dX7_whole_63 : decode cX7_whole 63 = .ok (.ireturn, 1) := by decide +kernel
set_option maxRecDepth 20000 in
theorem ggX7_askedTwo_X7_isBulb : GoodIn wsX7_askedTwo wsX7_isBulb := goodIn_r _ [9, 10, 11, 12, 8, 13, 31, 32, 33, 34, 35, 36, 37, 38, 39, 40, 41, 42, 43, 44, 45, 46, 47, 48, 49, 50, 51, 52, 53, 54, 55, 56, 57, 58, 59, 60] (by decide +kernel) (by decide +kernel)
set_option maxRecDepth 20000 in
theorem gX7_askedTwo_X7_isBulb : GoodIn wsX7_askedTwo (wsV RX7 157 RX7 yX7_isBulb wsX7_isBulb) := goodIn_app (goodIn_of _ (by decide +kernel)) ggX7_askedTwo_X7_isBulb
set_option maxRecDepth 20000 in
theorem ggX7_askedTwo_X7_latestOf : GoodIn wsX7_askedTwo wsX7_latestOf := goodIn_r _ [17, 2, 18, 19, 20, 21, 8, 22, 23, 24, 4, 31, 32, 33, 34, 35, 36, 37, 38, 39, 40, 41, 42, 43, 44, 45, 46, 47, 48, 49, 50, 51, 52, 53, 54, 55, 56, 57, 58, 59, 60] (by decide +kernel) (by decide +kernel)
set_option maxRecDepth 20000 in
theorem gX7_askedTwo_X7_latestOf : GoodIn wsX7_askedTwo (wsV RX7 154 RX7 yX7_latestOf wsX7_latestOf) := goodIn_app (goodIn_of _ (by decide +kernel)) ggX7_askedTwo_X7_latestOf
set_option maxRecDepth 20000 in
theorem ggX7_askedTwo_X7_lastOf : GoodIn wsX7_askedTwo wsX7_lastOf := goodIn_r _ [22, 23, 24, 4, 31, 32, 33, 34, 35, 36, 37, 38, 39, 40, 41, 42, 43, 44, 45, 46, 47, 48, 49, 50, 51, 52, 53, 54, 55, 56, 57, 58, 59, 60] (by decide +kernel) (by decide +kernel)
set_option maxRecDepth 20000 in
theorem gX7_askedTwo_X7_lastOf : GoodIn wsX7_askedTwo (wsV RX7 150 RX7 yX7_lastOf wsX7_lastOf) := goodIn_app (goodIn_of _ (by decide +kernel)) ggX7_askedTwo_X7_lastOf
set_option maxRecDepth 20000 in
theorem ggX7_askedTwo_X7_meets : GoodIn wsX7_askedTwo wsX7_meets := goodIn_r _ [28, 29, 30, 31, 32, 33, 34, 35, 36, 37, 38, 39, 40, 41, 42, 43, 44, 45, 46, 47, 48, 49, 50, 51, 52, 53, 54, 55, 56, 57, 58, 59, 60] (by decide +kernel) (by decide +kernel)
set_option maxRecDepth 20000 in
theorem gX7_askedTwo_X7_meets : GoodIn wsX7_askedTwo (wsV RX7 101 RX7 yX7_meets wsX7_meets) := goodIn_app (goodIn_of _ (by decide +kernel)) ggX7_askedTwo_X7_meets
theorem dX7_askedTwo_0 : decode cX7_askedTwo 0 = .ok (.aload_n 0, 1) := by decide +kernel
theorem dX7_askedTwo_1 : decode cX7_askedTwo 1 = .ok (.iload_n 1, 1) := by decide +kernel
theorem dX7_askedTwo_2 : decode cX7_askedTwo 2 = .ok (.invokevirtual 157, 3) := by decide +kernel
theorem dX7_askedTwo_5 : decode cX7_askedTwo 5 = .ok (.ifCond .ne 5, 3) := by decide +kernel
theorem dX7_askedTwo_8 : decode cX7_askedTwo 8 = .ok (.iconst (-1), 1) := by decide +kernel
theorem dX7_askedTwo_9 : decode cX7_askedTwo 9 = .ok (.ireturn, 1) := by decide +kernel
theorem dX7_askedTwo_10 : decode cX7_askedTwo 10 = .ok (.aload_n 0, 1) := by decide +kernel
theorem dX7_askedTwo_11 : decode cX7_askedTwo 11 = .ok (.aload_n 0, 1) := by decide +kernel
theorem dX7_askedTwo_12 : decode cX7_askedTwo 12 = .ok (.iload_n 1, 1) := by decide +kernel
theorem dX7_askedTwo_13 : decode cX7_askedTwo 13 = .ok (.invokevirtual 154, 3) := by decide +kernel
theorem dX7_askedTwo_16 : decode cX7_askedTwo 16 = .ok (.putfield 186, 3) := by decide +kernel
theorem dX7_askedTwo_19 : decode cX7_askedTwo 19 = .ok (.aload_n 0, 1) := by decide +kernel
theorem dX7_askedTwo_20 : decode cX7_askedTwo 20 = .ok (.aload_n 0, 1) := by decide +kernel
theorem dX7_askedTwo_21 : decode cX7_askedTwo 21 = .ok (.getfield 186, 3) := by decide +kernel
theorem dX7_askedTwo_24 : decode cX7_askedTwo 24 = .ok (.ifCond .ge 8, 3) := by decide +kernel
theorem dX7_askedTwo_27 : decode cX7_askedTwo 27 = .ok (.bipush (-9), 2) := by decide +kernel
theorem dX7_askedTwo_29 : decode cX7_askedTwo 29 = .ok (.goto 14, 3) := by decide +kernel
theorem dX7_askedTwo_32 : decode cX7_askedTwo 32 = .ok (.aload_n 0, 1) := by decide +kernel
theorem dX7_askedTwo_33 : decode cX7_askedTwo 33 = .ok (.iload_n 1, 1) := by decide +kernel
theorem dX7_askedTwo_34 : decode cX7_askedTwo 34 = .ok (.ldc 106, 2) := by decide +kernel
theorem dX7_askedTwo_36 : decode cX7_askedTwo 36 = .ok (.aload_n 0, 1) := by decide +kernel
theorem dX7_askedTwo_37 : decode cX7_askedTwo 37 = .ok (.getfield 186, 3) := by decide +kernel
theorem dX7_askedTwo_40 : decode cX7_askedTwo 40 = .ok (.invokevirtual 150, 3) := by decide +kernel
theorem dX7_askedTwo_43 : decode cX7_askedTwo 43 = .ok (.putfield 189, 3) := by decide +kernel
theorem dX7_askedTwo_46 : decode cX7_askedTwo 46 = .ok (.aload_n 0, 1) := by decide +kernel
theorem dX7_askedTwo_47 : decode cX7_askedTwo 47 = .ok (.getfield 189, 3) := by decide +kernel
theorem dX7_askedTwo_50 : decode cX7_askedTwo 50 = .ok (.ifCond .ge 8, 3) := by decide +kernel
theorem dX7_askedTwo_53 : decode cX7_askedTwo 53 = .ok (.bipush (-4), 2) := by decide +kernel
theorem dX7_askedTwo_55 : decode cX7_askedTwo 55 = .ok (.goto 33, 3) := by decide +kernel
theorem dX7_askedTwo_58 : decode cX7_askedTwo 58 = .ok (.aload_n 0, 1) := by decide +kernel
theorem dX7_askedTwo_59 : decode cX7_askedTwo 59 = .ok (.getfield 50, 3) := by decide +kernel
theorem dX7_askedTwo_62 : decode cX7_askedTwo 62 = .ok (.aload_n 0, 1) := by decide +kernel
theorem dX7_askedTwo_63 : decode cX7_askedTwo 63 = .ok (.getfield 186, 3) := by decide +kernel
theorem dX7_askedTwo_66 : decode cX7_askedTwo 66 = .ok (.iaload, 1) := by decide +kernel
theorem dX7_askedTwo_67 : decode cX7_askedTwo 67 = .ok (.aload_n 0, 1) := by decide +kernel
theorem dX7_askedTwo_68 : decode cX7_askedTwo 68 = .ok (.getfield 50, 3) := by decide +kernel
theorem dX7_askedTwo_71 : decode cX7_askedTwo 71 = .ok (.aload_n 0, 1) := by decide +kernel
theorem dX7_askedTwo_72 : decode cX7_askedTwo 72 = .ok (.getfield 189, 3) := by decide +kernel
theorem dX7_askedTwo_75 : decode cX7_askedTwo 75 = .ok (.iaload, 1) := by decide +kernel
theorem dX7_askedTwo_76 : decode cX7_askedTwo 76 = .ok (.if_icmp .ne 11, 3) := by decide +kernel
theorem dX7_askedTwo_79 : decode cX7_askedTwo 79 = .ok (.aload_n 0, 1) := by decide +kernel
theorem dX7_askedTwo_80 : decode cX7_askedTwo 80 = .ok (.iconst 4, 1) := by decide +kernel
theorem dX7_askedTwo_81 : decode cX7_askedTwo 81 = .ok (.invokevirtual 101, 3) := by decide +kernel
theorem dX7_askedTwo_84 : decode cX7_askedTwo 84 = .ok (.goto 4, 3) := by decide +kernel
theorem dX7_askedTwo_87 : decode cX7_askedTwo 87 = .ok (.iconst 0, 1) := by decide +kernel
theorem dX7_askedTwo_88 : decode cX7_askedTwo 88 = .ok (.ireturn, 1) := by decide +kernel
set_option maxRecDepth 20000 in
theorem ggX7_drift_X7_askedTwo : GoodIn wsX7_drift wsX7_askedTwo := goodIn_r _ [9, 2, 10, 3, 4, 11, 12, 13, 8, 14, 15, 16, 17, 18, 19, 20, 21, 22, 23, 24, 25, 26, 27, 28, 29, 30, 31, 32, 33, 34, 35, 48, 49, 50, 51, 52, 53, 54, 55, 56, 57, 58, 59, 60, 61, 62, 63, 64, 65, 66, 67, 68, 69, 70, 71, 72, 73, 74, 75, 76, 77] (by decide +kernel) (by decide +kernel)
set_option maxRecDepth 20000 in
theorem gX7_drift_X7_askedTwo : GoodIn wsX7_drift (wsV RX7 192 RX7 yX7_askedTwo wsX7_askedTwo) := goodIn_app (goodIn_of _ (by decide +kernel)) ggX7_drift_X7_askedTwo
set_option maxRecDepth 20000 in
theorem ggX7_drift_X7_tell : GoodIn wsX7_drift wsX7_tell := goodIn_r _ [39, 40, 41, 42, 43, 8, 44, 45, 46, 47, 48, 49, 50, 51, 52, 53, 54, 55, 56, 57, 58, 59, 60, 61, 62, 63, 64, 65, 66, 67, 68, 69, 70, 71, 72, 73, 74, 75, 76, 77] (by decide +kernel) (by decide +kernel)
set_option maxRecDepth 20000 in
theorem gX7_drift_X7_tell : GoodIn wsX7_drift (wsV RX7 114 RX7 yX7_tell wsX7_tell) := goodIn_app (goodIn_of _ (by decide +kernel)) ggX7_drift_X7_tell
theorem dX7_drift_0 : decode cX7_drift 0 = .ok (.aload_n 0, 1) := by decide +kernel
theorem dX7_drift_1 : decode cX7_drift 1 = .ok (.iload_n 1, 1) := by decide +kernel
theorem dX7_drift_2 : decode cX7_drift 2 = .ok (.invokevirtual 192, 3) := by decide +kernel
theorem dX7_drift_5 : decode cX7_drift 5 = .ok (.istore_n 2, 1) := by decide +kernel
theorem dX7_drift_6 : decode cX7_drift 6 = .ok (.iload_n 2, 1) := by decide +kernel
theorem dX7_drift_7 : decode cX7_drift 7 = .ok (.ifCond .ge 7, 3) := by decide +kernel
theorem dX7_drift_10 : decode cX7_drift 10 = .ok (.iload_n 2, 1) := by decide +kernel
theorem dX7_drift_11 : decode cX7_drift 11 = .ok (.goto 48, 3) := by decide +kernel
theorem dX7_drift_14 : decode cX7_drift 14 = .ok (.aload_n 0, 1) := by decide +kernel
theorem dX7_drift_15 : decode cX7_drift 15 = .ok (.aload_n 0, 1) := by decide +kernel
theorem dX7_drift_16 : decode cX7_drift 16 = .ok (.getfield 53, 3) := by decide +kernel
theorem dX7_drift_19 : decode cX7_drift 19 = .ok (.aload_n 0, 1) := by decide +kernel
theorem dX7_drift_20 : decode cX7_drift 20 = .ok (.getfield 186, 3) := by decide +kernel
theorem dX7_drift_23 : decode cX7_drift 23 = .ok (.iaload, 1) := by decide +kernel
theorem dX7_drift_24 : decode cX7_drift 24 = .ok (.aload_n 0, 1) := by decide +kernel
theorem dX7_drift_25 : decode cX7_drift 25 = .ok (.getfield 53, 3) := by decide +kernel
theorem dX7_drift_28 : decode cX7_drift 28 = .ok (.aload_n 0, 1) := by decide +kernel
theorem dX7_drift_29 : decode cX7_drift 29 = .ok (.getfield 189, 3) := by decide +kernel
theorem dX7_drift_32 : decode cX7_drift 32 = .ok (.iaload, 1) := by decide +kernel
theorem dX7_drift_33 : decode cX7_drift 33 = .ok (.isub, 1) := by decide +kernel
theorem dX7_drift_34 : decode cX7_drift 34 = .ok (.i2l, 1) := by decide +kernel
theorem dX7_drift_35 : decode cX7_drift 35 = .ok (.aload_n 0, 1) := by decide +kernel
theorem dX7_drift_36 : decode cX7_drift 36 = .ok (.getfield 50, 3) := by decide +kernel
theorem dX7_drift_39 : decode cX7_drift 39 = .ok (.aload_n 0, 1) := by decide +kernel
theorem dX7_drift_40 : decode cX7_drift 40 = .ok (.getfield 186, 3) := by decide +kernel
theorem dX7_drift_43 : decode cX7_drift 43 = .ok (.iaload, 1) := by decide +kernel
theorem dX7_drift_44 : decode cX7_drift 44 = .ok (.aload_n 0, 1) := by decide +kernel
theorem dX7_drift_45 : decode cX7_drift 45 = .ok (.getfield 50, 3) := by decide +kernel
theorem dX7_drift_48 : decode cX7_drift 48 = .ok (.aload_n 0, 1) := by decide +kernel
theorem dX7_drift_49 : decode cX7_drift 49 = .ok (.getfield 189, 3) := by decide +kernel
theorem dX7_drift_52 : decode cX7_drift 52 = .ok (.iaload, 1) := by decide +kernel
theorem dX7_drift_53 : decode cX7_drift 53 = .ok (.isub, 1) := by decide +kernel
theorem dX7_drift_54 : decode cX7_drift 54 = .ok (.i2l, 1) := by decide +kernel
theorem dX7_drift_55 : decode cX7_drift 55 = .ok (.iconst 1, 1) := by decide +kernel
theorem dX7_drift_56 : decode cX7_drift 56 = .ok (.invokevirtual 114, 3) := by decide +kernel
theorem dX7_drift_59 : decode cX7_drift 59 = .ok (.ireturn, 1) := by decide +kernel
set_option maxRecDepth 20000 in
theorem ggX7_due_X7_askedTwo : GoodIn wsX7_due wsX7_askedTwo := goodIn_r _ [13, 2, 5, 3, 4, 14, 15, 16, 12, 17, 18, 19, 20, 21, 22, 23, 24, 25, 26, 27, 28, 29, 30, 31, 32, 33, 34, 35, 36, 37, 38, 42, 43, 44, 45, 46, 47, 48, 49, 50, 51, 52, 53, 54, 55, 56, 57, 58, 59, 60, 61, 62, 63, 64, 65, 66, 67, 68, 69, 70, 71] (by decide +kernel) (by decide +kernel)
set_option maxRecDepth 20000 in
theorem gX7_due_X7_askedTwo : GoodIn wsX7_due (wsV RX7 192 RX7 yX7_askedTwo wsX7_askedTwo) := goodIn_app (goodIn_of _ (by decide +kernel)) ggX7_due_X7_askedTwo
set_option maxRecDepth 20000 in
theorem ggX7_due_X7_size : GoodIn wsX7_due wsX7_size := goodIn_r _ [41] (by decide +kernel) (by decide +kernel)
set_option maxRecDepth 20000 in
theorem gX7_due_X7_size : GoodIn wsX7_due (va_wsS RX7 79 yX7_size wsX7_size) := goodIn_app (goodIn_of _ (by decide +kernel)) ggX7_due_X7_size
theorem dX7_due_0 : decode cX7_due 0 = .ok (.aload_n 0, 1) := by decide +kernel
theorem dX7_due_1 : decode cX7_due 1 = .ok (.iload_n 1, 1) := by decide +kernel
theorem dX7_due_2 : decode cX7_due 2 = .ok (.invokevirtual 192, 3) := by decide +kernel
theorem dX7_due_5 : decode cX7_due 5 = .ok (.istore_n 2, 1) := by decide +kernel
theorem dX7_due_6 : decode cX7_due 6 = .ok (.iload_n 2, 1) := by decide +kernel
theorem dX7_due_7 : decode cX7_due 7 = .ok (.ifCond .ge 5, 3) := by decide +kernel
theorem dX7_due_10 : decode cX7_due 10 = .ok (.iload_n 2, 1) := by decide +kernel
theorem dX7_due_11 : decode cX7_due 11 = .ok (.ireturn, 1) := by decide +kernel
theorem dX7_due_12 : decode cX7_due 12 = .ok (.aload_n 0, 1) := by decide +kernel
theorem dX7_due_13 : decode cX7_due 13 = .ok (.getfield 53, 3) := by decide +kernel
theorem dX7_due_16 : decode cX7_due 16 = .ok (.aload_n 0, 1) := by decide +kernel
theorem dX7_due_17 : decode cX7_due 17 = .ok (.getfield 186, 3) := by decide +kernel
theorem dX7_due_20 : decode cX7_due 20 = .ok (.iaload, 1) := by decide +kernel
theorem dX7_due_21 : decode cX7_due 21 = .ok (.aload_n 0, 1) := by decide +kernel
theorem dX7_due_22 : decode cX7_due 22 = .ok (.getfield 53, 3) := by decide +kernel
theorem dX7_due_25 : decode cX7_due 25 = .ok (.aload_n 0, 1) := by decide +kernel
theorem dX7_due_26 : decode cX7_due 26 = .ok (.getfield 189, 3) := by decide +kernel
theorem dX7_due_29 : decode cX7_due 29 = .ok (.iaload, 1) := by decide +kernel
theorem dX7_due_30 : decode cX7_due 30 = .ok (.isub, 1) := by decide +kernel
theorem dX7_due_31 : decode cX7_due 31 = .ok (.i2l, 1) := by decide +kernel
theorem dX7_due_32 : decode cX7_due 32 = .ok (.lstore_n 3, 1) := by decide +kernel
theorem dX7_due_33 : decode cX7_due 33 = .ok (.aload_n 0, 1) := by decide +kernel
theorem dX7_due_34 : decode cX7_due 34 = .ok (.getfield 50, 3) := by decide +kernel
theorem dX7_due_37 : decode cX7_due 37 = .ok (.aload_n 0, 1) := by decide +kernel
theorem dX7_due_38 : decode cX7_due 38 = .ok (.getfield 186, 3) := by decide +kernel
theorem dX7_due_41 : decode cX7_due 41 = .ok (.iaload, 1) := by decide +kernel
theorem dX7_due_42 : decode cX7_due 42 = .ok (.aload_n 0, 1) := by decide +kernel
theorem dX7_due_43 : decode cX7_due 43 = .ok (.getfield 50, 3) := by decide +kernel
theorem dX7_due_46 : decode cX7_due 46 = .ok (.aload_n 0, 1) := by decide +kernel
theorem dX7_due_47 : decode cX7_due 47 = .ok (.getfield 189, 3) := by decide +kernel
theorem dX7_due_50 : decode cX7_due 50 = .ok (.iaload, 1) := by decide +kernel
theorem dX7_due_51 : decode cX7_due 51 = .ok (.isub, 1) := by decide +kernel
theorem dX7_due_52 : decode cX7_due 52 = .ok (.i2l, 1) := by decide +kernel
theorem dX7_due_53 : decode cX7_due 53 = .ok (.lstore 5, 2) := by decide +kernel
theorem dX7_due_55 : decode cX7_due 55 = .ok (.aload_n 0, 1) := by decide +kernel
theorem dX7_due_56 : decode cX7_due 56 = .ok (.getfield 50, 3) := by decide +kernel
theorem dX7_due_59 : decode cX7_due 59 = .ok (.aload_n 0, 1) := by decide +kernel
theorem dX7_due_60 : decode cX7_due 60 = .ok (.getfield 186, 3) := by decide +kernel
theorem dX7_due_63 : decode cX7_due 63 = .ok (.iaload, 1) := by decide +kernel
theorem dX7_due_64 : decode cX7_due 64 = .ok (.istore 7, 2) := by decide +kernel
theorem dX7_due_66 : decode cX7_due 66 = .ok (.iload 7, 2) := by decide +kernel
theorem dX7_due_68 : decode cX7_due 68 = .ok (.ldc 106, 2) := by decide +kernel
theorem dX7_due_70 : decode cX7_due 70 = .ok (.if_icmp .gt 82, 3) := by decide +kernel
theorem dX7_due_73 : decode cX7_due 73 = .ok (.aload_n 0, 1) := by decide +kernel
theorem dX7_due_74 : decode cX7_due 74 = .ok (.getfield 53, 3) := by decide +kernel
theorem dX7_due_77 : decode cX7_due 77 = .ok (.aload_n 0, 1) := by decide +kernel
theorem dX7_due_78 : decode cX7_due 78 = .ok (.getfield 186, 3) := by decide +kernel
theorem dX7_due_81 : decode cX7_due 81 = .ok (.iaload, 1) := by decide +kernel
theorem dX7_due_82 : decode cX7_due 82 = .ok (.i2l, 1) := by decide +kernel
theorem dX7_due_83 : decode cX7_due 83 = .ok (.lload 5, 2) := by decide +kernel
theorem dX7_due_85 : decode cX7_due 85 = .ok (.lmul, 1) := by decide +kernel
theorem dX7_due_86 : decode cX7_due 86 = .ok (.lload_n 3, 1) := by decide +kernel
theorem dX7_due_87 : decode cX7_due 87 = .ok (.iload 7, 2) := by decide +kernel
theorem dX7_due_89 : decode cX7_due 89 = .ok (.aload_n 0, 1) := by decide +kernel
theorem dX7_due_90 : decode cX7_due 90 = .ok (.getfield 50, 3) := by decide +kernel
theorem dX7_due_93 : decode cX7_due 93 = .ok (.aload_n 0, 1) := by decide +kernel
theorem dX7_due_94 : decode cX7_due 94 = .ok (.getfield 186, 3) := by decide +kernel
theorem dX7_due_97 : decode cX7_due 97 = .ok (.iaload, 1) := by decide +kernel
theorem dX7_due_98 : decode cX7_due 98 = .ok (.isub, 1) := by decide +kernel
theorem dX7_due_99 : decode cX7_due 99 = .ok (.i2l, 1) := by decide +kernel
theorem dX7_due_100 : decode cX7_due 100 = .ok (.lmul, 1) := by decide +kernel
theorem dX7_due_101 : decode cX7_due 101 = .ok (.ladd, 1) := by decide +kernel
theorem dX7_due_102 : decode cX7_due 102 = .ok (.invokestatic 79, 3) := by decide +kernel
theorem dX7_due_105 : decode cX7_due 105 = .ok (.lstore 8, 2) := by decide +kernel
theorem dX7_due_107 : decode cX7_due 107 = .ok (.lload 8, 2) := by decide +kernel
theorem dX7_due_109 : decode cX7_due 109 = .ok (.aload_n 0, 1) := by decide +kernel
theorem dX7_due_110 : decode cX7_due 110 = .ok (.getfield 56, 3) := by decide +kernel
theorem dX7_due_113 : decode cX7_due 113 = .ok (.aload_n 0, 1) := by decide +kernel
theorem dX7_due_114 : decode cX7_due 114 = .ok (.getfield 186, 3) := by decide +kernel
theorem dX7_due_117 : decode cX7_due 117 = .ok (.iaload, 1) := by decide +kernel
theorem dX7_due_118 : decode cX7_due 118 = .ok (.i2l, 1) := by decide +kernel
theorem dX7_due_119 : decode cX7_due 119 = .ok (.lload 5, 2) := by decide +kernel
theorem dX7_due_121 : decode cX7_due 121 = .ok (.invokestatic 79, 3) := by decide +kernel
theorem dX7_due_124 : decode cX7_due 124 = .ok (.lmul, 1) := by decide +kernel
theorem dX7_due_125 : decode cX7_due 125 = .ok (.ladd, 1) := by decide +kernel
theorem dX7_due_126 : decode cX7_due 126 = .ok (.aload_n 0, 1) := by decide +kernel
theorem dX7_due_127 : decode cX7_due 127 = .ok (.getfield 38, 3) := by decide +kernel
theorem dX7_due_130 : decode cX7_due 130 = .ok (.iload_n 1, 1) := by decide +kernel
theorem dX7_due_131 : decode cX7_due 131 = .ok (.iaload, 1) := by decide +kernel
theorem dX7_due_132 : decode cX7_due 132 = .ok (.i2l, 1) := by decide +kernel
theorem dX7_due_133 : decode cX7_due 133 = .ok (.lload 5, 2) := by decide +kernel
theorem dX7_due_135 : decode cX7_due 135 = .ok (.invokestatic 79, 3) := by decide +kernel
theorem dX7_due_138 : decode cX7_due 138 = .ok (.lmul, 1) := by decide +kernel
theorem dX7_due_139 : decode cX7_due 139 = .ok (.lcmp, 1) := by decide +kernel
theorem dX7_due_140 : decode cX7_due 140 = .ok (.ifCond .le 6, 3) := by decide +kernel
theorem dX7_due_143 : decode cX7_due 143 = .ok (.iload 7, 2) := by decide +kernel
theorem dX7_due_145 : decode cX7_due 145 = .ok (.ireturn, 1) := by decide +kernel
theorem dX7_due_146 : decode cX7_due 146 = .ok (.iinc 7 1, 3) := by decide +kernel
theorem dX7_due_149 : decode cX7_due 149 = .ok (.goto (-83), 3) := by decide +kernel
theorem dX7_due_152 : decode cX7_due 152 = .ok (.ldc 195, 2) := by decide +kernel
theorem dX7_due_154 : decode cX7_due 154 = .ok (.ireturn, 1) := by decide +kernel
set_option maxRecDepth 20000 in
theorem ggX7_resting_X7_isCertificate : GoodIn wsX7_resting wsX7_isCertificate := goodIn_r _ [7, 1, 8, 9, 6, 10, 11, 12, 13, 14, 15, 16, 17, 18, 19, 20, 21, 22, 23, 24, 25, 26, 27, 28, 29, 30, 31, 32, 33, 34, 35, 36, 37, 38, 39, 40] (by decide +kernel) (by decide +kernel)
set_option maxRecDepth 20000 in
theorem gX7_resting_X7_isCertificate : GoodIn wsX7_resting (wsV RX7 180 RX7 yX7_isCertificate wsX7_isCertificate) := goodIn_app (goodIn_of _ (by decide +kernel)) ggX7_resting_X7_isCertificate
theorem dX7_resting_0 : decode cX7_resting 0 = .ok (.aload_n 0, 1) := by decide +kernel
theorem dX7_resting_1 : decode cX7_resting 1 = .ok (.iload_n 1, 1) := by decide +kernel
theorem dX7_resting_2 : decode cX7_resting 2 = .ok (.invokevirtual 180, 3) := by decide +kernel
theorem dX7_resting_5 : decode cX7_resting 5 = .ok (.ifCond .ne 5, 3) := by decide +kernel
theorem dX7_resting_8 : decode cX7_resting 8 = .ok (.iconst (-1), 1) := by decide +kernel
theorem dX7_resting_9 : decode cX7_resting 9 = .ok (.ireturn, 1) := by decide +kernel
theorem dX7_resting_10 : decode cX7_resting 10 = .ok (.iconst 0, 1) := by decide +kernel
theorem dX7_resting_11 : decode cX7_resting 11 = .ok (.istore_n 2, 1) := by decide +kernel
theorem dX7_resting_12 : decode cX7_resting 12 = .ok (.iconst 0, 1) := by decide +kernel
theorem dX7_resting_13 : decode cX7_resting 13 = .ok (.istore_n 3, 1) := by decide +kernel
theorem dX7_resting_14 : decode cX7_resting 14 = .ok (.iload_n 3, 1) := by decide +kernel
theorem dX7_resting_15 : decode cX7_resting 15 = .ok (.aload_n 0, 1) := by decide +kernel
theorem dX7_resting_16 : decode cX7_resting 16 = .ok (.getfield 147, 3) := by decide +kernel
theorem dX7_resting_19 : decode cX7_resting 19 = .ok (.if_icmp .ge 49, 3) := by decide +kernel
theorem dX7_resting_22 : decode cX7_resting 22 = .ok (.aload_n 0, 1) := by decide +kernel
theorem dX7_resting_23 : decode cX7_resting 23 = .ok (.getfield 59, 3) := by decide +kernel
theorem dX7_resting_26 : decode cX7_resting 26 = .ok (.iload_n 3, 1) := by decide +kernel
theorem dX7_resting_27 : decode cX7_resting 27 = .ok (.iaload, 1) := by decide +kernel
theorem dX7_resting_28 : decode cX7_resting 28 = .ok (.istore 4, 2) := by decide +kernel
theorem dX7_resting_30 : decode cX7_resting 30 = .ok (.iload 4, 2) := by decide +kernel
theorem dX7_resting_32 : decode cX7_resting 32 = .ok (.iload_n 1, 1) := by decide +kernel
theorem dX7_resting_33 : decode cX7_resting 33 = .ok (.if_icmp .le 15, 3) := by decide +kernel
theorem dX7_resting_36 : decode cX7_resting 36 = .ok (.aload_n 0, 1) := by decide +kernel
theorem dX7_resting_37 : decode cX7_resting 37 = .ok (.getfield 59, 3) := by decide +kernel
theorem dX7_resting_40 : decode cX7_resting 40 = .ok (.iload 4, 2) := by decide +kernel
theorem dX7_resting_42 : decode cX7_resting 42 = .ok (.iaload, 1) := by decide +kernel
theorem dX7_resting_43 : decode cX7_resting 43 = .ok (.istore 4, 2) := by decide +kernel
theorem dX7_resting_45 : decode cX7_resting 45 = .ok (.goto (-15), 3) := by decide +kernel
theorem dX7_resting_48 : decode cX7_resting 48 = .ok (.iload_n 2, 1) := by decide +kernel
theorem dX7_resting_49 : decode cX7_resting 49 = .ok (.iload 4, 2) := by decide +kernel
theorem dX7_resting_51 : decode cX7_resting 51 = .ok (.iload_n 1, 1) := by decide +kernel
theorem dX7_resting_52 : decode cX7_resting 52 = .ok (.if_icmp .ne 7, 3) := by decide +kernel
theorem dX7_resting_55 : decode cX7_resting 55 = .ok (.iconst 1, 1) := by decide +kernel
theorem dX7_resting_56 : decode cX7_resting 56 = .ok (.goto 4, 3) := by decide +kernel
theorem dX7_resting_59 : decode cX7_resting 59 = .ok (.iconst 0, 1) := by decide +kernel
theorem dX7_resting_60 : decode cX7_resting 60 = .ok (.iadd, 1) := by decide +kernel
theorem dX7_resting_61 : decode cX7_resting 61 = .ok (.istore_n 2, 1) := by decide +kernel
theorem dX7_resting_62 : decode cX7_resting 62 = .ok (.iinc 3 1, 3) := by decide +kernel
theorem dX7_resting_65 : decode cX7_resting 65 = .ok (.goto (-51), 3) := by decide +kernel
theorem dX7_resting_68 : decode cX7_resting 68 = .ok (.iload_n 2, 1) := by decide +kernel
theorem dX7_resting_69 : decode cX7_resting 69 = .ok (.ireturn, 1) := by decide +kernel
set_option maxRecDepth 20000 in
theorem ggX7_isLab_X7_in : GoodIn wsX7_isLab wsX7_in := goodIn_r _ [4] (by decide +kernel) (by decide +kernel)
set_option maxRecDepth 20000 in
theorem gX7_isLab_X7_in : GoodIn wsX7_isLab (va_wsS RX7 93 yX7_in wsX7_in) := goodIn_app (goodIn_of _ (by decide +kernel)) ggX7_isLab_X7_in
theorem dX7_isLab_0 : decode cX7_isLab 0 = .ok (.iload_n 0, 1) := by decide +kernel
theorem dX7_isLab_1 : decode cX7_isLab 1 = .ok (.iconst 0, 1) := by decide +kernel
theorem dX7_isLab_2 : decode cX7_isLab 2 = .ok (.iconst 5, 1) := by decide +kernel
theorem dX7_isLab_3 : decode cX7_isLab 3 = .ok (.invokestatic 93, 3) := by decide +kernel
theorem dX7_isLab_6 : decode cX7_isLab 6 = .ok (.ireturn, 1) := by decide +kernel
set_option maxRecDepth 20000 in
theorem ggX7_lab_X7_isLab : GoodIn wsX7_lab wsX7_isLab := goodIn_r _ [7, 8, 9, 6, 10] (by decide +kernel) (by decide +kernel)
set_option maxRecDepth 20000 in
theorem gX7_lab_X7_isLab : GoodIn wsX7_lab (va_wsS RX7 196 yX7_isLab wsX7_isLab) := goodIn_app (goodIn_of _ (by decide +kernel)) ggX7_lab_X7_isLab
set_option maxRecDepth 20000 in
theorem ggX7_lab_X7_in : GoodIn wsX7_lab wsX7_in := goodIn_r _ [10] (by decide +kernel) (by decide +kernel)
set_option maxRecDepth 20000 in
theorem gX7_lab_X7_in : GoodIn wsX7_lab (va_wsS RX7 93 yX7_in wsX7_in) := goodIn_app (goodIn_of _ (by decide +kernel)) ggX7_lab_X7_in
theorem dX7_lab_0 : decode cX7_lab 0 = .ok (.iload_n 1, 1) := by decide +kernel
theorem dX7_lab_1 : decode cX7_lab 1 = .ok (.invokestatic 196, 3) := by decide +kernel
theorem dX7_lab_4 : decode cX7_lab 4 = .ok (.ifCond .eq 40, 3) := by decide +kernel
theorem dX7_lab_7 : decode cX7_lab 7 = .ok (.iload_n 2, 1) := by decide +kernel
theorem dX7_lab_8 : decode cX7_lab 8 = .ok (.invokestatic 196, 3) := by decide +kernel
theorem dX7_lab_11 : decode cX7_lab 11 = .ok (.ifCond .eq 33, 3) := by decide +kernel
theorem dX7_lab_14 : decode cX7_lab 14 = .ok (.iload_n 1, 1) := by decide +kernel
theorem dX7_lab_15 : decode cX7_lab 15 = .ok (.iload_n 2, 1) := by decide +kernel
theorem dX7_lab_16 : decode cX7_lab 16 = .ok (.if_icmp .eq 28, 3) := by decide +kernel
theorem dX7_lab_19 : decode cX7_lab 19 = .ok (.iload_n 3, 1) := by decide +kernel
theorem dX7_lab_20 : decode cX7_lab 20 = .ok (.sipush (-10000), 3) := by decide +kernel
theorem dX7_lab_23 : decode cX7_lab 23 = .ok (.sipush 10000, 3) := by decide +kernel
theorem dX7_lab_26 : decode cX7_lab 26 = .ok (.invokestatic 93, 3) := by decide +kernel
theorem dX7_lab_29 : decode cX7_lab 29 = .ok (.ifCond .eq 15, 3) := by decide +kernel
theorem dX7_lab_32 : decode cX7_lab 32 = .ok (.iload 4, 2) := by decide +kernel
theorem dX7_lab_34 : decode cX7_lab 34 = .ok (.iconst 0, 1) := by decide +kernel
theorem dX7_lab_35 : decode cX7_lab 35 = .ok (.sipush 10000, 3) := by decide +kernel
theorem dX7_lab_38 : decode cX7_lab 38 = .ok (.invokestatic 93, 3) := by decide +kernel
theorem dX7_lab_41 : decode cX7_lab 41 = .ok (.ifCond .ne 5, 3) := by decide +kernel
theorem dX7_lab_44 : decode cX7_lab 44 = .ok (.iconst (-1), 1) := by decide +kernel
theorem dX7_lab_45 : decode cX7_lab 45 = .ok (.ireturn, 1) := by decide +kernel
theorem dX7_lab_46 : decode cX7_lab 46 = .ok (.aload_n 0, 1) := by decide +kernel
theorem dX7_lab_47 : decode cX7_lab 47 = .ok (.getfield 66, 3) := by decide +kernel
theorem dX7_lab_50 : decode cX7_lab 50 = .ok (.bipush 6, 2) := by decide +kernel
theorem dX7_lab_52 : decode cX7_lab 52 = .ok (.iload_n 1, 1) := by decide +kernel
theorem dX7_lab_53 : decode cX7_lab 53 = .ok (.imul, 1) := by decide +kernel
theorem dX7_lab_54 : decode cX7_lab 54 = .ok (.iload_n 2, 1) := by decide +kernel
theorem dX7_lab_55 : decode cX7_lab 55 = .ok (.iadd, 1) := by decide +kernel
theorem dX7_lab_56 : decode cX7_lab 56 = .ok (.iconst 1, 1) := by decide +kernel
theorem dX7_lab_57 : decode cX7_lab 57 = .ok (.bastore, 1) := by decide +kernel
theorem dX7_lab_58 : decode cX7_lab 58 = .ok (.aload_n 0, 1) := by decide +kernel
theorem dX7_lab_59 : decode cX7_lab 59 = .ok (.getfield 66, 3) := by decide +kernel
theorem dX7_lab_62 : decode cX7_lab 62 = .ok (.bipush 6, 2) := by decide +kernel
theorem dX7_lab_64 : decode cX7_lab 64 = .ok (.iload_n 2, 1) := by decide +kernel
theorem dX7_lab_65 : decode cX7_lab 65 = .ok (.imul, 1) := by decide +kernel
theorem dX7_lab_66 : decode cX7_lab 66 = .ok (.iload_n 1, 1) := by decide +kernel
theorem dX7_lab_67 : decode cX7_lab 67 = .ok (.iadd, 1) := by decide +kernel
theorem dX7_lab_68 : decode cX7_lab 68 = .ok (.iconst 1, 1) := by decide +kernel
theorem dX7_lab_69 : decode cX7_lab 69 = .ok (.bastore, 1) := by decide +kernel
theorem dX7_lab_70 : decode cX7_lab 70 = .ok (.aload_n 0, 1) := by decide +kernel
theorem dX7_lab_71 : decode cX7_lab 71 = .ok (.getfield 69, 3) := by decide +kernel
theorem dX7_lab_74 : decode cX7_lab 74 = .ok (.bipush 6, 2) := by decide +kernel
theorem dX7_lab_76 : decode cX7_lab 76 = .ok (.iload_n 1, 1) := by decide +kernel
theorem dX7_lab_77 : decode cX7_lab 77 = .ok (.imul, 1) := by decide +kernel
theorem dX7_lab_78 : decode cX7_lab 78 = .ok (.iload_n 2, 1) := by decide +kernel
theorem dX7_lab_79 : decode cX7_lab 79 = .ok (.iadd, 1) := by decide +kernel
theorem dX7_lab_80 : decode cX7_lab 80 = .ok (.iload_n 3, 1) := by decide +kernel
theorem dX7_lab_81 : decode cX7_lab 81 = .ok (.iastore, 1) := by decide +kernel
theorem dX7_lab_82 : decode cX7_lab 82 = .ok (.aload_n 0, 1) := by decide +kernel
theorem dX7_lab_83 : decode cX7_lab 83 = .ok (.getfield 69, 3) := by decide +kernel
theorem dX7_lab_86 : decode cX7_lab 86 = .ok (.bipush 6, 2) := by decide +kernel
theorem dX7_lab_88 : decode cX7_lab 88 = .ok (.iload_n 2, 1) := by decide +kernel
theorem dX7_lab_89 : decode cX7_lab 89 = .ok (.imul, 1) := by decide +kernel
theorem dX7_lab_90 : decode cX7_lab 90 = .ok (.iload_n 1, 1) := by decide +kernel
theorem dX7_lab_91 : decode cX7_lab 91 = .ok (.iadd, 1) := by decide +kernel
theorem dX7_lab_92 : decode cX7_lab 92 = .ok (.iload_n 3, 1) := by decide +kernel
theorem dX7_lab_93 : decode cX7_lab 93 = .ok (.ineg, 1) := by decide +kernel
theorem dX7_lab_94 : decode cX7_lab 94 = .ok (.iastore, 1) := by decide +kernel
theorem dX7_lab_95 : decode cX7_lab 95 = .ok (.aload_n 0, 1) := by decide +kernel
theorem dX7_lab_96 : decode cX7_lab 96 = .ok (.getfield 72, 3) := by decide +kernel
theorem dX7_lab_99 : decode cX7_lab 99 = .ok (.bipush 6, 2) := by decide +kernel
theorem dX7_lab_101 : decode cX7_lab 101 = .ok (.iload_n 1, 1) := by decide +kernel
theorem dX7_lab_102 : decode cX7_lab 102 = .ok (.imul, 1) := by decide +kernel
theorem dX7_lab_103 : decode cX7_lab 103 = .ok (.iload_n 2, 1) := by decide +kernel
theorem dX7_lab_104 : decode cX7_lab 104 = .ok (.iadd, 1) := by decide +kernel
theorem dX7_lab_105 : decode cX7_lab 105 = .ok (.iload 4, 2) := by decide +kernel
theorem dX7_lab_107 : decode cX7_lab 107 = .ok (.iastore, 1) := by decide +kernel
theorem dX7_lab_108 : decode cX7_lab 108 = .ok (.aload_n 0, 1) := by decide +kernel
theorem dX7_lab_109 : decode cX7_lab 109 = .ok (.getfield 72, 3) := by decide +kernel
theorem dX7_lab_112 : decode cX7_lab 112 = .ok (.bipush 6, 2) := by decide +kernel
theorem dX7_lab_114 : decode cX7_lab 114 = .ok (.iload_n 2, 1) := by decide +kernel
theorem dX7_lab_115 : decode cX7_lab 115 = .ok (.imul, 1) := by decide +kernel
theorem dX7_lab_116 : decode cX7_lab 116 = .ok (.iload_n 1, 1) := by decide +kernel
theorem dX7_lab_117 : decode cX7_lab 117 = .ok (.iadd, 1) := by decide +kernel
theorem dX7_lab_118 : decode cX7_lab 118 = .ok (.iload 4, 2) := by decide +kernel
theorem dX7_lab_120 : decode cX7_lab 120 = .ok (.iastore, 1) := by decide +kernel
theorem dX7_lab_121 : decode cX7_lab 121 = .ok (.iconst 1, 1) := by decide +kernel
theorem dX7_lab_122 : decode cX7_lab 122 = .ok (.ireturn, 1) := by decide +kernel
theorem dX7_isRing_0 : decode cX7_isRing 0 = .ok (.aload_n 0, 1) := by decide +kernel
theorem dX7_isRing_1 : decode cX7_isRing 1 = .ok (.getfield 66, 3) := by decide +kernel
theorem dX7_isRing_4 : decode cX7_isRing 4 = .ok (.bipush 6, 2) := by decide +kernel
theorem dX7_isRing_6 : decode cX7_isRing 6 = .ok (.iload_n 1, 1) := by decide +kernel
theorem dX7_isRing_7 : decode cX7_isRing 7 = .ok (.imul, 1) := by decide +kernel
theorem dX7_isRing_8 : decode cX7_isRing 8 = .ok (.iload_n 2, 1) := by decide +kernel
theorem dX7_isRing_9 : decode cX7_isRing 9 = .ok (.iadd, 1) := by decide +kernel
theorem dX7_isRing_10 : decode cX7_isRing 10 = .ok (.baload, 1) := by decide +kernel
theorem dX7_isRing_11 : decode cX7_isRing 11 = .ok (.ifCond .eq 35, 3) := by decide +kernel
theorem dX7_isRing_14 : decode cX7_isRing 14 = .ok (.aload_n 0, 1) := by decide +kernel
theorem dX7_isRing_15 : decode cX7_isRing 15 = .ok (.getfield 66, 3) := by decide +kernel
theorem dX7_isRing_18 : decode cX7_isRing 18 = .ok (.bipush 6, 2) := by decide +kernel
theorem dX7_isRing_20 : decode cX7_isRing 20 = .ok (.iload_n 2, 1) := by decide +kernel
theorem dX7_isRing_21 : decode cX7_isRing 21 = .ok (.imul, 1) := by decide +kernel
theorem dX7_isRing_22 : decode cX7_isRing 22 = .ok (.iload_n 3, 1) := by decide +kernel
theorem dX7_isRing_23 : decode cX7_isRing 23 = .ok (.iadd, 1) := by decide +kernel
theorem dX7_isRing_24 : decode cX7_isRing 24 = .ok (.baload, 1) := by decide +kernel
theorem dX7_isRing_25 : decode cX7_isRing 25 = .ok (.ifCond .eq 21, 3) := by decide +kernel
theorem dX7_isRing_28 : decode cX7_isRing 28 = .ok (.aload_n 0, 1) := by decide +kernel
theorem dX7_isRing_29 : decode cX7_isRing 29 = .ok (.getfield 66, 3) := by decide +kernel
theorem dX7_isRing_32 : decode cX7_isRing 32 = .ok (.bipush 6, 2) := by decide +kernel
theorem dX7_isRing_34 : decode cX7_isRing 34 = .ok (.iload_n 3, 1) := by decide +kernel
theorem dX7_isRing_35 : decode cX7_isRing 35 = .ok (.imul, 1) := by decide +kernel
theorem dX7_isRing_36 : decode cX7_isRing 36 = .ok (.iload_n 1, 1) := by decide +kernel
theorem dX7_isRing_37 : decode cX7_isRing 37 = .ok (.iadd, 1) := by decide +kernel
theorem dX7_isRing_38 : decode cX7_isRing 38 = .ok (.baload, 1) := by decide +kernel
theorem dX7_isRing_39 : decode cX7_isRing 39 = .ok (.ifCond .eq 7, 3) := by decide +kernel
theorem dX7_isRing_42 : decode cX7_isRing 42 = .ok (.iconst 1, 1) := by decide +kernel
theorem dX7_isRing_43 : decode cX7_isRing 43 = .ok (.goto 4, 3) := by decide +kernel
theorem dX7_isRing_46 : decode cX7_isRing 46 = .ok (.iconst 0, 1) := by decide +kernel
theorem dX7_isRing_47 : decode cX7_isRing 47 = .ok (.ireturn, 1) := by decide +kernel
theorem dX7_over_0 : decode cX7_over 0 = .ok (.aload_n 0, 1) := by decide +kernel
theorem dX7_over_1 : decode cX7_over 1 = .ok (.getfield 69, 3) := by decide +kernel
theorem dX7_over_4 : decode cX7_over 4 = .ok (.bipush 6, 2) := by decide +kernel
theorem dX7_over_6 : decode cX7_over 6 = .ok (.iload_n 1, 1) := by decide +kernel
theorem dX7_over_7 : decode cX7_over 7 = .ok (.imul, 1) := by decide +kernel
theorem dX7_over_8 : decode cX7_over 8 = .ok (.iload_n 2, 1) := by decide +kernel
theorem dX7_over_9 : decode cX7_over 9 = .ok (.iadd, 1) := by decide +kernel
theorem dX7_over_10 : decode cX7_over 10 = .ok (.iaload, 1) := by decide +kernel
theorem dX7_over_11 : decode cX7_over 11 = .ok (.aload_n 0, 1) := by decide +kernel
theorem dX7_over_12 : decode cX7_over 12 = .ok (.getfield 69, 3) := by decide +kernel
theorem dX7_over_15 : decode cX7_over 15 = .ok (.bipush 6, 2) := by decide +kernel
theorem dX7_over_17 : decode cX7_over 17 = .ok (.iload_n 2, 1) := by decide +kernel
theorem dX7_over_18 : decode cX7_over 18 = .ok (.imul, 1) := by decide +kernel
theorem dX7_over_19 : decode cX7_over 19 = .ok (.iload_n 3, 1) := by decide +kernel
theorem dX7_over_20 : decode cX7_over 20 = .ok (.iadd, 1) := by decide +kernel
theorem dX7_over_21 : decode cX7_over 21 = .ok (.iaload, 1) := by decide +kernel
theorem dX7_over_22 : decode cX7_over 22 = .ok (.iadd, 1) := by decide +kernel
theorem dX7_over_23 : decode cX7_over 23 = .ok (.aload_n 0, 1) := by decide +kernel
theorem dX7_over_24 : decode cX7_over 24 = .ok (.getfield 69, 3) := by decide +kernel
theorem dX7_over_27 : decode cX7_over 27 = .ok (.bipush 6, 2) := by decide +kernel
theorem dX7_over_29 : decode cX7_over 29 = .ok (.iload_n 3, 1) := by decide +kernel
theorem dX7_over_30 : decode cX7_over 30 = .ok (.imul, 1) := by decide +kernel
theorem dX7_over_31 : decode cX7_over 31 = .ok (.iload_n 1, 1) := by decide +kernel
theorem dX7_over_32 : decode cX7_over 32 = .ok (.iadd, 1) := by decide +kernel
theorem dX7_over_33 : decode cX7_over 33 = .ok (.iaload, 1) := by decide +kernel
theorem dX7_over_34 : decode cX7_over 34 = .ok (.iadd, 1) := by decide +kernel
theorem dX7_over_35 : decode cX7_over 35 = .ok (.ireturn, 1) := by decide +kernel
set_option maxRecDepth 20000 in
theorem ggX7_isClosed_X7_over : GoodIn wsX7_isClosed wsX7_over := goodIn_r _ [6, 7, 11, 12, 13, 14, 15, 16, 17, 18, 19, 20, 21, 22, 23, 24, 25, 26, 27, 28, 29, 30, 31, 32, 33, 34, 35, 36, 37, 38, 39, 40] (by decide +kernel) (by decide +kernel)
set_option maxRecDepth 20000 in
theorem gX7_isClosed_X7_over : GoodIn wsX7_isClosed (wsV RX7 199 RX7 yX7_over wsX7_over) := goodIn_app (goodIn_of _ (by decide +kernel)) ggX7_isClosed_X7_over
set_option maxRecDepth 20000 in
theorem ggX7_isClosed_X7_size : GoodIn wsX7_isClosed wsX7_size := goodIn_r _ [10] (by decide +kernel) (by decide +kernel)
set_option maxRecDepth 20000 in
theorem gX7_isClosed_X7_size : GoodIn wsX7_isClosed (va_wsS RX7 79 yX7_size wsX7_size) := goodIn_app (goodIn_of _ (by decide +kernel)) ggX7_isClosed_X7_size
theorem dX7_isClosed_0 : decode cX7_isClosed 0 = .ok (.aload_n 0, 1) := by decide +kernel
theorem dX7_isClosed_1 : decode cX7_isClosed 1 = .ok (.iload_n 1, 1) := by decide +kernel
theorem dX7_isClosed_2 : decode cX7_isClosed 2 = .ok (.iload_n 2, 1) := by decide +kernel
theorem dX7_isClosed_3 : decode cX7_isClosed 3 = .ok (.iload_n 3, 1) := by decide +kernel
theorem dX7_isClosed_4 : decode cX7_isClosed 4 = .ok (.invokevirtual 199, 3) := by decide +kernel
theorem dX7_isClosed_7 : decode cX7_isClosed 7 = .ok (.i2l, 1) := by decide +kernel
theorem dX7_isClosed_8 : decode cX7_isClosed 8 = .ok (.invokestatic 79, 3) := by decide +kernel
theorem dX7_isClosed_11 : decode cX7_isClosed 11 = .ok (.aload_n 0, 1) := by decide +kernel
theorem dX7_isClosed_12 : decode cX7_isClosed 12 = .ok (.getfield 72, 3) := by decide +kernel
theorem dX7_isClosed_15 : decode cX7_isClosed 15 = .ok (.bipush 6, 2) := by decide +kernel
theorem dX7_isClosed_17 : decode cX7_isClosed 17 = .ok (.iload_n 1, 1) := by decide +kernel
theorem dX7_isClosed_18 : decode cX7_isClosed 18 = .ok (.imul, 1) := by decide +kernel
theorem dX7_isClosed_19 : decode cX7_isClosed 19 = .ok (.iload_n 2, 1) := by decide +kernel
theorem dX7_isClosed_20 : decode cX7_isClosed 20 = .ok (.iadd, 1) := by decide +kernel
theorem dX7_isClosed_21 : decode cX7_isClosed 21 = .ok (.iaload, 1) := by decide +kernel
theorem dX7_isClosed_22 : decode cX7_isClosed 22 = .ok (.aload_n 0, 1) := by decide +kernel
theorem dX7_isClosed_23 : decode cX7_isClosed 23 = .ok (.getfield 72, 3) := by decide +kernel
theorem dX7_isClosed_26 : decode cX7_isClosed 26 = .ok (.bipush 6, 2) := by decide +kernel
theorem dX7_isClosed_28 : decode cX7_isClosed 28 = .ok (.iload_n 2, 1) := by decide +kernel
theorem dX7_isClosed_29 : decode cX7_isClosed 29 = .ok (.imul, 1) := by decide +kernel
theorem dX7_isClosed_30 : decode cX7_isClosed 30 = .ok (.iload_n 3, 1) := by decide +kernel
theorem dX7_isClosed_31 : decode cX7_isClosed 31 = .ok (.iadd, 1) := by decide +kernel
theorem dX7_isClosed_32 : decode cX7_isClosed 32 = .ok (.iaload, 1) := by decide +kernel
theorem dX7_isClosed_33 : decode cX7_isClosed 33 = .ok (.iadd, 1) := by decide +kernel
theorem dX7_isClosed_34 : decode cX7_isClosed 34 = .ok (.aload_n 0, 1) := by decide +kernel
theorem dX7_isClosed_35 : decode cX7_isClosed 35 = .ok (.getfield 72, 3) := by decide +kernel
theorem dX7_isClosed_38 : decode cX7_isClosed 38 = .ok (.bipush 6, 2) := by decide +kernel
theorem dX7_isClosed_40 : decode cX7_isClosed 40 = .ok (.iload_n 3, 1) := by decide +kernel
theorem dX7_isClosed_41 : decode cX7_isClosed 41 = .ok (.imul, 1) := by decide +kernel
theorem dX7_isClosed_42 : decode cX7_isClosed 42 = .ok (.iload_n 1, 1) := by decide +kernel
theorem dX7_isClosed_43 : decode cX7_isClosed 43 = .ok (.iadd, 1) := by decide +kernel
theorem dX7_isClosed_44 : decode cX7_isClosed 44 = .ok (.iaload, 1) := by decide +kernel
theorem dX7_isClosed_45 : decode cX7_isClosed 45 = .ok (.iadd, 1) := by decide +kernel
theorem dX7_isClosed_46 : decode cX7_isClosed 46 = .ok (.i2l, 1) := by decide +kernel
theorem dX7_isClosed_47 : decode cX7_isClosed 47 = .ok (.lcmp, 1) := by decide +kernel
theorem dX7_isClosed_48 : decode cX7_isClosed 48 = .ok (.ifCond .gt 7, 3) := by decide +kernel
theorem dX7_isClosed_51 : decode cX7_isClosed 51 = .ok (.iconst 1, 1) := by decide +kernel
theorem dX7_isClosed_52 : decode cX7_isClosed 52 = .ok (.goto 4, 3) := by decide +kernel
theorem dX7_isClosed_55 : decode cX7_isClosed 55 = .ok (.iconst 0, 1) := by decide +kernel
theorem dX7_isClosed_56 : decode cX7_isClosed 56 = .ok (.ireturn, 1) := by decide +kernel
set_option maxRecDepth 20000 in
theorem ggX7_closes_X7_isLab : GoodIn wsX7_closes wsX7_isLab := goodIn_r _ [4, 5, 6, 3, 7] (by decide +kernel) (by decide +kernel)
set_option maxRecDepth 20000 in
theorem gX7_closes_X7_isLab : GoodIn wsX7_closes (va_wsS RX7 196 yX7_isLab wsX7_isLab) := goodIn_app (goodIn_of _ (by decide +kernel)) ggX7_closes_X7_isLab
set_option maxRecDepth 20000 in
theorem ggX7_closes_X7_isRing : GoodIn wsX7_closes wsX7_isRing := goodIn_r _ [11, 12, 31, 32, 33, 34, 35, 36, 37, 38, 39, 40, 41, 42, 43, 44, 45, 46, 47, 48, 49, 50, 51, 52, 53, 54, 55, 56, 57, 58, 59, 60] (by decide +kernel) (by decide +kernel)
set_option maxRecDepth 20000 in
theorem gX7_closes_X7_isRing : GoodIn wsX7_closes (wsV RX7 202 RX7 yX7_isRing wsX7_isRing) := goodIn_app (goodIn_of _ (by decide +kernel)) ggX7_closes_X7_isRing
set_option maxRecDepth 20000 in
theorem ggX7_closes_X7_over : GoodIn wsX7_closes wsX7_over := goodIn_r _ [16, 17, 31, 32, 33, 34, 35, 36, 37, 38, 39, 40, 41, 42, 43, 44, 45, 46, 47, 48, 49, 50, 51, 52, 53, 54, 55, 56, 57, 58, 59, 60] (by decide +kernel) (by decide +kernel)
set_option maxRecDepth 20000 in
theorem gX7_closes_X7_over : GoodIn wsX7_closes (wsV RX7 199 RX7 yX7_over wsX7_over) := goodIn_app (goodIn_of _ (by decide +kernel)) ggX7_closes_X7_over
set_option maxRecDepth 20000 in
theorem ggX7_closes_X7_isClosed : GoodIn wsX7_closes wsX7_isClosed := goodIn_r _ [21, 22, 13, 14, 15, 3, 16, 17, 23, 24, 25, 31, 32, 33, 34, 35, 36, 37, 38, 39, 40, 41, 42, 43, 44, 45, 46, 47, 48, 49, 50, 51, 52, 53, 54, 55, 56, 57, 58, 59, 60] (by decide +kernel) (by decide +kernel)
set_option maxRecDepth 20000 in
theorem gX7_closes_X7_isClosed : GoodIn wsX7_closes (wsV RX7 205 RX7 yX7_isClosed wsX7_isClosed) := goodIn_app (goodIn_of _ (by decide +kernel)) ggX7_closes_X7_isClosed
set_option maxRecDepth 20000 in
theorem ggX7_closes_X7_ask : GoodIn wsX7_closes wsX7_ask := goodIn_r _ [29, 30, 31, 32, 33, 34, 35, 36, 37, 38, 39, 40, 41, 42, 43, 44, 45, 46, 47, 48, 49, 50, 51, 52, 53, 54, 55, 56, 57, 58, 59, 60] (by decide +kernel) (by decide +kernel)
set_option maxRecDepth 20000 in
theorem gX7_closes_X7_ask : GoodIn wsX7_closes (wsV RX7 110 RX7 yX7_ask wsX7_ask) := goodIn_app (goodIn_of _ (by decide +kernel)) ggX7_closes_X7_ask
theorem dX7_closes_0 : decode cX7_closes 0 = .ok (.iload_n 1, 1) := by decide +kernel
theorem dX7_closes_1 : decode cX7_closes 1 = .ok (.invokestatic 196, 3) := by decide +kernel
theorem dX7_closes_4 : decode cX7_closes 4 = .ok (.ifCond .eq 32, 3) := by decide +kernel
theorem dX7_closes_7 : decode cX7_closes 7 = .ok (.iload_n 2, 1) := by decide +kernel
theorem dX7_closes_8 : decode cX7_closes 8 = .ok (.invokestatic 196, 3) := by decide +kernel
theorem dX7_closes_11 : decode cX7_closes 11 = .ok (.ifCond .eq 25, 3) := by decide +kernel
theorem dX7_closes_14 : decode cX7_closes 14 = .ok (.iload_n 3, 1) := by decide +kernel
theorem dX7_closes_15 : decode cX7_closes 15 = .ok (.invokestatic 196, 3) := by decide +kernel
theorem dX7_closes_18 : decode cX7_closes 18 = .ok (.ifCond .eq 18, 3) := by decide +kernel
theorem dX7_closes_21 : decode cX7_closes 21 = .ok (.iload_n 1, 1) := by decide +kernel
theorem dX7_closes_22 : decode cX7_closes 22 = .ok (.iload_n 2, 1) := by decide +kernel
theorem dX7_closes_23 : decode cX7_closes 23 = .ok (.if_icmp .eq 13, 3) := by decide +kernel
theorem dX7_closes_26 : decode cX7_closes 26 = .ok (.iload_n 2, 1) := by decide +kernel
theorem dX7_closes_27 : decode cX7_closes 27 = .ok (.iload_n 3, 1) := by decide +kernel
theorem dX7_closes_28 : decode cX7_closes 28 = .ok (.if_icmp .eq 8, 3) := by decide +kernel
theorem dX7_closes_31 : decode cX7_closes 31 = .ok (.iload_n 1, 1) := by decide +kernel
theorem dX7_closes_32 : decode cX7_closes 32 = .ok (.iload_n 3, 1) := by decide +kernel
theorem dX7_closes_33 : decode cX7_closes 33 = .ok (.if_icmp .ne 5, 3) := by decide +kernel
theorem dX7_closes_36 : decode cX7_closes 36 = .ok (.iconst (-1), 1) := by decide +kernel
theorem dX7_closes_37 : decode cX7_closes 37 = .ok (.ireturn, 1) := by decide +kernel
theorem dX7_closes_38 : decode cX7_closes 38 = .ok (.aload_n 0, 1) := by decide +kernel
theorem dX7_closes_39 : decode cX7_closes 39 = .ok (.iload_n 1, 1) := by decide +kernel
theorem dX7_closes_40 : decode cX7_closes 40 = .ok (.iload_n 2, 1) := by decide +kernel
theorem dX7_closes_41 : decode cX7_closes 41 = .ok (.iload_n 3, 1) := by decide +kernel
theorem dX7_closes_42 : decode cX7_closes 42 = .ok (.invokevirtual 202, 3) := by decide +kernel
theorem dX7_closes_45 : decode cX7_closes 45 = .ok (.ifCond .ne 8, 3) := by decide +kernel
theorem dX7_closes_48 : decode cX7_closes 48 = .ok (.bipush (-4), 2) := by decide +kernel
theorem dX7_closes_50 : decode cX7_closes 50 = .ok (.goto 30, 3) := by decide +kernel
theorem dX7_closes_53 : decode cX7_closes 53 = .ok (.aload_n 0, 1) := by decide +kernel
theorem dX7_closes_54 : decode cX7_closes 54 = .ok (.aload_n 0, 1) := by decide +kernel
theorem dX7_closes_55 : decode cX7_closes 55 = .ok (.iload_n 1, 1) := by decide +kernel
theorem dX7_closes_56 : decode cX7_closes 56 = .ok (.iload_n 2, 1) := by decide +kernel
theorem dX7_closes_57 : decode cX7_closes 57 = .ok (.iload_n 3, 1) := by decide +kernel
theorem dX7_closes_58 : decode cX7_closes 58 = .ok (.invokevirtual 199, 3) := by decide +kernel
theorem dX7_closes_61 : decode cX7_closes 61 = .ok (.i2l, 1) := by decide +kernel
theorem dX7_closes_62 : decode cX7_closes 62 = .ok (.aload_n 0, 1) := by decide +kernel
theorem dX7_closes_63 : decode cX7_closes 63 = .ok (.iload_n 1, 1) := by decide +kernel
theorem dX7_closes_64 : decode cX7_closes 64 = .ok (.iload_n 2, 1) := by decide +kernel
theorem dX7_closes_65 : decode cX7_closes 65 = .ok (.iload_n 3, 1) := by decide +kernel
theorem dX7_closes_66 : decode cX7_closes 66 = .ok (.invokevirtual 205, 3) := by decide +kernel
theorem dX7_closes_69 : decode cX7_closes 69 = .ok (.ifCond .eq 7, 3) := by decide +kernel
theorem dX7_closes_72 : decode cX7_closes 72 = .ok (.iconst 1, 1) := by decide +kernel
theorem dX7_closes_73 : decode cX7_closes 73 = .ok (.goto 4, 3) := by decide +kernel
theorem dX7_closes_76 : decode cX7_closes 76 = .ok (.iconst 0, 1) := by decide +kernel
theorem dX7_closes_77 : decode cX7_closes 77 = .ok (.invokevirtual 110, 3) := by decide +kernel
theorem dX7_closes_80 : decode cX7_closes 80 = .ok (.ireturn, 1) := by decide +kernel
set_option maxRecDepth 20000 in
theorem ggX7_open_X7_isRing : GoodIn wsX7_open wsX7_isRing := goodIn_r _ [5, 6, 20, 21, 22, 23, 24, 25, 26, 27, 28, 29, 30, 31, 32, 33, 34, 35, 36, 37, 38, 39, 40, 41, 42, 43, 44, 45, 46, 47, 48, 49] (by decide +kernel) (by decide +kernel)
set_option maxRecDepth 20000 in
theorem gX7_open_X7_isRing : GoodIn wsX7_open (wsV RX7 202 RX7 yX7_isRing wsX7_isRing) := goodIn_app (goodIn_of _ (by decide +kernel)) ggX7_open_X7_isRing
set_option maxRecDepth 20000 in
theorem ggX7_open_X7_isClosed : GoodIn wsX7_open wsX7_isClosed := goodIn_r _ [10, 11, 12, 13, 14, 4, 15, 16, 17, 18, 19, 20, 21, 22, 23, 24, 25, 26, 27, 28, 29, 30, 31, 32, 33, 34, 35, 36, 37, 38, 39, 40, 41, 42, 43, 44, 45, 46, 47, 48, 49] (by decide +kernel) (by decide +kernel)
set_option maxRecDepth 20000 in
theorem gX7_open_X7_isClosed : GoodIn wsX7_open (wsV RX7 205 RX7 yX7_isClosed wsX7_isClosed) := goodIn_app (goodIn_of _ (by decide +kernel)) ggX7_open_X7_isClosed
theorem dX7_open_0 : decode cX7_open 0 = .ok (.iconst 0, 1) := by decide +kernel
theorem dX7_open_1 : decode cX7_open 1 = .ok (.istore_n 1, 1) := by decide +kernel
theorem dX7_open_2 : decode cX7_open 2 = .ok (.iconst 0, 1) := by decide +kernel
theorem dX7_open_3 : decode cX7_open 3 = .ok (.istore_n 2, 1) := by decide +kernel
theorem dX7_open_4 : decode cX7_open 4 = .ok (.iload_n 2, 1) := by decide +kernel
theorem dX7_open_5 : decode cX7_open 5 = .ok (.bipush 6, 2) := by decide +kernel
theorem dX7_open_7 : decode cX7_open 7 = .ok (.if_icmp .ge 73, 3) := by decide +kernel
theorem dX7_open_10 : decode cX7_open 10 = .ok (.iload_n 2, 1) := by decide +kernel
theorem dX7_open_11 : decode cX7_open 11 = .ok (.iconst 1, 1) := by decide +kernel
theorem dX7_open_12 : decode cX7_open 12 = .ok (.iadd, 1) := by decide +kernel
theorem dX7_open_13 : decode cX7_open 13 = .ok (.istore_n 3, 1) := by decide +kernel
theorem dX7_open_14 : decode cX7_open 14 = .ok (.iload_n 3, 1) := by decide +kernel
theorem dX7_open_15 : decode cX7_open 15 = .ok (.bipush 6, 2) := by decide +kernel
theorem dX7_open_17 : decode cX7_open 17 = .ok (.if_icmp .ge 57, 3) := by decide +kernel
theorem dX7_open_20 : decode cX7_open 20 = .ok (.iload_n 3, 1) := by decide +kernel
theorem dX7_open_21 : decode cX7_open 21 = .ok (.iconst 1, 1) := by decide +kernel
theorem dX7_open_22 : decode cX7_open 22 = .ok (.iadd, 1) := by decide +kernel
theorem dX7_open_23 : decode cX7_open 23 = .ok (.istore 4, 2) := by decide +kernel
theorem dX7_open_25 : decode cX7_open 25 = .ok (.iload 4, 2) := by decide +kernel
theorem dX7_open_27 : decode cX7_open 27 = .ok (.bipush 6, 2) := by decide +kernel
theorem dX7_open_29 : decode cX7_open 29 = .ok (.if_icmp .ge 39, 3) := by decide +kernel
theorem dX7_open_32 : decode cX7_open 32 = .ok (.iload_n 1, 1) := by decide +kernel
theorem dX7_open_33 : decode cX7_open 33 = .ok (.aload_n 0, 1) := by decide +kernel
theorem dX7_open_34 : decode cX7_open 34 = .ok (.iload_n 2, 1) := by decide +kernel
theorem dX7_open_35 : decode cX7_open 35 = .ok (.iload_n 3, 1) := by decide +kernel
theorem dX7_open_36 : decode cX7_open 36 = .ok (.iload 4, 2) := by decide +kernel
theorem dX7_open_38 : decode cX7_open 38 = .ok (.invokevirtual 202, 3) := by decide +kernel
theorem dX7_open_41 : decode cX7_open 41 = .ok (.ifCond .eq 18, 3) := by decide +kernel
theorem dX7_open_44 : decode cX7_open 44 = .ok (.aload_n 0, 1) := by decide +kernel
theorem dX7_open_45 : decode cX7_open 45 = .ok (.iload_n 2, 1) := by decide +kernel
theorem dX7_open_46 : decode cX7_open 46 = .ok (.iload_n 3, 1) := by decide +kernel
theorem dX7_open_47 : decode cX7_open 47 = .ok (.iload 4, 2) := by decide +kernel
theorem dX7_open_49 : decode cX7_open 49 = .ok (.invokevirtual 205, 3) := by decide +kernel
theorem dX7_open_52 : decode cX7_open 52 = .ok (.ifCond .ne 7, 3) := by decide +kernel
theorem dX7_open_55 : decode cX7_open 55 = .ok (.iconst 1, 1) := by decide +kernel
theorem dX7_open_56 : decode cX7_open 56 = .ok (.goto 4, 3) := by decide +kernel
theorem dX7_open_59 : decode cX7_open 59 = .ok (.iconst 0, 1) := by decide +kernel
theorem dX7_open_60 : decode cX7_open 60 = .ok (.iadd, 1) := by decide +kernel
theorem dX7_open_61 : decode cX7_open 61 = .ok (.istore_n 1, 1) := by decide +kernel
theorem dX7_open_62 : decode cX7_open 62 = .ok (.iinc 4 1, 3) := by decide +kernel
theorem dX7_open_65 : decode cX7_open 65 = .ok (.goto (-40), 3) := by decide +kernel
theorem dX7_open_68 : decode cX7_open 68 = .ok (.iinc 3 1, 3) := by decide +kernel
theorem dX7_open_71 : decode cX7_open 71 = .ok (.goto (-57), 3) := by decide +kernel
theorem dX7_open_74 : decode cX7_open 74 = .ok (.iinc 2 1, 3) := by decide +kernel
theorem dX7_open_77 : decode cX7_open 77 = .ok (.goto (-73), 3) := by decide +kernel
theorem dX7_open_80 : decode cX7_open 80 = .ok (.iload_n 1, 1) := by decide +kernel
theorem dX7_open_81 : decode cX7_open 81 = .ok (.ireturn, 1) := by decide +kernel
theorem dX7_asked_0 : decode cX7_asked 0 = .ok (.aload_n 0, 1) := by decide +kernel
theorem dX7_asked_1 : decode cX7_asked 1 = .ok (.getfield 90, 3) := by decide +kernel
theorem dX7_asked_4 : decode cX7_asked 4 = .ok (.lreturn, 1) := by decide +kernel
theorem dX7_upper_0 : decode cX7_upper 0 = .ok (.aload_n 0, 1) := by decide +kernel
theorem dX7_upper_1 : decode cX7_upper 1 = .ok (.getfield 87, 3) := by decide +kernel
theorem dX7_upper_4 : decode cX7_upper 4 = .ok (.lreturn, 1) := by decide +kernel
theorem dX7_lower_0 : decode cX7_lower 0 = .ok (.aload_n 0, 1) := by decide +kernel
theorem dX7_lower_1 : decode cX7_lower 1 = .ok (.getfield 13, 3) := by decide +kernel
theorem dX7_lower_4 : decode cX7_lower 4 = .ok (.lreturn, 1) := by decide +kernel
theorem dX7_tellsCount_0 : decode cX7_tellsCount 0 = .ok (.iconst 0, 1) := by decide +kernel
theorem dX7_tellsCount_1 : decode cX7_tellsCount 1 = .ok (.istore_n 2, 1) := by decide +kernel
theorem dX7_tellsCount_2 : decode cX7_tellsCount 2 = .ok (.iconst 0, 1) := by decide +kernel
theorem dX7_tellsCount_3 : decode cX7_tellsCount 3 = .ok (.istore_n 3, 1) := by decide +kernel
theorem dX7_tellsCount_4 : decode cX7_tellsCount 4 = .ok (.iload_n 3, 1) := by decide +kernel
theorem dX7_tellsCount_5 : decode cX7_tellsCount 5 = .ok (.bipush 6, 2) := by decide +kernel
theorem dX7_tellsCount_7 : decode cX7_tellsCount 7 = .ok (.if_icmp .ge 30, 3) := by decide +kernel
theorem dX7_tellsCount_10 : decode cX7_tellsCount 10 = .ok (.iload_n 1, 1) := by decide +kernel
theorem dX7_tellsCount_11 : decode cX7_tellsCount 11 = .ok (.ifCond .ne 26, 3) := by decide +kernel
theorem dX7_tellsCount_14 : decode cX7_tellsCount 14 = .ok (.iload_n 2, 1) := by decide +kernel
theorem dX7_tellsCount_15 : decode cX7_tellsCount 15 = .ok (.aload_n 0, 1) := by decide +kernel
theorem dX7_tellsCount_16 : decode cX7_tellsCount 16 = .ok (.getfield 17, 3) := by decide +kernel
theorem dX7_tellsCount_19 : decode cX7_tellsCount 19 = .ok (.iload_n 3, 1) := by decide +kernel
theorem dX7_tellsCount_20 : decode cX7_tellsCount 20 = .ok (.iaload, 1) := by decide +kernel
theorem dX7_tellsCount_21 : decode cX7_tellsCount 21 = .ok (.ifCond .lt 7, 3) := by decide +kernel
theorem dX7_tellsCount_24 : decode cX7_tellsCount 24 = .ok (.iconst 1, 1) := by decide +kernel
theorem dX7_tellsCount_25 : decode cX7_tellsCount 25 = .ok (.goto 4, 3) := by decide +kernel
theorem dX7_tellsCount_28 : decode cX7_tellsCount 28 = .ok (.iconst 0, 1) := by decide +kernel
theorem dX7_tellsCount_29 : decode cX7_tellsCount 29 = .ok (.iadd, 1) := by decide +kernel
theorem dX7_tellsCount_30 : decode cX7_tellsCount 30 = .ok (.istore_n 2, 1) := by decide +kernel
theorem dX7_tellsCount_31 : decode cX7_tellsCount 31 = .ok (.iinc 3 1, 3) := by decide +kernel
theorem dX7_tellsCount_34 : decode cX7_tellsCount 34 = .ok (.goto (-30), 3) := by decide +kernel
theorem dX7_tellsCount_37 : decode cX7_tellsCount 37 = .ok (.iconst 0, 1) := by decide +kernel
theorem dX7_tellsCount_38 : decode cX7_tellsCount 38 = .ok (.istore_n 3, 1) := by decide +kernel
theorem dX7_tellsCount_39 : decode cX7_tellsCount 39 = .ok (.iload_n 3, 1) := by decide +kernel
theorem dX7_tellsCount_40 : decode cX7_tellsCount 40 = .ok (.iconst 4, 1) := by decide +kernel
theorem dX7_tellsCount_41 : decode cX7_tellsCount 41 = .ok (.if_icmp .ge 23, 3) := by decide +kernel
theorem dX7_tellsCount_44 : decode cX7_tellsCount 44 = .ok (.iload_n 1, 1) := by decide +kernel
theorem dX7_tellsCount_45 : decode cX7_tellsCount 45 = .ok (.iconst 1, 1) := by decide +kernel
theorem dX7_tellsCount_46 : decode cX7_tellsCount 46 = .ok (.if_icmp .ne 18, 3) := by decide +kernel
theorem dX7_tellsCount_49 : decode cX7_tellsCount 49 = .ok (.iload_n 2, 1) := by decide +kernel
theorem dX7_tellsCount_50 : decode cX7_tellsCount 50 = .ok (.aload_n 0, 1) := by decide +kernel
theorem dX7_tellsCount_51 : decode cX7_tellsCount 51 = .ok (.getfield 26, 3) := by decide +kernel
theorem dX7_tellsCount_54 : decode cX7_tellsCount 54 = .ok (.iload_n 3, 1) := by decide +kernel
theorem dX7_tellsCount_55 : decode cX7_tellsCount 55 = .ok (.iaload, 1) := by decide +kernel
theorem dX7_tellsCount_56 : decode cX7_tellsCount 56 = .ok (.iadd, 1) := by decide +kernel
theorem dX7_tellsCount_57 : decode cX7_tellsCount 57 = .ok (.istore_n 2, 1) := by decide +kernel
theorem dX7_tellsCount_58 : decode cX7_tellsCount 58 = .ok (.iinc 3 1, 3) := by decide +kernel
theorem dX7_tellsCount_61 : decode cX7_tellsCount 61 = .ok (.goto (-22), 3) := by decide +kernel
theorem dX7_tellsCount_64 : decode cX7_tellsCount 64 = .ok (.iconst 0, 1) := by decide +kernel
theorem dX7_tellsCount_65 : decode cX7_tellsCount 65 = .ok (.istore_n 3, 1) := by decide +kernel
theorem dX7_tellsCount_66 : decode cX7_tellsCount 66 = .ok (.iload_n 3, 1) := by decide +kernel
theorem dX7_tellsCount_67 : decode cX7_tellsCount 67 = .ok (.aload_n 0, 1) := by decide +kernel
theorem dX7_tellsCount_68 : decode cX7_tellsCount 68 = .ok (.getfield 147, 3) := by decide +kernel
theorem dX7_tellsCount_71 : decode cX7_tellsCount 71 = .ok (.if_icmp .ge 31, 3) := by decide +kernel
theorem dX7_tellsCount_74 : decode cX7_tellsCount 74 = .ok (.iload_n 1, 1) := by decide +kernel
theorem dX7_tellsCount_75 : decode cX7_tellsCount 75 = .ok (.iconst 4, 1) := by decide +kernel
theorem dX7_tellsCount_76 : decode cX7_tellsCount 76 = .ok (.if_icmp .ne 26, 3) := by decide +kernel
theorem dX7_tellsCount_79 : decode cX7_tellsCount 79 = .ok (.iload_n 2, 1) := by decide +kernel
theorem dX7_tellsCount_80 : decode cX7_tellsCount 80 = .ok (.aload_n 0, 1) := by decide +kernel
theorem dX7_tellsCount_81 : decode cX7_tellsCount 81 = .ok (.getfield 62, 3) := by decide +kernel
theorem dX7_tellsCount_84 : decode cX7_tellsCount 84 = .ok (.iload_n 3, 1) := by decide +kernel
theorem dX7_tellsCount_85 : decode cX7_tellsCount 85 = .ok (.baload, 1) := by decide +kernel
theorem dX7_tellsCount_86 : decode cX7_tellsCount 86 = .ok (.ifCond .eq 7, 3) := by decide +kernel
theorem dX7_tellsCount_89 : decode cX7_tellsCount 89 = .ok (.iconst 1, 1) := by decide +kernel
theorem dX7_tellsCount_90 : decode cX7_tellsCount 90 = .ok (.goto 4, 3) := by decide +kernel
theorem dX7_tellsCount_93 : decode cX7_tellsCount 93 = .ok (.iconst 0, 1) := by decide +kernel
theorem dX7_tellsCount_94 : decode cX7_tellsCount 94 = .ok (.iadd, 1) := by decide +kernel
theorem dX7_tellsCount_95 : decode cX7_tellsCount 95 = .ok (.istore_n 2, 1) := by decide +kernel
theorem dX7_tellsCount_96 : decode cX7_tellsCount 96 = .ok (.iinc 3 1, 3) := by decide +kernel
theorem dX7_tellsCount_99 : decode cX7_tellsCount 99 = .ok (.goto (-33), 3) := by decide +kernel
theorem dX7_tellsCount_102 : decode cX7_tellsCount 102 = .ok (.iload_n 1, 1) := by decide +kernel
theorem dX7_tellsCount_103 : decode cX7_tellsCount 103 = .ok (.iconst 2, 1) := by decide +kernel
theorem dX7_tellsCount_104 : decode cX7_tellsCount 104 = .ok (.if_icmp .ne 10, 3) := by decide +kernel
theorem dX7_tellsCount_107 : decode cX7_tellsCount 107 = .ok (.aload_n 0, 1) := by decide +kernel
theorem dX7_tellsCount_108 : decode cX7_tellsCount 108 = .ok (.getfield 144, 3) := by decide +kernel
theorem dX7_tellsCount_111 : decode cX7_tellsCount 111 = .ok (.goto 16, 3) := by decide +kernel
theorem dX7_tellsCount_114 : decode cX7_tellsCount 114 = .ok (.iload_n 1, 1) := by decide +kernel
theorem dX7_tellsCount_115 : decode cX7_tellsCount 115 = .ok (.iconst 3, 1) := by decide +kernel
theorem dX7_tellsCount_116 : decode cX7_tellsCount 116 = .ok (.if_icmp .ne 10, 3) := by decide +kernel
theorem dX7_tellsCount_119 : decode cX7_tellsCount 119 = .ok (.aload_n 0, 1) := by decide +kernel
theorem dX7_tellsCount_120 : decode cX7_tellsCount 120 = .ok (.getfield 147, 3) := by decide +kernel
theorem dX7_tellsCount_123 : decode cX7_tellsCount 123 = .ok (.goto 4, 3) := by decide +kernel
theorem dX7_tellsCount_126 : decode cX7_tellsCount 126 = .ok (.iload_n 2, 1) := by decide +kernel
theorem dX7_tellsCount_127 : decode cX7_tellsCount 127 = .ok (.ireturn, 1) := by decide +kernel
set_option maxRecDepth 20000 in
theorem ggX7_count_X7_in : GoodIn wsX7_count wsX7_in := goodIn_r _ [4] (by decide +kernel) (by decide +kernel)
set_option maxRecDepth 20000 in
theorem gX7_count_X7_in : GoodIn wsX7_count (va_wsS RX7 93 yX7_in wsX7_in) := goodIn_app (goodIn_of _ (by decide +kernel)) ggX7_count_X7_in
set_option maxRecDepth 20000 in
theorem ggX7_count_X7_tellsCount : GoodIn wsX7_count wsX7_tellsCount := goodIn_r _ [8, 9, 10, 11, 12, 13, 14, 15, 16, 17, 18, 19, 20, 21, 22, 23, 24, 25, 26, 27, 28, 29, 30, 31, 32, 33, 34, 35, 36, 37, 38, 39, 40, 41, 42, 43] (by decide +kernel) (by decide +kernel)
set_option maxRecDepth 20000 in
theorem gX7_count_X7_tellsCount : GoodIn wsX7_count (wsV RX7 208 RX7 yX7_tellsCount wsX7_tellsCount) := goodIn_app (goodIn_of _ (by decide +kernel)) ggX7_count_X7_tellsCount
theorem dX7_count_0 : decode cX7_count 0 = .ok (.iload_n 1, 1) := by decide +kernel
theorem dX7_count_1 : decode cX7_count 1 = .ok (.iconst 0, 1) := by decide +kernel
theorem dX7_count_2 : decode cX7_count 2 = .ok (.iconst 4, 1) := by decide +kernel
theorem dX7_count_3 : decode cX7_count 3 = .ok (.invokestatic 93, 3) := by decide +kernel
theorem dX7_count_6 : decode cX7_count 6 = .ok (.ifCond .eq 11, 3) := by decide +kernel
theorem dX7_count_9 : decode cX7_count 9 = .ok (.aload_n 0, 1) := by decide +kernel
theorem dX7_count_10 : decode cX7_count 10 = .ok (.iload_n 1, 1) := by decide +kernel
theorem dX7_count_11 : decode cX7_count 11 = .ok (.invokevirtual 208, 3) := by decide +kernel
theorem dX7_count_14 : decode cX7_count 14 = .ok (.goto 4, 3) := by decide +kernel
theorem dX7_count_17 : decode cX7_count 17 = .ok (.iconst (-1), 1) := by decide +kernel
theorem dX7_count_18 : decode cX7_count 18 = .ok (.ireturn, 1) := by decide +kernel
theorem dX7_finding_0 : decode cX7_finding 0 = .ok (.aload_n 0, 1) := by decide +kernel
theorem dX7_finding_1 : decode cX7_finding 1 = .ok (.getfield 75, 3) := by decide +kernel
theorem dX7_finding_4 : decode cX7_finding 4 = .ok (.ireturn, 1) := by decide +kernel
set_option maxRecDepth 20000 in
theorem ggX7_findings_X7_in : GoodIn wsX7_findings wsX7_in := goodIn_r _ [5] (by decide +kernel) (by decide +kernel)
set_option maxRecDepth 20000 in
theorem gX7_findings_X7_in : GoodIn wsX7_findings (va_wsS RX7 93 yX7_in wsX7_in) := goodIn_app (goodIn_of _ (by decide +kernel)) ggX7_findings_X7_in
theorem dX7_findings_0 : decode cX7_findings 0 = .ok (.iload_n 1, 1) := by decide +kernel
theorem dX7_findings_1 : decode cX7_findings 1 = .ok (.iconst 1, 1) := by decide +kernel
theorem dX7_findings_2 : decode cX7_findings 2 = .ok (.iconst 5, 1) := by decide +kernel
theorem dX7_findings_3 : decode cX7_findings 3 = .ok (.invokestatic 93, 3) := by decide +kernel
theorem dX7_findings_6 : decode cX7_findings 6 = .ok (.ifCond .eq 12, 3) := by decide +kernel
theorem dX7_findings_9 : decode cX7_findings 9 = .ok (.aload_n 0, 1) := by decide +kernel
theorem dX7_findings_10 : decode cX7_findings 10 = .ok (.getfield 7, 3) := by decide +kernel
theorem dX7_findings_13 : decode cX7_findings 13 = .ok (.iload_n 1, 1) := by decide +kernel
theorem dX7_findings_14 : decode cX7_findings 14 = .ok (.iaload, 1) := by decide +kernel
theorem dX7_findings_15 : decode cX7_findings 15 = .ok (.goto 4, 3) := by decide +kernel
theorem dX7_findings_18 : decode cX7_findings 18 = .ok (.iconst (-1), 1) := by decide +kernel
theorem dX7_findings_19 : decode cX7_findings 19 = .ok (.ireturn, 1) := by decide +kernel
set_option maxRecDepth 20000 in
theorem ggX7_digest_X7_tellsCount : GoodIn wsX7_digest wsX7_tellsCount := goodIn_r _ [12, 6, 13, 4, 14, 3, 40, 41, 42, 43, 44, 45, 46, 47, 48, 49, 50, 51, 52, 53, 54, 55, 56, 57, 58, 59, 60, 61, 62, 63, 64, 65, 66, 67, 68, 69] (by decide +kernel) (by decide +kernel)
set_option maxRecDepth 20000 in
theorem gX7_digest_X7_tellsCount : GoodIn wsX7_digest (wsV RX7 208 RX7 yX7_tellsCount wsX7_tellsCount) := goodIn_app (goodIn_of _ (by decide +kernel)) ggX7_digest_X7_tellsCount
set_option maxRecDepth 20000 in
theorem ggX7_digest_X7_tells : GoodIn wsX7_digest wsX7_tells := goodIn_r _ [18, 4, 19, 14, 20, 21, 22, 23, 24, 11, 25, 26, 27, 28, 29, 30, 31, 40, 41, 42, 43, 44, 45, 46, 47, 48, 49, 50, 51, 52, 53, 54, 55, 56, 57, 58, 59, 60, 61, 62, 63, 64, 65, 66, 67, 68, 69] (by decide +kernel) (by decide +kernel)
set_option maxRecDepth 20000 in
theorem gX7_digest_X7_tells : GoodIn wsX7_digest (wsV RX7 160 RX7 yX7_tells wsX7_tells) := goodIn_app (goodIn_of _ (by decide +kernel)) ggX7_digest_X7_tells
set_option maxRecDepth 20000 in
theorem ggX7_digest_X7_tellsOf : GoodIn wsX7_digest wsX7_tellsOf := goodIn_r _ [35, 19, 36, 37, 31, 38, 14, 39, 40, 41, 42, 43, 44, 45, 46, 47, 48, 49, 50, 51, 52, 53, 54, 55, 56, 57, 58, 59, 60, 61, 62, 63, 64, 65, 66, 67, 68, 69] (by decide +kernel) (by decide +kernel)
set_option maxRecDepth 20000 in
theorem gX7_digest_X7_tellsOf : GoodIn wsX7_digest (wsV RX7 183 RX7 yX7_tellsOf wsX7_tellsOf) := goodIn_app (goodIn_of _ (by decide +kernel)) ggX7_digest_X7_tellsOf
theorem dX7_digest_0 : decode cX7_digest 0 = .ok (.ldc2_w 211, 3) := by decide +kernel
theorem dX7_digest_3 : decode cX7_digest 3 = .ok (.lstore_n 1, 1) := by decide +kernel
theorem dX7_digest_4 : decode cX7_digest 4 = .ok (.iconst 0, 1) := by decide +kernel
theorem dX7_digest_5 : decode cX7_digest 5 = .ok (.istore_n 3, 1) := by decide +kernel
theorem dX7_digest_6 : decode cX7_digest 6 = .ok (.iload_n 3, 1) := by decide +kernel
theorem dX7_digest_7 : decode cX7_digest 7 = .ok (.iconst 4, 1) := by decide +kernel
theorem dX7_digest_8 : decode cX7_digest 8 = .ok (.if_icmp .gt 22, 3) := by decide +kernel
theorem dX7_digest_11 : decode cX7_digest 11 = .ok (.ldc2_w 213, 3) := by decide +kernel
theorem dX7_digest_14 : decode cX7_digest 14 = .ok (.lload_n 1, 1) := by decide +kernel
theorem dX7_digest_15 : decode cX7_digest 15 = .ok (.lmul, 1) := by decide +kernel
theorem dX7_digest_16 : decode cX7_digest 16 = .ok (.aload_n 0, 1) := by decide +kernel
theorem dX7_digest_17 : decode cX7_digest 17 = .ok (.iload_n 3, 1) := by decide +kernel
theorem dX7_digest_18 : decode cX7_digest 18 = .ok (.invokevirtual 208, 3) := by decide +kernel
theorem dX7_digest_21 : decode cX7_digest 21 = .ok (.i2l, 1) := by decide +kernel
theorem dX7_digest_22 : decode cX7_digest 22 = .ok (.ladd, 1) := by decide +kernel
theorem dX7_digest_23 : decode cX7_digest 23 = .ok (.lstore_n 1, 1) := by decide +kernel
theorem dX7_digest_24 : decode cX7_digest 24 = .ok (.iinc 3 1, 3) := by decide +kernel
theorem dX7_digest_27 : decode cX7_digest 27 = .ok (.goto (-21), 3) := by decide +kernel
theorem dX7_digest_30 : decode cX7_digest 30 = .ok (.iconst 0, 1) := by decide +kernel
theorem dX7_digest_31 : decode cX7_digest 31 = .ok (.istore_n 3, 1) := by decide +kernel
theorem dX7_digest_32 : decode cX7_digest 32 = .ok (.iload_n 3, 1) := by decide +kernel
theorem dX7_digest_33 : decode cX7_digest 33 = .ok (.aload_n 0, 1) := by decide +kernel
theorem dX7_digest_34 : decode cX7_digest 34 = .ok (.getfield 144, 3) := by decide +kernel
theorem dX7_digest_37 : decode cX7_digest 37 = .ok (.if_icmp .ge 39, 3) := by decide +kernel
theorem dX7_digest_40 : decode cX7_digest 40 = .ok (.iconst 0, 1) := by decide +kernel
theorem dX7_digest_41 : decode cX7_digest 41 = .ok (.istore 4, 2) := by decide +kernel
theorem dX7_digest_43 : decode cX7_digest 43 = .ok (.iload 4, 2) := by decide +kernel
theorem dX7_digest_45 : decode cX7_digest 45 = .ok (.iconst 4, 1) := by decide +kernel
theorem dX7_digest_46 : decode cX7_digest 46 = .ok (.if_icmp .gt 24, 3) := by decide +kernel
theorem dX7_digest_49 : decode cX7_digest 49 = .ok (.ldc2_w 213, 3) := by decide +kernel
theorem dX7_digest_52 : decode cX7_digest 52 = .ok (.lload_n 1, 1) := by decide +kernel
theorem dX7_digest_53 : decode cX7_digest 53 = .ok (.lmul, 1) := by decide +kernel
theorem dX7_digest_54 : decode cX7_digest 54 = .ok (.aload_n 0, 1) := by decide +kernel
theorem dX7_digest_55 : decode cX7_digest 55 = .ok (.iload_n 3, 1) := by decide +kernel
theorem dX7_digest_56 : decode cX7_digest 56 = .ok (.iload 4, 2) := by decide +kernel
theorem dX7_digest_58 : decode cX7_digest 58 = .ok (.invokevirtual 160, 3) := by decide +kernel
theorem dX7_digest_61 : decode cX7_digest 61 = .ok (.i2l, 1) := by decide +kernel
theorem dX7_digest_62 : decode cX7_digest 62 = .ok (.ladd, 1) := by decide +kernel
theorem dX7_digest_63 : decode cX7_digest 63 = .ok (.lstore_n 1, 1) := by decide +kernel
theorem dX7_digest_64 : decode cX7_digest 64 = .ok (.iinc 4 1, 3) := by decide +kernel
theorem dX7_digest_67 : decode cX7_digest 67 = .ok (.goto (-24), 3) := by decide +kernel
theorem dX7_digest_70 : decode cX7_digest 70 = .ok (.iinc 3 1, 3) := by decide +kernel
theorem dX7_digest_73 : decode cX7_digest 73 = .ok (.goto (-41), 3) := by decide +kernel
theorem dX7_digest_76 : decode cX7_digest 76 = .ok (.iconst 0, 1) := by decide +kernel
theorem dX7_digest_77 : decode cX7_digest 77 = .ok (.istore_n 3, 1) := by decide +kernel
theorem dX7_digest_78 : decode cX7_digest 78 = .ok (.iload_n 3, 1) := by decide +kernel
theorem dX7_digest_79 : decode cX7_digest 79 = .ok (.aload_n 0, 1) := by decide +kernel
theorem dX7_digest_80 : decode cX7_digest 80 = .ok (.getfield 147, 3) := by decide +kernel
theorem dX7_digest_83 : decode cX7_digest 83 = .ok (.if_icmp .ge 54, 3) := by decide +kernel
theorem dX7_digest_86 : decode cX7_digest 86 = .ok (.iconst 0, 1) := by decide +kernel
theorem dX7_digest_87 : decode cX7_digest 87 = .ok (.istore 4, 2) := by decide +kernel
theorem dX7_digest_89 : decode cX7_digest 89 = .ok (.iload 4, 2) := by decide +kernel
theorem dX7_digest_91 : decode cX7_digest 91 = .ok (.bipush 6, 2) := by decide +kernel
theorem dX7_digest_93 : decode cX7_digest 93 = .ok (.if_icmp .gt 24, 3) := by decide +kernel
theorem dX7_digest_96 : decode cX7_digest 96 = .ok (.ldc2_w 213, 3) := by decide +kernel
theorem dX7_digest_99 : decode cX7_digest 99 = .ok (.lload_n 1, 1) := by decide +kernel
theorem dX7_digest_100 : decode cX7_digest 100 = .ok (.lmul, 1) := by decide +kernel
theorem dX7_digest_101 : decode cX7_digest 101 = .ok (.aload_n 0, 1) := by decide +kernel
theorem dX7_digest_102 : decode cX7_digest 102 = .ok (.iload_n 3, 1) := by decide +kernel
theorem dX7_digest_103 : decode cX7_digest 103 = .ok (.iload 4, 2) := by decide +kernel
theorem dX7_digest_105 : decode cX7_digest 105 = .ok (.invokevirtual 183, 3) := by decide +kernel
theorem dX7_digest_108 : decode cX7_digest 108 = .ok (.i2l, 1) := by decide +kernel
theorem dX7_digest_109 : decode cX7_digest 109 = .ok (.ladd, 1) := by decide +kernel
theorem dX7_digest_110 : decode cX7_digest 110 = .ok (.lstore_n 1, 1) := by decide +kernel
theorem dX7_digest_111 : decode cX7_digest 111 = .ok (.iinc 4 1, 3) := by decide +kernel
theorem dX7_digest_114 : decode cX7_digest 114 = .ok (.goto (-25), 3) := by decide +kernel
theorem dX7_digest_117 : decode cX7_digest 117 = .ok (.ldc2_w 213, 3) := by decide +kernel
theorem dX7_digest_120 : decode cX7_digest 120 = .ok (.lload_n 1, 1) := by decide +kernel
theorem dX7_digest_121 : decode cX7_digest 121 = .ok (.lmul, 1) := by decide +kernel
theorem dX7_digest_122 : decode cX7_digest 122 = .ok (.aload_n 0, 1) := by decide +kernel
theorem dX7_digest_123 : decode cX7_digest 123 = .ok (.getfield 53, 3) := by decide +kernel
theorem dX7_digest_126 : decode cX7_digest 126 = .ok (.iload_n 3, 1) := by decide +kernel
theorem dX7_digest_127 : decode cX7_digest 127 = .ok (.iaload, 1) := by decide +kernel
theorem dX7_digest_128 : decode cX7_digest 128 = .ok (.i2l, 1) := by decide +kernel
theorem dX7_digest_129 : decode cX7_digest 129 = .ok (.ladd, 1) := by decide +kernel
theorem dX7_digest_130 : decode cX7_digest 130 = .ok (.lstore_n 1, 1) := by decide +kernel
theorem dX7_digest_131 : decode cX7_digest 131 = .ok (.iinc 3 1, 3) := by decide +kernel
theorem dX7_digest_134 : decode cX7_digest 134 = .ok (.goto (-56), 3) := by decide +kernel
theorem dX7_digest_137 : decode cX7_digest 137 = .ok (.iconst 0, 1) := by decide +kernel
theorem dX7_digest_138 : decode cX7_digest 138 = .ok (.istore_n 3, 1) := by decide +kernel
theorem dX7_digest_139 : decode cX7_digest 139 = .ok (.iload_n 3, 1) := by decide +kernel
theorem dX7_digest_140 : decode cX7_digest 140 = .ok (.bipush 6, 2) := by decide +kernel
theorem dX7_digest_142 : decode cX7_digest 142 = .ok (.if_icmp .ge 76, 3) := by decide +kernel
theorem dX7_digest_145 : decode cX7_digest 145 = .ok (.ldc2_w 213, 3) := by decide +kernel
theorem dX7_digest_148 : decode cX7_digest 148 = .ok (.lload_n 1, 1) := by decide +kernel
theorem dX7_digest_149 : decode cX7_digest 149 = .ok (.lmul, 1) := by decide +kernel
theorem dX7_digest_150 : decode cX7_digest 150 = .ok (.aload_n 0, 1) := by decide +kernel
theorem dX7_digest_151 : decode cX7_digest 151 = .ok (.getfield 17, 3) := by decide +kernel
theorem dX7_digest_154 : decode cX7_digest 154 = .ok (.iload_n 3, 1) := by decide +kernel
theorem dX7_digest_155 : decode cX7_digest 155 = .ok (.iaload, 1) := by decide +kernel
theorem dX7_digest_156 : decode cX7_digest 156 = .ok (.ifCond .ge 7, 3) := by decide +kernel
theorem dX7_digest_159 : decode cX7_digest 159 = .ok (.iconst (-1), 1) := by decide +kernel
theorem dX7_digest_160 : decode cX7_digest 160 = .ok (.goto 9, 3) := by decide +kernel
theorem dX7_digest_163 : decode cX7_digest 163 = .ok (.aload_n 0, 1) := by decide +kernel
theorem dX7_digest_164 : decode cX7_digest 164 = .ok (.getfield 17, 3) := by decide +kernel
theorem dX7_digest_167 : decode cX7_digest 167 = .ok (.iload_n 3, 1) := by decide +kernel
theorem dX7_digest_168 : decode cX7_digest 168 = .ok (.iaload, 1) := by decide +kernel
theorem dX7_digest_169 : decode cX7_digest 169 = .ok (.i2l, 1) := by decide +kernel
theorem dX7_digest_170 : decode cX7_digest 170 = .ok (.ladd, 1) := by decide +kernel
theorem dX7_digest_171 : decode cX7_digest 171 = .ok (.lstore_n 1, 1) := by decide +kernel
theorem dX7_digest_172 : decode cX7_digest 172 = .ok (.iconst 0, 1) := by decide +kernel
theorem dX7_digest_173 : decode cX7_digest 173 = .ok (.istore 4, 2) := by decide +kernel
theorem dX7_digest_175 : decode cX7_digest 175 = .ok (.iload 4, 2) := by decide +kernel
theorem dX7_digest_177 : decode cX7_digest 177 = .ok (.aload_n 0, 1) := by decide +kernel
theorem dX7_digest_178 : decode cX7_digest 178 = .ok (.getfield 17, 3) := by decide +kernel
theorem dX7_digest_181 : decode cX7_digest 181 = .ok (.iload_n 3, 1) := by decide +kernel
theorem dX7_digest_182 : decode cX7_digest 182 = .ok (.iaload, 1) := by decide +kernel
theorem dX7_digest_183 : decode cX7_digest 183 = .ok (.if_icmp .ge 29, 3) := by decide +kernel
theorem dX7_digest_186 : decode cX7_digest 186 = .ok (.ldc2_w 213, 3) := by decide +kernel
theorem dX7_digest_189 : decode cX7_digest 189 = .ok (.lload_n 1, 1) := by decide +kernel
theorem dX7_digest_190 : decode cX7_digest 190 = .ok (.lmul, 1) := by decide +kernel
theorem dX7_digest_191 : decode cX7_digest 191 = .ok (.aload_n 0, 1) := by decide +kernel
theorem dX7_digest_192 : decode cX7_digest 192 = .ok (.getfield 20, 3) := by decide +kernel
theorem dX7_digest_195 : decode cX7_digest 195 = .ok (.bipush 40, 2) := by decide +kernel
theorem dX7_digest_197 : decode cX7_digest 197 = .ok (.iload_n 3, 1) := by decide +kernel
theorem dX7_digest_198 : decode cX7_digest 198 = .ok (.imul, 1) := by decide +kernel
theorem dX7_digest_199 : decode cX7_digest 199 = .ok (.iload 4, 2) := by decide +kernel
theorem dX7_digest_201 : decode cX7_digest 201 = .ok (.iadd, 1) := by decide +kernel
theorem dX7_digest_202 : decode cX7_digest 202 = .ok (.iaload, 1) := by decide +kernel
theorem dX7_digest_203 : decode cX7_digest 203 = .ok (.i2l, 1) := by decide +kernel
theorem dX7_digest_204 : decode cX7_digest 204 = .ok (.ladd, 1) := by decide +kernel
theorem dX7_digest_205 : decode cX7_digest 205 = .ok (.lstore_n 1, 1) := by decide +kernel
theorem dX7_digest_206 : decode cX7_digest 206 = .ok (.iinc 4 1, 3) := by decide +kernel
theorem dX7_digest_209 : decode cX7_digest 209 = .ok (.goto (-34), 3) := by decide +kernel
theorem dX7_digest_212 : decode cX7_digest 212 = .ok (.iinc 3 1, 3) := by decide +kernel
theorem dX7_digest_215 : decode cX7_digest 215 = .ok (.goto (-76), 3) := by decide +kernel
theorem dX7_digest_218 : decode cX7_digest 218 = .ok (.lload_n 1, 1) := by decide +kernel
theorem dX7_digest_219 : decode cX7_digest 219 = .ok (.lreturn, 1) := by decide +kernel
