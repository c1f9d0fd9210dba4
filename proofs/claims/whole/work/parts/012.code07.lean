theorem dX6_odds_4 : decode cX6_odds 4 = .ok (.ifCond .eq 39, 3) := by decide +kernel
theorem dX6_odds_7 : decode cX6_odds 7 = .ok (.iload_n 2, 1) := by decide +kernel
theorem dX6_odds_8 : decode cX6_odds 8 = .ok (.invokestatic 165, 3) := by decide +kernel
theorem dX6_odds_11 : decode cX6_odds 11 = .ok (.ifCond .eq 32, 3) := by decide +kernel
theorem dX6_odds_14 : decode cX6_odds 14 = .ok (.aload_n 0, 1) := by decide +kernel
theorem dX6_odds_15 : decode cX6_odds 15 = .ok (.iload_n 3, 1) := by decide +kernel
theorem dX6_odds_16 : decode cX6_odds 16 = .ok (.invokevirtual 141, 3) := by decide +kernel
theorem dX6_odds_19 : decode cX6_odds 19 = .ok (.ifCond .eq 24, 3) := by decide +kernel
theorem dX6_odds_22 : decode cX6_odds 22 = .ok (.iload 4, 2) := by decide +kernel
theorem dX6_odds_24 : decode cX6_odds 24 = .ok (.invokestatic 151, 3) := by decide +kernel
theorem dX6_odds_27 : decode cX6_odds 27 = .ok (.ifCond .eq 16, 3) := by decide +kernel
theorem dX6_odds_30 : decode cX6_odds 30 = .ok (.iload 5, 2) := by decide +kernel
theorem dX6_odds_32 : decode cX6_odds 32 = .ok (.i2l, 1) := by decide +kernel
theorem dX6_odds_33 : decode cX6_odds 33 = .ok (.lconst 0, 1) := by decide +kernel
theorem dX6_odds_34 : decode cX6_odds 34 = .ok (.ldc2_w 199, 3) := by decide +kernel
theorem dX6_odds_37 : decode cX6_odds 37 = .ok (.invokestatic 63, 3) := by decide +kernel
theorem dX6_odds_40 : decode cX6_odds 40 = .ok (.ifCond .ne 5, 3) := by decide +kernel
theorem dX6_odds_43 : decode cX6_odds 43 = .ok (.iconst (-1), 1) := by decide +kernel
theorem dX6_odds_44 : decode cX6_odds 44 = .ok (.ireturn, 1) := by decide +kernel
theorem dX6_odds_45 : decode cX6_odds 45 = .ok (.aload_n 0, 1) := by decide +kernel
theorem dX6_odds_46 : decode cX6_odds 46 = .ok (.invokevirtual 126, 3) := by decide +kernel
theorem dX6_odds_49 : decode cX6_odds 49 = .ok (.istore 6, 2) := by decide +kernel
theorem dX6_odds_51 : decode cX6_odds 51 = .ok (.lconst 0, 1) := by decide +kernel
theorem dX6_odds_52 : decode cX6_odds 52 = .ok (.lstore 7, 2) := by decide +kernel
theorem dX6_odds_54 : decode cX6_odds 54 = .ok (.lconst 1, 1) := by decide +kernel
theorem dX6_odds_55 : decode cX6_odds 55 = .ok (.lstore 9, 2) := by decide +kernel
theorem dX6_odds_57 : decode cX6_odds 57 = .ok (.iconst 0, 1) := by decide +kernel
theorem dX6_odds_58 : decode cX6_odds 58 = .ok (.istore 11, 2) := by decide +kernel
theorem dX6_odds_60 : decode cX6_odds 60 = .ok (.iload 11, 2) := by decide +kernel
theorem dX6_odds_62 : decode cX6_odds 62 = .ok (.iload 6, 2) := by decide +kernel
theorem dX6_odds_64 : decode cX6_odds 64 = .ok (.invokestatic 154, 3) := by decide +kernel
theorem dX6_odds_67 : decode cX6_odds 67 = .ok (.if_icmp .ge 17, 3) := by decide +kernel
theorem dX6_odds_70 : decode cX6_odds 70 = .ok (.lload 9, 2) := by decide +kernel
theorem dX6_odds_72 : decode cX6_odds 72 = .ok (.ldc2_w 199, 3) := by decide +kernel
theorem dX6_odds_75 : decode cX6_odds 75 = .ok (.lmul, 1) := by decide +kernel
theorem dX6_odds_76 : decode cX6_odds 76 = .ok (.lstore 9, 2) := by decide +kernel
theorem dX6_odds_78 : decode cX6_odds 78 = .ok (.iinc 11 1, 3) := by decide +kernel
theorem dX6_odds_81 : decode cX6_odds 81 = .ok (.goto (-21), 3) := by decide +kernel
theorem dX6_odds_84 : decode cX6_odds 84 = .ok (.iconst 0, 1) := by decide +kernel
theorem dX6_odds_85 : decode cX6_odds 85 = .ok (.istore 11, 2) := by decide +kernel
theorem dX6_odds_87 : decode cX6_odds 87 = .ok (.iload 11, 2) := by decide +kernel
theorem dX6_odds_89 : decode cX6_odds 89 = .ok (.iload 6, 2) := by decide +kernel
theorem dX6_odds_91 : decode cX6_odds 91 = .ok (.if_icmp .gt 118, 3) := by decide +kernel
theorem dX6_odds_94 : decode cX6_odds 94 = .ok (.iload 11, 2) := by decide +kernel
theorem dX6_odds_96 : decode cX6_odds 96 = .ok (.iload 6, 2) := by decide +kernel
theorem dX6_odds_98 : decode cX6_odds 98 = .ok (.iconst (-1), 1) := by decide +kernel
theorem dX6_odds_99 : decode cX6_odds 99 = .ok (.ixor, 1) := by decide +kernel
theorem dX6_odds_100 : decode cX6_odds 100 = .ok (.iand, 1) := by decide +kernel
theorem dX6_odds_101 : decode cX6_odds 101 = .ok (.ifCond .ne 102, 3) := by decide +kernel
theorem dX6_odds_104 : decode cX6_odds 104 = .ok (.lconst 1, 1) := by decide +kernel
theorem dX6_odds_105 : decode cX6_odds 105 = .ok (.lstore 12, 2) := by decide +kernel
theorem dX6_odds_107 : decode cX6_odds 107 = .ok (.iconst 0, 1) := by decide +kernel
theorem dX6_odds_108 : decode cX6_odds 108 = .ok (.istore 14, 2) := by decide +kernel
theorem dX6_odds_110 : decode cX6_odds 110 = .ok (.iload 14, 2) := by decide +kernel
theorem dX6_odds_112 : decode cX6_odds 112 = .ok (.aload_n 0, 1) := by decide +kernel
theorem dX6_odds_113 : decode cX6_odds 113 = .ok (.getfield 22, 3) := by decide +kernel
theorem dX6_odds_116 : decode cX6_odds 116 = .ok (.iconst 1, 1) := by decide +kernel
theorem dX6_odds_117 : decode cX6_odds 117 = .ok (.iaload, 1) := by decide +kernel
theorem dX6_odds_118 : decode cX6_odds 118 = .ok (.if_icmp .ge 50, 3) := by decide +kernel
theorem dX6_odds_121 : decode cX6_odds 121 = .ok (.lload 12, 2) := by decide +kernel
theorem dX6_odds_123 : decode cX6_odds 123 = .ok (.iload 6, 2) := by decide +kernel
theorem dX6_odds_125 : decode cX6_odds 125 = .ok (.iload 14, 2) := by decide +kernel
theorem dX6_odds_127 : decode cX6_odds 127 = .ok (.invokestatic 115, 3) := by decide +kernel
theorem dX6_odds_130 : decode cX6_odds 130 = .ok (.ifCond .ne 7, 3) := by decide +kernel
theorem dX6_odds_133 : decode cX6_odds 133 = .ok (.lconst 1, 1) := by decide +kernel
theorem dX6_odds_134 : decode cX6_odds 134 = .ok (.goto 25, 3) := by decide +kernel
theorem dX6_odds_137 : decode cX6_odds 137 = .ok (.iload 11, 2) := by decide +kernel
theorem dX6_odds_139 : decode cX6_odds 139 = .ok (.iload 14, 2) := by decide +kernel
theorem dX6_odds_141 : decode cX6_odds 141 = .ok (.invokestatic 115, 3) := by decide +kernel
theorem dX6_odds_144 : decode cX6_odds 144 = .ok (.ifCond .eq 9, 3) := by decide +kernel
theorem dX6_odds_147 : decode cX6_odds 147 = .ok (.iload 5, 2) := by decide +kernel
theorem dX6_odds_149 : decode cX6_odds 149 = .ok (.i2l, 1) := by decide +kernel
theorem dX6_odds_150 : decode cX6_odds 150 = .ok (.goto 9, 3) := by decide +kernel
theorem dX6_odds_153 : decode cX6_odds 153 = .ok (.bipush 12, 2) := by decide +kernel
theorem dX6_odds_155 : decode cX6_odds 155 = .ok (.iload 5, 2) := by decide +kernel
theorem dX6_odds_157 : decode cX6_odds 157 = .ok (.isub, 1) := by decide +kernel
theorem dX6_odds_158 : decode cX6_odds 158 = .ok (.i2l, 1) := by decide +kernel
theorem dX6_odds_159 : decode cX6_odds 159 = .ok (.lmul, 1) := by decide +kernel
theorem dX6_odds_160 : decode cX6_odds 160 = .ok (.lstore 12, 2) := by decide +kernel
theorem dX6_odds_162 : decode cX6_odds 162 = .ok (.iinc 14 1, 3) := by decide +kernel
theorem dX6_odds_165 : decode cX6_odds 165 = .ok (.goto (-55), 3) := by decide +kernel
theorem dX6_odds_168 : decode cX6_odds 168 = .ok (.aload_n 0, 1) := by decide +kernel
theorem dX6_odds_169 : decode cX6_odds 169 = .ok (.iload_n 3, 1) := by decide +kernel
theorem dX6_odds_170 : decode cX6_odds 170 = .ok (.iload 11, 2) := by decide +kernel
theorem dX6_odds_172 : decode cX6_odds 172 = .ok (.iconst (-1), 1) := by decide +kernel
theorem dX6_odds_173 : decode cX6_odds 173 = .ok (.invokevirtual 130, 3) := by decide +kernel
theorem dX6_odds_176 : decode cX6_odds 176 = .ok (.lload 7, 2) := by decide +kernel
theorem dX6_odds_178 : decode cX6_odds 178 = .ok (.aload_n 0, 1) := by decide +kernel
theorem dX6_odds_179 : decode cX6_odds 179 = .ok (.getfield 45, 3) := by decide +kernel
theorem dX6_odds_182 : decode cX6_odds 182 = .ok (.bipush 20, 2) := by decide +kernel
theorem dX6_odds_184 : decode cX6_odds 184 = .ok (.iload_n 1, 1) := by decide +kernel
theorem dX6_odds_185 : decode cX6_odds 185 = .ok (.imul, 1) := by decide +kernel
theorem dX6_odds_186 : decode cX6_odds 186 = .ok (.iload_n 2, 1) := by decide +kernel
theorem dX6_odds_187 : decode cX6_odds 187 = .ok (.iadd, 1) := by decide +kernel
theorem dX6_odds_188 : decode cX6_odds 188 = .ok (.iaload, 1) := by decide +kernel
theorem dX6_odds_189 : decode cX6_odds 189 = .ok (.iload 4, 2) := by decide +kernel
theorem dX6_odds_191 : decode cX6_odds 191 = .ok (.if_icmp .ne 8, 3) := by decide +kernel
theorem dX6_odds_194 : decode cX6_odds 194 = .ok (.lload 12, 2) := by decide +kernel
theorem dX6_odds_196 : decode cX6_odds 196 = .ok (.goto 4, 3) := by decide +kernel
theorem dX6_odds_199 : decode cX6_odds 199 = .ok (.lconst 0, 1) := by decide +kernel
theorem dX6_odds_200 : decode cX6_odds 200 = .ok (.ladd, 1) := by decide +kernel
theorem dX6_odds_201 : decode cX6_odds 201 = .ok (.lstore 7, 2) := by decide +kernel
theorem dX6_odds_203 : decode cX6_odds 203 = .ok (.iinc 11 1, 3) := by decide +kernel
theorem dX6_odds_206 : decode cX6_odds 206 = .ok (.goto (-119), 3) := by decide +kernel
theorem dX6_odds_209 : decode cX6_odds 209 = .ok (.aload_n 0, 1) := by decide +kernel
theorem dX6_odds_210 : decode cX6_odds 210 = .ok (.lload 7, 2) := by decide +kernel
theorem dX6_odds_212 : decode cX6_odds 212 = .ok (.lload 9, 2) := by decide +kernel
theorem dX6_odds_214 : decode cX6_odds 214 = .ok (.invokevirtual 201, 3) := by decide +kernel
theorem dX6_odds_217 : decode cX6_odds 217 = .ok (.ireturn, 1) := by decide +kernel
set_option maxRecDepth 20000 in
theorem ggX6_lots_X6_in : GoodIn wsX6_lots wsX6_in := goodIn_r _ [9] (by decide +kernel) (by decide +kernel)
set_option maxRecDepth 20000 in
theorem gX6_lots_X6_in : GoodIn wsX6_lots (va_wsS RX6 63 yX6_in wsX6_in) := goodIn_app (goodIn_of _ (by decide +kernel)) ggX6_lots_X6_in
set_option maxRecDepth 20000 in
theorem ggX6_lots_X6_comes : GoodIn wsX6_lots wsX6_comes := goodIn_r _ [13, 3, 14, 15, 16, 8, 17, 48, 49, 50, 51, 52, 53, 54, 55, 56, 57, 58, 59, 60, 61, 62, 63, 64, 65] (by decide +kernel) (by decide +kernel)
set_option maxRecDepth 20000 in
theorem gX6_lots_X6_comes : GoodIn wsX6_lots (wsV RX6 168 RX6 yX6_comes wsX6_comes) := goodIn_app (goodIn_of _ (by decide +kernel)) ggX6_lots_X6_comes
set_option maxRecDepth 20000 in
theorem ggX6_lots_X6_live : GoodIn wsX6_lots wsX6_live := goodIn_r _ [21, 3, 48, 49, 50, 51, 52, 53, 54, 55, 56, 57, 58, 59, 60, 61, 62, 63, 64, 65] (by decide +kernel) (by decide +kernel)
set_option maxRecDepth 20000 in
theorem gX6_lots_X6_live : GoodIn wsX6_lots (wsV RX6 126 RX6 yX6_live wsX6_live) := goodIn_app (goodIn_of _ (by decide +kernel)) ggX6_lots_X6_live
set_option maxRecDepth 20000 in
theorem ggX6_lots_X6_differing : GoodIn wsX6_lots wsX6_differing := goodIn_r _ [25, 3, 26, 27, 28, 8, 29, 30, 31, 32, 33, 34, 35, 36, 37, 38, 39, 40, 41, 42, 43, 44, 48, 49, 50, 51, 52, 53, 54, 55, 56, 57, 58, 59, 60, 61, 62, 63, 64, 65] (by decide +kernel) (by decide +kernel)
set_option maxRecDepth 20000 in
theorem gX6_lots_X6_differing : GoodIn wsX6_lots (wsV RX6 184 RX6 yX6_differing wsX6_differing) := goodIn_app (goodIn_of _ (by decide +kernel)) ggX6_lots_X6_differing
set_option maxRecDepth 20000 in
theorem ggX6_lots_X6_bits : GoodIn wsX6_lots wsX6_bits := goodIn_r _ [47] (by decide +kernel) (by decide +kernel)
set_option maxRecDepth 20000 in
theorem gX6_lots_X6_bits : GoodIn wsX6_lots (va_wsS RX6 154 yX6_bits wsX6_bits) := goodIn_app (goodIn_of _ (by decide +kernel)) ggX6_lots_X6_bits
theorem dX6_lots_0 : decode cX6_lots 0 = .ok (.iload_n 1, 1) := by decide +kernel
theorem dX6_lots_1 : decode cX6_lots 1 = .ok (.i2l, 1) := by decide +kernel
theorem dX6_lots_2 : decode cX6_lots 2 = .ok (.lconst 1, 1) := by decide +kernel
theorem dX6_lots_3 : decode cX6_lots 3 = .ok (.ldc2_w 205, 3) := by decide +kernel
theorem dX6_lots_6 : decode cX6_lots 6 = .ok (.invokestatic 63, 3) := by decide +kernel
theorem dX6_lots_9 : decode cX6_lots 9 = .ok (.ifCond .eq 15, 3) := by decide +kernel
theorem dX6_lots_12 : decode cX6_lots 12 = .ok (.iload_n 2, 1) := by decide +kernel
theorem dX6_lots_13 : decode cX6_lots 13 = .ok (.i2l, 1) := by decide +kernel
theorem dX6_lots_14 : decode cX6_lots 14 = .ok (.lconst 1, 1) := by decide +kernel
theorem dX6_lots_15 : decode cX6_lots 15 = .ok (.ldc2_w 207, 3) := by decide +kernel
theorem dX6_lots_18 : decode cX6_lots 18 = .ok (.invokestatic 63, 3) := by decide +kernel
theorem dX6_lots_21 : decode cX6_lots 21 = .ok (.ifCond .ne 5, 3) := by decide +kernel
theorem dX6_lots_24 : decode cX6_lots 24 = .ok (.iconst (-1), 1) := by decide +kernel
theorem dX6_lots_25 : decode cX6_lots 25 = .ok (.ireturn, 1) := by decide +kernel
theorem dX6_lots_26 : decode cX6_lots 26 = .ok (.aload_n 0, 1) := by decide +kernel
theorem dX6_lots_27 : decode cX6_lots 27 = .ok (.getfield 22, 3) := by decide +kernel
theorem dX6_lots_30 : decode cX6_lots 30 = .ok (.iconst 0, 1) := by decide +kernel
theorem dX6_lots_31 : decode cX6_lots 31 = .ok (.iaload, 1) := by decide +kernel
theorem dX6_lots_32 : decode cX6_lots 32 = .ok (.ifCond .ne 6, 3) := by decide +kernel
theorem dX6_lots_35 : decode cX6_lots 35 = .ok (.bipush (-4), 2) := by decide +kernel
theorem dX6_lots_37 : decode cX6_lots 37 = .ok (.ireturn, 1) := by decide +kernel
theorem dX6_lots_38 : decode cX6_lots 38 = .ok (.aload_n 0, 1) := by decide +kernel
theorem dX6_lots_39 : decode cX6_lots 39 = .ok (.getfield 22, 3) := by decide +kernel
theorem dX6_lots_42 : decode cX6_lots 42 = .ok (.iconst 1, 1) := by decide +kernel
theorem dX6_lots_43 : decode cX6_lots 43 = .ok (.iaload, 1) := by decide +kernel
theorem dX6_lots_44 : decode cX6_lots 44 = .ok (.iload_n 1, 1) := by decide +kernel
theorem dX6_lots_45 : decode cX6_lots 45 = .ok (.iadd, 1) := by decide +kernel
theorem dX6_lots_46 : decode cX6_lots 46 = .ok (.bipush 12, 2) := by decide +kernel
theorem dX6_lots_48 : decode cX6_lots 48 = .ok (.if_icmp .gt 16, 3) := by decide +kernel
theorem dX6_lots_51 : decode cX6_lots 51 = .ok (.aload_n 0, 1) := by decide +kernel
theorem dX6_lots_52 : decode cX6_lots 52 = .ok (.getfield 22, 3) := by decide +kernel
theorem dX6_lots_55 : decode cX6_lots 55 = .ok (.iconst 3, 1) := by decide +kernel
theorem dX6_lots_56 : decode cX6_lots 56 = .ok (.iaload, 1) := by decide +kernel
theorem dX6_lots_57 : decode cX6_lots 57 = .ok (.iload_n 1, 1) := by decide +kernel
theorem dX6_lots_58 : decode cX6_lots 58 = .ok (.iadd, 1) := by decide +kernel
theorem dX6_lots_59 : decode cX6_lots 59 = .ok (.bipush 40, 2) := by decide +kernel
theorem dX6_lots_61 : decode cX6_lots 61 = .ok (.if_icmp .le 6, 3) := by decide +kernel
theorem dX6_lots_64 : decode cX6_lots 64 = .ok (.bipush (-2), 2) := by decide +kernel
theorem dX6_lots_66 : decode cX6_lots 66 = .ok (.ireturn, 1) := by decide +kernel
theorem dX6_lots_67 : decode cX6_lots 67 = .ok (.iload_n 2, 1) := by decide +kernel
theorem dX6_lots_68 : decode cX6_lots 68 = .ok (.i2l, 1) := by decide +kernel
theorem dX6_lots_69 : decode cX6_lots 69 = .ok (.lstore_n 3, 1) := by decide +kernel
theorem dX6_lots_70 : decode cX6_lots 70 = .ok (.iconst 0, 1) := by decide +kernel
theorem dX6_lots_71 : decode cX6_lots 71 = .ok (.istore 5, 2) := by decide +kernel
theorem dX6_lots_73 : decode cX6_lots 73 = .ok (.iload 5, 2) := by decide +kernel
theorem dX6_lots_75 : decode cX6_lots 75 = .ok (.iload_n 1, 1) := by decide +kernel
theorem dX6_lots_76 : decode cX6_lots 76 = .ok (.if_icmp .ge 65, 3) := by decide +kernel
theorem dX6_lots_79 : decode cX6_lots 79 = .ok (.ldc2_w 209, 3) := by decide +kernel
theorem dX6_lots_82 : decode cX6_lots 82 = .ok (.lload_n 3, 1) := by decide +kernel
theorem dX6_lots_83 : decode cX6_lots 83 = .ok (.lmul, 1) := by decide +kernel
theorem dX6_lots_84 : decode cX6_lots 84 = .ok (.ldc2_w 211, 3) := by decide +kernel
theorem dX6_lots_87 : decode cX6_lots 87 = .ok (.lrem, 1) := by decide +kernel
theorem dX6_lots_88 : decode cX6_lots 88 = .ok (.lstore_n 3, 1) := by decide +kernel
theorem dX6_lots_89 : decode cX6_lots 89 = .ok (.lload_n 3, 1) := by decide +kernel
theorem dX6_lots_90 : decode cX6_lots 90 = .ok (.l2i, 1) := by decide +kernel
theorem dX6_lots_91 : decode cX6_lots 91 = .ok (.istore 6, 2) := by decide +kernel
theorem dX6_lots_93 : decode cX6_lots 93 = .ok (.aload_n 0, 1) := by decide +kernel
theorem dX6_lots_94 : decode cX6_lots 94 = .ok (.iload 6, 2) := by decide +kernel
theorem dX6_lots_96 : decode cX6_lots 96 = .ok (.iconst 5, 1) := by decide +kernel
theorem dX6_lots_97 : decode cX6_lots 97 = .ok (.irem, 1) := by decide +kernel
theorem dX6_lots_98 : decode cX6_lots 98 = .ok (.iload 6, 2) := by decide +kernel
theorem dX6_lots_100 : decode cX6_lots 100 = .ok (.bipush 8, 2) := by decide +kernel
theorem dX6_lots_102 : decode cX6_lots 102 = .ok (.idiv, 1) := by decide +kernel
theorem dX6_lots_103 : decode cX6_lots 103 = .ok (.bipush 20, 2) := by decide +kernel
theorem dX6_lots_105 : decode cX6_lots 105 = .ok (.irem, 1) := by decide +kernel
theorem dX6_lots_106 : decode cX6_lots 106 = .ok (.iload 6, 2) := by decide +kernel
theorem dX6_lots_108 : decode cX6_lots 108 = .ok (.sipush 256, 3) := by decide +kernel
theorem dX6_lots_111 : decode cX6_lots 111 = .ok (.idiv, 1) := by decide +kernel
theorem dX6_lots_112 : decode cX6_lots 112 = .ok (.aload_n 0, 1) := by decide +kernel
theorem dX6_lots_113 : decode cX6_lots 113 = .ok (.getfield 22, 3) := by decide +kernel
theorem dX6_lots_116 : decode cX6_lots 116 = .ok (.iconst 0, 1) := by decide +kernel
theorem dX6_lots_117 : decode cX6_lots 117 = .ok (.iaload, 1) := by decide +kernel
theorem dX6_lots_118 : decode cX6_lots 118 = .ok (.irem, 1) := by decide +kernel
theorem dX6_lots_119 : decode cX6_lots 119 = .ok (.iload 6, 2) := by decide +kernel
theorem dX6_lots_121 : decode cX6_lots 121 = .ok (.sipush 4096, 3) := by decide +kernel
theorem dX6_lots_124 : decode cX6_lots 124 = .ok (.idiv, 1) := by decide +kernel
theorem dX6_lots_125 : decode cX6_lots 125 = .ok (.bipush 9, 2) := by decide +kernel
theorem dX6_lots_127 : decode cX6_lots 127 = .ok (.irem, 1) := by decide +kernel
theorem dX6_lots_128 : decode cX6_lots 128 = .ok (.iconst 1, 1) := by decide +kernel
theorem dX6_lots_129 : decode cX6_lots 129 = .ok (.iadd, 1) := by decide +kernel
theorem dX6_lots_130 : decode cX6_lots 130 = .ok (.invokevirtual 168, 3) := by decide +kernel
theorem dX6_lots_133 : decode cX6_lots 133 = .ok (.istore 7, 2) := by decide +kernel
theorem dX6_lots_135 : decode cX6_lots 135 = .ok (.iinc 5 1, 3) := by decide +kernel
theorem dX6_lots_138 : decode cX6_lots 138 = .ok (.goto (-65), 3) := by decide +kernel
theorem dX6_lots_141 : decode cX6_lots 141 = .ok (.aload_n 0, 1) := by decide +kernel
theorem dX6_lots_142 : decode cX6_lots 142 = .ok (.iconst 0, 1) := by decide +kernel
theorem dX6_lots_143 : decode cX6_lots 143 = .ok (.iconst 4, 1) := by decide +kernel
theorem dX6_lots_144 : decode cX6_lots 144 = .ok (.bipush 19, 2) := by decide +kernel
theorem dX6_lots_146 : decode cX6_lots 146 = .ok (.aload_n 0, 1) := by decide +kernel
theorem dX6_lots_147 : decode cX6_lots 147 = .ok (.invokevirtual 126, 3) := by decide +kernel
theorem dX6_lots_150 : decode cX6_lots 150 = .ok (.invokevirtual 184, 3) := by decide +kernel
theorem dX6_lots_153 : decode cX6_lots 153 = .ok (.invokestatic 154, 3) := by decide +kernel
theorem dX6_lots_156 : decode cX6_lots 156 = .ok (.ireturn, 1) := by decide +kernel
theorem dX6_asked_0 : decode cX6_asked 0 = .ok (.aload_n 0, 1) := by decide +kernel
theorem dX6_asked_1 : decode cX6_asked 1 = .ok (.getfield 58, 3) := by decide +kernel
theorem dX6_asked_4 : decode cX6_asked 4 = .ok (.ireturn, 1) := by decide +kernel
theorem dX6_upper_0 : decode cX6_upper 0 = .ok (.aload_n 0, 1) := by decide +kernel
theorem dX6_upper_1 : decode cX6_upper 1 = .ok (.getfield 196, 3) := by decide +kernel
theorem dX6_upper_4 : decode cX6_upper 4 = .ok (.lreturn, 1) := by decide +kernel
theorem dX6_lower_0 : decode cX6_lower 0 = .ok (.aload_n 0, 1) := by decide +kernel
theorem dX6_lower_1 : decode cX6_lower 1 = .ok (.getfield 32, 3) := by decide +kernel
theorem dX6_lower_4 : decode cX6_lower 4 = .ok (.lreturn, 1) := by decide +kernel
set_option maxRecDepth 20000 in
theorem ggX6_counted_X6_isOf : GoodIn wsX6_counted wsX6_isOf := goodIn_r _ [8] (by decide +kernel) (by decide +kernel)
set_option maxRecDepth 20000 in
theorem gX6_counted_X6_isOf : GoodIn wsX6_counted (va_wsS RX6 119 yX6_isOf wsX6_isOf) := goodIn_app (goodIn_of _ (by decide +kernel)) ggX6_counted_X6_isOf
set_option maxRecDepth 20000 in
theorem ggX6_counted_X6_mended : GoodIn wsX6_counted wsX6_mended := goodIn_r _ [12, 1, 13, 14, 15, 7, 16, 17, 18, 19, 20, 21, 22, 23, 24, 25, 26, 27, 28, 29, 30, 31, 32, 33, 34, 35, 36, 37] (by decide +kernel) (by decide +kernel)
set_option maxRecDepth 20000 in
theorem gX6_counted_X6_mended : GoodIn wsX6_counted (wsV RX6 160 RX6 yX6_mended wsX6_mended) := goodIn_app (goodIn_of _ (by decide +kernel)) ggX6_counted_X6_mended
theorem dX6_counted_0 : decode cX6_counted 0 = .ok (.iconst 0, 1) := by decide +kernel
theorem dX6_counted_1 : decode cX6_counted 1 = .ok (.istore_n 2, 1) := by decide +kernel
theorem dX6_counted_2 : decode cX6_counted 2 = .ok (.iconst 0, 1) := by decide +kernel
theorem dX6_counted_3 : decode cX6_counted 3 = .ok (.istore_n 3, 1) := by decide +kernel
theorem dX6_counted_4 : decode cX6_counted 4 = .ok (.iload_n 3, 1) := by decide +kernel
theorem dX6_counted_5 : decode cX6_counted 5 = .ok (.aload_n 0, 1) := by decide +kernel
theorem dX6_counted_6 : decode cX6_counted 6 = .ok (.getfield 22, 3) := by decide +kernel
theorem dX6_counted_9 : decode cX6_counted 9 = .ok (.iconst 0, 1) := by decide +kernel
theorem dX6_counted_10 : decode cX6_counted 10 = .ok (.iaload, 1) := by decide +kernel
theorem dX6_counted_11 : decode cX6_counted 11 = .ok (.if_icmp .ge 32, 3) := by decide +kernel
theorem dX6_counted_14 : decode cX6_counted 14 = .ok (.iload_n 2, 1) := by decide +kernel
theorem dX6_counted_15 : decode cX6_counted 15 = .ok (.aload_n 0, 1) := by decide +kernel
theorem dX6_counted_16 : decode cX6_counted 16 = .ok (.getfield 22, 3) := by decide +kernel
theorem dX6_counted_19 : decode cX6_counted 19 = .ok (.iconst 4, 1) := by decide +kernel
theorem dX6_counted_20 : decode cX6_counted 20 = .ok (.iload_n 3, 1) := by decide +kernel
theorem dX6_counted_21 : decode cX6_counted 21 = .ok (.iadd, 1) := by decide +kernel
theorem dX6_counted_22 : decode cX6_counted 22 = .ok (.iaload, 1) := by decide +kernel
theorem dX6_counted_23 : decode cX6_counted 23 = .ok (.iconst 1, 1) := by decide +kernel
theorem dX6_counted_24 : decode cX6_counted 24 = .ok (.invokestatic 119, 3) := by decide +kernel
theorem dX6_counted_27 : decode cX6_counted 27 = .ok (.ifCond .eq 7, 3) := by decide +kernel
theorem dX6_counted_30 : decode cX6_counted 30 = .ok (.iconst 1, 1) := by decide +kernel
theorem dX6_counted_31 : decode cX6_counted 31 = .ok (.goto 4, 3) := by decide +kernel
theorem dX6_counted_34 : decode cX6_counted 34 = .ok (.iconst 0, 1) := by decide +kernel
theorem dX6_counted_35 : decode cX6_counted 35 = .ok (.iadd, 1) := by decide +kernel
theorem dX6_counted_36 : decode cX6_counted 36 = .ok (.istore_n 2, 1) := by decide +kernel
theorem dX6_counted_37 : decode cX6_counted 37 = .ok (.iinc 3 1, 3) := by decide +kernel
theorem dX6_counted_40 : decode cX6_counted 40 = .ok (.goto (-36), 3) := by decide +kernel
theorem dX6_counted_43 : decode cX6_counted 43 = .ok (.iconst 0, 1) := by decide +kernel
theorem dX6_counted_44 : decode cX6_counted 44 = .ok (.istore_n 3, 1) := by decide +kernel
theorem dX6_counted_45 : decode cX6_counted 45 = .ok (.iconst 0, 1) := by decide +kernel
theorem dX6_counted_46 : decode cX6_counted 46 = .ok (.istore 4, 2) := by decide +kernel
theorem dX6_counted_48 : decode cX6_counted 48 = .ok (.iload 4, 2) := by decide +kernel
theorem dX6_counted_50 : decode cX6_counted 50 = .ok (.bipush 6, 2) := by decide +kernel
theorem dX6_counted_52 : decode cX6_counted 52 = .ok (.if_icmp .ge 33, 3) := by decide +kernel
theorem dX6_counted_55 : decode cX6_counted 55 = .ok (.iload_n 1, 1) := by decide +kernel
theorem dX6_counted_56 : decode cX6_counted 56 = .ok (.bipush 6, 2) := by decide +kernel
theorem dX6_counted_58 : decode cX6_counted 58 = .ok (.if_icmp .ne 27, 3) := by decide +kernel
theorem dX6_counted_61 : decode cX6_counted 61 = .ok (.iload_n 3, 1) := by decide +kernel
theorem dX6_counted_62 : decode cX6_counted 62 = .ok (.aload_n 0, 1) := by decide +kernel
theorem dX6_counted_63 : decode cX6_counted 63 = .ok (.getfield 7, 3) := by decide +kernel
theorem dX6_counted_66 : decode cX6_counted 66 = .ok (.iload 4, 2) := by decide +kernel
theorem dX6_counted_68 : decode cX6_counted 68 = .ok (.iaload, 1) := by decide +kernel
theorem dX6_counted_69 : decode cX6_counted 69 = .ok (.ifCond .ge 7, 3) := by decide +kernel
theorem dX6_counted_72 : decode cX6_counted 72 = .ok (.iconst 0, 1) := by decide +kernel
theorem dX6_counted_73 : decode cX6_counted 73 = .ok (.goto 4, 3) := by decide +kernel
theorem dX6_counted_76 : decode cX6_counted 76 = .ok (.iconst 1, 1) := by decide +kernel
theorem dX6_counted_77 : decode cX6_counted 77 = .ok (.iadd, 1) := by decide +kernel
theorem dX6_counted_78 : decode cX6_counted 78 = .ok (.istore_n 3, 1) := by decide +kernel
theorem dX6_counted_79 : decode cX6_counted 79 = .ok (.iinc 4 1, 3) := by decide +kernel
theorem dX6_counted_82 : decode cX6_counted 82 = .ok (.goto (-34), 3) := by decide +kernel
theorem dX6_counted_85 : decode cX6_counted 85 = .ok (.iconst 0, 1) := by decide +kernel
theorem dX6_counted_86 : decode cX6_counted 86 = .ok (.istore 4, 2) := by decide +kernel
theorem dX6_counted_88 : decode cX6_counted 88 = .ok (.iload 4, 2) := by decide +kernel
theorem dX6_counted_90 : decode cX6_counted 90 = .ok (.iconst 4, 1) := by decide +kernel
theorem dX6_counted_91 : decode cX6_counted 91 = .ok (.if_icmp .ge 33, 3) := by decide +kernel
theorem dX6_counted_94 : decode cX6_counted 94 = .ok (.iload_n 1, 1) := by decide +kernel
theorem dX6_counted_95 : decode cX6_counted 95 = .ok (.bipush 7, 2) := by decide +kernel
theorem dX6_counted_97 : decode cX6_counted 97 = .ok (.if_icmp .ne 27, 3) := by decide +kernel
theorem dX6_counted_100 : decode cX6_counted 100 = .ok (.iload_n 3, 1) := by decide +kernel
theorem dX6_counted_101 : decode cX6_counted 101 = .ok (.aload_n 0, 1) := by decide +kernel
theorem dX6_counted_102 : decode cX6_counted 102 = .ok (.getfield 16, 3) := by decide +kernel
theorem dX6_counted_105 : decode cX6_counted 105 = .ok (.iload 4, 2) := by decide +kernel
theorem dX6_counted_107 : decode cX6_counted 107 = .ok (.iaload, 1) := by decide +kernel
theorem dX6_counted_108 : decode cX6_counted 108 = .ok (.ifCond .ge 7, 3) := by decide +kernel
theorem dX6_counted_111 : decode cX6_counted 111 = .ok (.iconst 0, 1) := by decide +kernel
theorem dX6_counted_112 : decode cX6_counted 112 = .ok (.goto 4, 3) := by decide +kernel
theorem dX6_counted_115 : decode cX6_counted 115 = .ok (.iconst 1, 1) := by decide +kernel
theorem dX6_counted_116 : decode cX6_counted 116 = .ok (.iadd, 1) := by decide +kernel
theorem dX6_counted_117 : decode cX6_counted 117 = .ok (.istore_n 3, 1) := by decide +kernel
theorem dX6_counted_118 : decode cX6_counted 118 = .ok (.iinc 4 1, 3) := by decide +kernel
theorem dX6_counted_121 : decode cX6_counted 121 = .ok (.goto (-33), 3) := by decide +kernel
theorem dX6_counted_124 : decode cX6_counted 124 = .ok (.iconst 0, 1) := by decide +kernel
theorem dX6_counted_125 : decode cX6_counted 125 = .ok (.istore 4, 2) := by decide +kernel
theorem dX6_counted_127 : decode cX6_counted 127 = .ok (.iload 4, 2) := by decide +kernel
theorem dX6_counted_129 : decode cX6_counted 129 = .ok (.iconst 3, 1) := by decide +kernel
theorem dX6_counted_130 : decode cX6_counted 130 = .ok (.if_icmp .ge 33, 3) := by decide +kernel
theorem dX6_counted_133 : decode cX6_counted 133 = .ok (.iload_n 1, 1) := by decide +kernel
theorem dX6_counted_134 : decode cX6_counted 134 = .ok (.bipush 8, 2) := by decide +kernel
theorem dX6_counted_136 : decode cX6_counted 136 = .ok (.if_icmp .ne 27, 3) := by decide +kernel
theorem dX6_counted_139 : decode cX6_counted 139 = .ok (.iload_n 3, 1) := by decide +kernel
theorem dX6_counted_140 : decode cX6_counted 140 = .ok (.aload_n 0, 1) := by decide +kernel
theorem dX6_counted_141 : decode cX6_counted 141 = .ok (.getfield 28, 3) := by decide +kernel
theorem dX6_counted_144 : decode cX6_counted 144 = .ok (.iload 4, 2) := by decide +kernel
theorem dX6_counted_146 : decode cX6_counted 146 = .ok (.baload, 1) := by decide +kernel
theorem dX6_counted_147 : decode cX6_counted 147 = .ok (.ifCond .eq 7, 3) := by decide +kernel
theorem dX6_counted_150 : decode cX6_counted 150 = .ok (.iconst 1, 1) := by decide +kernel
theorem dX6_counted_151 : decode cX6_counted 151 = .ok (.goto 4, 3) := by decide +kernel
theorem dX6_counted_154 : decode cX6_counted 154 = .ok (.iconst 0, 1) := by decide +kernel
theorem dX6_counted_155 : decode cX6_counted 155 = .ok (.iadd, 1) := by decide +kernel
theorem dX6_counted_156 : decode cX6_counted 156 = .ok (.istore_n 3, 1) := by decide +kernel
theorem dX6_counted_157 : decode cX6_counted 157 = .ok (.iinc 4 1, 3) := by decide +kernel
theorem dX6_counted_160 : decode cX6_counted 160 = .ok (.goto (-33), 3) := by decide +kernel
theorem dX6_counted_163 : decode cX6_counted 163 = .ok (.iload_n 1, 1) := by decide +kernel
theorem dX6_counted_164 : decode cX6_counted 164 = .ok (.tableswitch 75 0 5 #[40, 47, 54, 59, 66, 73], 40) := by decide +kernel
theorem dX6_counted_204 : decode cX6_counted 204 = .ok (.aload_n 0, 1) := by decide +kernel
theorem dX6_counted_205 : decode cX6_counted 205 = .ok (.getfield 22, 3) := by decide +kernel
theorem dX6_counted_208 : decode cX6_counted 208 = .ok (.iconst 0, 1) := by decide +kernel
theorem dX6_counted_209 : decode cX6_counted 209 = .ok (.iaload, 1) := by decide +kernel
theorem dX6_counted_210 : decode cX6_counted 210 = .ok (.ireturn, 1) := by decide +kernel
theorem dX6_counted_211 : decode cX6_counted 211 = .ok (.aload_n 0, 1) := by decide +kernel
theorem dX6_counted_212 : decode cX6_counted 212 = .ok (.getfield 22, 3) := by decide +kernel
theorem dX6_counted_215 : decode cX6_counted 215 = .ok (.iconst 1, 1) := by decide +kernel
theorem dX6_counted_216 : decode cX6_counted 216 = .ok (.iaload, 1) := by decide +kernel
theorem dX6_counted_217 : decode cX6_counted 217 = .ok (.ireturn, 1) := by decide +kernel
theorem dX6_counted_218 : decode cX6_counted 218 = .ok (.aload_n 0, 1) := by decide +kernel
theorem dX6_counted_219 : decode cX6_counted 219 = .ok (.invokevirtual 160, 3) := by decide +kernel
theorem dX6_counted_222 : decode cX6_counted 222 = .ok (.ireturn, 1) := by decide +kernel
theorem dX6_counted_223 : decode cX6_counted 223 = .ok (.aload_n 0, 1) := by decide +kernel
theorem dX6_counted_224 : decode cX6_counted 224 = .ok (.getfield 22, 3) := by decide +kernel
theorem dX6_counted_227 : decode cX6_counted 227 = .ok (.iconst 2, 1) := by decide +kernel
theorem dX6_counted_228 : decode cX6_counted 228 = .ok (.iaload, 1) := by decide +kernel
theorem dX6_counted_229 : decode cX6_counted 229 = .ok (.ireturn, 1) := by decide +kernel
theorem dX6_counted_230 : decode cX6_counted 230 = .ok (.aload_n 0, 1) := by decide +kernel
theorem dX6_counted_231 : decode cX6_counted 231 = .ok (.getfield 22, 3) := by decide +kernel
theorem dX6_counted_234 : decode cX6_counted 234 = .ok (.iconst 3, 1) := by decide +kernel
theorem dX6_counted_235 : decode cX6_counted 235 = .ok (.iaload, 1) := by decide +kernel
theorem dX6_counted_236 : decode cX6_counted 236 = .ok (.ireturn, 1) := by decide +kernel
theorem dX6_counted_237 : decode cX6_counted 237 = .ok (.iload_n 2, 1) := by decide +kernel
theorem dX6_counted_238 : decode cX6_counted 238 = .ok (.ireturn, 1) := by decide +kernel
theorem dX6_counted_239 : decode cX6_counted 239 = .ok (.iload_n 3, 1) := by decide +kernel
theorem dX6_counted_240 : decode cX6_counted 240 = .ok (.ireturn, 1) := by decide +kernel
set_option maxRecDepth 20000 in
theorem ggX6_count_X6_in : GoodIn wsX6_count wsX6_in := goodIn_r _ [5] (by decide +kernel) (by decide +kernel)
set_option maxRecDepth 20000 in
theorem gX6_count_X6_in : GoodIn wsX6_count (va_wsS RX6 63 yX6_in wsX6_in) := goodIn_app (goodIn_of _ (by decide +kernel)) ggX6_count_X6_in
set_option maxRecDepth 20000 in
theorem ggX6_count_X6_counted : GoodIn wsX6_count wsX6_counted := goodIn_r _ [9, 10, 11, 12, 13, 14, 15, 4, 16, 17, 18, 19, 20, 21, 22, 23, 24, 25, 26, 27, 28, 29, 30, 31, 32, 33, 34, 35, 36, 37, 38, 39, 40, 41, 42, 43, 44, 45] (by decide +kernel) (by decide +kernel)
set_option maxRecDepth 20000 in
theorem gX6_count_X6_counted : GoodIn wsX6_count (wsV RX6 215 RX6 yX6_counted wsX6_counted) := goodIn_app (goodIn_of _ (by decide +kernel)) ggX6_count_X6_counted
theorem dX6_count_0 : decode cX6_count 0 = .ok (.iload_n 1, 1) := by decide +kernel
theorem dX6_count_1 : decode cX6_count 1 = .ok (.i2l, 1) := by decide +kernel
theorem dX6_count_2 : decode cX6_count 2 = .ok (.lconst 0, 1) := by decide +kernel
theorem dX6_count_3 : decode cX6_count 3 = .ok (.ldc2_w 213, 3) := by decide +kernel
theorem dX6_count_6 : decode cX6_count 6 = .ok (.invokestatic 63, 3) := by decide +kernel
theorem dX6_count_9 : decode cX6_count 9 = .ok (.ifCond .eq 11, 3) := by decide +kernel
theorem dX6_count_12 : decode cX6_count 12 = .ok (.aload_n 0, 1) := by decide +kernel
theorem dX6_count_13 : decode cX6_count 13 = .ok (.iload_n 1, 1) := by decide +kernel
theorem dX6_count_14 : decode cX6_count 14 = .ok (.invokevirtual 215, 3) := by decide +kernel
theorem dX6_count_17 : decode cX6_count 17 = .ok (.goto 4, 3) := by decide +kernel
theorem dX6_count_20 : decode cX6_count 20 = .ok (.iconst (-1), 1) := by decide +kernel
theorem dX6_count_21 : decode cX6_count 21 = .ok (.ireturn, 1) := by decide +kernel
theorem dX6_finding_0 : decode cX6_finding 0 = .ok (.aload_n 0, 1) := by decide +kernel
theorem dX6_finding_1 : decode cX6_finding 1 = .ok (.getfield 54, 3) := by decide +kernel
theorem dX6_finding_4 : decode cX6_finding 4 = .ok (.ireturn, 1) := by decide +kernel
set_option maxRecDepth 20000 in
theorem ggX6_findings_X6_in : GoodIn wsX6_findings wsX6_in := goodIn_r _ [6] (by decide +kernel) (by decide +kernel)
set_option maxRecDepth 20000 in
theorem gX6_findings_X6_in : GoodIn wsX6_findings (va_wsS RX6 63 yX6_in wsX6_in) := goodIn_app (goodIn_of _ (by decide +kernel)) ggX6_findings_X6_in
theorem dX6_findings_0 : decode cX6_findings 0 = .ok (.iload_n 1, 1) := by decide +kernel
theorem dX6_findings_1 : decode cX6_findings 1 = .ok (.i2l, 1) := by decide +kernel
theorem dX6_findings_2 : decode cX6_findings 2 = .ok (.lconst 1, 1) := by decide +kernel
theorem dX6_findings_3 : decode cX6_findings 3 = .ok (.ldc2_w 61, 3) := by decide +kernel
theorem dX6_findings_6 : decode cX6_findings 6 = .ok (.invokestatic 63, 3) := by decide +kernel
theorem dX6_findings_9 : decode cX6_findings 9 = .ok (.ifCond .eq 12, 3) := by decide +kernel
theorem dX6_findings_12 : decode cX6_findings 12 = .ok (.aload_n 0, 1) := by decide +kernel
theorem dX6_findings_13 : decode cX6_findings 13 = .ok (.getfield 36, 3) := by decide +kernel
theorem dX6_findings_16 : decode cX6_findings 16 = .ok (.iload_n 1, 1) := by decide +kernel
theorem dX6_findings_17 : decode cX6_findings 17 = .ok (.iaload, 1) := by decide +kernel
theorem dX6_findings_18 : decode cX6_findings 18 = .ok (.goto 4, 3) := by decide +kernel
theorem dX6_findings_21 : decode cX6_findings 21 = .ok (.iconst (-1), 1) := by decide +kernel
theorem dX6_findings_22 : decode cX6_findings 22 = .ok (.ireturn, 1) := by decide +kernel
set_option maxRecDepth 20000 in
theorem ggX6_digest_X6_counted : GoodIn wsX6_digest wsX6_counted := goodIn_r _ [14, 3, 6, 8, 4, 15, 16, 13, 17, 18, 19, 20, 21, 22, 23, 24, 25, 26, 27, 28, 53, 54, 55, 56, 57, 58, 59, 60, 61, 62, 63, 64, 65, 66, 67, 68, 69, 70] (by decide +kernel) (by decide +kernel)
set_option maxRecDepth 20000 in
theorem gX6_digest_X6_counted : GoodIn wsX6_digest (wsV RX6 215 RX6 yX6_counted wsX6_counted) := goodIn_app (goodIn_of _ (by decide +kernel)) ggX6_digest_X6_counted
set_option maxRecDepth 20000 in
theorem ggX6_digest_X6_told : GoodIn wsX6_digest wsX6_told := goodIn_r _ [32, 3, 33, 34, 35, 13, 36, 37, 38, 39, 40, 41, 22, 23, 24, 25, 42, 43, 44, 45, 46, 47, 48, 49, 15, 16, 17, 50, 51, 52, 53, 54, 55, 56, 57, 58, 59, 60, 61, 62, 63, 64, 65, 66, 67, 68, 69, 70] (by decide +kernel) (by decide +kernel)
set_option maxRecDepth 20000 in
theorem gX6_digest_X6_told : GoodIn wsX6_digest (wsV RX6 144 RX6 yX6_told wsX6_told) := goodIn_app (goodIn_of _ (by decide +kernel)) ggX6_digest_X6_told
theorem dX6_digest_0 : decode cX6_digest 0 = .ok (.ldc2_w 218, 3) := by decide +kernel
theorem dX6_digest_3 : decode cX6_digest 3 = .ok (.lstore_n 1, 1) := by decide +kernel
theorem dX6_digest_4 : decode cX6_digest 4 = .ok (.iconst 0, 1) := by decide +kernel
theorem dX6_digest_5 : decode cX6_digest 5 = .ok (.istore_n 3, 1) := by decide +kernel
theorem dX6_digest_6 : decode cX6_digest 6 = .ok (.iload_n 3, 1) := by decide +kernel
theorem dX6_digest_7 : decode cX6_digest 7 = .ok (.bipush 9, 2) := by decide +kernel
theorem dX6_digest_9 : decode cX6_digest 9 = .ok (.if_icmp .ge 22, 3) := by decide +kernel
theorem dX6_digest_12 : decode cX6_digest 12 = .ok (.ldc2_w 220, 3) := by decide +kernel
theorem dX6_digest_15 : decode cX6_digest 15 = .ok (.lload_n 1, 1) := by decide +kernel
theorem dX6_digest_16 : decode cX6_digest 16 = .ok (.lmul, 1) := by decide +kernel
theorem dX6_digest_17 : decode cX6_digest 17 = .ok (.aload_n 0, 1) := by decide +kernel
theorem dX6_digest_18 : decode cX6_digest 18 = .ok (.iload_n 3, 1) := by decide +kernel
theorem dX6_digest_19 : decode cX6_digest 19 = .ok (.invokevirtual 215, 3) := by decide +kernel
theorem dX6_digest_22 : decode cX6_digest 22 = .ok (.i2l, 1) := by decide +kernel
theorem dX6_digest_23 : decode cX6_digest 23 = .ok (.ladd, 1) := by decide +kernel
theorem dX6_digest_24 : decode cX6_digest 24 = .ok (.lstore_n 1, 1) := by decide +kernel
theorem dX6_digest_25 : decode cX6_digest 25 = .ok (.iinc 3 1, 3) := by decide +kernel
theorem dX6_digest_28 : decode cX6_digest 28 = .ok (.goto (-22), 3) := by decide +kernel
theorem dX6_digest_31 : decode cX6_digest 31 = .ok (.iconst 0, 1) := by decide +kernel
theorem dX6_digest_32 : decode cX6_digest 32 = .ok (.istore_n 3, 1) := by decide +kernel
theorem dX6_digest_33 : decode cX6_digest 33 = .ok (.iload_n 3, 1) := by decide +kernel
theorem dX6_digest_34 : decode cX6_digest 34 = .ok (.aload_n 0, 1) := by decide +kernel
theorem dX6_digest_35 : decode cX6_digest 35 = .ok (.getfield 22, 3) := by decide +kernel
theorem dX6_digest_38 : decode cX6_digest 38 = .ok (.iconst 0, 1) := by decide +kernel
theorem dX6_digest_39 : decode cX6_digest 39 = .ok (.iaload, 1) := by decide +kernel
theorem dX6_digest_40 : decode cX6_digest 40 = .ok (.if_icmp .ge 39, 3) := by decide +kernel
theorem dX6_digest_43 : decode cX6_digest 43 = .ok (.iconst 0, 1) := by decide +kernel
theorem dX6_digest_44 : decode cX6_digest 44 = .ok (.istore 4, 2) := by decide +kernel
theorem dX6_digest_46 : decode cX6_digest 46 = .ok (.iload 4, 2) := by decide +kernel
theorem dX6_digest_48 : decode cX6_digest 48 = .ok (.iconst 5, 1) := by decide +kernel
theorem dX6_digest_49 : decode cX6_digest 49 = .ok (.if_icmp .ge 24, 3) := by decide +kernel
theorem dX6_digest_52 : decode cX6_digest 52 = .ok (.ldc2_w 220, 3) := by decide +kernel
theorem dX6_digest_55 : decode cX6_digest 55 = .ok (.lload_n 1, 1) := by decide +kernel
theorem dX6_digest_56 : decode cX6_digest 56 = .ok (.lmul, 1) := by decide +kernel
theorem dX6_digest_57 : decode cX6_digest 57 = .ok (.aload_n 0, 1) := by decide +kernel
theorem dX6_digest_58 : decode cX6_digest 58 = .ok (.iload_n 3, 1) := by decide +kernel
theorem dX6_digest_59 : decode cX6_digest 59 = .ok (.iload 4, 2) := by decide +kernel
theorem dX6_digest_61 : decode cX6_digest 61 = .ok (.invokevirtual 144, 3) := by decide +kernel
theorem dX6_digest_64 : decode cX6_digest 64 = .ok (.i2l, 1) := by decide +kernel
theorem dX6_digest_65 : decode cX6_digest 65 = .ok (.ladd, 1) := by decide +kernel
theorem dX6_digest_66 : decode cX6_digest 66 = .ok (.lstore_n 1, 1) := by decide +kernel
theorem dX6_digest_67 : decode cX6_digest 67 = .ok (.iinc 4 1, 3) := by decide +kernel
theorem dX6_digest_70 : decode cX6_digest 70 = .ok (.goto (-24), 3) := by decide +kernel
theorem dX6_digest_73 : decode cX6_digest 73 = .ok (.iinc 3 1, 3) := by decide +kernel
theorem dX6_digest_76 : decode cX6_digest 76 = .ok (.goto (-43), 3) := by decide +kernel
theorem dX6_digest_79 : decode cX6_digest 79 = .ok (.iconst 0, 1) := by decide +kernel
theorem dX6_digest_80 : decode cX6_digest 80 = .ok (.istore_n 3, 1) := by decide +kernel
theorem dX6_digest_81 : decode cX6_digest 81 = .ok (.iload_n 3, 1) := by decide +kernel
theorem dX6_digest_82 : decode cX6_digest 82 = .ok (.aload_n 0, 1) := by decide +kernel
theorem dX6_digest_83 : decode cX6_digest 83 = .ok (.getfield 22, 3) := by decide +kernel
theorem dX6_digest_86 : decode cX6_digest 86 = .ok (.iconst 1, 1) := by decide +kernel
theorem dX6_digest_87 : decode cX6_digest 87 = .ok (.iaload, 1) := by decide +kernel
theorem dX6_digest_88 : decode cX6_digest 88 = .ok (.if_icmp .ge 47, 3) := by decide +kernel
theorem dX6_digest_91 : decode cX6_digest 91 = .ok (.iconst 0, 1) := by decide +kernel
theorem dX6_digest_92 : decode cX6_digest 92 = .ok (.istore 4, 2) := by decide +kernel
theorem dX6_digest_94 : decode cX6_digest 94 = .ok (.iload 4, 2) := by decide +kernel
theorem dX6_digest_96 : decode cX6_digest 96 = .ok (.iconst 5, 1) := by decide +kernel
theorem dX6_digest_97 : decode cX6_digest 97 = .ok (.if_icmp .ge 32, 3) := by decide +kernel
theorem dX6_digest_100 : decode cX6_digest 100 = .ok (.ldc2_w 220, 3) := by decide +kernel
theorem dX6_digest_103 : decode cX6_digest 103 = .ok (.lload_n 1, 1) := by decide +kernel
theorem dX6_digest_104 : decode cX6_digest 104 = .ok (.lmul, 1) := by decide +kernel
theorem dX6_digest_105 : decode cX6_digest 105 = .ok (.aload_n 0, 1) := by decide +kernel
theorem dX6_digest_106 : decode cX6_digest 106 = .ok (.getfield 22, 3) := by decide +kernel
theorem dX6_digest_109 : decode cX6_digest 109 = .ok (.bipush 19, 2) := by decide +kernel
theorem dX6_digest_111 : decode cX6_digest 111 = .ok (.bipush 12, 2) := by decide +kernel
theorem dX6_digest_113 : decode cX6_digest 113 = .ok (.iload 4, 2) := by decide +kernel
theorem dX6_digest_115 : decode cX6_digest 115 = .ok (.imul, 1) := by decide +kernel
theorem dX6_digest_116 : decode cX6_digest 116 = .ok (.iadd, 1) := by decide +kernel
theorem dX6_digest_117 : decode cX6_digest 117 = .ok (.iload_n 3, 1) := by decide +kernel
theorem dX6_digest_118 : decode cX6_digest 118 = .ok (.iadd, 1) := by decide +kernel
theorem dX6_digest_119 : decode cX6_digest 119 = .ok (.iaload, 1) := by decide +kernel
theorem dX6_digest_120 : decode cX6_digest 120 = .ok (.i2l, 1) := by decide +kernel
theorem dX6_digest_121 : decode cX6_digest 121 = .ok (.ladd, 1) := by decide +kernel
theorem dX6_digest_122 : decode cX6_digest 122 = .ok (.lstore_n 1, 1) := by decide +kernel
theorem dX6_digest_123 : decode cX6_digest 123 = .ok (.iinc 4 1, 3) := by decide +kernel
theorem dX6_digest_126 : decode cX6_digest 126 = .ok (.goto (-32), 3) := by decide +kernel
theorem dX6_digest_129 : decode cX6_digest 129 = .ok (.iinc 3 1, 3) := by decide +kernel
theorem dX6_digest_132 : decode cX6_digest 132 = .ok (.goto (-51), 3) := by decide +kernel
theorem dX6_digest_135 : decode cX6_digest 135 = .ok (.iconst 0, 1) := by decide +kernel
theorem dX6_digest_136 : decode cX6_digest 136 = .ok (.istore_n 3, 1) := by decide +kernel
theorem dX6_digest_137 : decode cX6_digest 137 = .ok (.iload_n 3, 1) := by decide +kernel
theorem dX6_digest_138 : decode cX6_digest 138 = .ok (.iconst 3, 1) := by decide +kernel
theorem dX6_digest_139 : decode cX6_digest 139 = .ok (.if_icmp .ge 41, 3) := by decide +kernel
theorem dX6_digest_142 : decode cX6_digest 142 = .ok (.ldc2_w 220, 3) := by decide +kernel
theorem dX6_digest_145 : decode cX6_digest 145 = .ok (.lload_n 1, 1) := by decide +kernel
theorem dX6_digest_146 : decode cX6_digest 146 = .ok (.lmul, 1) := by decide +kernel
theorem dX6_digest_147 : decode cX6_digest 147 = .ok (.aload_n 0, 1) := by decide +kernel
theorem dX6_digest_148 : decode cX6_digest 148 = .ok (.getfield 28, 3) := by decide +kernel
theorem dX6_digest_151 : decode cX6_digest 151 = .ok (.iload_n 3, 1) := by decide +kernel
theorem dX6_digest_152 : decode cX6_digest 152 = .ok (.baload, 1) := by decide +kernel
theorem dX6_digest_153 : decode cX6_digest 153 = .ok (.ifCond .eq 17, 3) := by decide +kernel
theorem dX6_digest_156 : decode cX6_digest 156 = .ok (.aload_n 0, 1) := by decide +kernel
theorem dX6_digest_157 : decode cX6_digest 157 = .ok (.getfield 25, 3) := by decide +kernel
theorem dX6_digest_160 : decode cX6_digest 160 = .ok (.bipush 119, 2) := by decide +kernel
theorem dX6_digest_162 : decode cX6_digest 162 = .ok (.iload_n 3, 1) := by decide +kernel
theorem dX6_digest_163 : decode cX6_digest 163 = .ok (.imul, 1) := by decide +kernel
theorem dX6_digest_164 : decode cX6_digest 164 = .ok (.iconst 3, 1) := by decide +kernel
theorem dX6_digest_165 : decode cX6_digest 165 = .ok (.iadd, 1) := by decide +kernel
theorem dX6_digest_166 : decode cX6_digest 166 = .ok (.iaload, 1) := by decide +kernel
theorem dX6_digest_167 : decode cX6_digest 167 = .ok (.goto 4, 3) := by decide +kernel
theorem dX6_digest_170 : decode cX6_digest 170 = .ok (.iconst (-1), 1) := by decide +kernel
theorem dX6_digest_171 : decode cX6_digest 171 = .ok (.i2l, 1) := by decide +kernel
theorem dX6_digest_172 : decode cX6_digest 172 = .ok (.ladd, 1) := by decide +kernel
theorem dX6_digest_173 : decode cX6_digest 173 = .ok (.lstore_n 1, 1) := by decide +kernel
theorem dX6_digest_174 : decode cX6_digest 174 = .ok (.iinc 3 1, 3) := by decide +kernel
theorem dX6_digest_177 : decode cX6_digest 177 = .ok (.goto (-40), 3) := by decide +kernel
theorem dX6_digest_180 : decode cX6_digest 180 = .ok (.iconst 0, 1) := by decide +kernel
theorem dX6_digest_181 : decode cX6_digest 181 = .ok (.istore_n 3, 1) := by decide +kernel
theorem dX6_digest_182 : decode cX6_digest 182 = .ok (.iload_n 3, 1) := by decide +kernel
theorem dX6_digest_183 : decode cX6_digest 183 = .ok (.bipush 6, 2) := by decide +kernel
theorem dX6_digest_185 : decode cX6_digest 185 = .ok (.if_icmp .ge 63, 3) := by decide +kernel
theorem dX6_digest_188 : decode cX6_digest 188 = .ok (.ldc2_w 220, 3) := by decide +kernel
theorem dX6_digest_191 : decode cX6_digest 191 = .ok (.lload_n 1, 1) := by decide +kernel
theorem dX6_digest_192 : decode cX6_digest 192 = .ok (.lmul, 1) := by decide +kernel
theorem dX6_digest_193 : decode cX6_digest 193 = .ok (.aload_n 0, 1) := by decide +kernel
theorem dX6_digest_194 : decode cX6_digest 194 = .ok (.getfield 7, 3) := by decide +kernel
theorem dX6_digest_197 : decode cX6_digest 197 = .ok (.iload_n 3, 1) := by decide +kernel
theorem dX6_digest_198 : decode cX6_digest 198 = .ok (.iaload, 1) := by decide +kernel
theorem dX6_digest_199 : decode cX6_digest 199 = .ok (.i2l, 1) := by decide +kernel
theorem dX6_digest_200 : decode cX6_digest 200 = .ok (.ladd, 1) := by decide +kernel
theorem dX6_digest_201 : decode cX6_digest 201 = .ok (.lstore_n 1, 1) := by decide +kernel
theorem dX6_digest_202 : decode cX6_digest 202 = .ok (.iconst 0, 1) := by decide +kernel
theorem dX6_digest_203 : decode cX6_digest 203 = .ok (.istore 4, 2) := by decide +kernel
theorem dX6_digest_205 : decode cX6_digest 205 = .ok (.iload 4, 2) := by decide +kernel
theorem dX6_digest_207 : decode cX6_digest 207 = .ok (.aload_n 0, 1) := by decide +kernel
theorem dX6_digest_208 : decode cX6_digest 208 = .ok (.getfield 7, 3) := by decide +kernel
theorem dX6_digest_211 : decode cX6_digest 211 = .ok (.iload_n 3, 1) := by decide +kernel
theorem dX6_digest_212 : decode cX6_digest 212 = .ok (.iaload, 1) := by decide +kernel
theorem dX6_digest_213 : decode cX6_digest 213 = .ok (.if_icmp .ge 29, 3) := by decide +kernel
theorem dX6_digest_216 : decode cX6_digest 216 = .ok (.ldc2_w 220, 3) := by decide +kernel
theorem dX6_digest_219 : decode cX6_digest 219 = .ok (.lload_n 1, 1) := by decide +kernel
theorem dX6_digest_220 : decode cX6_digest 220 = .ok (.lmul, 1) := by decide +kernel
theorem dX6_digest_221 : decode cX6_digest 221 = .ok (.aload_n 0, 1) := by decide +kernel
theorem dX6_digest_222 : decode cX6_digest 222 = .ok (.getfield 13, 3) := by decide +kernel
theorem dX6_digest_225 : decode cX6_digest 225 = .ok (.bipush 40, 2) := by decide +kernel
theorem dX6_digest_227 : decode cX6_digest 227 = .ok (.iload_n 3, 1) := by decide +kernel
theorem dX6_digest_228 : decode cX6_digest 228 = .ok (.imul, 1) := by decide +kernel
theorem dX6_digest_229 : decode cX6_digest 229 = .ok (.iload 4, 2) := by decide +kernel
theorem dX6_digest_231 : decode cX6_digest 231 = .ok (.iadd, 1) := by decide +kernel
theorem dX6_digest_232 : decode cX6_digest 232 = .ok (.iaload, 1) := by decide +kernel
theorem dX6_digest_233 : decode cX6_digest 233 = .ok (.i2l, 1) := by decide +kernel
theorem dX6_digest_234 : decode cX6_digest 234 = .ok (.ladd, 1) := by decide +kernel
theorem dX6_digest_235 : decode cX6_digest 235 = .ok (.lstore_n 1, 1) := by decide +kernel
theorem dX6_digest_236 : decode cX6_digest 236 = .ok (.iinc 4 1, 3) := by decide +kernel
theorem dX6_digest_239 : decode cX6_digest 239 = .ok (.goto (-34), 3) := by decide +kernel
theorem dX6_digest_242 : decode cX6_digest 242 = .ok (.iinc 3 1, 3) := by decide +kernel
theorem dX6_digest_245 : decode cX6_digest 245 = .ok (.goto (-63), 3) := by decide +kernel
theorem dX6_digest_248 : decode cX6_digest 248 = .ok (.iconst 0, 1) := by decide +kernel
theorem dX6_digest_249 : decode cX6_digest 249 = .ok (.istore_n 3, 1) := by decide +kernel
theorem dX6_digest_250 : decode cX6_digest 250 = .ok (.iload_n 3, 1) := by decide +kernel
theorem dX6_digest_251 : decode cX6_digest 251 = .ok (.iconst 4, 1) := by decide +kernel
theorem dX6_digest_252 : decode cX6_digest 252 = .ok (.if_icmp .ge 63, 3) := by decide +kernel
theorem dX6_digest_255 : decode cX6_digest 255 = .ok (.ldc2_w 220, 3) := by decide +kernel
theorem dX6_digest_258 : decode cX6_digest 258 = .ok (.lload_n 1, 1) := by decide +kernel
theorem dX6_digest_259 : decode cX6_digest 259 = .ok (.lmul, 1) := by decide +kernel
theorem dX6_digest_260 : decode cX6_digest 260 = .ok (.aload_n 0, 1) := by decide +kernel
theorem dX6_digest_261 : decode cX6_digest 261 = .ok (.getfield 16, 3) := by decide +kernel
theorem dX6_digest_264 : decode cX6_digest 264 = .ok (.iload_n 3, 1) := by decide +kernel
theorem dX6_digest_265 : decode cX6_digest 265 = .ok (.iaload, 1) := by decide +kernel
theorem dX6_digest_266 : decode cX6_digest 266 = .ok (.i2l, 1) := by decide +kernel
theorem dX6_digest_267 : decode cX6_digest 267 = .ok (.ladd, 1) := by decide +kernel
theorem dX6_digest_268 : decode cX6_digest 268 = .ok (.lstore_n 1, 1) := by decide +kernel
theorem dX6_digest_269 : decode cX6_digest 269 = .ok (.iconst 0, 1) := by decide +kernel
theorem dX6_digest_270 : decode cX6_digest 270 = .ok (.istore 4, 2) := by decide +kernel
theorem dX6_digest_272 : decode cX6_digest 272 = .ok (.iload 4, 2) := by decide +kernel
theorem dX6_digest_274 : decode cX6_digest 274 = .ok (.aload_n 0, 1) := by decide +kernel
theorem dX6_digest_275 : decode cX6_digest 275 = .ok (.getfield 16, 3) := by decide +kernel
theorem dX6_digest_278 : decode cX6_digest 278 = .ok (.iload_n 3, 1) := by decide +kernel
theorem dX6_digest_279 : decode cX6_digest 279 = .ok (.iaload, 1) := by decide +kernel
theorem dX6_digest_280 : decode cX6_digest 280 = .ok (.if_icmp .ge 29, 3) := by decide +kernel
theorem dX6_digest_283 : decode cX6_digest 283 = .ok (.ldc2_w 220, 3) := by decide +kernel
theorem dX6_digest_286 : decode cX6_digest 286 = .ok (.lload_n 1, 1) := by decide +kernel
theorem dX6_digest_287 : decode cX6_digest 287 = .ok (.lmul, 1) := by decide +kernel
theorem dX6_digest_288 : decode cX6_digest 288 = .ok (.aload_n 0, 1) := by decide +kernel
theorem dX6_digest_289 : decode cX6_digest 289 = .ok (.getfield 19, 3) := by decide +kernel
theorem dX6_digest_292 : decode cX6_digest 292 = .ok (.bipush 60, 2) := by decide +kernel
theorem dX6_digest_294 : decode cX6_digest 294 = .ok (.iload_n 3, 1) := by decide +kernel
theorem dX6_digest_295 : decode cX6_digest 295 = .ok (.imul, 1) := by decide +kernel
theorem dX6_digest_296 : decode cX6_digest 296 = .ok (.iload 4, 2) := by decide +kernel
theorem dX6_digest_298 : decode cX6_digest 298 = .ok (.iadd, 1) := by decide +kernel
theorem dX6_digest_299 : decode cX6_digest 299 = .ok (.iaload, 1) := by decide +kernel
theorem dX6_digest_300 : decode cX6_digest 300 = .ok (.i2l, 1) := by decide +kernel
theorem dX6_digest_301 : decode cX6_digest 301 = .ok (.ladd, 1) := by decide +kernel
theorem dX6_digest_302 : decode cX6_digest 302 = .ok (.lstore_n 1, 1) := by decide +kernel
theorem dX6_digest_303 : decode cX6_digest 303 = .ok (.iinc 4 1, 3) := by decide +kernel
theorem dX6_digest_306 : decode cX6_digest 306 = .ok (.goto (-34), 3) := by decide +kernel
theorem dX6_digest_309 : decode cX6_digest 309 = .ok (.iinc 3 1, 3) := by decide +kernel
theorem dX6_digest_312 : decode cX6_digest 312 = .ok (.goto (-62), 3) := by decide +kernel
theorem dX6_digest_315 : decode cX6_digest 315 = .ok (.lload_n 1, 1) := by decide +kernel
theorem dX6_digest_316 : decode cX6_digest 316 = .ok (.lreturn, 1) := by decide +kernel
theorem dJ6_bitCount_0f7a4_0 : decode cJ6_bitCount_0f7a4 0 = .ok (.iload_n 0, 1) := by decide +kernel
theorem dJ6_bitCount_0f7a4_1 : decode cJ6_bitCount_0f7a4 1 = .ok (.iload_n 0, 1) := by decide +kernel
theorem dJ6_bitCount_0f7a4_2 : decode cJ6_bitCount_0f7a4 2 = .ok (.iconst 1, 1) := by decide +kernel
theorem dJ6_bitCount_0f7a4_3 : decode cJ6_bitCount_0f7a4 3 = .ok (.iushr, 1) := by decide +kernel
theorem dJ6_bitCount_0f7a4_4 : decode cJ6_bitCount_0f7a4 4 = .ok (.ldc_w 265, 3) := by decide +kernel
theorem dJ6_bitCount_0f7a4_7 : decode cJ6_bitCount_0f7a4 7 = .ok (.iand, 1) := by decide +kernel
theorem dJ6_bitCount_0f7a4_8 : decode cJ6_bitCount_0f7a4 8 = .ok (.isub, 1) := by decide +kernel
theorem dJ6_bitCount_0f7a4_9 : decode cJ6_bitCount_0f7a4 9 = .ok (.istore_n 0, 1) := by decide +kernel
theorem dJ6_bitCount_0f7a4_10 : decode cJ6_bitCount_0f7a4 10 = .ok (.iload_n 0, 1) := by decide +kernel
theorem dJ6_bitCount_0f7a4_11 : decode cJ6_bitCount_0f7a4 11 = .ok (.ldc_w 266, 3) := by decide +kernel
theorem dJ6_bitCount_0f7a4_14 : decode cJ6_bitCount_0f7a4 14 = .ok (.iand, 1) := by decide +kernel
theorem dJ6_bitCount_0f7a4_15 : decode cJ6_bitCount_0f7a4 15 = .ok (.iload_n 0, 1) := by decide +kernel
theorem dJ6_bitCount_0f7a4_16 : decode cJ6_bitCount_0f7a4 16 = .ok (.iconst 2, 1) := by decide +kernel
theorem dJ6_bitCount_0f7a4_17 : decode cJ6_bitCount_0f7a4 17 = .ok (.iushr, 1) := by decide +kernel
theorem dJ6_bitCount_0f7a4_18 : decode cJ6_bitCount_0f7a4 18 = .ok (.ldc_w 266, 3) := by decide +kernel
theorem dJ6_bitCount_0f7a4_21 : decode cJ6_bitCount_0f7a4 21 = .ok (.iand, 1) := by decide +kernel
theorem dJ6_bitCount_0f7a4_22 : decode cJ6_bitCount_0f7a4 22 = .ok (.iadd, 1) := by decide +kernel
theorem dJ6_bitCount_0f7a4_23 : decode cJ6_bitCount_0f7a4 23 = .ok (.istore_n 0, 1) := by decide +kernel
theorem dJ6_bitCount_0f7a4_24 : decode cJ6_bitCount_0f7a4 24 = .ok (.iload_n 0, 1) := by decide +kernel
theorem dJ6_bitCount_0f7a4_25 : decode cJ6_bitCount_0f7a4 25 = .ok (.iload_n 0, 1) := by decide +kernel
theorem dJ6_bitCount_0f7a4_26 : decode cJ6_bitCount_0f7a4 26 = .ok (.iconst 4, 1) := by decide +kernel
theorem dJ6_bitCount_0f7a4_27 : decode cJ6_bitCount_0f7a4 27 = .ok (.iushr, 1) := by decide +kernel
theorem dJ6_bitCount_0f7a4_28 : decode cJ6_bitCount_0f7a4 28 = .ok (.iadd, 1) := by decide +kernel
theorem dJ6_bitCount_0f7a4_29 : decode cJ6_bitCount_0f7a4 29 = .ok (.ldc_w 267, 3) := by decide +kernel
theorem dJ6_bitCount_0f7a4_32 : decode cJ6_bitCount_0f7a4 32 = .ok (.iand, 1) := by decide +kernel
theorem dJ6_bitCount_0f7a4_33 : decode cJ6_bitCount_0f7a4 33 = .ok (.istore_n 0, 1) := by decide +kernel
theorem dJ6_bitCount_0f7a4_34 : decode cJ6_bitCount_0f7a4 34 = .ok (.iload_n 0, 1) := by decide +kernel
theorem dJ6_bitCount_0f7a4_35 : decode cJ6_bitCount_0f7a4 35 = .ok (.iload_n 0, 1) := by decide +kernel
theorem dJ6_bitCount_0f7a4_36 : decode cJ6_bitCount_0f7a4 36 = .ok (.bipush 8, 2) := by decide +kernel
theorem dJ6_bitCount_0f7a4_38 : decode cJ6_bitCount_0f7a4 38 = .ok (.iushr, 1) := by decide +kernel
theorem dJ6_bitCount_0f7a4_39 : decode cJ6_bitCount_0f7a4 39 = .ok (.iadd, 1) := by decide +kernel
theorem dJ6_bitCount_0f7a4_40 : decode cJ6_bitCount_0f7a4 40 = .ok (.istore_n 0, 1) := by decide +kernel
theorem dJ6_bitCount_0f7a4_41 : decode cJ6_bitCount_0f7a4 41 = .ok (.iload_n 0, 1) := by decide +kernel
theorem dJ6_bitCount_0f7a4_42 : decode cJ6_bitCount_0f7a4 42 = .ok (.iload_n 0, 1) := by decide +kernel
theorem dJ6_bitCount_0f7a4_43 : decode cJ6_bitCount_0f7a4 43 = .ok (.bipush 16, 2) := by decide +kernel
theorem dJ6_bitCount_0f7a4_45 : decode cJ6_bitCount_0f7a4 45 = .ok (.iushr, 1) := by decide +kernel
theorem dJ6_bitCount_0f7a4_46 : decode cJ6_bitCount_0f7a4 46 = .ok (.iadd, 1) := by decide +kernel
theorem dJ6_bitCount_0f7a4_47 : decode cJ6_bitCount_0f7a4 47 = .ok (.istore_n 0, 1) := by decide +kernel
theorem dJ6_bitCount_0f7a4_48 : decode cJ6_bitCount_0f7a4 48 = .ok (.iload_n 0, 1) := by decide +kernel
theorem dJ6_bitCount_0f7a4_49 : decode cJ6_bitCount_0f7a4 49 = .ok (.bipush 63, 2) := by decide +kernel
theorem dJ6_bitCount_0f7a4_51 : decode cJ6_bitCount_0f7a4 51 = .ok (.iand, 1) := by decide +kernel
theorem dJ6_bitCount_0f7a4_52 : decode cJ6_bitCount_0f7a4 52 = .ok (.ireturn, 1) := by decide +kernel
theorem dJ9_floorMod_7cf53_0 : decode cJ9_floorMod_7cf53 0 = .ok (.iload_n 0, 1) := by decide +kernel
theorem dJ9_floorMod_7cf53_1 : decode cJ9_floorMod_7cf53 1 = .ok (.iload_n 1, 1) := by decide +kernel
theorem dJ9_floorMod_7cf53_2 : decode cJ9_floorMod_7cf53 2 = .ok (.irem, 1) := by decide +kernel
theorem dJ9_floorMod_7cf53_3 : decode cJ9_floorMod_7cf53 3 = .ok (.istore_n 2, 1) := by decide +kernel
theorem dJ9_floorMod_7cf53_4 : decode cJ9_floorMod_7cf53 4 = .ok (.iload_n 0, 1) := by decide +kernel
theorem dJ9_floorMod_7cf53_5 : decode cJ9_floorMod_7cf53 5 = .ok (.iload_n 1, 1) := by decide +kernel
theorem dJ9_floorMod_7cf53_6 : decode cJ9_floorMod_7cf53 6 = .ok (.ixor, 1) := by decide +kernel
theorem dJ9_floorMod_7cf53_7 : decode cJ9_floorMod_7cf53 7 = .ok (.ifCond .ge 11, 3) := by decide +kernel
theorem dJ9_floorMod_7cf53_10 : decode cJ9_floorMod_7cf53 10 = .ok (.iload_n 2, 1) := by decide +kernel
theorem dJ9_floorMod_7cf53_11 : decode cJ9_floorMod_7cf53 11 = .ok (.ifCond .eq 7, 3) := by decide +kernel
theorem dJ9_floorMod_7cf53_14 : decode cJ9_floorMod_7cf53 14 = .ok (.iload_n 2, 1) := by decide +kernel
theorem dJ9_floorMod_7cf53_15 : decode cJ9_floorMod_7cf53 15 = .ok (.iload_n 1, 1) := by decide +kernel
theorem dJ9_floorMod_7cf53_16 : decode cJ9_floorMod_7cf53 16 = .ok (.iadd, 1) := by decide +kernel
theorem dJ9_floorMod_7cf53_17 : decode cJ9_floorMod_7cf53 17 = .ok (.ireturn, 1) := by decide +kernel
theorem dJ9_floorMod_7cf53_18 : decode cJ9_floorMod_7cf53 18 = .ok (.iload_n 2, 1) := by decide +kernel
theorem dJ9_floorMod_7cf53_19 : decode cJ9_floorMod_7cf53 19 = .ok (.ireturn, 1) := by decide +kernel
theorem dJ9_max_7cf53_0 : decode cJ9_max_7cf53 0 = .ok (.iload_n 0, 1) := by decide +kernel
theorem dJ9_max_7cf53_1 : decode cJ9_max_7cf53 1 = .ok (.iload_n 1, 1) := by decide +kernel
theorem dJ9_max_7cf53_2 : decode cJ9_max_7cf53 2 = .ok (.if_icmp .lt 7, 3) := by decide +kernel
theorem dJ9_max_7cf53_5 : decode cJ9_max_7cf53 5 = .ok (.iload_n 0, 1) := by decide +kernel
theorem dJ9_max_7cf53_6 : decode cJ9_max_7cf53 6 = .ok (.goto 4, 3) := by decide +kernel
theorem dJ9_max_7cf53_9 : decode cJ9_max_7cf53 9 = .ok (.iload_n 1, 1) := by decide +kernel
theorem dJ9_max_7cf53_10 : decode cJ9_max_7cf53 10 = .ok (.ireturn, 1) := by decide +kernel
theorem dL_law_0 : decode cL_law 0 = .ok (.new 7, 3) := by decide +kernel
theorem dL_law_3 : decode cL_law 3 = .ok (.dup, 1) := by decide +kernel
theorem dL_law_4 : decode cL_law 4 = .ok (.invokespecial 9, 3) := by decide +kernel
theorem dL_law_7 : decode cL_law 7 = .ok (.astore_n 1, 1) := by decide +kernel
theorem dL_law_8 : decode cL_law 8 = .ok (.new 10, 3) := by decide +kernel
theorem dL_law_11 : decode cL_law 11 = .ok (.dup, 1) := by decide +kernel
theorem dL_law_12 : decode cL_law 12 = .ok (.invokespecial 12, 3) := by decide +kernel
theorem dL_law_15 : decode cL_law 15 = .ok (.astore_n 2, 1) := by decide +kernel
theorem dL_law_16 : decode cL_law 16 = .ok (.iconst 0, 1) := by decide +kernel
theorem dL_law_17 : decode cL_law 17 = .ok (.istore_n 3, 1) := by decide +kernel
theorem dL_law_18 : decode cL_law 18 = .ok (.iload_n 3, 1) := by decide +kernel
theorem dL_law_19 : decode cL_law 19 = .ok (.aload_n 0, 1) := by decide +kernel
theorem dL_law_20 : decode cL_law 20 = .ok (.arraylength, 1) := by decide +kernel
theorem dL_law_21 : decode cL_law 21 = .ok (.bipush 6, 2) := by decide +kernel
theorem dL_law_23 : decode cL_law 23 = .ok (.isub, 1) := by decide +kernel
theorem dL_law_24 : decode cL_law 24 = .ok (.if_icmp .gt 1527, 3) := by decide +kernel
theorem dL_law_27 : decode cL_law 27 = .ok (.aload_n 0, 1) := by decide +kernel
theorem dL_law_28 : decode cL_law 28 = .ok (.iload_n 3, 1) := by decide +kernel
theorem dL_law_29 : decode cL_law 29 = .ok (.iaload, 1) := by decide +kernel
theorem dL_law_30 : decode cL_law 30 = .ok (.bipush 63, 2) := by decide +kernel
theorem dL_law_32 : decode cL_law 32 = .ok (.iand, 1) := by decide +kernel
theorem dL_law_33 : decode cL_law 33 = .ok (.tableswitch 1512 0 41 #[183, 216, 259, 292, 315, 378, 401, 434, 477, 500, 523, 556, 589, 622, 655, 688, 721, 734, 757, 780, 803, 846, 889, 932, 955, 998, 1041, 1094, 1137, 1190, 1233, 1256, 1279, 1302, 1365, 1398, 1411, 1425, 1439, 1462, 1475, 1498], 183) := by decide +kernel
theorem dL_law_216 : decode cL_law 216 = .ok (.aload_n 1, 1) := by decide +kernel
theorem dL_law_217 : decode cL_law 217 = .ok (.aload_n 0, 1) := by decide +kernel
theorem dL_law_218 : decode cL_law 218 = .ok (.iload_n 3, 1) := by decide +kernel
theorem dL_law_219 : decode cL_law 219 = .ok (.iconst 1, 1) := by decide +kernel
theorem dL_law_220 : decode cL_law 220 = .ok (.iadd, 1) := by decide +kernel
theorem dL_law_221 : decode cL_law 221 = .ok (.iaload, 1) := by decide +kernel
theorem dL_law_222 : decode cL_law 222 = .ok (.aload_n 0, 1) := by decide +kernel
theorem dL_law_223 : decode cL_law 223 = .ok (.iload_n 3, 1) := by decide +kernel
theorem dL_law_224 : decode cL_law 224 = .ok (.iconst 2, 1) := by decide +kernel
theorem dL_law_225 : decode cL_law 225 = .ok (.iadd, 1) := by decide +kernel
theorem dL_law_226 : decode cL_law 226 = .ok (.iaload, 1) := by decide +kernel
theorem dL_law_227 : decode cL_law 227 = .ok (.invokevirtual 13, 3) := by decide +kernel
theorem dL_law_230 : decode cL_law 230 = .ok (.aload_n 2, 1) := by decide +kernel
theorem dL_law_231 : decode cL_law 231 = .ok (.aload_n 0, 1) := by decide +kernel
theorem dL_law_232 : decode cL_law 232 = .ok (.iload_n 3, 1) := by decide +kernel
theorem dL_law_233 : decode cL_law 233 = .ok (.iconst 1, 1) := by decide +kernel
theorem dL_law_234 : decode cL_law 234 = .ok (.iadd, 1) := by decide +kernel
theorem dL_law_235 : decode cL_law 235 = .ok (.iaload, 1) := by decide +kernel
theorem dL_law_236 : decode cL_law 236 = .ok (.aload_n 0, 1) := by decide +kernel
theorem dL_law_237 : decode cL_law 237 = .ok (.iload_n 3, 1) := by decide +kernel
theorem dL_law_238 : decode cL_law 238 = .ok (.iconst 2, 1) := by decide +kernel
theorem dL_law_239 : decode cL_law 239 = .ok (.iadd, 1) := by decide +kernel
theorem dL_law_240 : decode cL_law 240 = .ok (.iaload, 1) := by decide +kernel
theorem dL_law_241 : decode cL_law 241 = .ok (.invokevirtual 17, 3) := by decide +kernel
theorem dL_law_244 : decode cL_law 244 = .ok (.if_icmp .eq 1301, 3) := by decide +kernel
theorem dL_law_247 : decode cL_law 247 = .ok (.iconst 0, 1) := by decide +kernel
theorem dL_law_248 : decode cL_law 248 = .ok (.ireturn, 1) := by decide +kernel
theorem dL_law_249 : decode cL_law 249 = .ok (.aload_n 1, 1) := by decide +kernel
theorem dL_law_250 : decode cL_law 250 = .ok (.aload_n 0, 1) := by decide +kernel
theorem dL_law_251 : decode cL_law 251 = .ok (.iload_n 3, 1) := by decide +kernel
theorem dL_law_252 : decode cL_law 252 = .ok (.iconst 1, 1) := by decide +kernel
theorem dL_law_253 : decode cL_law 253 = .ok (.iadd, 1) := by decide +kernel
theorem dL_law_254 : decode cL_law 254 = .ok (.iaload, 1) := by decide +kernel
theorem dL_law_255 : decode cL_law 255 = .ok (.aload_n 0, 1) := by decide +kernel
theorem dL_law_256 : decode cL_law 256 = .ok (.iload_n 3, 1) := by decide +kernel
theorem dL_law_257 : decode cL_law 257 = .ok (.iconst 2, 1) := by decide +kernel
theorem dL_law_258 : decode cL_law 258 = .ok (.iadd, 1) := by decide +kernel
theorem dL_law_259 : decode cL_law 259 = .ok (.iaload, 1) := by decide +kernel
theorem dL_law_260 : decode cL_law 260 = .ok (.aload_n 0, 1) := by decide +kernel
theorem dL_law_261 : decode cL_law 261 = .ok (.iload_n 3, 1) := by decide +kernel
theorem dL_law_262 : decode cL_law 262 = .ok (.iconst 3, 1) := by decide +kernel
theorem dL_law_263 : decode cL_law 263 = .ok (.iadd, 1) := by decide +kernel
theorem dL_law_264 : decode cL_law 264 = .ok (.iaload, 1) := by decide +kernel
theorem dL_law_265 : decode cL_law 265 = .ok (.invokevirtual 18, 3) := by decide +kernel
theorem dL_law_268 : decode cL_law 268 = .ok (.aload_n 2, 1) := by decide +kernel
theorem dL_law_269 : decode cL_law 269 = .ok (.aload_n 0, 1) := by decide +kernel
theorem dL_law_270 : decode cL_law 270 = .ok (.iload_n 3, 1) := by decide +kernel
theorem dL_law_271 : decode cL_law 271 = .ok (.iconst 1, 1) := by decide +kernel
theorem dL_law_272 : decode cL_law 272 = .ok (.iadd, 1) := by decide +kernel
theorem dL_law_273 : decode cL_law 273 = .ok (.iaload, 1) := by decide +kernel
theorem dL_law_274 : decode cL_law 274 = .ok (.aload_n 0, 1) := by decide +kernel
theorem dL_law_275 : decode cL_law 275 = .ok (.iload_n 3, 1) := by decide +kernel
theorem dL_law_276 : decode cL_law 276 = .ok (.iconst 2, 1) := by decide +kernel
theorem dL_law_277 : decode cL_law 277 = .ok (.iadd, 1) := by decide +kernel
theorem dL_law_278 : decode cL_law 278 = .ok (.iaload, 1) := by decide +kernel
theorem dL_law_279 : decode cL_law 279 = .ok (.aload_n 0, 1) := by decide +kernel
theorem dL_law_280 : decode cL_law 280 = .ok (.iload_n 3, 1) := by decide +kernel
theorem dL_law_281 : decode cL_law 281 = .ok (.iconst 3, 1) := by decide +kernel
theorem dL_law_282 : decode cL_law 282 = .ok (.iadd, 1) := by decide +kernel
theorem dL_law_283 : decode cL_law 283 = .ok (.iaload, 1) := by decide +kernel
theorem dL_law_284 : decode cL_law 284 = .ok (.invokevirtual 22, 3) := by decide +kernel
theorem dL_law_287 : decode cL_law 287 = .ok (.if_icmp .eq 1258, 3) := by decide +kernel
theorem dL_law_290 : decode cL_law 290 = .ok (.iconst 0, 1) := by decide +kernel
theorem dL_law_291 : decode cL_law 291 = .ok (.ireturn, 1) := by decide +kernel
theorem dL_law_292 : decode cL_law 292 = .ok (.aload_n 1, 1) := by decide +kernel
theorem dL_law_293 : decode cL_law 293 = .ok (.aload_n 0, 1) := by decide +kernel
theorem dL_law_294 : decode cL_law 294 = .ok (.iload_n 3, 1) := by decide +kernel
theorem dL_law_295 : decode cL_law 295 = .ok (.iconst 1, 1) := by decide +kernel
theorem dL_law_296 : decode cL_law 296 = .ok (.iadd, 1) := by decide +kernel
theorem dL_law_297 : decode cL_law 297 = .ok (.iaload, 1) := by decide +kernel
theorem dL_law_298 : decode cL_law 298 = .ok (.aload_n 0, 1) := by decide +kernel
theorem dL_law_299 : decode cL_law 299 = .ok (.iload_n 3, 1) := by decide +kernel
theorem dL_law_300 : decode cL_law 300 = .ok (.iconst 2, 1) := by decide +kernel
theorem dL_law_301 : decode cL_law 301 = .ok (.iadd, 1) := by decide +kernel
theorem dL_law_302 : decode cL_law 302 = .ok (.iaload, 1) := by decide +kernel
theorem dL_law_303 : decode cL_law 303 = .ok (.invokevirtual 23, 3) := by decide +kernel
theorem dL_law_306 : decode cL_law 306 = .ok (.aload_n 2, 1) := by decide +kernel
theorem dL_law_307 : decode cL_law 307 = .ok (.aload_n 0, 1) := by decide +kernel
theorem dL_law_308 : decode cL_law 308 = .ok (.iload_n 3, 1) := by decide +kernel
theorem dL_law_309 : decode cL_law 309 = .ok (.iconst 1, 1) := by decide +kernel
theorem dL_law_310 : decode cL_law 310 = .ok (.iadd, 1) := by decide +kernel
theorem dL_law_311 : decode cL_law 311 = .ok (.iaload, 1) := by decide +kernel
theorem dL_law_312 : decode cL_law 312 = .ok (.aload_n 0, 1) := by decide +kernel
theorem dL_law_313 : decode cL_law 313 = .ok (.iload_n 3, 1) := by decide +kernel
theorem dL_law_314 : decode cL_law 314 = .ok (.iconst 2, 1) := by decide +kernel
theorem dL_law_315 : decode cL_law 315 = .ok (.iadd, 1) := by decide +kernel
theorem dL_law_316 : decode cL_law 316 = .ok (.iaload, 1) := by decide +kernel
theorem dL_law_317 : decode cL_law 317 = .ok (.invokevirtual 26, 3) := by decide +kernel
theorem dL_law_320 : decode cL_law 320 = .ok (.if_icmp .eq 1225, 3) := by decide +kernel
theorem dL_law_323 : decode cL_law 323 = .ok (.iconst 0, 1) := by decide +kernel
theorem dL_law_324 : decode cL_law 324 = .ok (.ireturn, 1) := by decide +kernel
theorem dL_law_325 : decode cL_law 325 = .ok (.aload_n 1, 1) := by decide +kernel
theorem dL_law_326 : decode cL_law 326 = .ok (.aload_n 0, 1) := by decide +kernel
theorem dL_law_327 : decode cL_law 327 = .ok (.iload_n 3, 1) := by decide +kernel
theorem dL_law_328 : decode cL_law 328 = .ok (.iconst 1, 1) := by decide +kernel
theorem dL_law_329 : decode cL_law 329 = .ok (.iadd, 1) := by decide +kernel
theorem dL_law_330 : decode cL_law 330 = .ok (.iaload, 1) := by decide +kernel
theorem dL_law_331 : decode cL_law 331 = .ok (.invokevirtual 27, 3) := by decide +kernel
theorem dL_law_334 : decode cL_law 334 = .ok (.aload_n 2, 1) := by decide +kernel
theorem dL_law_335 : decode cL_law 335 = .ok (.aload_n 0, 1) := by decide +kernel
theorem dL_law_336 : decode cL_law 336 = .ok (.iload_n 3, 1) := by decide +kernel
theorem dL_law_337 : decode cL_law 337 = .ok (.iconst 1, 1) := by decide +kernel
theorem dL_law_338 : decode cL_law 338 = .ok (.iadd, 1) := by decide +kernel
theorem dL_law_339 : decode cL_law 339 = .ok (.iaload, 1) := by decide +kernel
theorem dL_law_340 : decode cL_law 340 = .ok (.invokevirtual 31, 3) := by decide +kernel
theorem dL_law_343 : decode cL_law 343 = .ok (.if_icmp .eq 1202, 3) := by decide +kernel
theorem dL_law_346 : decode cL_law 346 = .ok (.iconst 0, 1) := by decide +kernel
theorem dL_law_347 : decode cL_law 347 = .ok (.ireturn, 1) := by decide +kernel
theorem dL_law_348 : decode cL_law 348 = .ok (.aload_n 1, 1) := by decide +kernel
theorem dL_law_349 : decode cL_law 349 = .ok (.aload_n 0, 1) := by decide +kernel
theorem dL_law_350 : decode cL_law 350 = .ok (.iload_n 3, 1) := by decide +kernel
theorem dL_law_351 : decode cL_law 351 = .ok (.iconst 1, 1) := by decide +kernel
theorem dL_law_352 : decode cL_law 352 = .ok (.iadd, 1) := by decide +kernel
theorem dL_law_353 : decode cL_law 353 = .ok (.iaload, 1) := by decide +kernel
theorem dL_law_354 : decode cL_law 354 = .ok (.aload_n 0, 1) := by decide +kernel
theorem dL_law_355 : decode cL_law 355 = .ok (.iload_n 3, 1) := by decide +kernel
theorem dL_law_356 : decode cL_law 356 = .ok (.iconst 2, 1) := by decide +kernel
theorem dL_law_357 : decode cL_law 357 = .ok (.iadd, 1) := by decide +kernel
theorem dL_law_358 : decode cL_law 358 = .ok (.iaload, 1) := by decide +kernel
theorem dL_law_359 : decode cL_law 359 = .ok (.aload_n 0, 1) := by decide +kernel
theorem dL_law_360 : decode cL_law 360 = .ok (.iload_n 3, 1) := by decide +kernel
theorem dL_law_361 : decode cL_law 361 = .ok (.iconst 3, 1) := by decide +kernel
theorem dL_law_362 : decode cL_law 362 = .ok (.iadd, 1) := by decide +kernel
theorem dL_law_363 : decode cL_law 363 = .ok (.iaload, 1) := by decide +kernel
theorem dL_law_364 : decode cL_law 364 = .ok (.aload_n 0, 1) := by decide +kernel
theorem dL_law_365 : decode cL_law 365 = .ok (.iload_n 3, 1) := by decide +kernel
theorem dL_law_366 : decode cL_law 366 = .ok (.iconst 4, 1) := by decide +kernel
theorem dL_law_367 : decode cL_law 367 = .ok (.iadd, 1) := by decide +kernel
theorem dL_law_368 : decode cL_law 368 = .ok (.iaload, 1) := by decide +kernel
theorem dL_law_369 : decode cL_law 369 = .ok (.aload_n 0, 1) := by decide +kernel
theorem dL_law_370 : decode cL_law 370 = .ok (.iload_n 3, 1) := by decide +kernel
theorem dL_law_371 : decode cL_law 371 = .ok (.iconst 5, 1) := by decide +kernel
theorem dL_law_372 : decode cL_law 372 = .ok (.iadd, 1) := by decide +kernel
theorem dL_law_373 : decode cL_law 373 = .ok (.iaload, 1) := by decide +kernel
theorem dL_law_374 : decode cL_law 374 = .ok (.invokevirtual 32, 3) := by decide +kernel
theorem dL_law_377 : decode cL_law 377 = .ok (.aload_n 2, 1) := by decide +kernel
theorem dL_law_378 : decode cL_law 378 = .ok (.aload_n 0, 1) := by decide +kernel
theorem dL_law_379 : decode cL_law 379 = .ok (.iload_n 3, 1) := by decide +kernel
theorem dL_law_380 : decode cL_law 380 = .ok (.iconst 1, 1) := by decide +kernel
theorem dL_law_381 : decode cL_law 381 = .ok (.iadd, 1) := by decide +kernel
theorem dL_law_382 : decode cL_law 382 = .ok (.iaload, 1) := by decide +kernel
theorem dL_law_383 : decode cL_law 383 = .ok (.aload_n 0, 1) := by decide +kernel
theorem dL_law_384 : decode cL_law 384 = .ok (.iload_n 3, 1) := by decide +kernel
theorem dL_law_385 : decode cL_law 385 = .ok (.iconst 2, 1) := by decide +kernel
theorem dL_law_386 : decode cL_law 386 = .ok (.iadd, 1) := by decide +kernel
theorem dL_law_387 : decode cL_law 387 = .ok (.iaload, 1) := by decide +kernel
theorem dL_law_388 : decode cL_law 388 = .ok (.aload_n 0, 1) := by decide +kernel
theorem dL_law_389 : decode cL_law 389 = .ok (.iload_n 3, 1) := by decide +kernel
theorem dL_law_390 : decode cL_law 390 = .ok (.iconst 3, 1) := by decide +kernel
theorem dL_law_391 : decode cL_law 391 = .ok (.iadd, 1) := by decide +kernel
theorem dL_law_392 : decode cL_law 392 = .ok (.iaload, 1) := by decide +kernel
theorem dL_law_393 : decode cL_law 393 = .ok (.aload_n 0, 1) := by decide +kernel
theorem dL_law_394 : decode cL_law 394 = .ok (.iload_n 3, 1) := by decide +kernel
theorem dL_law_395 : decode cL_law 395 = .ok (.iconst 4, 1) := by decide +kernel
theorem dL_law_396 : decode cL_law 396 = .ok (.iadd, 1) := by decide +kernel
theorem dL_law_397 : decode cL_law 397 = .ok (.iaload, 1) := by decide +kernel
theorem dL_law_398 : decode cL_law 398 = .ok (.aload_n 0, 1) := by decide +kernel
theorem dL_law_399 : decode cL_law 399 = .ok (.iload_n 3, 1) := by decide +kernel
theorem dL_law_400 : decode cL_law 400 = .ok (.iconst 5, 1) := by decide +kernel
theorem dL_law_401 : decode cL_law 401 = .ok (.iadd, 1) := by decide +kernel
theorem dL_law_402 : decode cL_law 402 = .ok (.iaload, 1) := by decide +kernel
theorem dL_law_403 : decode cL_law 403 = .ok (.invokevirtual 36, 3) := by decide +kernel
theorem dL_law_406 : decode cL_law 406 = .ok (.if_icmp .eq 1139, 3) := by decide +kernel
theorem dL_law_409 : decode cL_law 409 = .ok (.iconst 0, 1) := by decide +kernel
theorem dL_law_410 : decode cL_law 410 = .ok (.ireturn, 1) := by decide +kernel
theorem dL_law_411 : decode cL_law 411 = .ok (.aload_n 1, 1) := by decide +kernel
theorem dL_law_412 : decode cL_law 412 = .ok (.aload_n 0, 1) := by decide +kernel
theorem dL_law_413 : decode cL_law 413 = .ok (.iload_n 3, 1) := by decide +kernel
theorem dL_law_414 : decode cL_law 414 = .ok (.iconst 1, 1) := by decide +kernel
theorem dL_law_415 : decode cL_law 415 = .ok (.iadd, 1) := by decide +kernel
theorem dL_law_416 : decode cL_law 416 = .ok (.iaload, 1) := by decide +kernel
theorem dL_law_417 : decode cL_law 417 = .ok (.invokevirtual 37, 3) := by decide +kernel
theorem dL_law_420 : decode cL_law 420 = .ok (.aload_n 2, 1) := by decide +kernel
theorem dL_law_421 : decode cL_law 421 = .ok (.aload_n 0, 1) := by decide +kernel
theorem dL_law_422 : decode cL_law 422 = .ok (.iload_n 3, 1) := by decide +kernel
theorem dL_law_423 : decode cL_law 423 = .ok (.iconst 1, 1) := by decide +kernel
theorem dL_law_424 : decode cL_law 424 = .ok (.iadd, 1) := by decide +kernel
theorem dL_law_425 : decode cL_law 425 = .ok (.iaload, 1) := by decide +kernel
theorem dL_law_426 : decode cL_law 426 = .ok (.invokevirtual 40, 3) := by decide +kernel
theorem dL_law_429 : decode cL_law 429 = .ok (.if_icmp .eq 1116, 3) := by decide +kernel
theorem dL_law_432 : decode cL_law 432 = .ok (.iconst 0, 1) := by decide +kernel
theorem dL_law_433 : decode cL_law 433 = .ok (.ireturn, 1) := by decide +kernel
theorem dL_law_434 : decode cL_law 434 = .ok (.aload_n 1, 1) := by decide +kernel
theorem dL_law_435 : decode cL_law 435 = .ok (.aload_n 0, 1) := by decide +kernel
theorem dL_law_436 : decode cL_law 436 = .ok (.iload_n 3, 1) := by decide +kernel
theorem dL_law_437 : decode cL_law 437 = .ok (.iconst 1, 1) := by decide +kernel
theorem dL_law_438 : decode cL_law 438 = .ok (.iadd, 1) := by decide +kernel
theorem dL_law_439 : decode cL_law 439 = .ok (.iaload, 1) := by decide +kernel
theorem dL_law_440 : decode cL_law 440 = .ok (.aload_n 0, 1) := by decide +kernel
theorem dL_law_441 : decode cL_law 441 = .ok (.iload_n 3, 1) := by decide +kernel
theorem dL_law_442 : decode cL_law 442 = .ok (.iconst 2, 1) := by decide +kernel
theorem dL_law_443 : decode cL_law 443 = .ok (.iadd, 1) := by decide +kernel
theorem dL_law_444 : decode cL_law 444 = .ok (.iaload, 1) := by decide +kernel
theorem dL_law_445 : decode cL_law 445 = .ok (.invokevirtual 41, 3) := by decide +kernel
theorem dL_law_448 : decode cL_law 448 = .ok (.aload_n 2, 1) := by decide +kernel
theorem dL_law_449 : decode cL_law 449 = .ok (.aload_n 0, 1) := by decide +kernel
theorem dL_law_450 : decode cL_law 450 = .ok (.iload_n 3, 1) := by decide +kernel
theorem dL_law_451 : decode cL_law 451 = .ok (.iconst 1, 1) := by decide +kernel
theorem dL_law_452 : decode cL_law 452 = .ok (.iadd, 1) := by decide +kernel
theorem dL_law_453 : decode cL_law 453 = .ok (.iaload, 1) := by decide +kernel
theorem dL_law_454 : decode cL_law 454 = .ok (.aload_n 0, 1) := by decide +kernel
theorem dL_law_455 : decode cL_law 455 = .ok (.iload_n 3, 1) := by decide +kernel
theorem dL_law_456 : decode cL_law 456 = .ok (.iconst 2, 1) := by decide +kernel
theorem dL_law_457 : decode cL_law 457 = .ok (.iadd, 1) := by decide +kernel
theorem dL_law_458 : decode cL_law 458 = .ok (.iaload, 1) := by decide +kernel
theorem dL_law_459 : decode cL_law 459 = .ok (.invokevirtual 44, 3) := by decide +kernel
theorem dL_law_462 : decode cL_law 462 = .ok (.if_icmp .eq 1083, 3) := by decide +kernel
theorem dL_law_465 : decode cL_law 465 = .ok (.iconst 0, 1) := by decide +kernel
theorem dL_law_466 : decode cL_law 466 = .ok (.ireturn, 1) := by decide +kernel
theorem dL_law_467 : decode cL_law 467 = .ok (.aload_n 1, 1) := by decide +kernel
theorem dL_law_468 : decode cL_law 468 = .ok (.aload_n 0, 1) := by decide +kernel
theorem dL_law_469 : decode cL_law 469 = .ok (.iload_n 3, 1) := by decide +kernel
theorem dL_law_470 : decode cL_law 470 = .ok (.iconst 1, 1) := by decide +kernel
theorem dL_law_471 : decode cL_law 471 = .ok (.iadd, 1) := by decide +kernel
theorem dL_law_472 : decode cL_law 472 = .ok (.iaload, 1) := by decide +kernel
theorem dL_law_473 : decode cL_law 473 = .ok (.aload_n 0, 1) := by decide +kernel
theorem dL_law_474 : decode cL_law 474 = .ok (.iload_n 3, 1) := by decide +kernel
theorem dL_law_475 : decode cL_law 475 = .ok (.iconst 2, 1) := by decide +kernel
theorem dL_law_476 : decode cL_law 476 = .ok (.iadd, 1) := by decide +kernel
theorem dL_law_477 : decode cL_law 477 = .ok (.iaload, 1) := by decide +kernel
theorem dL_law_478 : decode cL_law 478 = .ok (.aload_n 0, 1) := by decide +kernel
theorem dL_law_479 : decode cL_law 479 = .ok (.iload_n 3, 1) := by decide +kernel
theorem dL_law_480 : decode cL_law 480 = .ok (.iconst 3, 1) := by decide +kernel
theorem dL_law_481 : decode cL_law 481 = .ok (.iadd, 1) := by decide +kernel
theorem dL_law_482 : decode cL_law 482 = .ok (.iaload, 1) := by decide +kernel
theorem dL_law_483 : decode cL_law 483 = .ok (.invokevirtual 45, 3) := by decide +kernel
theorem dL_law_486 : decode cL_law 486 = .ok (.aload_n 2, 1) := by decide +kernel
theorem dL_law_487 : decode cL_law 487 = .ok (.aload_n 0, 1) := by decide +kernel
theorem dL_law_488 : decode cL_law 488 = .ok (.iload_n 3, 1) := by decide +kernel
theorem dL_law_489 : decode cL_law 489 = .ok (.iconst 1, 1) := by decide +kernel
theorem dL_law_490 : decode cL_law 490 = .ok (.iadd, 1) := by decide +kernel
theorem dL_law_491 : decode cL_law 491 = .ok (.iaload, 1) := by decide +kernel
theorem dL_law_492 : decode cL_law 492 = .ok (.aload_n 0, 1) := by decide +kernel
theorem dL_law_493 : decode cL_law 493 = .ok (.iload_n 3, 1) := by decide +kernel
theorem dL_law_494 : decode cL_law 494 = .ok (.iconst 2, 1) := by decide +kernel
theorem dL_law_495 : decode cL_law 495 = .ok (.iadd, 1) := by decide +kernel
theorem dL_law_496 : decode cL_law 496 = .ok (.iaload, 1) := by decide +kernel
theorem dL_law_497 : decode cL_law 497 = .ok (.aload_n 0, 1) := by decide +kernel
theorem dL_law_498 : decode cL_law 498 = .ok (.iload_n 3, 1) := by decide +kernel
theorem dL_law_499 : decode cL_law 499 = .ok (.iconst 3, 1) := by decide +kernel
theorem dL_law_500 : decode cL_law 500 = .ok (.iadd, 1) := by decide +kernel
theorem dL_law_501 : decode cL_law 501 = .ok (.iaload, 1) := by decide +kernel
theorem dL_law_502 : decode cL_law 502 = .ok (.invokevirtual 48, 3) := by decide +kernel
theorem dL_law_505 : decode cL_law 505 = .ok (.if_icmp .eq 1040, 3) := by decide +kernel
theorem dL_law_508 : decode cL_law 508 = .ok (.iconst 0, 1) := by decide +kernel
theorem dL_law_509 : decode cL_law 509 = .ok (.ireturn, 1) := by decide +kernel
theorem dL_law_510 : decode cL_law 510 = .ok (.aload_n 1, 1) := by decide +kernel
theorem dL_law_511 : decode cL_law 511 = .ok (.aload_n 0, 1) := by decide +kernel
theorem dL_law_512 : decode cL_law 512 = .ok (.iload_n 3, 1) := by decide +kernel
theorem dL_law_513 : decode cL_law 513 = .ok (.iconst 1, 1) := by decide +kernel
theorem dL_law_514 : decode cL_law 514 = .ok (.iadd, 1) := by decide +kernel
theorem dL_law_515 : decode cL_law 515 = .ok (.iaload, 1) := by decide +kernel
theorem dL_law_516 : decode cL_law 516 = .ok (.invokevirtual 49, 3) := by decide +kernel
theorem dL_law_519 : decode cL_law 519 = .ok (.aload_n 2, 1) := by decide +kernel
theorem dL_law_520 : decode cL_law 520 = .ok (.aload_n 0, 1) := by decide +kernel
theorem dL_law_521 : decode cL_law 521 = .ok (.iload_n 3, 1) := by decide +kernel
theorem dL_law_522 : decode cL_law 522 = .ok (.iconst 1, 1) := by decide +kernel
theorem dL_law_523 : decode cL_law 523 = .ok (.iadd, 1) := by decide +kernel
theorem dL_law_524 : decode cL_law 524 = .ok (.iaload, 1) := by decide +kernel
theorem dL_law_525 : decode cL_law 525 = .ok (.invokevirtual 52, 3) := by decide +kernel
theorem dL_law_528 : decode cL_law 528 = .ok (.if_icmp .eq 1017, 3) := by decide +kernel
theorem dL_law_531 : decode cL_law 531 = .ok (.iconst 0, 1) := by decide +kernel
theorem dL_law_532 : decode cL_law 532 = .ok (.ireturn, 1) := by decide +kernel
theorem dL_law_533 : decode cL_law 533 = .ok (.aload_n 1, 1) := by decide +kernel
theorem dL_law_534 : decode cL_law 534 = .ok (.aload_n 0, 1) := by decide +kernel
theorem dL_law_535 : decode cL_law 535 = .ok (.iload_n 3, 1) := by decide +kernel
theorem dL_law_536 : decode cL_law 536 = .ok (.iconst 1, 1) := by decide +kernel
theorem dL_law_537 : decode cL_law 537 = .ok (.iadd, 1) := by decide +kernel
theorem dL_law_538 : decode cL_law 538 = .ok (.iaload, 1) := by decide +kernel
theorem dL_law_539 : decode cL_law 539 = .ok (.invokevirtual 53, 3) := by decide +kernel
theorem dL_law_542 : decode cL_law 542 = .ok (.aload_n 2, 1) := by decide +kernel
theorem dL_law_543 : decode cL_law 543 = .ok (.aload_n 0, 1) := by decide +kernel
theorem dL_law_544 : decode cL_law 544 = .ok (.iload_n 3, 1) := by decide +kernel
theorem dL_law_545 : decode cL_law 545 = .ok (.iconst 1, 1) := by decide +kernel
theorem dL_law_546 : decode cL_law 546 = .ok (.iadd, 1) := by decide +kernel
theorem dL_law_547 : decode cL_law 547 = .ok (.iaload, 1) := by decide +kernel
theorem dL_law_548 : decode cL_law 548 = .ok (.invokevirtual 56, 3) := by decide +kernel
theorem dL_law_551 : decode cL_law 551 = .ok (.if_icmp .eq 994, 3) := by decide +kernel
theorem dL_law_554 : decode cL_law 554 = .ok (.iconst 0, 1) := by decide +kernel
theorem dL_law_555 : decode cL_law 555 = .ok (.ireturn, 1) := by decide +kernel
theorem dL_law_556 : decode cL_law 556 = .ok (.aload_n 1, 1) := by decide +kernel
theorem dL_law_557 : decode cL_law 557 = .ok (.aload_n 0, 1) := by decide +kernel
theorem dL_law_558 : decode cL_law 558 = .ok (.iload_n 3, 1) := by decide +kernel
theorem dL_law_559 : decode cL_law 559 = .ok (.iconst 1, 1) := by decide +kernel
theorem dL_law_560 : decode cL_law 560 = .ok (.iadd, 1) := by decide +kernel
theorem dL_law_561 : decode cL_law 561 = .ok (.iaload, 1) := by decide +kernel
theorem dL_law_562 : decode cL_law 562 = .ok (.aload_n 0, 1) := by decide +kernel
theorem dL_law_563 : decode cL_law 563 = .ok (.iload_n 3, 1) := by decide +kernel
theorem dL_law_564 : decode cL_law 564 = .ok (.iconst 2, 1) := by decide +kernel
theorem dL_law_565 : decode cL_law 565 = .ok (.iadd, 1) := by decide +kernel
theorem dL_law_566 : decode cL_law 566 = .ok (.iaload, 1) := by decide +kernel
theorem dL_law_567 : decode cL_law 567 = .ok (.invokevirtual 57, 3) := by decide +kernel
theorem dL_law_570 : decode cL_law 570 = .ok (.aload_n 2, 1) := by decide +kernel
theorem dL_law_571 : decode cL_law 571 = .ok (.aload_n 0, 1) := by decide +kernel
theorem dL_law_572 : decode cL_law 572 = .ok (.iload_n 3, 1) := by decide +kernel
theorem dL_law_573 : decode cL_law 573 = .ok (.iconst 1, 1) := by decide +kernel
theorem dL_law_574 : decode cL_law 574 = .ok (.iadd, 1) := by decide +kernel
theorem dL_law_575 : decode cL_law 575 = .ok (.iaload, 1) := by decide +kernel
theorem dL_law_576 : decode cL_law 576 = .ok (.aload_n 0, 1) := by decide +kernel
theorem dL_law_577 : decode cL_law 577 = .ok (.iload_n 3, 1) := by decide +kernel
theorem dL_law_578 : decode cL_law 578 = .ok (.iconst 2, 1) := by decide +kernel
theorem dL_law_579 : decode cL_law 579 = .ok (.iadd, 1) := by decide +kernel
theorem dL_law_580 : decode cL_law 580 = .ok (.iaload, 1) := by decide +kernel
theorem dL_law_581 : decode cL_law 581 = .ok (.invokevirtual 60, 3) := by decide +kernel
theorem dL_law_584 : decode cL_law 584 = .ok (.if_icmp .eq 961, 3) := by decide +kernel
theorem dL_law_587 : decode cL_law 587 = .ok (.iconst 0, 1) := by decide +kernel
theorem dL_law_588 : decode cL_law 588 = .ok (.ireturn, 1) := by decide +kernel
theorem dL_law_589 : decode cL_law 589 = .ok (.aload_n 1, 1) := by decide +kernel
theorem dL_law_590 : decode cL_law 590 = .ok (.aload_n 0, 1) := by decide +kernel
theorem dL_law_591 : decode cL_law 591 = .ok (.iload_n 3, 1) := by decide +kernel
theorem dL_law_592 : decode cL_law 592 = .ok (.iconst 1, 1) := by decide +kernel
theorem dL_law_593 : decode cL_law 593 = .ok (.iadd, 1) := by decide +kernel
theorem dL_law_594 : decode cL_law 594 = .ok (.iaload, 1) := by decide +kernel
theorem dL_law_595 : decode cL_law 595 = .ok (.aload_n 0, 1) := by decide +kernel
theorem dL_law_596 : decode cL_law 596 = .ok (.iload_n 3, 1) := by decide +kernel
theorem dL_law_597 : decode cL_law 597 = .ok (.iconst 2, 1) := by decide +kernel
theorem dL_law_598 : decode cL_law 598 = .ok (.iadd, 1) := by decide +kernel
theorem dL_law_599 : decode cL_law 599 = .ok (.iaload, 1) := by decide +kernel
theorem dL_law_600 : decode cL_law 600 = .ok (.invokevirtual 61, 3) := by decide +kernel
theorem dL_law_603 : decode cL_law 603 = .ok (.aload_n 2, 1) := by decide +kernel
theorem dL_law_604 : decode cL_law 604 = .ok (.aload_n 0, 1) := by decide +kernel
theorem dL_law_605 : decode cL_law 605 = .ok (.iload_n 3, 1) := by decide +kernel
theorem dL_law_606 : decode cL_law 606 = .ok (.iconst 1, 1) := by decide +kernel
theorem dL_law_607 : decode cL_law 607 = .ok (.iadd, 1) := by decide +kernel
theorem dL_law_608 : decode cL_law 608 = .ok (.iaload, 1) := by decide +kernel
theorem dL_law_609 : decode cL_law 609 = .ok (.aload_n 0, 1) := by decide +kernel
theorem dL_law_610 : decode cL_law 610 = .ok (.iload_n 3, 1) := by decide +kernel
theorem dL_law_611 : decode cL_law 611 = .ok (.iconst 2, 1) := by decide +kernel
theorem dL_law_612 : decode cL_law 612 = .ok (.iadd, 1) := by decide +kernel
theorem dL_law_613 : decode cL_law 613 = .ok (.iaload, 1) := by decide +kernel
theorem dL_law_614 : decode cL_law 614 = .ok (.invokevirtual 64, 3) := by decide +kernel
theorem dL_law_617 : decode cL_law 617 = .ok (.if_icmp .eq 928, 3) := by decide +kernel
theorem dL_law_620 : decode cL_law 620 = .ok (.iconst 0, 1) := by decide +kernel
theorem dL_law_621 : decode cL_law 621 = .ok (.ireturn, 1) := by decide +kernel
theorem dL_law_622 : decode cL_law 622 = .ok (.aload_n 1, 1) := by decide +kernel
theorem dL_law_623 : decode cL_law 623 = .ok (.aload_n 0, 1) := by decide +kernel
theorem dL_law_624 : decode cL_law 624 = .ok (.iload_n 3, 1) := by decide +kernel
theorem dL_law_625 : decode cL_law 625 = .ok (.iconst 1, 1) := by decide +kernel
theorem dL_law_626 : decode cL_law 626 = .ok (.iadd, 1) := by decide +kernel
theorem dL_law_627 : decode cL_law 627 = .ok (.iaload, 1) := by decide +kernel
theorem dL_law_628 : decode cL_law 628 = .ok (.aload_n 0, 1) := by decide +kernel
theorem dL_law_629 : decode cL_law 629 = .ok (.iload_n 3, 1) := by decide +kernel
theorem dL_law_630 : decode cL_law 630 = .ok (.iconst 2, 1) := by decide +kernel
theorem dL_law_631 : decode cL_law 631 = .ok (.iadd, 1) := by decide +kernel
theorem dL_law_632 : decode cL_law 632 = .ok (.iaload, 1) := by decide +kernel
theorem dL_law_633 : decode cL_law 633 = .ok (.invokevirtual 65, 3) := by decide +kernel
theorem dL_law_636 : decode cL_law 636 = .ok (.aload_n 2, 1) := by decide +kernel
theorem dL_law_637 : decode cL_law 637 = .ok (.aload_n 0, 1) := by decide +kernel
theorem dL_law_638 : decode cL_law 638 = .ok (.iload_n 3, 1) := by decide +kernel
theorem dL_law_639 : decode cL_law 639 = .ok (.iconst 1, 1) := by decide +kernel
theorem dL_law_640 : decode cL_law 640 = .ok (.iadd, 1) := by decide +kernel
theorem dL_law_641 : decode cL_law 641 = .ok (.iaload, 1) := by decide +kernel
theorem dL_law_642 : decode cL_law 642 = .ok (.aload_n 0, 1) := by decide +kernel
theorem dL_law_643 : decode cL_law 643 = .ok (.iload_n 3, 1) := by decide +kernel
theorem dL_law_644 : decode cL_law 644 = .ok (.iconst 2, 1) := by decide +kernel
theorem dL_law_645 : decode cL_law 645 = .ok (.iadd, 1) := by decide +kernel
theorem dL_law_646 : decode cL_law 646 = .ok (.iaload, 1) := by decide +kernel
theorem dL_law_647 : decode cL_law 647 = .ok (.invokevirtual 68, 3) := by decide +kernel
theorem dL_law_650 : decode cL_law 650 = .ok (.if_icmp .eq 895, 3) := by decide +kernel
theorem dL_law_653 : decode cL_law 653 = .ok (.iconst 0, 1) := by decide +kernel
theorem dL_law_654 : decode cL_law 654 = .ok (.ireturn, 1) := by decide +kernel
theorem dL_law_655 : decode cL_law 655 = .ok (.aload_n 1, 1) := by decide +kernel
theorem dL_law_656 : decode cL_law 656 = .ok (.aload_n 0, 1) := by decide +kernel
theorem dL_law_657 : decode cL_law 657 = .ok (.iload_n 3, 1) := by decide +kernel
theorem dL_law_658 : decode cL_law 658 = .ok (.iconst 1, 1) := by decide +kernel
theorem dL_law_659 : decode cL_law 659 = .ok (.iadd, 1) := by decide +kernel
theorem dL_law_660 : decode cL_law 660 = .ok (.iaload, 1) := by decide +kernel
theorem dL_law_661 : decode cL_law 661 = .ok (.aload_n 0, 1) := by decide +kernel
theorem dL_law_662 : decode cL_law 662 = .ok (.iload_n 3, 1) := by decide +kernel
theorem dL_law_663 : decode cL_law 663 = .ok (.iconst 2, 1) := by decide +kernel
theorem dL_law_664 : decode cL_law 664 = .ok (.iadd, 1) := by decide +kernel
theorem dL_law_665 : decode cL_law 665 = .ok (.iaload, 1) := by decide +kernel
theorem dL_law_666 : decode cL_law 666 = .ok (.invokevirtual 69, 3) := by decide +kernel
theorem dL_law_669 : decode cL_law 669 = .ok (.aload_n 2, 1) := by decide +kernel
theorem dL_law_670 : decode cL_law 670 = .ok (.aload_n 0, 1) := by decide +kernel
theorem dL_law_671 : decode cL_law 671 = .ok (.iload_n 3, 1) := by decide +kernel
theorem dL_law_672 : decode cL_law 672 = .ok (.iconst 1, 1) := by decide +kernel
theorem dL_law_673 : decode cL_law 673 = .ok (.iadd, 1) := by decide +kernel
theorem dL_law_674 : decode cL_law 674 = .ok (.iaload, 1) := by decide +kernel
theorem dL_law_675 : decode cL_law 675 = .ok (.aload_n 0, 1) := by decide +kernel
theorem dL_law_676 : decode cL_law 676 = .ok (.iload_n 3, 1) := by decide +kernel
theorem dL_law_677 : decode cL_law 677 = .ok (.iconst 2, 1) := by decide +kernel
theorem dL_law_678 : decode cL_law 678 = .ok (.iadd, 1) := by decide +kernel
theorem dL_law_679 : decode cL_law 679 = .ok (.iaload, 1) := by decide +kernel
theorem dL_law_680 : decode cL_law 680 = .ok (.invokevirtual 72, 3) := by decide +kernel
theorem dL_law_683 : decode cL_law 683 = .ok (.if_icmp .eq 862, 3) := by decide +kernel
theorem dL_law_686 : decode cL_law 686 = .ok (.iconst 0, 1) := by decide +kernel
theorem dL_law_687 : decode cL_law 687 = .ok (.ireturn, 1) := by decide +kernel
theorem dL_law_688 : decode cL_law 688 = .ok (.aload_n 1, 1) := by decide +kernel
theorem dL_law_689 : decode cL_law 689 = .ok (.aload_n 0, 1) := by decide +kernel
theorem dL_law_690 : decode cL_law 690 = .ok (.iload_n 3, 1) := by decide +kernel
theorem dL_law_691 : decode cL_law 691 = .ok (.iconst 1, 1) := by decide +kernel
theorem dL_law_692 : decode cL_law 692 = .ok (.iadd, 1) := by decide +kernel
theorem dL_law_693 : decode cL_law 693 = .ok (.iaload, 1) := by decide +kernel
theorem dL_law_694 : decode cL_law 694 = .ok (.aload_n 0, 1) := by decide +kernel
theorem dL_law_695 : decode cL_law 695 = .ok (.iload_n 3, 1) := by decide +kernel
theorem dL_law_696 : decode cL_law 696 = .ok (.iconst 2, 1) := by decide +kernel
theorem dL_law_697 : decode cL_law 697 = .ok (.iadd, 1) := by decide +kernel
theorem dL_law_698 : decode cL_law 698 = .ok (.iaload, 1) := by decide +kernel
theorem dL_law_699 : decode cL_law 699 = .ok (.invokevirtual 73, 3) := by decide +kernel
theorem dL_law_702 : decode cL_law 702 = .ok (.aload_n 2, 1) := by decide +kernel
theorem dL_law_703 : decode cL_law 703 = .ok (.aload_n 0, 1) := by decide +kernel
theorem dL_law_704 : decode cL_law 704 = .ok (.iload_n 3, 1) := by decide +kernel
theorem dL_law_705 : decode cL_law 705 = .ok (.iconst 1, 1) := by decide +kernel
theorem dL_law_706 : decode cL_law 706 = .ok (.iadd, 1) := by decide +kernel
theorem dL_law_707 : decode cL_law 707 = .ok (.iaload, 1) := by decide +kernel
theorem dL_law_708 : decode cL_law 708 = .ok (.aload_n 0, 1) := by decide +kernel
theorem dL_law_709 : decode cL_law 709 = .ok (.iload_n 3, 1) := by decide +kernel
theorem dL_law_710 : decode cL_law 710 = .ok (.iconst 2, 1) := by decide +kernel
theorem dL_law_711 : decode cL_law 711 = .ok (.iadd, 1) := by decide +kernel
theorem dL_law_712 : decode cL_law 712 = .ok (.iaload, 1) := by decide +kernel
theorem dL_law_713 : decode cL_law 713 = .ok (.invokevirtual 76, 3) := by decide +kernel
theorem dL_law_716 : decode cL_law 716 = .ok (.if_icmp .eq 829, 3) := by decide +kernel
theorem dL_law_719 : decode cL_law 719 = .ok (.iconst 0, 1) := by decide +kernel
theorem dL_law_720 : decode cL_law 720 = .ok (.ireturn, 1) := by decide +kernel
theorem dL_law_721 : decode cL_law 721 = .ok (.aload_n 1, 1) := by decide +kernel
theorem dL_law_722 : decode cL_law 722 = .ok (.aload_n 0, 1) := by decide +kernel
theorem dL_law_723 : decode cL_law 723 = .ok (.iload_n 3, 1) := by decide +kernel
theorem dL_law_724 : decode cL_law 724 = .ok (.iconst 1, 1) := by decide +kernel
theorem dL_law_725 : decode cL_law 725 = .ok (.iadd, 1) := by decide +kernel
theorem dL_law_726 : decode cL_law 726 = .ok (.iaload, 1) := by decide +kernel
theorem dL_law_727 : decode cL_law 727 = .ok (.aload_n 0, 1) := by decide +kernel
theorem dL_law_728 : decode cL_law 728 = .ok (.iload_n 3, 1) := by decide +kernel
theorem dL_law_729 : decode cL_law 729 = .ok (.iconst 2, 1) := by decide +kernel
theorem dL_law_730 : decode cL_law 730 = .ok (.iadd, 1) := by decide +kernel
theorem dL_law_731 : decode cL_law 731 = .ok (.iaload, 1) := by decide +kernel
theorem dL_law_732 : decode cL_law 732 = .ok (.invokevirtual 77, 3) := by decide +kernel
theorem dL_law_735 : decode cL_law 735 = .ok (.aload_n 2, 1) := by decide +kernel
theorem dL_law_736 : decode cL_law 736 = .ok (.aload_n 0, 1) := by decide +kernel
theorem dL_law_737 : decode cL_law 737 = .ok (.iload_n 3, 1) := by decide +kernel
theorem dL_law_738 : decode cL_law 738 = .ok (.iconst 1, 1) := by decide +kernel
theorem dL_law_739 : decode cL_law 739 = .ok (.iadd, 1) := by decide +kernel
theorem dL_law_740 : decode cL_law 740 = .ok (.iaload, 1) := by decide +kernel
theorem dL_law_741 : decode cL_law 741 = .ok (.aload_n 0, 1) := by decide +kernel
theorem dL_law_742 : decode cL_law 742 = .ok (.iload_n 3, 1) := by decide +kernel
theorem dL_law_743 : decode cL_law 743 = .ok (.iconst 2, 1) := by decide +kernel
theorem dL_law_744 : decode cL_law 744 = .ok (.iadd, 1) := by decide +kernel
theorem dL_law_745 : decode cL_law 745 = .ok (.iaload, 1) := by decide +kernel
theorem dL_law_746 : decode cL_law 746 = .ok (.invokevirtual 80, 3) := by decide +kernel
theorem dL_law_749 : decode cL_law 749 = .ok (.if_icmp .eq 796, 3) := by decide +kernel
theorem dL_law_752 : decode cL_law 752 = .ok (.iconst 0, 1) := by decide +kernel
theorem dL_law_753 : decode cL_law 753 = .ok (.ireturn, 1) := by decide +kernel
theorem dL_law_754 : decode cL_law 754 = .ok (.aload_n 1, 1) := by decide +kernel
theorem dL_law_755 : decode cL_law 755 = .ok (.invokevirtual 81, 3) := by decide +kernel
theorem dL_law_758 : decode cL_law 758 = .ok (.aload_n 2, 1) := by decide +kernel
theorem dL_law_759 : decode cL_law 759 = .ok (.invokevirtual 85, 3) := by decide +kernel
theorem dL_law_762 : decode cL_law 762 = .ok (.if_icmp .eq 783, 3) := by decide +kernel
theorem dL_law_765 : decode cL_law 765 = .ok (.iconst 0, 1) := by decide +kernel
theorem dL_law_766 : decode cL_law 766 = .ok (.ireturn, 1) := by decide +kernel
theorem dL_law_767 : decode cL_law 767 = .ok (.aload_n 1, 1) := by decide +kernel
theorem dL_law_768 : decode cL_law 768 = .ok (.aload_n 0, 1) := by decide +kernel
theorem dL_law_769 : decode cL_law 769 = .ok (.iload_n 3, 1) := by decide +kernel
theorem dL_law_770 : decode cL_law 770 = .ok (.iconst 1, 1) := by decide +kernel
theorem dL_law_771 : decode cL_law 771 = .ok (.iadd, 1) := by decide +kernel
theorem dL_law_772 : decode cL_law 772 = .ok (.iaload, 1) := by decide +kernel
theorem dL_law_773 : decode cL_law 773 = .ok (.invokevirtual 86, 3) := by decide +kernel
theorem dL_law_776 : decode cL_law 776 = .ok (.aload_n 2, 1) := by decide +kernel
theorem dL_law_777 : decode cL_law 777 = .ok (.aload_n 0, 1) := by decide +kernel
theorem dL_law_778 : decode cL_law 778 = .ok (.iload_n 3, 1) := by decide +kernel
theorem dL_law_779 : decode cL_law 779 = .ok (.iconst 1, 1) := by decide +kernel
theorem dL_law_780 : decode cL_law 780 = .ok (.iadd, 1) := by decide +kernel
theorem dL_law_781 : decode cL_law 781 = .ok (.iaload, 1) := by decide +kernel
theorem dL_law_782 : decode cL_law 782 = .ok (.invokevirtual 89, 3) := by decide +kernel
theorem dL_law_785 : decode cL_law 785 = .ok (.if_icmp .eq 760, 3) := by decide +kernel
theorem dL_law_788 : decode cL_law 788 = .ok (.iconst 0, 1) := by decide +kernel
theorem dL_law_789 : decode cL_law 789 = .ok (.ireturn, 1) := by decide +kernel
theorem dL_law_790 : decode cL_law 790 = .ok (.aload_n 1, 1) := by decide +kernel
theorem dL_law_791 : decode cL_law 791 = .ok (.aload_n 0, 1) := by decide +kernel
theorem dL_law_792 : decode cL_law 792 = .ok (.iload_n 3, 1) := by decide +kernel
theorem dL_law_793 : decode cL_law 793 = .ok (.iconst 1, 1) := by decide +kernel
theorem dL_law_794 : decode cL_law 794 = .ok (.iadd, 1) := by decide +kernel
theorem dL_law_795 : decode cL_law 795 = .ok (.iaload, 1) := by decide +kernel
theorem dL_law_796 : decode cL_law 796 = .ok (.invokevirtual 90, 3) := by decide +kernel
theorem dL_law_799 : decode cL_law 799 = .ok (.aload_n 2, 1) := by decide +kernel
theorem dL_law_800 : decode cL_law 800 = .ok (.aload_n 0, 1) := by decide +kernel
theorem dL_law_801 : decode cL_law 801 = .ok (.iload_n 3, 1) := by decide +kernel
theorem dL_law_802 : decode cL_law 802 = .ok (.iconst 1, 1) := by decide +kernel
theorem dL_law_803 : decode cL_law 803 = .ok (.iadd, 1) := by decide +kernel
theorem dL_law_804 : decode cL_law 804 = .ok (.iaload, 1) := by decide +kernel
theorem dL_law_805 : decode cL_law 805 = .ok (.invokevirtual 93, 3) := by decide +kernel
theorem dL_law_808 : decode cL_law 808 = .ok (.if_icmp .eq 737, 3) := by decide +kernel
theorem dL_law_811 : decode cL_law 811 = .ok (.iconst 0, 1) := by decide +kernel
theorem dL_law_812 : decode cL_law 812 = .ok (.ireturn, 1) := by decide +kernel
theorem dL_law_813 : decode cL_law 813 = .ok (.aload_n 1, 1) := by decide +kernel
theorem dL_law_814 : decode cL_law 814 = .ok (.aload_n 0, 1) := by decide +kernel
theorem dL_law_815 : decode cL_law 815 = .ok (.iload_n 3, 1) := by decide +kernel
theorem dL_law_816 : decode cL_law 816 = .ok (.iconst 1, 1) := by decide +kernel
theorem dL_law_817 : decode cL_law 817 = .ok (.iadd, 1) := by decide +kernel
theorem dL_law_818 : decode cL_law 818 = .ok (.iaload, 1) := by decide +kernel
theorem dL_law_819 : decode cL_law 819 = .ok (.invokevirtual 94, 3) := by decide +kernel
theorem dL_law_822 : decode cL_law 822 = .ok (.aload_n 2, 1) := by decide +kernel
theorem dL_law_823 : decode cL_law 823 = .ok (.aload_n 0, 1) := by decide +kernel
theorem dL_law_824 : decode cL_law 824 = .ok (.iload_n 3, 1) := by decide +kernel
theorem dL_law_825 : decode cL_law 825 = .ok (.iconst 1, 1) := by decide +kernel
theorem dL_law_826 : decode cL_law 826 = .ok (.iadd, 1) := by decide +kernel
theorem dL_law_827 : decode cL_law 827 = .ok (.iaload, 1) := by decide +kernel
theorem dL_law_828 : decode cL_law 828 = .ok (.invokevirtual 97, 3) := by decide +kernel
theorem dL_law_831 : decode cL_law 831 = .ok (.if_icmp .eq 714, 3) := by decide +kernel
theorem dL_law_834 : decode cL_law 834 = .ok (.iconst 0, 1) := by decide +kernel
theorem dL_law_835 : decode cL_law 835 = .ok (.ireturn, 1) := by decide +kernel
theorem dL_law_836 : decode cL_law 836 = .ok (.aload_n 1, 1) := by decide +kernel
theorem dL_law_837 : decode cL_law 837 = .ok (.aload_n 0, 1) := by decide +kernel
theorem dL_law_838 : decode cL_law 838 = .ok (.iload_n 3, 1) := by decide +kernel
theorem dL_law_839 : decode cL_law 839 = .ok (.iconst 1, 1) := by decide +kernel
theorem dL_law_840 : decode cL_law 840 = .ok (.iadd, 1) := by decide +kernel
theorem dL_law_841 : decode cL_law 841 = .ok (.iaload, 1) := by decide +kernel
theorem dL_law_842 : decode cL_law 842 = .ok (.aload_n 0, 1) := by decide +kernel
theorem dL_law_843 : decode cL_law 843 = .ok (.iload_n 3, 1) := by decide +kernel
theorem dL_law_844 : decode cL_law 844 = .ok (.iconst 2, 1) := by decide +kernel
theorem dL_law_845 : decode cL_law 845 = .ok (.iadd, 1) := by decide +kernel
theorem dL_law_846 : decode cL_law 846 = .ok (.iaload, 1) := by decide +kernel
theorem dL_law_847 : decode cL_law 847 = .ok (.aload_n 0, 1) := by decide +kernel
theorem dL_law_848 : decode cL_law 848 = .ok (.iload_n 3, 1) := by decide +kernel
theorem dL_law_849 : decode cL_law 849 = .ok (.iconst 3, 1) := by decide +kernel
theorem dL_law_850 : decode cL_law 850 = .ok (.iadd, 1) := by decide +kernel
