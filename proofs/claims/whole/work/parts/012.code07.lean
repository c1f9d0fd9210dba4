theorem dX6_odds_4 : decode cX6_odds 4 = .ok (.ifCond .eq 39, 3) := by decide +kernel
theorem dX6_odds_7 : decode cX6_odds 7 = .ok (.iload_n 2, 1) := by decide +kernel
theorem dX6_odds_8 : decode cX6_odds 8 = .ok (.invokestatic 165, 3) := by decide +kernel
theorem dX6_odds_11 : decode cX6_odds 11 = .ok (.ifCond .eq 32, 3) := by decide +kernel
theorem dX6_odds_14 : decode cX6_odds 14 = .ok (.aload_n 0, 1) := by decide +kernel
theorem dX6_odds_15 : decode cX6_odds 15 = .ok (.iload_n 3, 1) := by decide +kernel
theorem dX6_odds_16 : decode cX6_odds 16 = .ok (.invokevirtual 141, 3) := by decide +kernel
theorem dX6_odds_19 : decode cX6_odds 19 = .ok (.ifCond .eq 24, 3) := by decide +kernel
theorem dX6_odds_22 : decode cX6_odds 22 = .ok (.iload 4, 2) := by decide +kernel
theorem dX6_odds_24 : decode cX6_odds 24 = .ok (.invokestatic 151, 3) := by decide +kernel
theorem dX6_odds_27 : decode cX6_odds 27 = .ok (.ifCond .eq 16, 3) := by decide +kernel
theorem dX6_odds_30 : decode cX6_odds 30 = .ok (.iload 5, 2) := by decide +kernel
theorem dX6_odds_32 : decode cX6_odds 32 = .ok (.i2l, 1) := by decide +kernel
theorem dX6_odds_33 : decode cX6_odds 33 = .ok (.lconst 0, 1) := by decide +kernel
theorem dX6_odds_34 : decode cX6_odds 34 = .ok (.ldc2_w 199, 3) := by decide +kernel
theorem dX6_odds_37 : decode cX6_odds 37 = .ok (.invokestatic 63, 3) := by decide +kernel
theorem dX6_odds_40 : decode cX6_odds 40 = .ok (.ifCond .ne 5, 3) := by decide +kernel
theorem dX6_odds_43 : decode cX6_odds 43 = .ok (.iconst (-1), 1) := by decide +kernel
theorem dX6_odds_44 : decode cX6_odds 44 = .ok (.ireturn, 1) := by decide +kernel
theorem dX6_odds_45 : decode cX6_odds 45 = .ok (.aload_n 0, 1) := by decide +kernel
theorem dX6_odds_46 : decode cX6_odds 46 = .ok (.invokevirtual 126, 3) := by decide +kernel
theorem dX6_odds_49 : decode cX6_odds 49 = .ok (.istore 6, 2) := by decide +kernel
theorem dX6_odds_51 : decode cX6_odds 51 = .ok (.lconst 0, 1) := by decide +kernel
theorem dX6_odds_52 : decode cX6_odds 52 = .ok (.lstore 7, 2) := by decide +kernel
theorem dX6_odds_54 : decode cX6_odds 54 = .ok (.lconst 1, 1) := by decide +kernel
theorem dX6_odds_55 : decode cX6_odds 55 = .ok (.lstore 9, 2) := by decide +kernel
theorem dX6_odds_57 : decode cX6_odds 57 = .ok (.iconst 0, 1) := by decide +kernel
theorem dX6_odds_58 : decode cX6_odds 58 = .ok (.istore 11, 2) := by decide +kernel
theorem dX6_odds_60 : decode cX6_odds 60 = .ok (.iload 11, 2) := by decide +kernel
theorem dX6_odds_62 : decode cX6_odds 62 = .ok (.iload 6, 2) := by decide +kernel
theorem dX6_odds_64 : decode cX6_odds 64 = .ok (.invokestatic 154, 3) := by decide +kernel
theorem dX6_odds_67 : decode cX6_odds 67 = .ok (.if_icmp .ge 17, 3) := by decide +kernel
theorem dX6_odds_70 : decode cX6_odds 70 = .ok (.lload 9, 2) := by decide +kernel
theorem dX6_odds_72 : decode cX6_odds 72 = .ok (.ldc2_w 199, 3) := by decide +kernel
theorem dX6_odds_75 : decode cX6_odds 75 = .ok (.lmul, 1) := by decide +kernel
theorem dX6_odds_76 : decode cX6_odds 76 = .ok (.lstore 9, 2) := by decide +kernel
theorem dX6_odds_78 : decode cX6_odds 78 = .ok (.iinc 11 1, 3) := by decide +kernel
theorem dX6_odds_81 : decode cX6_odds 81 = .ok (.goto (-21), 3) := by decide +kernel
theorem dX6_odds_84 : decode cX6_odds 84 = .ok (.iconst 0, 1) := by decide +kernel
theorem dX6_odds_85 : decode cX6_odds 85 = .ok (.istore 11, 2) := by decide +kernel
theorem dX6_odds_87 : decode cX6_odds 87 = .ok (.iload 11, 2) := by decide +kernel
theorem dX6_odds_89 : decode cX6_odds 89 = .ok (.iload 6, 2) := by decide +kernel
theorem dX6_odds_91 : decode cX6_odds 91 = .ok (.if_icmp .gt 118, 3) := by decide +kernel
theorem dX6_odds_94 : decode cX6_odds 94 = .ok (.iload 11, 2) := by decide +kernel
theorem dX6_odds_96 : decode cX6_odds 96 = .ok (.iload 6, 2) := by decide +kernel
theorem dX6_odds_98 : decode cX6_odds 98 = .ok (.iconst (-1), 1) := by decide +kernel
theorem dX6_odds_99 : decode cX6_odds 99 = .ok (.ixor, 1) := by decide +kernel
theorem dX6_odds_100 : decode cX6_odds 100 = .ok (.iand, 1) := by decide +kernel
theorem dX6_odds_101 : decode cX6_odds 101 = .ok (.ifCond .ne 102, 3) := by decide +kernel
theorem dX6_odds_104 : decode cX6_odds 104 = .ok (.lconst 1, 1) := by decide +kernel
theorem dX6_odds_105 : decode cX6_odds 105 = .ok (.lstore 12, 2) := by decide +kernel
theorem dX6_odds_107 : decode cX6_odds 107 = .ok (.iconst 0, 1) := by decide +kernel
theorem dX6_odds_108 : decode cX6_odds 108 = .ok (.istore 14, 2) := by decide +kernel
theorem dX6_odds_110 : decode cX6_odds 110 = .ok (.iload 14, 2) := by decide +kernel
theorem dX6_odds_112 : decode cX6_odds 112 = .ok (.aload_n 0, 1) := by decide +kernel
theorem dX6_odds_113 : decode cX6_odds 113 = .ok (.getfield 22, 3) := by decide +kernel
theorem dX6_odds_116 : decode cX6_odds 116 = .ok (.iconst 1, 1) := by decide +kernel
theorem dX6_odds_117 : decode cX6_odds 117 = .ok (.iaload, 1) := by decide +kernel
theorem dX6_odds_118 : decode cX6_odds 118 = .ok (.if_icmp .ge 50, 3) := by decide +kernel
theorem dX6_odds_121 : decode cX6_odds 121 = .ok (.lload 12, 2) := by decide +kernel
theorem dX6_odds_123 : decode cX6_odds 123 = .ok (.iload 6, 2) := by decide +kernel
theorem dX6_odds_125 : decode cX6_odds 125 = .ok (.iload 14, 2) := by decide +kernel
theorem dX6_odds_127 : decode cX6_odds 127 = .ok (.invokestatic 115, 3) := by decide +kernel
theorem dX6_odds_130 : decode cX6_odds 130 = .ok (.ifCond .ne 7, 3) := by decide +kernel
theorem dX6_odds_133 : decode cX6_odds 133 = .ok (.lconst 1, 1) := by decide +kernel
theorem dX6_odds_134 : decode cX6_odds 134 = .ok (.goto 25, 3) := by decide +kernel
theorem dX6_odds_137 : decode cX6_odds 137 = .ok (.iload 11, 2) := by decide +kernel
theorem dX6_odds_139 : decode cX6_odds 139 = .ok (.iload 14, 2) := by decide +kernel
theorem dX6_odds_141 : decode cX6_odds 141 = .ok (.invokestatic 115, 3) := by decide +kernel
theorem dX6_odds_144 : decode cX6_odds 144 = .ok (.ifCond .eq 9, 3) := by decide +kernel
theorem dX6_odds_147 : decode cX6_odds 147 = .ok (.iload 5, 2) := by decide +kernel
theorem dX6_odds_149 : decode cX6_odds 149 = .ok (.i2l, 1) := by decide +kernel
theorem dX6_odds_150 : decode cX6_odds 150 = .ok (.goto 9, 3) := by decide +kernel
theorem dX6_odds_153 : decode cX6_odds 153 = .ok (.bipush 12, 2) := by decide +kernel
theorem dX6_odds_155 : decode cX6_odds 155 = .ok (.iload 5, 2) := by decide +kernel
theorem dX6_odds_157 : decode cX6_odds 157 = .ok (.isub, 1) := by decide +kernel
theorem dX6_odds_158 : decode cX6_odds 158 = .ok (.i2l, 1) := by decide +kernel
theorem dX6_odds_159 : decode cX6_odds 159 = .ok (.lmul, 1) := by decide +kernel
theorem dX6_odds_160 : decode cX6_odds 160 = .ok (.lstore 12, 2) := by decide +kernel
theorem dX6_odds_162 : decode cX6_odds 162 = .ok (.iinc 14 1, 3) := by decide +kernel
theorem dX6_odds_165 : decode cX6_odds 165 = .ok (.goto (-55), 3) := by decide +kernel
theorem dX6_odds_168 : decode cX6_odds 168 = .ok (.aload_n 0, 1) := by decide +kernel
theorem dX6_odds_169 : decode cX6_odds 169 = .ok (.iload_n 3, 1) := by decide +kernel
theorem dX6_odds_170 : decode cX6_odds 170 = .ok (.iload 11, 2) := by decide +kernel
theorem dX6_odds_172 : decode cX6_odds 172 = .ok (.iconst (-1), 1) := by decide +kernel
theorem dX6_odds_173 : decode cX6_odds 173 = .ok (.invokevirtual 130, 3) := by decide +kernel
theorem dX6_odds_176 : decode cX6_odds 176 = .ok (.lload 7, 2) := by decide +kernel
theorem dX6_odds_178 : decode cX6_odds 178 = .ok (.aload_n 0, 1) := by decide +kernel
theorem dX6_odds_179 : decode cX6_odds 179 = .ok (.getfield 45, 3) := by decide +kernel
theorem dX6_odds_182 : decode cX6_odds 182 = .ok (.bipush 20, 2) := by decide +kernel
theorem dX6_odds_184 : decode cX6_odds 184 = .ok (.iload_n 1, 1) := by decide +kernel
theorem dX6_odds_185 : decode cX6_odds 185 = .ok (.imul, 1) := by decide +kernel
theorem dX6_odds_186 : decode cX6_odds 186 = .ok (.iload_n 2, 1) := by decide +kernel
theorem dX6_odds_187 : decode cX6_odds 187 = .ok (.iadd, 1) := by decide +kernel
theorem dX6_odds_188 : decode cX6_odds 188 = .ok (.iaload, 1) := by decide +kernel
theorem dX6_odds_189 : decode cX6_odds 189 = .ok (.iload 4, 2) := by decide +kernel
theorem dX6_odds_191 : decode cX6_odds 191 = .ok (.if_icmp .ne 8, 3) := by decide +kernel
theorem dX6_odds_194 : decode cX6_odds 194 = .ok (.lload 12, 2) := by decide +kernel
theorem dX6_odds_196 : decode cX6_odds 196 = .ok (.goto 4, 3) := by decide +kernel
theorem dX6_odds_199 : decode cX6_odds 199 = .ok (.lconst 0, 1) := by decide +kernel
theorem dX6_odds_200 : decode cX6_odds 200 = .ok (.ladd, 1) := by decide +kernel
theorem dX6_odds_201 : decode cX6_odds 201 = .ok (.lstore 7, 2) := by decide +kernel
theorem dX6_odds_203 : decode cX6_odds 203 = .ok (.iinc 11 1, 3) := by decide +kernel
theorem dX6_odds_206 : decode cX6_odds 206 = .ok (.goto (-119), 3) := by decide +kernel
theorem dX6_odds_209 : decode cX6_odds 209 = .ok (.aload_n 0, 1) := by decide +kernel
theorem dX6_odds_210 : decode cX6_odds 210 = .ok (.lload 7, 2) := by decide +kernel
theorem dX6_odds_212 : decode cX6_odds 212 = .ok (.lload 9, 2) := by decide +kernel
theorem dX6_odds_214 : decode cX6_odds 214 = .ok (.invokevirtual 201, 3) := by decide +kernel
theorem dX6_odds_217 : decode cX6_odds 217 = .ok (.ireturn, 1) := by decide +kernel
set_option maxRecDepth 20000 in
theorem ggX6_lots_X6_in : GoodIn wsX6_lots wsX6_in := goodIn_r _ [9] (by decide +kernel) (by decide +kernel)
set_option maxRecDepth 20000 in
theorem gX6_lots_X6_in : GoodIn wsX6_lots (va_wsS RX6 63 yX6_in wsX6_in) := goodIn_app (goodIn_of _ (by decide +kernel)) ggX6_lots_X6_in
set_option maxRecDepth 20000 in
theorem ggX6_lots_X6_comes : GoodIn wsX6_lots wsX6_comes := goodIn_r _ [13, 3, 14, 15, 16, 8, 17, 48, 49, 50, 51, 52, 53, 54, 55, 56, 57, 58, 59, 60, 61, 62, 63, 64, 65] (by decide +kernel) (by decide +kernel)
set_option maxRecDepth 20000 in
theorem gX6_lots_X6_comes : GoodIn wsX6_lots (wsV RX6 168 RX6 yX6_comes wsX6_comes) := goodIn_app (goodIn_of _ (by decide +kernel)) ggX6_lots_X6_comes
set_option maxRecDepth 20000 in
theorem ggX6_lots_X6_live : GoodIn wsX6_lots wsX6_live := goodIn_r _ [21, 3, 48, 49, 50, 51, 52, 53, 54, 55, 56, 57, 58, 59, 60, 61, 62, 63, 64, 65] (by decide +kernel) (by decide +kernel)
set_option maxRecDepth 20000 in
theorem gX6_lots_X6_live : GoodIn wsX6_lots (wsV RX6 126 RX6 yX6_live wsX6_live) := goodIn_app (goodIn_of _ (by decide +kernel)) ggX6_lots_X6_live
set_option maxRecDepth 20000 in
theorem ggX6_lots_X6_differing : GoodIn wsX6_lots wsX6_differing := goodIn_r _ [25, 3, 26, 27, 28, 8, 29, 30, 31, 32, 33, 34, 35, 36, 37, 38, 39, 40, 41, 42, 43, 44, 48, 49, 50, 51, 52, 53, 54, 55, 56, 57, 58, 59, 60, 61, 62, 63, 64, 65] (by decide +kernel) (by decide +kernel)
set_option maxRecDepth 20000 in
theorem gX6_lots_X6_differing : GoodIn wsX6_lots (wsV RX6 184 RX6 yX6_differing wsX6_differing) := goodIn_app (goodIn_of _ (by decide +kernel)) ggX6_lots_X6_differing
set_option maxRecDepth 20000 in
theorem ggX6_lots_X6_bits : GoodIn wsX6_lots wsX6_bits := goodIn_r _ [47] (by decide +kernel) (by decide +kernel)
set_option maxRecDepth 20000 in
theorem gX6_lots_X6_bits : GoodIn wsX6_lots (va_wsS RX6 154 yX6_bits wsX6_bits) := goodIn_app (goodIn_of _ (by decide +kernel)) ggX6_lots_X6_bits
theorem dX6_lots_0 : decode cX6_lots 0 = .ok (.iload_n 1, 1) := by decide +kernel
theorem dX6_lots_1 : decode cX6_lots 1 = .ok (.i2l, 1) := by decide +kernel
theorem dX6_lots_2 : decode cX6_lots 2 = .ok (.lconst 1, 1) := by decide +kernel
theorem dX6_lots_3 : decode cX6_lots 3 = .ok (.ldc2_w 205, 3) := by decide +kernel
theorem dX6_lots_6 : decode cX6_lots 6 = .ok (.invokestatic 63, 3) := by decide +kernel
theorem dX6_lots_9 : decode cX6_lots 9 = .ok (.ifCond .eq 15, 3) := by decide +kernel
theorem dX6_lots_12 : decode cX6_lots 12 = .ok (.iload_n 2, 1) := by decide +kernel
theorem dX6_lots_13 : decode cX6_lots 13 = .ok (.i2l, 1) := by decide +kernel
theorem dX6_lots_14 : decode cX6_lots 14 = .ok (.lconst 1, 1) := by decide +kernel
theorem dX6_lots_15 : decode cX6_lots 15 = .ok (.ldc2_w 207, 3) := by decide +kernel
theorem dX6_lots_18 : decode cX6_lots 18 = .ok (.invokestatic 63, 3) := by decide +kernel
theorem dX6_lots_21 : decode cX6_lots 21 = .ok (.ifCond .ne 5, 3) := by decide +kernel
theorem dX6_lots_24 : decode cX6_lots 24 = .ok (.iconst (-1), 1) := by decide +kernel
theorem dX6_lots_25 : decode cX6_lots 25 = .ok (.ireturn, 1) := by decide +kernel
theorem dX6_lots_26 : decode cX6_lots 26 = .ok (.aload_n 0, 1) := by decide +kernel
theorem dX6_lots_27 : decode cX6_lots 27 = .ok (.getfield 22, 3) := by decide +kernel
theorem dX6_lots_30 : decode cX6_lots 30 = .ok (.iconst 0, 1) := by decide +kernel
theorem dX6_lots_31 : decode cX6_lots 31 = .ok (.iaload, 1) := by decide +kernel
theorem dX6_lots_32 : decode cX6_lots 32 = .ok (.ifCond .ne 6, 3) := by decide +kernel
theorem dX6_lots_35 : decode cX6_lots 35 = .ok (.bipush (-4), 2) := by decide +kernel
theorem dX6_lots_37 : decode cX6_lots 37 = .ok (.ireturn, 1) := by decide +kernel
theorem dX6_lots_38 : decode cX6_lots 38 = .ok (.aload_n 0, 1) := by decide +kernel
theorem dX6_lots_39 : decode cX6_lots 39 = .ok (.getfield 22, 3) := by decide +kernel
theorem dX6_lots_42 : decode cX6_lots 42 = .ok (.iconst 1, 1) := by decide +kernel
theorem dX6_lots_43 : decode cX6_lots 43 = .ok (.iaload, 1) := by decide +kernel
theorem dX6_lots_44 : decode cX6_lots 44 = .ok (.iload_n 1, 1) := by decide +kernel
theorem dX6_lots_45 : decode cX6_lots 45 = .ok (.iadd, 1) := by decide +kernel
theorem dX6_lots_46 : decode cX6_lots 46 = .ok (.bipush 12, 2) := by decide +kernel
theorem dX6_lots_48 : decode cX6_lots 48 = .ok (.if_icmp .gt 16, 3) := by decide +kernel
theorem dX6_lots_51 : decode cX6_lots 51 = .ok (.aload_n 0, 1) := by decide +kernel
theorem dX6_lots_52 : decode cX6_lots 52 = .ok (.getfield 22, 3) := by decide +kernel
theorem dX6_lots_55 : decode cX6_lots 55 = .ok (.iconst 3, 1) := by decide +kernel
theorem dX6_lots_56 : decode cX6_lots 56 = .ok (.iaload, 1) := by decide +kernel
theorem dX6_lots_57 : decode cX6_lots 57 = .ok (.iload_n 1, 1) := by decide +kernel
theorem dX6_lots_58 : decode cX6_lots 58 = .ok (.iadd, 1) := by decide +kernel
theorem dX6_lots_59 : decode cX6_lots 59 = .ok (.bipush 40, 2) := by decide +kernel
theorem dX6_lots_61 : decode cX6_lots 61 = .ok (.if_icmp .le 6, 3) := by decide +kernel
theorem dX6_lots_64 : decode cX6_lots 64 = .ok (.bipush (-2), 2) := by decide +kernel
theorem dX6_lots_66 : decode cX6_lots 66 = .ok (.ireturn, 1) := by decide +kernel
theorem dX6_lots_67 : decode cX6_lots 67 = .ok (.iload_n 2, 1) := by decide +kernel
theorem dX6_lots_68 : decode cX6_lots 68 = .ok (.i2l, 1) := by decide +kernel
theorem dX6_lots_69 : decode cX6_lots 69 = .ok (.lstore_n 3, 1) := by decide +kernel
theorem dX6_lots_70 : decode cX6_lots 70 = .ok (.iconst 0, 1) := by decide +kernel
theorem dX6_lots_71 : decode cX6_lots 71 = .ok (.istore 5, 2) := by decide +kernel
theorem dX6_lots_73 : decode cX6_lots 73 = .ok (.iload 5, 2) := by decide +kernel
theorem dX6_lots_75 : decode cX6_lots 75 = .ok (.iload_n 1, 1) := by decide +kernel
theorem dX6_lots_76 : decode cX6_lots 76 = .ok (.if_icmp .ge 65, 3) := by decide +kernel
theorem dX6_lots_79 : decode cX6_lots 79 = .ok (.ldc2_w 209, 3) := by decide +kernel
theorem dX6_lots_82 : decode cX6_lots 82 = .ok (.lload_n 3, 1) := by decide +kernel
theorem dX6_lots_83 : decode cX6_lots 83 = .ok (.lmul, 1) := by decide +kernel
theorem dX6_lots_84 : decode cX6_lots 84 = .ok (.ldc2_w 211, 3) := by decide +kernel
theorem dX6_lots_87 : decode cX6_lots 87 = .ok (.lrem, 1) := by decide +kernel
theorem dX6_lots_88 : decode cX6_lots 88 = .ok (.lstore_n 3, 1) := by decide +kernel
theorem dX6_lots_89 : decode cX6_lots 89 = .ok (.lload_n 3, 1) := by decide +kernel
theorem dX6_lots_90 : decode cX6_lots 90 = .ok (.l2i, 1) := by decide +kernel
theorem dX6_lots_91 : decode cX6_lots 91 = .ok (.istore 6, 2) := by decide +kernel
theorem dX6_lots_93 : decode cX6_lots 93 = .ok (.aload_n 0, 1) := by decide +kernel
theorem dX6_lots_94 : decode cX6_lots 94 = .ok (.iload 6, 2) := by decide +kernel
theorem dX6_lots_96 : decode cX6_lots 96 = .ok (.iconst 5, 1) := by decide +kernel
theorem dX6_lots_97 : decode cX6_lots 97 = .ok (.irem, 1) := by decide +kernel
theorem dX6_lots_98 : decode cX6_lots 98 = .ok (.iload 6, 2) := by decide +kernel
theorem dX6_lots_100 : decode cX6_lots 100 = .ok (.bipush 8, 2) := by decide +kernel
theorem dX6_lots_102 : decode cX6_lots 102 = .ok (.idiv, 1) := by decide +kernel
theorem dX6_lots_103 : decode cX6_lots 103 = .ok (.bipush 20, 2) := by decide +kernel
theorem dX6_lots_105 : decode cX6_lots 105 = .ok (.irem, 1) := by decide +kernel
theorem dX6_lots_106 : decode cX6_lots 106 = .ok (.iload 6, 2) := by decide +kernel
theorem dX6_lots_108 : decode cX6_lots 108 = .ok (.sipush 256, 3) := by decide +kernel
theorem dX6_lots_111 : decode cX6_lots 111 = .ok (.idiv, 1) := by decide +kernel
theorem dX6_lots_112 : decode cX6_lots 112 = .ok (.aload_n 0, 1) := by decide +kernel
theorem dX6_lots_113 : decode cX6_lots 113 = .ok (.getfield 22, 3) := by decide +kernel
theorem dX6_lots_116 : decode cX6_lots 116 = .ok (.iconst 0, 1) := by decide +kernel
theorem dX6_lots_117 : decode cX6_lots 117 = .ok (.iaload, 1) := by decide +kernel
theorem dX6_lots_118 : decode cX6_lots 118 = .ok (.irem, 1) := by decide +kernel
theorem dX6_lots_119 : decode cX6_lots 119 = .ok (.iload 6, 2) := by decide +kernel
theorem dX6_lots_121 : decode cX6_lots 121 = .ok (.sipush 4096, 3) := by decide +kernel
theorem dX6_lots_124 : decode cX6_lots 124 = .ok (.idiv, 1) := by decide +kernel
theorem dX6_lots_125 : decode cX6_lots 125 = .ok (.bipush 9, 2) := by decide +kernel
theorem dX6_lots_127 : decode cX6_lots 127 = .ok (.irem, 1) := by decide +kernel
theorem dX6_lots_128 : decode cX6_lots 128 = .ok (.iconst 1, 1) := by decide +kernel
theorem dX6_lots_129 : decode cX6_lots 129 = .ok (.iadd, 1) := by decide +kernel
theorem dX6_lots_130 : decode cX6_lots 130 = .ok (.invokevirtual 168, 3) := by decide +kernel
theorem dX6_lots_133 : decode cX6_lots 133 = .ok (.istore 7, 2) := by decide +kernel
theorem dX6_lots_135 : decode cX6_lots 135 = .ok (.iinc 5 1, 3) := by decide +kernel
theorem dX6_lots_138 : decode cX6_lots 138 = .ok (.goto (-65), 3) := by decide +kernel
theorem dX6_lots_141 : decode cX6_lots 141 = .ok (.aload_n 0, 1) := by decide +kernel
theorem dX6_lots_142 : decode cX6_lots 142 = .ok (.iconst 0, 1) := by decide +kernel
theorem dX6_lots_143 : decode cX6_lots 143 = .ok (.iconst 4, 1) := by decide +kernel
theorem dX6_lots_144 : decode cX6_lots 144 = .ok (.bipush 19, 2) := by decide +kernel
theorem dX6_lots_146 : decode cX6_lots 146 = .ok (.aload_n 0, 1) := by decide +kernel
theorem dX6_lots_147 : decode cX6_lots 147 = .ok (.invokevirtual 126, 3) := by decide +kernel
theorem dX6_lots_150 : decode cX6_lots 150 = .ok (.invokevirtual 184, 3) := by decide +kernel
theorem dX6_lots_153 : decode cX6_lots 153 = .ok (.invokestatic 154, 3) := by decide +kernel
theorem dX6_lots_156 : decode cX6_lots 156 = .ok (.ireturn, 1) := by decide +kernel
theorem dX6_asked_0 : decode cX6_asked 0 = .ok (.aload_n 0, 1) := by decide +kernel
theorem dX6_asked_1 : decode cX6_asked 1 = .ok (.getfield 58, 3) := by decide +kernel
theorem dX6_asked_4 : decode cX6_asked 4 = .ok (.ireturn, 1) := by decide +kernel
theorem dX6_upper_0 : decode cX6_upper 0 = .ok (.aload_n 0, 1) := by decide +kernel
theorem dX6_upper_1 : decode cX6_upper 1 = .ok (.getfield 196, 3) := by decide +kernel
theorem dX6_upper_4 : decode cX6_upper 4 = .ok (.lreturn, 1) := by decide +kernel
theorem dX6_lower_0 : decode cX6_lower 0 = .ok (.aload_n 0, 1) := by decide +kernel
theorem dX6_lower_1 : decode cX6_lower 1 = .ok (.getfield 32, 3) := by decide +kernel
theorem dX6_lower_4 : decode cX6_lower 4 = .ok (.lreturn, 1) := by decide +kernel
set_option maxRecDepth 20000 in
theorem ggX6_counted_X6_isOf : GoodIn wsX6_counted wsX6_isOf := goodIn_r _ [8] (by decide +kernel) (by decide +kernel)
set_option maxRecDepth 20000 in
theorem gX6_counted_X6_isOf : GoodIn wsX6_counted (va_wsS RX6 119 yX6_isOf wsX6_isOf) := goodIn_app (goodIn_of _ (by decide +kernel)) ggX6_counted_X6_isOf
set_option maxRecDepth 20000 in
theorem ggX6_counted_X6_mended : GoodIn wsX6_counted wsX6_mended := goodIn_r _ [12, 1, 13, 14, 15, 7, 16, 17, 18, 19, 20, 21, 22, 23, 24, 25, 26, 27, 28, 29, 30, 31, 32, 33, 34, 35, 36, 37] (by decide +kernel) (by decide +kernel)
set_option maxRecDepth 20000 in
theorem gX6_counted_X6_mended : GoodIn wsX6_counted (wsV RX6 160 RX6 yX6_mended wsX6_mended) := goodIn_app (goodIn_of _ (by decide +kernel)) ggX6_counted_X6_mended
theorem dX6_counted_0 : decode cX6_counted 0 = .ok (.iconst 0, 1) := by decide +kernel
theorem dX6_counted_1 : decode cX6_counted 1 = .ok (.istore_n 2, 1) := by decide +kernel
theorem dX6_counted_2 : decode cX6_counted 2 = .ok (.iconst 0, 1) := by decide +kernel
theorem dX6_counted_3 : decode cX6_counted 3 = .ok (.istore_n 3, 1) := by decide +kernel
theorem dX6_counted_4 : decode cX6_counted 4 = .ok (.iload_n 3, 1) := by decide +kernel
theorem dX6_counted_5 : decode cX6_counted 5 = .ok (.aload_n 0, 1) := by decide +kernel
theorem dX6_counted_6 : decode cX6_counted 6 = .ok (.getfield 22, 3) := by decide +kernel
theorem dX6_counted_9 : decode cX6_counted 9 = .ok (.iconst 0, 1) := by decide +kernel
theorem dX6_counted_10 : decode cX6_counted 10 = .ok (.iaload, 1) := by decide +kernel
theorem dX6_counted_11 : decode cX6_counted 11 = .ok (.if_icmp .ge 32, 3) := by decide +kernel
theorem dX6_counted_14 : decode cX6_counted 14 = .ok (.iload_n 2, 1) := by decide +kernel
theorem dX6_counted_15 : decode cX6_counted 15 = .ok (.aload_n 0, 1) := by decide +kernel
theorem dX6_counted_16 : decode cX6_counted 16 = .ok (.getfield 22, 3) := by decide +kernel
theorem dX6_counted_19 : decode cX6_counted 19 = .ok (.iconst 4, 1) := by decide +kernel
theorem dX6_counted_20 : decode cX6_counted 20 = .ok (.iload_n 3, 1) := by decide +kernel
theorem dX6_counted_21 : decode cX6_counted 21 = .ok (.iadd, 1) := by decide +kernel
theorem dX6_counted_22 : decode cX6_counted 22 = .ok (.iaload, 1) := by decide +kernel
theorem dX6_counted_23 : decode cX6_counted 23 = .ok (.iconst 1, 1) := by decide +kernel
theorem dX6_counted_24 : decode cX6_counted 24 = .ok (.invokestatic 119, 3) := by decide +kernel
theorem dX6_counted_27 : decode cX6_counted 27 = .ok (.ifCond .eq 7, 3) := by decide +kernel
theorem dX6_counted_30 : decode cX6_counted 30 = .ok (.iconst 1, 1) := by decide +kernel
theorem dX6_counted_31 : decode cX6_counted 31 = .ok (.goto 4, 3) := by decide +kernel
theorem dX6_counted_34 : decode cX6_counted 34 = .ok (.iconst 0, 1) := by decide +kernel
theorem dX6_counted_35 : decode cX6_counted 35 = .ok (.iadd, 1) := by decide +kernel
theorem dX6_counted_36 : decode cX6_counted 36 = .ok (.istore_n 2, 1) := by decide +kernel
theorem dX6_counted_37 : decode cX6_counted 37 = .ok (.iinc 3 1, 3) := by decide +kernel
theorem dX6_counted_40 : decode cX6_counted 40 = .ok (.goto (-36), 3) := by decide +kernel
theorem dX6_counted_43 : decode cX6_counted 43 = .ok (.iconst 0, 1) := by decide +kernel
theorem dX6_counted_44 : decode cX6_counted 44 = .ok (.istore_n 3, 1) := by decide +kernel
theorem dX6_counted_45 : decode cX6_counted 45 = .ok (.iconst 0, 1) := by decide +kernel
theorem dX6_counted_46 : decode cX6_counted 46 = .ok (.istore 4, 2) := by decide +kernel
theorem dX6_counted_48 : decode cX6_counted 48 = .ok (.iload 4, 2) := by decide +kernel
theorem dX6_counted_50 : decode cX6_counted 50 = .ok (.bipush 6, 2) := by decide +kernel
theorem dX6_counted_52 : decode cX6_counted 52 = .ok (.if_icmp .ge 33, 3) := by decide +kernel
theorem dX6_counted_55 : decode cX6_counted 55 = .ok (.iload_n 1, 1) := by decide +kernel
theorem dX6_counted_56 : decode cX6_counted 56 = .ok (.bipush 6, 2) := by decide +kernel
theorem dX6_counted_58 : decode cX6_counted 58 = .ok (.if_icmp .ne 27, 3) := by decide +kernel
theorem dX6_counted_61 : decode cX6_counted 61 = .ok (.iload_n 3, 1) := by decide +kernel
theorem dX6_counted_62 : decode cX6_counted 62 = .ok (.aload_n 0, 1) := by decide +kernel
theorem dX6_counted_63 : decode cX6_counted 63 = .ok (.getfield 7, 3) := by decide +kernel
theorem dX6_counted_66 : decode cX6_counted 66 = .ok (.iload 4, 2) := by decide +kernel
theorem dX6_counted_68 : decode cX6_counted 68 = .ok (.iaload, 1) := by decide +kernel
theorem dX6_counted_69 : decode cX6_counted 69 = .ok (.ifCond .ge 7, 3) := by decide +kernel
theorem dX6_counted_72 : decode cX6_counted 72 = .ok (.iconst 0, 1) := by decide +kernel
theorem dX6_counted_73 : decode cX6_counted 73 = .ok (.goto 4, 3) := by decide +kernel
theorem dX6_counted_76 : decode cX6_counted 76 = .ok (.iconst 1, 1) := by decide +kernel
theorem dX6_counted_77 : decode cX6_counted 77 = .ok (.iadd, 1) := by decide +kernel
theorem dX6_counted_78 : decode cX6_counted 78 = .ok (.istore_n 3, 1) := by decide +kernel
theorem dX6_counted_79 : decode cX6_counted 79 = .ok (.iinc 4 1, 3) := by decide +kernel
theorem dX6_counted_82 : decode cX6_counted 82 = .ok (.goto (-34), 3) := by decide +kernel
theorem dX6_counted_85 : decode cX6_counted 85 = .ok (.iconst 0, 1) := by decide +kernel
theorem dX6_counted_86 : decode cX6_counted 86 = .ok (.istore 4, 2) := by decide +kernel
theorem dX6_counted_88 : decode cX6_counted 88 = .ok (.iload 4, 2) := by decide +kernel
theorem dX6_counted_90 : decode cX6_counted 90 = .ok (.iconst 4, 1) := by decide +kernel
theorem dX6_counted_91 : decode cX6_counted 91 = .ok (.if_icmp .ge 33, 3) := by decide +kernel
theorem dX6_counted_94 : decode cX6_counted 94 = .ok (.iload_n 1, 1) := by decide +kernel
theorem dX6_counted_95 : decode cX6_counted 95 = .ok (.bipush 7, 2) := by decide +kernel
theorem dX6_counted_97 : decode cX6_counted 97 = .ok (.if_icmp .ne 27, 3) := by decide +kernel
theorem dX6_counted_100 : decode cX6_counted 100 = .ok (.iload_n 3, 1) := by decide +kernel
theorem dX6_counted_101 : decode cX6_counted 101 = .ok (.aload_n 0, 1) := by decide +kernel
theorem dX6_counted_102 : decode cX6_counted 102 = .ok (.getfield 16, 3) := by decide +kernel
theorem dX6_counted_105 : decode cX6_counted 105 = .ok (.iload 4, 2) := by decide +kernel
theorem dX6_counted_107 : decode cX6_counted 107 = .ok (.iaload, 1) := by decide +kernel
theorem dX6_counted_108 : decode cX6_counted 108 = .ok (.ifCond .ge 7, 3) := by decide +kernel
theorem dX6_counted_111 : decode cX6_counted 111 = .ok (.iconst 0, 1) := by decide +kernel
theorem dX6_counted_112 : decode cX6_counted 112 = .ok (.goto 4, 3) := by decide +kernel
theorem dX6_counted_115 : decode cX6_counted 115 = .ok (.iconst 1, 1) := by decide +kernel
theorem dX6_counted_116 : decode cX6_counted 116 = .ok (.iadd, 1) := by decide +kernel
theorem dX6_counted_117 : decode cX6_counted 117 = .ok (.istore_n 3, 1) := by decide +kernel
theorem dX6_counted_118 : decode cX6_counted 118 = .ok (.iinc 4 1, 3) := by decide +kernel
theorem dX6_counted_121 : decode cX6_counted 121 = .ok (.goto (-33), 3) := by decide +kernel
theorem dX6_counted_124 : decode cX6_counted 124 = .ok (.iconst 0, 1) := by decide +kernel
theorem dX6_counted_125 : decode cX6_counted 125 = .ok (.istore 4, 2) := by decide +kernel
theorem dX6_counted_127 : decode cX6_counted 127 = .ok (.iload 4, 2) := by decide +kernel
theorem dX6_counted_129 : decode cX6_counted 129 = .ok (.iconst 3, 1) := by decide +kernel
theorem dX6_counted_130 : decode cX6_counted 130 = .ok (.if_icmp .ge 33, 3) := by decide +kernel
theorem dX6_counted_133 : decode cX6_counted 133 = .ok (.iload_n 1, 1) := by decide +kernel
theorem dX6_counted_134 : decode cX6_counted 134 = .ok (.bipush 8, 2) := by decide +kernel
theorem dX6_counted_136 : decode cX6_counted 136 = .ok (.if_icmp .ne 27, 3) := by decide +kernel
theorem dX6_counted_139 : decode cX6_counted 139 = .ok (.iload_n 3, 1) := by decide +kernel
theorem dX6_counted_140 : decode cX6_counted 140 = .ok (.aload_n 0, 1) := by decide +kernel
theorem dX6_counted_141 : decode cX6_counted 141 = .ok (.getfield 28, 3) := by decide +kernel
theorem dX6_counted_144 : decode cX6_counted 144 = .ok (.iload 4, 2) := by decide +kernel
theorem dX6_counted_146 : decode cX6_counted 146 = .ok (.baload, 1) := by decide +kernel
theorem dX6_counted_147 : decode cX6_counted 147 = .ok (.ifCond .eq 7, 3) := by decide +kernel
theorem dX6_counted_150 : decode cX6_counted 150 = .ok (.iconst 1, 1) := by decide +kernel
theorem dX6_counted_151 : decode cX6_counted 151 = .ok (.goto 4, 3) := by decide +kernel
theorem dX6_counted_154 : decode cX6_counted 154 = .ok (.iconst 0, 1) := by decide +kernel
theorem dX6_counted_155 : decode cX6_counted 155 = .ok (.iadd, 1) := by decide +kernel
theorem dX6_counted_156 : decode cX6_counted 156 = .ok (.istore_n 3, 1) := by decide +kernel
theorem dX6_counted_157 : decode cX6_counted 157 = .ok (.iinc 4 1, 3) := by decide +kernel
theorem dX6_counted_160 : decode cX6_counted 160 = .ok (.goto (-33), 3) := by decide +kernel
theorem dX6_counted_163 : decode cX6_counted 163 = .ok (.iload_n 1, 1) := by decide +kernel
theorem dX6_counted_164 : decode cX6_counted 164 = .ok (.tableswitch 75 0 5 #[40, 47, 54, 59, 66, 73], 40) := by decide +kernel
theorem dX6_counted_204 : decode cX6_counted 204 = .ok (.aload_n 0, 1) := by decide +kernel
theorem dX6_counted_205 : decode cX6_counted 205 = .ok (.getfield 22, 3) := by decide +kernel
theorem dX6_counted_208 : decode cX6_counted 208 = .ok (.iconst 0, 1) := by decide +kernel
theorem dX6_counted_209 : decode cX6_counted 209 = .ok (.iaload, 1) := by decide +kernel
theorem dX6_counted_210 : decode cX6_counted 210 = .ok (.ireturn, 1) := by decide +kernel
theorem dX6_counted_211 : decode cX6_counted 211 = .ok (.aload_n 0, 1) := by decide +kernel
theorem dX6_counted_212 : decode cX6_counted 212 = .ok (.getfield 22, 3) := by decide +kernel
theorem dX6_counted_215 : decode cX6_counted 215 = .ok (.iconst 1, 1) := by decide +kernel
theorem dX6_counted_216 : decode cX6_counted 216 = .ok (.iaload, 1) := by decide +kernel
theorem dX6_counted_217 : decode cX6_counted 217 = .ok (.ireturn, 1) := by decide +kernel
theorem dX6_counted_218 : decode cX6_counted 218 = .ok (.aload_n 0, 1) := by decide +kernel
theorem dX6_counted_219 : decode cX6_counted 219 = .ok (.invokevirtual 160, 3) := by decide +kernel
theorem dX6_counted_222 : decode cX6_counted 222 = .ok (.ireturn, 1) := by decide +kernel
theorem dX6_counted_223 : decode cX6_counted 223 = .ok (.aload_n 0, 1) := by decide +kernel
theorem dX6_counted_224 : decode cX6_counted 224 = .ok (.getfield 22, 3) := by decide +kernel
theorem dX6_counted_227 : decode cX6_counted 227 = .ok (.iconst 2, 1) := by decide +kernel
theorem dX6_counted_228 : decode cX6_counted 228 = .ok (.iaload, 1) := by decide +kernel
theorem dX6_counted_229 : decode cX6_counted 229 = .ok (.ireturn, 1) := by decide +kernel
theorem dX6_counted_230 : decode cX6_counted 230 = .ok (.aload_n 0, 1) := by decide +kernel
theorem dX6_counted_231 : decode cX6_counted 231 = .ok (.getfield 22, 3) := by decide +kernel
theorem dX6_counted_234 : decode cX6_counted 234 = .ok (.iconst 3, 1) := by decide +kernel
theorem dX6_counted_235 : decode cX6_counted 235 = .ok (.iaload, 1) := by decide +kernel
theorem dX6_counted_236 : decode cX6_counted 236 = .ok (.ireturn, 1) := by decide +kernel
theorem dX6_counted_237 : decode cX6_counted 237 = .ok (.iload_n 2, 1) := by decide +kernel
theorem dX6_counted_238 : decode cX6_counted 238 = .ok (.ireturn, 1) := by decide +kernel
theorem dX6_counted_239 : decode cX6_counted 239 = .ok (.iload_n 3, 1) := by decide +kernel
theorem dX6_counted_240 : decode cX6_counted 240 = .ok (.ireturn, 1) := by decide +kernel
set_option maxRecDepth 20000 in
theorem ggX6_count_X6_in : GoodIn wsX6_count wsX6_in := goodIn_r _ [5] (by decide +kernel) (by decide +kernel)
set_option maxRecDepth 20000 in
theorem gX6_count_X6_in : GoodIn wsX6_count (va_wsS RX6 63 yX6_in wsX6_in) := goodIn_app (goodIn_of _ (by decide +kernel)) ggX6_count_X6_in
set_option maxRecDepth 20000 in
theorem ggX6_count_X6_counted : GoodIn wsX6_count wsX6_counted := goodIn_r _ [9, 10, 11, 12, 13, 14, 15, 4, 16, 17, 18, 19, 20, 21, 22, 23, 24, 25, 26, 27, 28, 29, 30, 31, 32, 33, 34, 35, 36, 37, 38, 39, 40, 41, 42, 43, 44, 45] (by decide +kernel) (by decide +kernel)
set_option maxRecDepth 20000 in
theorem gX6_count_X6_counted : GoodIn wsX6_count (wsV RX6 215 RX6 yX6_counted wsX6_counted) := goodIn_app (goodIn_of _ (by decide +kernel)) ggX6_count_X6_counted
theorem dX6_count_0 : decode cX6_count 0 = .ok (.iload_n 1, 1) := by decide +kernel
theorem dX6_count_1 : decode cX6_count 1 = .ok (.i2l, 1) := by decide +kernel
theorem dX6_count_2 : decode cX6_count 2 = .ok (.lconst 0, 1) := by decide +kernel
theorem dX6_count_3 : decode cX6_count 3 = .ok (.ldc2_w 213, 3) := by decide +kernel
theorem dX6_count_6 : decode cX6_count 6 = .ok (.invokestatic 63, 3) := by decide +kernel
theorem dX6_count_9 : decode cX6_count 9 = .ok (.ifCond .eq 11, 3) := by decide +kernel
theorem dX6_count_12 : decode cX6_count 12 = .ok (.aload_n 0, 1) := by decide +kernel
theorem dX6_count_13 : decode cX6_count 13 = .ok (.iload_n 1, 1) := by decide +kernel
theorem dX6_count_14 : decode cX6_count 14 = .ok (.invokevirtual 215, 3) := by decide +kernel
theorem dX6_count_17 : decode cX6_count 17 = .ok (.goto 4, 3) := by decide +kernel
theorem dX6_count_20 : decode cX6_count 20 = .ok (.iconst (-1), 1) := by decide +kernel
theorem dX6_count_21 : decode cX6_count 21 = .ok (.ireturn, 1) := by decide +kernel
theorem dX6_finding_0 : decode cX6_finding 0 = .ok (.aload_n 0, 1) := by decide +kernel
theorem dX6_finding_1 : decode cX6_finding 1 = .ok (.getfield 54, 3) := by decide +kernel
theorem dX6_finding_4 : decode cX6_finding 4 = .ok (.ireturn, 1) := by decide +kernel
set_option maxRecDepth 20000 in
theorem ggX6_findings_X6_in : GoodIn wsX6_findings wsX6_in := goodIn_r _ [6] (by decide +kernel) (by decide +kernel)
set_option maxRecDepth 20000 in
theorem gX6_findings_X6_in : GoodIn wsX6_findings (va_wsS RX6 63 yX6_in wsX6_in) := goodIn_app (goodIn_of _ (by decide +kernel)) ggX6_findings_X6_in
theorem dX6_findings_0 : decode cX6_findings 0 = .ok (.iload_n 1, 1) := by decide +kernel
theorem dX6_findings_1 : decode cX6_findings 1 = .ok (.i2l, 1) := by decide +kernel
theorem dX6_findings_2 : decode cX6_findings 2 = .ok (.lconst 1, 1) := by decide +kernel
theorem dX6_findings_3 : decode cX6_findings 3 = .ok (.ldc2_w 61, 3) := by decide +kernel
theorem dX6_findings_6 : decode cX6_findings 6 = .ok (.invokestatic 63, 3) := by decide +kernel
theorem dX6_findings_9 : decode cX6_findings 9 = .ok (.ifCond .eq 12, 3) := by decide +kernel
theorem dX6_findings_12 : decode cX6_findings 12 = .ok (.aload_n 0, 1) := by decide +kernel
theorem dX6_findings_13 : decode cX6_findings 13 = .ok (.getfield 36, 3) := by decide +kernel
theorem dX6_findings_16 : decode cX6_findings 16 = .ok (.iload_n 1, 1) := by decide +kernel
theorem dX6_findings_17 : decode cX6_findings 17 = .ok (.iaload, 1) := by decide +kernel
theorem dX6_findings_18 : decode cX6_findings 18 = .ok (.goto 4, 3) := by decide +kernel
theorem dX6_findings_21 : decode cX6_findings 21 = .ok (.iconst (-1), 1) := by decide +kernel
theorem dX6_findings_22 : decode cX6_findings 22 = .ok (.ireturn, 1) := by decide +kernel
set_option maxRecDepth 20000 in
theorem ggX6_digest_X6_counted : GoodIn wsX6_digest wsX6_counted := goodIn_r _ [14, 3, 6, 8, 4, 15, 16, 13, 17, 18, 19, 20, 21, 22, 23, 24, 25, 26, 27, 28, 53, 54, 55, 56, 57, 58, 59, 60, 61, 62, 63, 64, 65, 66, 67, 68, 69, 70] (by decide +kernel) (by decide +kernel)
set_option maxRecDepth 20000 in
theorem gX6_digest_X6_counted : GoodIn wsX6_digest (wsV RX6 215 RX6 yX6_counted wsX6_counted) := goodIn_app (goodIn_of _ (by decide +kernel)) ggX6_digest_X6_counted
set_option maxRecDepth 20000 in
theorem ggX6_digest_X6_told : GoodIn wsX6_digest wsX6_told := goodIn_r _ [32, 3, 33, 34, 35, 13, 36, 37, 38, 39, 40, 41, 22, 23, 24, 25, 42, 43, 44, 45, 46, 47, 48, 49, 15, 16, 17, 50, 51, 52, 53, 54, 55, 56, 57, 58, 59, 60, 61, 62, 63, 64, 65, 66, 67, 68, 69, 70] (by decide +kernel) (by decide +kernel)
set_option maxRecDepth 20000 in
theorem gX6_digest_X6_told : GoodIn wsX6_digest (wsV RX6 144 RX6 yX6_told wsX6_told) := goodIn_app (goodIn_of _ (by decide +kernel)) ggX6_digest_X6_told
theorem dX6_digest_0 : decode cX6_digest 0 = .ok (.ldc2_w 218, 3) := by decide +kernel
theorem dX6_digest_3 : decode cX6_digest 3 = .ok (.lstore_n 1, 1) := by decide +kernel
theorem dX6_digest_4 : decode cX6_digest 4 = .ok (.iconst 0, 1) := by decide +kernel
theorem dX6_digest_5 : decode cX6_digest 5 = .ok (.istore_n 3, 1) := by decide +kernel
theorem dX6_digest_6 : decode cX6_digest 6 = .ok (.iload_n 3, 1) := by decide +kernel
theorem dX6_digest_7 : decode cX6_digest 7 = .ok (.bipush 9, 2) := by decide +kernel
theorem dX6_digest_9 : decode cX6_digest 9 = .ok (.if_icmp .ge 22, 3) := by decide +kernel
theorem dX6_digest_12 : decode cX6_digest 12 = .ok (.ldc2_w 220, 3) := by decide +kernel
theorem dX6_digest_15 : decode cX6_digest 15 = .ok (.lload_n 1, 1) := by decide +kernel
theorem dX6_digest_16 : decode cX6_digest 16 = .ok (.lmul, 1) := by decide +kernel
theorem dX6_digest_17 : decode cX6_digest 17 = .ok (.aload_n 0, 1) := by decide +kernel
theorem dX6_digest_18 : decode cX6_digest 18 = .ok (.iload_n 3, 1) := by decide +kernel
theorem dX6_digest_19 : decode cX6_digest 19 = .ok (.invokevirtual 215, 3) := by decide +kernel
theorem dX6_digest_22 : decode cX6_digest 22 = .ok (.i2l, 1) := by decide +kernel
theorem dX6_digest_23 : decode cX6_digest 23 = .ok (.ladd, 1) := by decide +kernel
theorem dX6_digest_24 : decode cX6_digest 24 = .ok (.lstore_n 1, 1) := by decide +kernel
theorem dX6_digest_25 : decode cX6_digest 25 = .ok (.iinc 3 1, 3) := by decide +kernel
theorem dX6_digest_28 : decode cX6_digest 28 = .ok (.goto (-22), 3) := by decide +kernel
theorem dX6_digest_31 : decode cX6_digest 31 = .ok (.iconst 0, 1) := by decide +kernel
theorem dX6_digest_32 : decode cX6_digest 32 = .ok (.istore_n 3, 1) := by decide +kernel
theorem dX6_digest_33 : decode cX6_digest 33 = .ok (.iload_n 3, 1) := by decide +kernel
theorem dX6_digest_34 : decode cX6_digest 34 = .ok (.aload_n 0, 1) := by decide +kernel
theorem dX6_digest_35 : decode cX6_digest 35 = .ok (.getfield 22, 3) := by decide +kernel
theorem dX6_digest_38 : decode cX6_digest 38 = .ok (.iconst 0, 1) := by decide +kernel
theorem dX6_digest_39 : decode cX6_digest 39 = .ok (.iaload, 1) := by decide +kernel
theorem dX6_digest_40 : decode cX6_digest 40 = .ok (.if_icmp .ge 39, 3) := by decide +kernel
theorem dX6_digest_43 : decode cX6_digest 43 = .ok (.iconst 0, 1) := by decide +kernel
theorem dX6_digest_44 : decode cX6_digest 44 = .ok (.istore 4, 2) := by decide +kernel
theorem dX6_digest_46 : decode cX6_digest 46 = .ok (.iload 4, 2) := by decide +kernel
theorem dX6_digest_48 : decode cX6_digest 48 = .ok (.iconst 5, 1) := by decide +kernel
theorem dX6_digest_49 : decode cX6_digest 49 = .ok (.if_icmp .ge 24, 3) := by decide +kernel
theorem dX6_digest_52 : decode cX6_digest 52 = .ok (.ldc2_w 220, 3) := by decide +kernel
theorem dX6_digest_55 : decode cX6_digest 55 = .ok (.lload_n 1, 1) := by decide +kernel
theorem dX6_digest_56 : decode cX6_digest 56 = .ok (.lmul, 1) := by decide +kernel
theorem dX6_digest_57 : decode cX6_digest 57 = .ok (.aload_n 0, 1) := by decide +kernel
theorem dX6_digest_58 : decode cX6_digest 58 = .ok (.iload_n 3, 1) := by decide +kernel
theorem dX6_digest_59 : decode cX6_digest 59 = .ok (.iload 4, 2) := by decide +kernel
theorem dX6_digest_61 : decode cX6_digest 61 = .ok (.invokevirtual 144, 3) := by decide +kernel
theorem dX6_digest_64 : decode cX6_digest 64 = .ok (.i2l, 1) := by decide +kernel
theorem dX6_digest_65 : decode cX6_digest 65 = .ok (.ladd, 1) := by decide +kernel
theorem dX6_digest_66 : decode cX6_digest 66 = .ok (.lstore_n 1, 1) := by decide +kernel
theorem dX6_digest_67 : decode cX6_digest 67 = .ok (.iinc 4 1, 3) := by decide +kernel
theorem dX6_digest_70 : decode cX6_digest 70 = .ok (.goto (-24), 3) := by decide +kernel
theorem dX6_digest_73 : decode cX6_digest 73 = .ok (.iinc 3 1, 3) := by decide +kernel
theorem dX6_digest_76 : decode cX6_digest 76 = .ok (.goto (-43), 3) := by decide +kernel
theorem dX6_digest_79 : decode cX6_digest 79 = .ok (.iconst 0, 1) := by decide +kernel
theorem dX6_digest_80 : decode cX6_digest 80 = .ok (.istore_n 3, 1) := by decide +kernel
theorem dX6_digest_81 : decode cX6_digest 81 = .ok (.iload_n 3, 1) := by decide +kernel
theorem dX6_digest_82 : decode cX6_digest 82 = .ok (.aload_n 0, 1) := by decide +kernel
theorem dX6_digest_83 : decode cX6_digest 83 = .ok (.getfield 22, 3) := by decide +kernel
theorem dX6_digest_86 : decode cX6_digest 86 = .ok (.iconst 1, 1) := by decide +kernel
theorem dX6_digest_87 : decode cX6_digest 87 = .ok (.iaload, 1) := by decide +kernel
theorem dX6_digest_88 : decode cX6_digest 88 = .ok (.if_icmp .ge 47, 3) := by decide +kernel
theorem dX6_digest_91 : decode cX6_digest 91 = .ok (.iconst 0, 1) := by decide +kernel
theorem dX6_digest_92 : decode cX6_digest 92 = .ok (.istore 4, 2) := by decide +kernel
theorem dX6_digest_94 : decode cX6_digest 94 = .ok (.iload 4, 2) := by decide +kernel
theorem dX6_digest_96 : decode cX6_digest 96 = .ok (.iconst 5, 1) := by decide +kernel
theorem dX6_digest_97 : decode cX6_digest 97 = .ok (.if_icmp .ge 32, 3) := by decide +kernel
theorem dX6_digest_100 : decode cX6_digest 100 = .ok (.ldc2_w 220, 3) := by decide +kernel
theorem dX6_digest_103 : decode cX6_digest 103 = .ok (.lload_n 1, 1) := by decide +kernel
theorem dX6_digest_104 : decode cX6_digest 104 = .ok (.lmul, 1) := by decide +kernel
theorem dX6_digest_105 : decode cX6_digest 105 = .ok (.aload_n 0, 1) := by decide +kernel
theorem dX6_digest_106 : decode cX6_digest 106 = .ok (.getfield 22, 3) := by decide +kernel
theorem dX6_digest_109 : decode cX6_digest 109 = .ok (.bipush 19, 2) := by decide +kernel
theorem dX6_digest_111 : decode cX6_digest 111 = .ok (.bipush 12, 2) := by decide +kernel
theorem dX6_digest_113 : decode cX6_digest 113 = .ok (.iload 4, 2) := by decide +kernel
theorem dX6_digest_115 : decode cX6_digest 115 = .ok (.imul, 1) := by decide +kernel
theorem dX6_digest_116 : decode cX6_digest 116 = .ok (.iadd, 1) := by decide +kernel
theorem dX6_digest_117 : decode cX6_digest 117 = .ok (.iload_n 3, 1) := by decide +kernel
theorem dX6_digest_118 : decode cX6_digest 118 = .ok (.iadd, 1) := by decide +kernel
theorem dX6_digest_119 : decode cX6_digest 119 = .ok (.iaload, 1) := by decide +kernel
theorem dX6_digest_120 : decode cX6_digest 120 = .ok (.i2l, 1) := by decide +kernel
theorem dX6_digest_121 : decode cX6_digest 121 = .ok (.ladd, 1) := by decide +kernel
theorem dX6_digest_122 : decode cX6_digest 122 = .ok (.lstore_n 1, 1) := by decide +kernel
theorem dX6_digest_123 : decode cX6_digest 123 = .ok (.iinc 4 1, 3) := by decide +kernel
theorem dX6_digest_126 : decode cX6_digest 126 = .ok (.goto (-32), 3) := by decide +kernel
theorem dX6_digest_129 : decode cX6_digest 129 = .ok (.iinc 3 1, 3) := by decide +kernel
theorem dX6_digest_132 : decode cX6_digest 132 = .ok (.goto (-51), 3) := by decide +kernel
theorem dX6_digest_135 : decode cX6_digest 135 = .ok (.iconst 0, 1) := by decide +kernel
theorem dX6_digest_136 : decode cX6_digest 136 = .ok (.istore_n 3, 1) := by decide +kernel
theorem dX6_digest_137 : decode cX6_digest 137 = .ok (.iload_n 3, 1) := by decide +kernel
theorem dX6_digest_138 : decode cX6_digest 138 = .ok (.iconst 3, 1) := by decide +kernel
theorem dX6_digest_139 : decode cX6_digest 139 = .ok (.if_icmp .ge 41, 3) := by decide +kernel
theorem dX6_digest_142 : decode cX6_digest 142 = .ok (.ldc2_w 220, 3) := by decide +kernel
theorem dX6_digest_145 : decode cX6_digest 145 = .ok (.lload_n 1, 1) := by decide +kernel
theorem dX6_digest_146 : decode cX6_digest 146 = .ok (.lmul, 1) := by decide +kernel
theorem dX6_digest_147 : decode cX6_digest 147 = .ok (.aload_n 0, 1) := by decide +kernel
theorem dX6_digest_148 : decode cX6_digest 148 = .ok (.getfield 28, 3) := by decide +kernel
theorem dX6_digest_151 : decode cX6_digest 151 = .ok (.iload_n 3, 1) := by decide +kernel
theorem dX6_digest_152 : decode cX6_digest 152 = .ok (.baload, 1) := by decide +kernel
theorem dX6_digest_153 : decode cX6_digest 153 = .ok (.ifCond .eq 17, 3) := by decide +kernel
theorem dX6_digest_156 : decode cX6_digest 156 = .ok (.aload_n 0, 1) := by decide +kernel
theorem dX6_digest_157 : decode cX6_digest 157 = .ok (.getfield 25, 3) := by decide +kernel
theorem dX6_digest_160 : decode cX6_digest 160 = .ok (.bipush 119, 2) := by decide +kernel
theorem dX6_digest_162 : decode cX6_digest 162 = .ok (.iload_n 3, 1) := by decide +kernel
theorem dX6_digest_163 : decode cX6_digest 163 = .ok (.imul, 1) := by decide +kernel
theorem dX6_digest_164 : decode cX6_digest 164 = .ok (.iconst 3, 1) := by decide +kernel
theorem dX6_digest_165 : decode cX6_digest 165 = .ok (.iadd, 1) := by decide +kernel
theorem dX6_digest_166 : decode cX6_digest 166 = .ok (.iaload, 1) := by decide +kernel
theorem dX6_digest_167 : decode cX6_digest 167 = .ok (.goto 4, 3) := by decide +kernel
theorem dX6_digest_170 : decode cX6_digest 170 = .ok (.iconst (-1), 1) := by decide +kernel
theorem dX6_digest_171 : decode cX6_digest 171 = .ok (.i2l, 1) := by decide +kernel
theorem dX6_digest_172 : decode cX6_digest 172 = .ok (.ladd, 1) := by decide +kernel
theorem dX6_digest_173 : decode cX6_digest 173 = .ok (.lstore_n 1, 1) := by decide +kernel
theorem dX6_digest_174 : decode cX6_digest 174 = .ok (.iinc 3 1, 3) := by decide +kernel
theorem dX6_digest_177 : decode cX6_digest 177 = .ok (.goto (-40), 3) := by decide +kernel
theorem dX6_digest_180 : decode cX6_digest 180 = .ok (.iconst 0, 1) := by decide +kernel
theorem dX6_digest_181 : decode cX6_digest 181 = .ok (.istore_n 3, 1) := by decide +kernel
theorem dX6_digest_182 : decode cX6_digest 182 = .ok (.iload_n 3, 1) := by decide +kernel
theorem dX6_digest_183 : decode cX6_digest 183 = .ok (.bipush 6, 2) := by decide +kernel
theorem dX6_digest_185 : decode cX6_digest 185 = .ok (.if_icmp .ge 63, 3) := by decide +kernel
theorem dX6_digest_188 : decode cX6_digest 188 = .ok (.ldc2_w 220, 3) := by decide +kernel
theorem dX6_digest_191 : decode cX6_digest 191 = .ok (.lload_n 1, 1) := by decide +kernel
theorem dX6_digest_192 : decode cX6_digest 192 = .ok (.lmul, 1) := by decide +kernel
theorem dX6_digest_193 : decode cX6_digest 193 = .ok (.aload_n 0, 1) := by decide +kernel
theorem dX6_digest_194 : decode cX6_digest 194 = .ok (.getfield 7, 3) := by decide +kernel
theorem dX6_digest_197 : decode cX6_digest 197 = .ok (.iload_n 3, 1) := by decide +kernel
theorem dX6_digest_198 : decode cX6_digest 198 = .ok (.iaload, 1) := by decide +kernel
theorem dX6_digest_199 : decode cX6_digest 199 = .ok (.i2l, 1) := by decide +kernel
theorem dX6_digest_200 : decode cX6_digest 200 = .ok (.ladd, 1) := by decide +kernel
theorem dX6_digest_201 : decode cX6_digest 201 = .ok (.lstore_n 1, 1) := by decide +kernel
theorem dX6_digest_202 : decode cX6_digest 202 = .ok (.iconst 0, 1) := by decide +kernel
theorem dX6_digest_203 : decode cX6_digest 203 = .ok (.istore 4, 2) := by decide +kernel
theorem dX6_digest_205 : decode cX6_digest 205 = .ok (.iload 4, 2) := by decide +kernel
theorem dX6_digest_207 : decode cX6_digest 207 = .ok (.aload_n 0, 1) := by decide +kernel
theorem dX6_digest_208 : decode cX6_digest 208 = .ok (.getfield 7, 3) := by decide +kernel
theorem dX6_digest_211 : decode cX6_digest 211 = .ok (.iload_n 3, 1) := by decide +kernel
theorem dX6_digest_212 : decode cX6_digest 212 = .ok (.iaload, 1) := by decide +kernel
theorem dX6_digest_213 : decode cX6_digest 213 = .ok (.if_icmp .ge 29, 3) := by decide +kernel
theorem dX6_digest_216 : decode cX6_digest 216 = .ok (.ldc2_w 220, 3) := by decide +kernel
theorem dX6_digest_219 : decode cX6_digest 219 = .ok (.lload_n 1, 1) := by decide +kernel
theorem dX6_digest_220 : decode cX6_digest 220 = .ok (.lmul, 1) := by decide +kernel
theorem dX6_digest_221 : decode cX6_digest 221 = .ok (.aload_n 0, 1) := by decide +kernel
theorem dX6_digest_222 : decode cX6_digest 222 = .ok (.getfield 13, 3) := by decide +kernel
theorem dX6_digest_225 : decode cX6_digest 225 = .ok (.bipush 40, 2) := by decide +kernel
theorem dX6_digest_227 : decode cX6_digest 227 = .ok (.iload_n 3, 1) := by decide +kernel
theorem dX6_digest_228 : decode cX6_digest 228 = .ok (.imul, 1) := by decide +kernel
theorem dX6_digest_229 : decode cX6_digest 229 = .ok (.iload 4, 2) := by decide +kernel
theorem dX6_digest_231 : decode cX6_digest 231 = .ok (.iadd, 1) := by decide +kernel
theorem dX6_digest_232 : decode cX6_digest 232 = .ok (.iaload, 1) := by decide +kernel
theorem dX6_digest_233 : decode cX6_digest 233 = .ok (.i2l, 1) := by decide +kernel
theorem dX6_digest_234 : decode cX6_digest 234 = .ok (.ladd, 1) := by decide +kernel
theorem dX6_digest_235 : decode cX6_digest 235 = .ok (.lstore_n 1, 1) := by decide +kernel
theorem dX6_digest_236 : decode cX6_digest 236 = .ok (.iinc 4 1, 3) := by decide +kernel
theorem dX6_digest_239 : decode cX6_digest 239 = .ok (.goto (-34), 3) := by decide +kernel
theorem dX6_digest_242 : decode cX6_digest 242 = .ok (.iinc 3 1, 3) := by decide +kernel
theorem dX6_digest_245 : decode cX6_digest 245 = .ok (.goto (-63), 3) := by decide +kernel
theorem dX6_digest_248 : decode cX6_digest 248 = .ok (.iconst 0, 1) := by decide +kernel
theorem dX6_digest_249 : decode cX6_digest 249 = .ok (.istore_n 3, 1) := by decide +kernel
theorem dX6_digest_250 : decode cX6_digest 250 = .ok (.iload_n 3, 1) := by decide +kernel
theorem dX6_digest_251 : decode cX6_digest 251 = .ok (.iconst 4, 1) := by decide +kernel
theorem dX6_digest_252 : decode cX6_digest 252 = .ok (.if_icmp .ge 63, 3) := by decide +kernel
theorem dX6_digest_255 : decode cX6_digest 255 = .ok (.ldc2_w 220, 3) := by decide +kernel
theorem dX6_digest_258 : decode cX6_digest 258 = .ok (.lload_n 1, 1) := by decide +kernel
theorem dX6_digest_259 : decode cX6_digest 259 = .ok (.lmul, 1) := by decide +kernel
theorem dX6_digest_260 : decode cX6_digest 260 = .ok (.aload_n 0, 1) := by decide +kernel
theorem dX6_digest_261 : decode cX6_digest 261 = .ok (.getfield 16, 3) := by decide +kernel
theorem dX6_digest_264 : decode cX6_digest 264 = .ok (.iload_n 3, 1) := by decide +kernel
theorem dX6_digest_265 : decode cX6_digest 265 = .ok (.iaload, 1) := by decide +kernel
theorem dX6_digest_266 : decode cX6_digest 266 = .ok (.i2l, 1) := by decide +kernel
theorem dX6_digest_267 : decode cX6_digest 267 = .ok (.ladd, 1) := by decide +kernel
theorem dX6_digest_268 : decode cX6_digest 268 = .ok (.lstore_n 1, 1) := by decide +kernel
theorem dX6_digest_269 : decode cX6_digest 269 = .ok (.iconst 0, 1) := by decide +kernel
theorem dX6_digest_270 : decode cX6_digest 270 = .ok (.istore 4, 2) := by decide +kernel
theorem dX6_digest_272 : decode cX6_digest 272 = .ok (.iload 4, 2) := by decide +kernel
theorem dX6_digest_274 : decode cX6_digest 274 = .ok (.aload_n 0, 1) := by decide +kernel
theorem dX6_digest_275 : decode cX6_digest 275 = .ok (.getfield 16, 3) := by decide +kernel
theorem dX6_digest_278 : decode cX6_digest 278 = .ok (.iload_n 3, 1) := by decide +kernel
theorem dX6_digest_279 : decode cX6_digest 279 = .ok (.iaload, 1) := by decide +kernel
theorem dX6_digest_280 : decode cX6_digest 280 = .ok (.if_icmp .ge 29, 3) := by decide +kernel
theorem dX6_digest_283 : decode cX6_digest 283 = .ok (.ldc2_w 220, 3) := by decide +kernel
theorem dX6_digest_286 : decode cX6_digest 286 = .ok (.lload_n 1, 1) := by decide +kernel
theorem dX6_digest_287 : decode cX6_digest 287 = .ok (.lmul, 1) := by decide +kernel
theorem dX6_digest_288 : decode cX6_digest 288 = .ok (.aload_n 0, 1) := by decide +kernel
theorem dX6_digest_289 : decode cX6_digest 289 = .ok (.getfield 19, 3) := by decide +kernel
theorem dX6_digest_292 : decode cX6_digest 292 = .ok (.bipush 60, 2) := by decide +kernel
theorem dX6_digest_294 : decode cX6_digest 294 = .ok (.iload_n 3, 1) := by decide +kernel
theorem dX6_digest_295 : decode cX6_digest 295 = .ok (.imul, 1) := by decide +kernel
theorem dX6_digest_296 : decode cX6_digest 296 = .ok (.iload 4, 2) := by decide +kernel
theorem dX6_digest_298 : decode cX6_digest 298 = .ok (.iadd, 1) := by decide +kernel
theorem dX6_digest_299 : decode cX6_digest 299 = .ok (.iaload, 1) := by decide +kernel
theorem dX6_digest_300 : decode cX6_digest 300 = .ok (.i2l, 1) := by decide +kernel
theorem dX6_digest_301 : decode cX6_digest 301 = .ok (.ladd, 1) := by decide +kernel
theorem dX6_digest_302 : decode cX6_digest 302 = .ok (.lstore_n 1, 1) := by decide +kernel
theorem dX6_digest_303 : decode cX6_digest 303 = .ok (.iinc 4 1, 3) := by decide +kernel
theorem dX6_digest_306 : decode cX6_digest 306 = .ok (.goto (-34), 3) := by decide +kernel
theorem dX6_digest_309 : decode cX6_digest 309 = .ok (.iinc 3 1, 3) := by decide +kernel
theorem dX6_digest_312 : decode cX6_digest 312 = .ok (.goto (-62), 3) := by decide +kernel
theorem dX6_digest_315 : decode cX6_digest 315 = .ok (.lload_n 1, 1) := by decide +kernel
theorem dX6_digest_316 : decode cX6_digest 316 = .ok (.lreturn, 1) := by decide +kernel
theorem dJ6_bitCount_0f7a4_0 : decode cJ6_bitCount_0f7a4 0 = .ok (.iload_n 0, 1) := by decide +kernel
theorem dJ6_bitCount_0f7a4_1 : decode cJ6_bitCount_0f7a4 1 = .ok (.iload_n 0, 1) := by decide +kernel
theorem dJ6_bitCount_0f7a4_2 : decode cJ6_bitCount_0f7a4 2 = .ok (.iconst 1, 1) := by decide +kernel
theorem dJ6_bitCount_0f7a4_3 : decode cJ6_bitCount_0f7a4 3 = .ok (.iushr, 1) := by decide +kernel
theorem dJ6_bitCount_0f7a4_4 : decode cJ6_bitCount_0f7a4 4 = .ok (.ldc_w 265, 3) := by decide +kernel
theorem dJ6_bitCount_0f7a4_7 : decode cJ6_bitCount_0f7a4 7 = .ok (.iand, 1) := by decide +kernel
theorem dJ6_bitCount_0f7a4_8 : decode cJ6_bitCount_0f7a4 8 = .ok (.isub, 1) := by decide +kernel
theorem dJ6_bitCount_0f7a4_9 : decode cJ6_bitCount_0f7a4 9 = .ok (.istore_n 0, 1) := by decide +kernel
theorem dJ6_bitCount_0f7a4_10 : decode cJ6_bitCount_0f7a4 10 = .ok (.iload_n 0, 1) := by decide +kernel
theorem dJ6_bitCount_0f7a4_11 : decode cJ6_bitCount_0f7a4 11 = .ok (.ldc_w 266, 3) := by decide +kernel
theorem dJ6_bitCount_0f7a4_14 : decode cJ6_bitCount_0f7a4 14 = .ok (.iand, 1) := by decide +kernel
theorem dJ6_bitCount_0f7a4_15 : decode cJ6_bitCount_0f7a4 15 = .ok (.iload_n 0, 1) := by decide +kernel
theorem dJ6_bitCount_0f7a4_16 : decode cJ6_bitCount_0f7a4 16 = .ok (.iconst 2, 1) := by decide +kernel
theorem dJ6_bitCount_0f7a4_17 : decode cJ6_bitCount_0f7a4 17 = .ok (.iushr, 1) := by decide +kernel
theorem dJ6_bitCount_0f7a4_18 : decode cJ6_bitCount_0f7a4 18 = .ok (.ldc_w 266, 3) := by decide +kernel
theorem dJ6_bitCount_0f7a4_21 : decode cJ6_bitCount_0f7a4 21 = .ok (.iand, 1) := by decide +kernel
theorem dJ6_bitCount_0f7a4_22 : decode cJ6_bitCount_0f7a4 22 = .ok (.iadd, 1) := by decide +kernel
theorem dJ6_bitCount_0f7a4_23 : decode cJ6_bitCount_0f7a4 23 = .ok (.istore_n 0, 1) := by decide +kernel
theorem dJ6_bitCount_0f7a4_24 : decode cJ6_bitCount_0f7a4 24 = .ok (.iload_n 0, 1) := by decide +kernel
theorem dJ6_bitCount_0f7a4_25 : decode cJ6_bitCount_0f7a4 25 = .ok (.iload_n 0, 1) := by decide +kernel
theorem dJ6_bitCount_0f7a4_26 : decode cJ6_bitCount_0f7a4 26 = .ok (.iconst 4, 1) := by decide +kernel
theorem dJ6_bitCount_0f7a4_27 : decode cJ6_bitCount_0f7a4 27 = .ok (.iushr, 1) := by decide +kernel
theorem dJ6_bitCount_0f7a4_28 : decode cJ6_bitCount_0f7a4 28 = .ok (.iadd, 1) := by decide +kernel
theorem dJ6_bitCount_0f7a4_29 : decode cJ6_bitCount_0f7a4 29 = .ok (.ldc_w 267, 3) := by decide +kernel
theorem dJ6_bitCount_0f7a4_32 : decode cJ6_bitCount_0f7a4 32 = .ok (.iand, 1) := by decide +kernel
theorem dJ6_bitCount_0f7a4_33 : decode cJ6_bitCount_0f7a4 33 = .ok (.istore_n 0, 1) := by decide +kernel
theorem dJ6_bitCount_0f7a4_34 : decode cJ6_bitCount_0f7a4 34 = .ok (.iload_n 0, 1) := by decide +kernel
theorem dJ6_bitCount_0f7a4_35 : decode cJ6_bitCount_0f7a4 35 = .ok (.iload_n 0, 1) := by decide +kernel
theorem dJ6_bitCount_0f7a4_36 : decode cJ6_bitCount_0f7a4 36 = .ok (.bipush 8, 2) := by decide +kernel
theorem dJ6_bitCount_0f7a4_38 : decode cJ6_bitCount_0f7a4 38 = .ok (.iushr, 1) := by decide +kernel
theorem dJ6_bitCount_0f7a4_39 : decode cJ6_bitCount_0f7a4 39 = .ok (.iadd, 1) := by decide +kernel
theorem dJ6_bitCount_0f7a4_40 : decode cJ6_bitCount_0f7a4 40 = .ok (.istore_n 0, 1) := by decide +kernel
theorem dJ6_bitCount_0f7a4_41 : decode cJ6_bitCount_0f7a4 41 = .ok (.iload_n 0, 1) := by decide +kernel
theorem dJ6_bitCount_0f7a4_42 : decode cJ6_bitCount_0f7a4 42 = .ok (.iload_n 0, 1) := by decide +kernel
theorem dJ6_bitCount_0f7a4_43 : decode cJ6_bitCount_0f7a4 43 = .ok (.bipush 16, 2) := by decide +kernel
theorem dJ6_bitCount_0f7a4_45 : decode cJ6_bitCount_0f7a4 45 = .ok (.iushr, 1) := by decide +kernel
theorem dJ6_bitCount_0f7a4_46 : decode cJ6_bitCount_0f7a4 46 = .ok (.iadd, 1) := by decide +kernel
theorem dJ6_bitCount_0f7a4_47 : decode cJ6_bitCount_0f7a4 47 = .ok (.istore_n 0, 1) := by decide +kernel
theorem dJ6_bitCount_0f7a4_48 : decode cJ6_bitCount_0f7a4 48 = .ok (.iload_n 0, 1) := by decide +kernel
theorem dJ6_bitCount_0f7a4_49 : decode cJ6_bitCount_0f7a4 49 = .ok (.bipush 63, 2) := by decide +kernel
theorem dJ6_bitCount_0f7a4_51 : decode cJ6_bitCount_0f7a4 51 = .ok (.iand, 1) := by decide +kernel
theorem dJ6_bitCount_0f7a4_52 : decode cJ6_bitCount_0f7a4 52 = .ok (.ireturn, 1) := by decide +kernel
theorem dJ9_floorMod_7cf53_0 : decode cJ9_floorMod_7cf53 0 = .ok (.iload_n 0, 1) := by decide +kernel
theorem dJ9_floorMod_7cf53_1 : decode cJ9_floorMod_7cf53 1 = .ok (.iload_n 1, 1) := by decide +kernel
theorem dJ9_floorMod_7cf53_2 : decode cJ9_floorMod_7cf53 2 = .ok (.irem, 1) := by decide +kernel
theorem dJ9_floorMod_7cf53_3 : decode cJ9_floorMod_7cf53 3 = .ok (.istore_n 2, 1) := by decide +kernel
theorem dJ9_floorMod_7cf53_4 : decode cJ9_floorMod_7cf53 4 = .ok (.iload_n 0, 1) := by decide +kernel
theorem dJ9_floorMod_7cf53_5 : decode cJ9_floorMod_7cf53 5 = .ok (.iload_n 1, 1) := by decide +kernel
theorem dJ9_floorMod_7cf53_6 : decode cJ9_floorMod_7cf53 6 = .ok (.ixor, 1) := by decide +kernel
theorem dJ9_floorMod_7cf53_7 : decode cJ9_floorMod_7cf53 7 = .ok (.ifCond .ge 11, 3) := by decide +kernel
theorem dJ9_floorMod_7cf53_10 : decode cJ9_floorMod_7cf53 10 = .ok (.iload_n 2, 1) := by decide +kernel
theorem dJ9_floorMod_7cf53_11 : decode cJ9_floorMod_7cf53 11 = .ok (.ifCond .eq 7, 3) := by decide +kernel
theorem dJ9_floorMod_7cf53_14 : decode cJ9_floorMod_7cf53 14 = .ok (.iload_n 2, 1) := by decide +kernel
theorem dJ9_floorMod_7cf53_15 : decode cJ9_floorMod_7cf53 15 = .ok (.iload_n 1, 1) := by decide +kernel
theorem dJ9_floorMod_7cf53_16 : decode cJ9_floorMod_7cf53 16 = .ok (.iadd, 1) := by decide +kernel
theorem dJ9_floorMod_7cf53_17 : decode cJ9_floorMod_7cf53 17 = .ok (.ireturn, 1) := by decide +kernel
theorem dJ9_floorMod_7cf53_18 : decode cJ9_floorMod_7cf53 18 = .ok (.iload_n 2, 1) := by decide +kernel
theorem dJ9_floorMod_7cf53_19 : decode cJ9_floorMod_7cf53 19 = .ok (.ireturn, 1) := by decide +kernel
theorem dJ9_max_7cf53_0 : decode cJ9_max_7cf53 0 = .ok (.iload_n 0, 1) := by decide +kernel
theorem dJ9_max_7cf53_1 : decode cJ9_max_7cf53 1 = .ok (.iload_n 1, 1) := by decide +kernel
theorem dJ9_max_7cf53_2 : decode cJ9_max_7cf53 2 = .ok (.if_icmp .lt 7, 3) := by decide +kernel
theorem dJ9_max_7cf53_5 : decode cJ9_max_7cf53 5 = .ok (.iload_n 0, 1) := by decide +kernel
theorem dJ9_max_7cf53_6 : decode cJ9_max_7cf53 6 = .ok (.goto 4, 3) := by decide +kernel
theorem dJ9_max_7cf53_9 : decode cJ9_max_7cf53 9 = .ok (.iload_n 1, 1) := by decide +kernel
theorem dJ9_max_7cf53_10 : decode cJ9_max_7cf53 10 = .ok (.ireturn, 1) := by decide +kernel
set_option maxRecDepth 20000 in
theorem ggL_law_X5_init : GoodIn wsL_law wsX5_init := goodIn_r _ [8, 9, 10, 11, 12, 13, 14, 15, 16, 17, 18, 19, 20, 21, 22, 23, 24, 25, 26, 27, 28, 29, 30, 31, 32, 33, 34, 35, 36, 37, 38, 39, 40, 41, 42, 43, 44, 45, 46, 47, 48, 49, 50, 51, 52, 53, 54, 55, 56, 57, 58, 59, 60, 61, 62, 63, 64, 65, 66, 67, 68, 69, 70, 71, 72, 73, 74, 75, 76, 77, 78, 79, 80, 81, 82, 83, 84, 977, 978, 979, 951, 952, 953, 954, 955, 956, 957, 958, 980, 981, 982, 983, 984, 985, 986, 987, 988, 989, 990, 991, 992, 993, 994, 995, 996, 997, 998, 999, 1000, 1001, 1002, 1003] (by decide +kernel) (by decide +kernel)
set_option maxRecDepth 20000 in
theorem gL_law_X5_init : GoodIn wsL_law (wsX5_init) := ggL_law_X5_init
set_option maxRecDepth 20000 in
theorem ggL_law_X6_init : GoodIn wsL_law wsX6_init := goodIn_r _ [87, 88, 10, 11, 34, 89, 90, 91, 92, 93, 94, 95, 96, 97, 98, 99, 100, 101, 102, 103, 959, 960, 961, 962, 963, 964, 965, 966, 967, 968, 969, 970, 971, 972, 973, 974, 975, 976] (by decide +kernel) (by decide +kernel)
set_option maxRecDepth 20000 in
theorem gL_law_X6_init : GoodIn wsL_law (wsX6_init) := ggL_law_X6_init
set_option maxRecDepth 20000 in
theorem ggL_law_X5_row : GoodIn wsL_law wsX5_row := goodIn_r _ [107, 15, 20, 108, 109, 110, 14, 111, 47, 112, 113, 114, 19, 115, 54, 55, 116, 117, 118, 119, 44, 46, 120, 951, 952, 953, 954, 955, 956, 957, 958, 977, 978, 979, 980, 981, 982, 983, 984] (by decide +kernel) (by decide +kernel)
set_option maxRecDepth 20000 in
theorem gL_law_X5_row : GoodIn wsL_law (wsV RL 13 RX5 yX5_row wsX5_row) := goodIn_app (goodIn_of _ (by decide +kernel)) ggL_law_X5_row
set_option maxRecDepth 20000 in
theorem ggL_law_X6_row : GoodIn wsL_law wsX6_row := goodIn_r _ [124, 89, 90, 125, 126, 5, 127, 128, 129, 130, 131, 132, 133, 134, 135, 136, 98, 959, 960, 961, 962, 963, 964, 965, 966, 967, 968, 969, 970, 971, 972, 973, 974, 975, 976] (by decide +kernel) (by decide +kernel)
set_option maxRecDepth 20000 in
theorem gL_law_X6_row : GoodIn wsL_law (wsV RL 17 RX6 yX6_row wsX6_row) := goodIn_app (goodIn_of _ (by decide +kernel)) ggL_law_X6_row
set_option maxRecDepth 20000 in
theorem ggL_law_X5_lay : GoodIn wsL_law wsX5_lay := goodIn_r _ [140, 15, 20, 141, 142, 143, 2, 144, 145, 146, 147, 148, 108, 109, 110, 14, 111, 47, 149, 150, 151, 152, 120, 112, 113, 114, 19, 115, 54, 55, 153, 154, 155, 156, 157, 158, 159, 160, 46, 161, 162, 163, 164, 165, 951, 952, 953, 954, 955, 956, 957, 958, 980, 981, 982, 983, 984, 977, 978, 979] (by decide +kernel) (by decide +kernel)
set_option maxRecDepth 20000 in
theorem gL_law_X5_lay : GoodIn wsL_law (wsV RL 18 RX5 yX5_lay wsX5_lay) := goodIn_app (goodIn_of _ (by decide +kernel)) ggL_law_X5_lay
set_option maxRecDepth 20000 in
theorem ggL_law_X6_lay : GoodIn wsL_law wsX6_lay := goodIn_r _ [169, 89, 90, 125, 126, 5, 127, 128, 129, 130, 131, 132, 133, 134, 135, 136, 98, 170, 171, 172, 173, 174, 959, 960, 961, 962, 963, 964, 965, 966, 967, 968, 969, 970, 971, 972, 973, 974, 975, 976] (by decide +kernel) (by decide +kernel)
set_option maxRecDepth 20000 in
theorem gL_law_X6_lay : GoodIn wsL_law (wsV RL 22 RX6 yX6_lay wsX6_lay) := goodIn_app (goodIn_of _ (by decide +kernel)) ggL_law_X6_lay
set_option maxRecDepth 20000 in
theorem ggL_law_X5_at : GoodIn wsL_law wsX5_at := goodIn_r _ [178, 15, 20, 141, 142, 143, 2, 144, 145, 146, 147, 148, 108, 109, 110, 14, 111, 47, 149, 150, 151, 152, 120, 112, 113, 114, 19, 115, 54, 55, 153, 154, 155, 156, 157, 158, 159, 160, 46, 161, 951, 952, 953, 954, 955, 956, 957, 958, 980, 981, 982, 983, 984, 977, 978, 979] (by decide +kernel) (by decide +kernel)
set_option maxRecDepth 20000 in
theorem gL_law_X5_at : GoodIn wsL_law (wsV RL 23 RX5 yX5_at wsX5_at) := goodIn_app (goodIn_of _ (by decide +kernel)) ggL_law_X5_at
set_option maxRecDepth 20000 in
theorem ggL_law_X6_at : GoodIn wsL_law wsX6_at := goodIn_r _ [182, 89, 90, 125, 126, 5, 127, 128, 129, 130, 131, 132, 133, 134, 135, 136, 98, 170, 171, 172, 173, 174, 959, 960, 961, 962, 963, 964, 965, 966, 967, 968, 969, 970, 971, 972, 973, 974, 975, 976] (by decide +kernel) (by decide +kernel)
set_option maxRecDepth 20000 in
theorem gL_law_X6_at : GoodIn wsL_law (wsV RL 26 RX6 yX6_at wsX6_at) := goodIn_app (goodIn_of _ (by decide +kernel)) ggL_law_X6_at
set_option maxRecDepth 20000 in
theorem ggL_law_X5_tear : GoodIn wsL_law wsX5_tear := goodIn_r _ [186, 15, 145, 146, 147, 2, 148, 20, 108, 109, 110, 14, 111, 47, 149, 150, 151, 152, 120, 112, 113, 114, 19, 115, 54, 55, 187, 188, 189, 190, 951, 952, 953, 954, 955, 956, 957, 958, 977, 978, 979, 980, 981, 982, 983, 984] (by decide +kernel) (by decide +kernel)
set_option maxRecDepth 20000 in
theorem gL_law_X5_tear : GoodIn wsL_law (wsV RL 27 RX5 yX5_tear wsX5_tear) := goodIn_app (goodIn_of _ (by decide +kernel)) ggL_law_X5_tear
set_option maxRecDepth 20000 in
theorem ggL_law_X6_tear : GoodIn wsL_law wsX6_tear := goodIn_r _ [194, 89, 125, 126, 5, 127, 128, 129, 130, 131, 132, 133, 134, 135, 136, 98, 959, 960, 961, 962, 963, 964, 965, 966, 967, 968, 969, 970, 971, 972, 973, 974, 975, 976] (by decide +kernel) (by decide +kernel)
set_option maxRecDepth 20000 in
theorem gL_law_X6_tear : GoodIn wsL_law (wsV RL 31 RX6 yX6_tear wsX6_tear) := goodIn_app (goodIn_of _ (by decide +kernel)) ggL_law_X6_tear
set_option maxRecDepth 20000 in
theorem ggL_law_X5_copy : GoodIn wsL_law wsX5_copy := goodIn_r _ [198, 15, 20, 108, 109, 110, 14, 111, 47, 112, 113, 114, 19, 115, 54, 55, 149, 150, 151, 152, 120, 199, 200, 201, 202, 203, 204, 205, 206, 207, 46, 208, 209, 210, 211, 212, 951, 952, 953, 954, 955, 956, 957, 958, 977, 978, 979, 980, 981, 982, 983, 984] (by decide +kernel) (by decide +kernel)
set_option maxRecDepth 20000 in
theorem gL_law_X5_copy : GoodIn wsL_law (wsV RL 32 RX5 yX5_copy wsX5_copy) := goodIn_app (goodIn_of _ (by decide +kernel)) ggL_law_X5_copy
set_option maxRecDepth 20000 in
theorem ggL_law_X6_copy : GoodIn wsL_law wsX6_copy := goodIn_r _ [216, 89, 90, 125, 126, 5, 127, 128, 129, 130, 131, 132, 133, 134, 135, 136, 98, 959, 960, 961, 962, 963, 964, 965, 966, 967, 968, 969, 970, 971, 972, 973, 974, 975, 976] (by decide +kernel) (by decide +kernel)
set_option maxRecDepth 20000 in
theorem gL_law_X6_copy : GoodIn wsL_law (wsV RL 36 RX6 yX6_copy wsX6_copy) := goodIn_app (goodIn_of _ (by decide +kernel)) ggL_law_X6_copy
set_option maxRecDepth 20000 in
theorem ggL_law_X5_mean : GoodIn wsL_law wsX5_mean := goodIn_r _ [220, 15, 20, 145, 146, 147, 2, 148, 108, 109, 110, 14, 111, 47, 149, 150, 151, 152, 120, 112, 113, 114, 19, 115, 54, 55, 221, 222, 223, 224, 157, 158, 159, 160, 46, 161, 154, 155, 156, 951, 952, 953, 954, 955, 956, 957, 958, 980, 981, 982, 983, 984, 977, 978, 979] (by decide +kernel) (by decide +kernel)
set_option maxRecDepth 20000 in
theorem gL_law_X5_mean : GoodIn wsL_law (wsV RL 37 RX5 yX5_mean wsX5_mean) := goodIn_app (goodIn_of _ (by decide +kernel)) ggL_law_X5_mean
set_option maxRecDepth 20000 in
theorem ggL_law_X6_mean : GoodIn wsL_law wsX6_mean := goodIn_r _ [228, 89, 90, 125, 126, 5, 127, 128, 129, 130, 131, 132, 133, 134, 135, 136, 98, 170, 171, 172, 173, 174, 959, 960, 961, 962, 963, 964, 965, 966, 967, 968, 969, 970, 971, 972, 973, 974, 975, 976] (by decide +kernel) (by decide +kernel)
set_option maxRecDepth 20000 in
theorem gL_law_X6_mean : GoodIn wsL_law (wsV RL 40 RX6 yX6_mean wsX6_mean) := goodIn_app (goodIn_of _ (by decide +kernel)) ggL_law_X6_mean
set_option maxRecDepth 20000 in
theorem ggL_law_X5_text : GoodIn wsL_law wsX5_text := goodIn_r _ [232, 16, 20, 108, 109, 110, 14, 111, 47, 112, 113, 114, 19, 115, 54, 55, 116, 117, 118, 119, 44, 46, 120, 951, 952, 953, 954, 955, 956, 957, 958, 977, 978, 979, 980, 981, 982, 983, 984] (by decide +kernel) (by decide +kernel)
set_option maxRecDepth 20000 in
theorem gL_law_X5_text : GoodIn wsL_law (wsV RL 41 RX5 yX5_text wsX5_text) := goodIn_app (goodIn_of _ (by decide +kernel)) ggL_law_X5_text
set_option maxRecDepth 20000 in
theorem ggL_law_X6_text : GoodIn wsL_law wsX6_text := goodIn_r _ [236, 91, 92, 237, 238, 5, 239, 240, 129, 130, 131, 132, 133, 134, 135, 136, 98, 959, 960, 961, 962, 963, 964, 965, 966, 967, 968, 969, 970, 971, 972, 973, 974, 975, 976] (by decide +kernel) (by decide +kernel)
set_option maxRecDepth 20000 in
theorem gL_law_X6_text : GoodIn wsL_law (wsV RL 44 RX6 yX6_text wsX6_text) := goodIn_app (goodIn_of _ (by decide +kernel)) ggL_law_X6_text
set_option maxRecDepth 20000 in
theorem ggL_law_X5_put : GoodIn wsL_law wsX5_put := goodIn_r _ [244, 16, 141, 142, 143, 2, 144, 20, 145, 146, 147, 148, 108, 109, 110, 14, 111, 47, 149, 150, 151, 152, 120, 112, 113, 114, 19, 115, 54, 55, 153, 154, 155, 156, 157, 158, 159, 160, 46, 161, 162, 163, 164, 165, 951, 952, 953, 954, 955, 956, 957, 958, 977, 978, 979, 980, 981, 982, 983, 984] (by decide +kernel) (by decide +kernel)
set_option maxRecDepth 20000 in
theorem gL_law_X5_put : GoodIn wsL_law (wsV RL 45 RX5 yX5_put wsX5_put) := goodIn_app (goodIn_of _ (by decide +kernel)) ggL_law_X5_put
set_option maxRecDepth 20000 in
theorem ggL_law_X6_put : GoodIn wsL_law wsX6_put := goodIn_r _ [248, 91, 92, 237, 238, 5, 239, 240, 129, 130, 131, 132, 133, 134, 135, 136, 98, 959, 960, 961, 962, 963, 964, 965, 966, 967, 968, 969, 970, 971, 972, 973, 974, 975, 976] (by decide +kernel) (by decide +kernel)
set_option maxRecDepth 20000 in
theorem gL_law_X6_put : GoodIn wsL_law (wsV RL 48 RX6 yX6_put wsX6_put) := goodIn_app (goodIn_of _ (by decide +kernel)) ggL_law_X6_put
set_option maxRecDepth 20000 in
theorem ggL_law_X5_fault : GoodIn wsL_law wsX5_fault := goodIn_r _ [252, 16, 24, 145, 146, 147, 2, 148, 20, 108, 109, 110, 14, 111, 47, 149, 150, 151, 152, 120, 112, 113, 114, 19, 115, 54, 55, 253, 254, 255, 23, 256, 60, 257, 258, 259, 31, 260, 64, 65, 66, 67, 68, 261, 222, 223, 224, 262, 158, 159, 160, 46, 161, 154, 155, 156, 263, 264, 265, 266, 267, 268, 269, 270, 271, 272, 273, 274, 72, 73, 74, 75, 275, 276, 277, 278, 279, 280, 281, 282, 283, 284, 285, 69, 70, 71, 951, 952, 953, 954, 955, 956, 957, 958, 977, 978, 979, 980, 981, 982, 983, 984, 985, 990, 991, 992, 993, 994, 995, 996, 997, 998, 999, 1000, 1001, 1002, 1003] (by decide +kernel) (by decide +kernel)
set_option maxRecDepth 20000 in
theorem gL_law_X5_fault : GoodIn wsL_law (wsV RL 49 RX5 yX5_fault wsX5_fault) := goodIn_app (goodIn_of _ (by decide +kernel)) ggL_law_X5_fault
set_option maxRecDepth 20000 in
theorem ggL_law_X6_fault : GoodIn wsL_law wsX6_fault := goodIn_r _ [289, 91, 237, 238, 5, 239, 240, 129, 130, 131, 132, 133, 134, 135, 136, 98, 290, 291, 292, 293, 99, 294, 295, 296, 297, 298, 92, 299, 300, 301, 302, 303, 304, 305, 306, 307, 308, 309, 310, 311, 312, 313, 959, 960, 961, 962, 963, 964, 965, 966, 967, 968, 969, 970, 971, 972, 973, 974, 975, 976] (by decide +kernel) (by decide +kernel)
set_option maxRecDepth 20000 in
theorem gL_law_X6_fault : GoodIn wsL_law (wsV RL 52 RX6 yX6_fault wsX6_fault) := goodIn_app (goodIn_of _ (by decide +kernel)) ggL_law_X6_fault
set_option maxRecDepth 20000 in
theorem ggL_law_X5_chain : GoodIn wsL_law wsX5_chain := goodIn_r _ [317, 16, 24, 32, 33, 145, 146, 147, 2, 148, 20, 108, 109, 110, 14, 111, 47, 149, 150, 151, 152, 120, 112, 113, 114, 19, 115, 54, 55, 253, 254, 255, 23, 256, 60, 257, 258, 259, 31, 260, 64, 65, 66, 67, 68, 261, 222, 223, 224, 262, 158, 159, 160, 46, 161, 154, 155, 156, 263, 264, 265, 266, 267, 268, 269, 270, 271, 272, 273, 274, 72, 73, 74, 75, 275, 276, 277, 278, 279, 280, 281, 282, 283, 284, 285, 69, 70, 71, 318, 319, 320, 321, 322, 209, 210, 211, 76, 323, 951, 952, 953, 954, 955, 956, 957, 958, 985, 990, 991, 992, 993, 994, 995, 996, 997, 998, 999, 1000, 1001, 1002, 1003, 977, 978, 979, 980, 981, 982, 983, 984] (by decide +kernel) (by decide +kernel)
set_option maxRecDepth 20000 in
theorem gL_law_X5_chain : GoodIn wsL_law (wsV RL 53 RX5 yX5_chain wsX5_chain) := goodIn_app (goodIn_of _ (by decide +kernel)) ggL_law_X5_chain
set_option maxRecDepth 20000 in
theorem ggL_law_X6_chain : GoodIn wsL_law wsX6_chain := goodIn_r _ [327, 91, 99, 93, 96, 237, 238, 5, 239, 240, 129, 130, 131, 132, 133, 134, 135, 136, 98, 290, 291, 292, 293, 294, 295, 296, 297, 298, 92, 299, 300, 301, 302, 303, 304, 305, 306, 307, 308, 309, 310, 311, 312, 313, 328, 329, 330, 959, 960, 961, 962, 963, 964, 965, 966, 967, 968, 969, 970, 971, 972, 973, 974, 975, 976] (by decide +kernel) (by decide +kernel)
set_option maxRecDepth 20000 in
theorem gL_law_X6_chain : GoodIn wsL_law (wsV RL 56 RX6 yX6_chain wsX6_chain) := goodIn_app (goodIn_of _ (by decide +kernel)) ggL_law_X6_chain
set_option maxRecDepth 20000 in
theorem ggL_law_X5_person : GoodIn wsL_law wsX5_person := goodIn_r _ [334, 32, 20, 335, 336, 337, 31, 338, 64, 339, 340, 341, 342, 69, 70, 71, 67, 343, 344, 345, 346, 347, 348, 349, 350, 351, 65, 66, 352, 353, 354, 355, 356, 357, 358, 359, 360, 2, 361, 362, 363, 364, 365, 366, 367, 77, 75, 368, 369, 370, 371, 74, 72, 73, 372, 373, 374, 375, 376, 377, 378, 379, 380, 381, 951, 952, 953, 954, 955, 956, 957, 958, 980, 981, 982, 983, 984, 990, 991, 992, 993, 994, 995, 996, 997, 998, 999, 1000, 1001, 1002, 1003] (by decide +kernel) (by decide +kernel)
set_option maxRecDepth 20000 in
theorem gL_law_X5_person : GoodIn wsL_law (wsV RL 57 RX5 yX5_person wsX5_person) := goodIn_app (goodIn_of _ (by decide +kernel)) ggL_law_X5_person
set_option maxRecDepth 20000 in
theorem ggL_law_X6_person : GoodIn wsL_law wsX6_person := goodIn_r _ [385, 386, 387, 388, 389, 5, 390, 93, 129, 130, 131, 391, 392, 393, 394, 395, 396, 397, 398, 101, 399, 400, 401, 402, 403, 404, 405, 406, 407, 408, 409, 410, 100, 411, 412, 413, 414, 415, 416, 417, 418, 419, 170, 171, 172, 173, 174, 959, 960, 961, 962, 963, 964, 965, 966, 967, 968, 969, 970, 971, 972, 973, 974, 975, 976] (by decide +kernel) (by decide +kernel)
set_option maxRecDepth 20000 in
theorem gL_law_X6_person : GoodIn wsL_law (wsV RL 60 RX6 yX6_person wsX6_person) := goodIn_app (goodIn_of _ (by decide +kernel)) ggL_law_X6_person
set_option maxRecDepth 20000 in
theorem ggL_law_X5_error : GoodIn wsL_law wsX5_error := goodIn_r _ [423, 32, 20, 424, 425, 426, 31, 427, 65, 428, 429, 430, 431, 72, 73, 74, 75, 432, 433, 434, 435, 436, 66, 951, 952, 953, 954, 955, 956, 957, 958, 980, 981, 982, 983, 984, 990, 991, 992, 993, 994, 995, 996, 997, 998, 999, 1000, 1001, 1002, 1003] (by decide +kernel) (by decide +kernel)
set_option maxRecDepth 20000 in
theorem gL_law_X5_error : GoodIn wsL_law (wsV RL 61 RX5 yX5_error wsX5_error) := goodIn_app (goodIn_of _ (by decide +kernel)) ggL_law_X5_error
set_option maxRecDepth 20000 in
theorem ggL_law_X6_error : GoodIn wsL_law wsX6_error := goodIn_r _ [440, 386, 93, 441, 442, 443, 5, 444, 129, 130, 131, 170, 171, 172, 173, 174, 959, 960, 961, 962, 963, 964, 965, 966, 967, 968, 969, 970, 971, 972, 973, 974, 975, 976] (by decide +kernel) (by decide +kernel)
set_option maxRecDepth 20000 in
theorem gL_law_X6_error : GoodIn wsL_law (wsV RL 64 RX6 yX6_error wsX6_error) := goodIn_app (goodIn_of _ (by decide +kernel)) ggL_law_X6_error
set_option maxRecDepth 20000 in
theorem ggL_law_X5_mark : GoodIn wsL_law wsX5_mark := goodIn_r _ [448, 32, 20, 335, 336, 337, 31, 338, 64, 449, 450, 451, 452, 69, 343, 376, 377, 378, 112, 113, 114, 19, 115, 54, 55, 453, 454, 455, 456, 344, 345, 346, 347, 348, 349, 350, 351, 65, 66, 352, 353, 354, 355, 356, 357, 358, 359, 360, 2, 361, 362, 363, 364, 365, 366, 367, 77, 75, 368, 369, 370, 371, 74, 72, 73, 372, 373, 374, 375, 70, 71, 379, 380, 381, 457, 458, 459, 460, 461, 462, 463, 464, 465, 466, 467, 468, 469, 470, 471, 472, 67, 473, 474, 475, 476, 951, 952, 953, 954, 955, 956, 957, 958, 990, 991, 992, 993, 994, 995, 996, 997, 998, 999, 1000, 1001, 1002, 1003, 980, 981, 982, 983, 984] (by decide +kernel) (by decide +kernel)
set_option maxRecDepth 20000 in
theorem gL_law_X5_mark : GoodIn wsL_law (wsV RL 65 RX5 yX5_mark wsX5_mark) := goodIn_app (goodIn_of _ (by decide +kernel)) ggL_law_X5_mark
set_option maxRecDepth 20000 in
theorem ggL_law_X6_mark : GoodIn wsL_law wsX6_mark := goodIn_r _ [480, 128, 93, 101, 387, 388, 389, 5, 390, 129, 130, 131, 414, 415, 416, 132, 133, 134, 135, 136, 98, 399, 400, 401, 402, 403, 404, 405, 406, 407, 408, 409, 410, 100, 411, 412, 413, 417, 418, 419, 395, 396, 397, 398, 959, 960, 961, 962, 963, 964, 965, 966, 967, 968, 969, 970, 971, 972, 973, 974, 975, 976] (by decide +kernel) (by decide +kernel)
set_option maxRecDepth 20000 in
theorem gL_law_X6_mark : GoodIn wsL_law (wsV RL 68 RX6 yX6_mark wsX6_mark) := goodIn_app (goodIn_of _ (by decide +kernel)) ggL_law_X6_mark
set_option maxRecDepth 20000 in
theorem ggL_law_X5_stride : GoodIn wsL_law wsX5_stride := goodIn_r _ [484, 32, 335, 336, 337, 31, 338, 64, 951, 952, 953, 954, 955, 956, 957, 958, 990, 991, 992, 993, 994, 995, 996, 997, 998, 999, 1000, 1001, 1002, 1003] (by decide +kernel) (by decide +kernel)
set_option maxRecDepth 20000 in
theorem gL_law_X5_stride : GoodIn wsL_law (wsV RL 69 RX5 yX5_stride wsX5_stride) := goodIn_app (goodIn_of _ (by decide +kernel)) ggL_law_X5_stride
set_option maxRecDepth 20000 in
theorem ggL_law_X6_stride : GoodIn wsL_law wsX6_stride := goodIn_r _ [488, 93, 387, 388, 389, 5, 390, 129, 130, 131, 489, 490, 491, 492, 959, 960, 961, 962, 963, 964, 965, 966, 967, 968, 969, 970, 971, 972, 973, 974, 975, 976] (by decide +kernel) (by decide +kernel)
set_option maxRecDepth 20000 in
theorem gL_law_X6_stride : GoodIn wsL_law (wsV RL 72 RX6 yX6_stride wsX6_stride) := goodIn_app (goodIn_of _ (by decide +kernel)) ggL_law_X6_stride
set_option maxRecDepth 20000 in
theorem ggL_law_X5_mend : GoodIn wsL_law wsX5_mend := goodIn_r _ [496, 32, 424, 425, 426, 31, 427, 65, 497, 434, 435, 436, 66, 498, 499, 500, 501, 68, 502, 503, 504, 505, 506, 507, 508, 509, 76, 510, 511, 512, 513, 514, 515, 516, 951, 952, 953, 954, 955, 956, 957, 958, 990, 991, 992, 993, 994, 995, 996, 997, 998, 999, 1000, 1001, 1002, 1003] (by decide +kernel) (by decide +kernel)
set_option maxRecDepth 20000 in
theorem gL_law_X5_mend : GoodIn wsL_law (wsV RL 73 RX5 yX5_mend wsX5_mend) := goodIn_app (goodIn_of _ (by decide +kernel)) ggL_law_X5_mend
set_option maxRecDepth 20000 in
theorem ggL_law_X6_mend : GoodIn wsL_law wsX6_mend := goodIn_r _ [520, 93, 441, 442, 443, 5, 444, 129, 130, 131, 521, 522, 523, 524, 525, 526, 527, 528, 403, 404, 405, 406, 529, 530, 531, 959, 960, 961, 962, 963, 964, 965, 966, 967, 968, 969, 970, 971, 972, 973, 974, 975, 976] (by decide +kernel) (by decide +kernel)
set_option maxRecDepth 20000 in
theorem gL_law_X6_mend : GoodIn wsL_law (wsV RL 76 RX6 yX6_mend wsX6_mend) := goodIn_app (goodIn_of _ (by decide +kernel)) ggL_law_X6_mend
set_option maxRecDepth 20000 in
theorem ggL_law_X5_err : GoodIn wsL_law wsX5_err := goodIn_r _ [535, 32, 536, 360, 2, 361, 537, 362, 363, 335, 336, 337, 31, 338, 64, 538, 539, 540, 541, 65, 498, 499, 500, 501, 68, 542, 543, 544, 545, 546, 272, 273, 274, 72, 73, 74, 75, 506, 507, 508, 509, 76, 951, 952, 953, 954, 955, 956, 957, 958, 990, 991, 992, 993, 994, 995, 996, 997, 998, 999, 1000, 1001, 1002, 1003] (by decide +kernel) (by decide +kernel)
set_option maxRecDepth 20000 in
theorem gL_law_X5_err : GoodIn wsL_law (wsV RL 77 RX5 yX5_err wsX5_err) := goodIn_app (goodIn_of _ (by decide +kernel)) ggL_law_X5_err
set_option maxRecDepth 20000 in
theorem ggL_law_X6_err : GoodIn wsL_law wsX6_err := goodIn_r _ [550, 551, 492, 93, 129, 130, 5, 131, 552, 553, 554, 555, 387, 388, 389, 390, 556, 557, 558, 559, 521, 522, 523, 524, 959, 960, 961, 962, 963, 964, 965, 966, 967, 968, 969, 970, 971, 972, 973, 974, 975, 976] (by decide +kernel) (by decide +kernel)
set_option maxRecDepth 20000 in
theorem gL_law_X6_err : GoodIn wsL_law (wsV RL 80 RX6 yX6_err wsX6_err) := goodIn_app (goodIn_of _ (by decide +kernel)) ggL_law_X6_err
set_option maxRecDepth 20000 in
theorem ggL_law_X5_day : GoodIn wsL_law wsX5_day := goodIn_r _ [563, 32, 498, 499, 500, 31, 501, 68, 564, 565, 566, 567, 67, 506, 507, 508, 509, 76, 951, 952, 953, 954, 955, 956, 957, 958, 990, 991, 992, 993, 994, 995, 996, 997, 998, 999, 1000, 1001, 1002, 1003] (by decide +kernel) (by decide +kernel)
set_option maxRecDepth 20000 in
theorem gL_law_X5_day : GoodIn wsL_law (wsV RL 81 RX5 yX5_day wsX5_day) := goodIn_app (goodIn_of _ (by decide +kernel)) ggL_law_X5_day
set_option maxRecDepth 20000 in
theorem ggL_law_X6_day : GoodIn wsL_law wsX6_day := goodIn_r _ [571, 93, 521, 522, 523, 5, 524, 959, 960, 961, 962, 963, 964, 965, 966, 967, 968, 969, 970, 971, 972, 973, 974, 975, 976] (by decide +kernel) (by decide +kernel)
set_option maxRecDepth 20000 in
theorem gL_law_X6_day : GoodIn wsL_law (wsV RL 85 RX6 yX6_day wsX6_day) := goodIn_app (goodIn_of _ (by decide +kernel)) ggL_law_X6_day
set_option maxRecDepth 20000 in
theorem ggL_law_X5_undo : GoodIn wsL_law wsX5_undo := goodIn_r _ [575, 32, 576, 577, 578, 31, 579, 68, 76, 67, 65, 66, 951, 952, 953, 954, 955, 956, 957, 958, 990, 991, 992, 993, 994, 995, 996, 997, 998, 999, 1000, 1001, 1002, 1003] (by decide +kernel) (by decide +kernel)
set_option maxRecDepth 20000 in
theorem gL_law_X5_undo : GoodIn wsL_law (wsV RL 86 RX5 yX5_undo wsX5_undo) := goodIn_app (goodIn_of _ (by decide +kernel)) ggL_law_X5_undo
set_option maxRecDepth 20000 in
theorem ggL_law_X6_undo : GoodIn wsL_law wsX6_undo := goodIn_r _ [583, 93, 129, 130, 5, 131, 959, 960, 961, 962, 963, 964, 965, 966, 967, 968, 969, 970, 971, 972, 973, 974, 975, 976] (by decide +kernel) (by decide +kernel)
set_option maxRecDepth 20000 in
theorem gL_law_X6_undo : GoodIn wsL_law (wsV RL 89 RX6 yX6_undo wsX6_undo) := goodIn_app (goodIn_of _ (by decide +kernel)) ggL_law_X6_undo
set_option maxRecDepth 20000 in
theorem ggL_law_X5_keep : GoodIn wsL_law wsX5_keep := goodIn_r _ [587, 32, 33, 588, 589, 2, 590, 318, 319, 320, 31, 321, 64, 65, 66, 67, 68, 69, 322, 209, 210, 211, 70, 71, 72, 73, 74, 75, 76, 951, 952, 953, 954, 955, 956, 957, 958, 990, 991, 992, 993, 994, 995, 996, 997, 998, 999, 1000, 1001, 1002, 1003] (by decide +kernel) (by decide +kernel)
set_option maxRecDepth 20000 in
theorem gL_law_X5_keep : GoodIn wsL_law (wsV RL 90 RX5 yX5_keep wsX5_keep) := goodIn_app (goodIn_of _ (by decide +kernel)) ggL_law_X5_keep
set_option maxRecDepth 20000 in
theorem ggL_law_X6_keep : GoodIn wsL_law wsX6_keep := goodIn_r _ [594, 595, 93, 94, 96, 129, 130, 5, 131, 328, 329, 330, 959, 960, 961, 962, 963, 964, 965, 966, 967, 968, 969, 970, 971, 972, 973, 974, 975, 976] (by decide +kernel) (by decide +kernel)
set_option maxRecDepth 20000 in
theorem gL_law_X6_keep : GoodIn wsL_law (wsV RL 93 RX6 yX6_keep wsX6_keep) := goodIn_app (goodIn_of _ (by decide +kernel)) ggL_law_X6_keep
set_option maxRecDepth 20000 in
theorem ggL_law_X5_on : GoodIn wsL_law wsX5_on := goodIn_r _ [599, 20, 32, 33, 588, 589, 2, 590, 600, 601, 602, 603, 112, 113, 114, 19, 115, 54, 55, 318, 319, 320, 31, 321, 64, 65, 66, 67, 68, 69, 322, 209, 210, 211, 70, 71, 72, 73, 74, 75, 76, 951, 952, 953, 954, 955, 956, 957, 958, 990, 991, 992, 993, 994, 995, 996, 997, 998, 999, 1000, 1001, 1002, 1003, 980, 981, 982, 983, 984] (by decide +kernel) (by decide +kernel)
set_option maxRecDepth 20000 in
theorem gL_law_X5_on : GoodIn wsL_law (wsV RL 94 RX5 yX5_on wsX5_on) := goodIn_app (goodIn_of _ (by decide +kernel)) ggL_law_X5_on
set_option maxRecDepth 20000 in
theorem ggL_law_X6_on : GoodIn wsL_law wsX6_on := goodIn_r _ [607, 595, 96, 94, 93, 129, 130, 5, 131, 132, 133, 134, 135, 136, 98, 328, 329, 330, 959, 960, 961, 962, 963, 964, 965, 966, 967, 968, 969, 970, 971, 972, 973, 974, 975, 976] (by decide +kernel) (by decide +kernel)
set_option maxRecDepth 20000 in
theorem gL_law_X6_on : GoodIn wsL_law (wsV RL 97 RX6 yX6_on wsX6_on) := goodIn_app (goodIn_of _ (by decide +kernel)) ggL_law_X6_on
set_option maxRecDepth 20000 in
theorem ggL_law_X5_does : GoodIn wsL_law wsX5_does := goodIn_r _ [611, 32, 536, 360, 2, 361, 537, 362, 363, 335, 336, 337, 31, 338, 64, 612, 345, 346, 347, 348, 349, 350, 351, 65, 66, 352, 353, 354, 355, 356, 357, 358, 359, 343, 364, 365, 366, 367, 77, 75, 368, 369, 370, 371, 74, 72, 73, 372, 373, 374, 375, 69, 70, 71, 376, 377, 378, 379, 380, 381, 951, 952, 953, 954, 955, 956, 957, 958, 990, 991, 992, 993, 994, 995, 996, 997, 998, 999, 1000, 1001, 1002, 1003] (by decide +kernel) (by decide +kernel)
set_option maxRecDepth 20000 in
theorem gL_law_X5_does : GoodIn wsL_law (wsV RL 98 RX5 yX5_does wsX5_does) := goodIn_app (goodIn_of _ (by decide +kernel)) ggL_law_X5_does
set_option maxRecDepth 20000 in
theorem ggL_law_X6_does : GoodIn wsL_law wsX6_does := goodIn_r _ [616, 617, 618, 5, 619, 386, 129, 130, 131, 552, 553, 554, 555, 387, 388, 389, 390, 93, 395, 396, 397, 398, 101, 399, 400, 401, 402, 403, 404, 405, 406, 407, 408, 409, 410, 100, 411, 412, 413, 414, 415, 416, 417, 418, 419, 959, 960, 961, 962, 963, 964, 965, 966, 967, 968, 969, 970, 971, 972, 973, 974, 975, 976] (by decide +kernel) (by decide +kernel)
set_option maxRecDepth 20000 in
theorem gL_law_X6_does : GoodIn wsL_law (wsV RL 101 RX6 yX6_does wsX6_does) := goodIn_app (goodIn_of _ (by decide +kernel)) ggL_law_X6_does
set_option maxRecDepth 20000 in
theorem ggL_law_X5_differ : GoodIn wsL_law wsX5_differ := goodIn_r _ [623, 32, 624, 625, 2, 626, 536, 360, 361, 537, 362, 363, 627, 628, 629, 31, 630, 64, 348, 349, 350, 351, 65, 66, 631, 632, 633, 634, 352, 353, 354, 355, 356, 357, 358, 359, 343, 336, 337, 338, 364, 365, 366, 367, 77, 75, 368, 369, 370, 371, 74, 72, 73, 372, 373, 374, 375, 69, 70, 71, 376, 377, 378, 379, 380, 381, 951, 952, 953, 954, 955, 956, 957, 958, 990, 991, 992, 993, 994, 995, 996, 997, 998, 999, 1000, 1001, 1002, 1003] (by decide +kernel) (by decide +kernel)
set_option maxRecDepth 20000 in
theorem gL_law_X5_differ : GoodIn wsL_law (wsV RL 102 RX5 yX5_differ wsX5_differ) := goodIn_app (goodIn_of _ (by decide +kernel)) ggL_law_X5_differ
set_option maxRecDepth 20000 in
theorem ggL_law_X6_differ : GoodIn wsL_law wsX6_differ := goodIn_r _ [638, 555, 639, 640, 5, 641, 129, 130, 131, 403, 404, 405, 406, 93, 642, 643, 644, 645, 407, 408, 409, 410, 100, 101, 411, 412, 413, 414, 415, 416, 417, 418, 419, 646, 647, 648, 649, 959, 960, 961, 962, 963, 964, 965, 966, 967, 968, 969, 970, 971, 972, 973, 974, 975, 976] (by decide +kernel) (by decide +kernel)
set_option maxRecDepth 20000 in
theorem gL_law_X6_differ : GoodIn wsL_law (wsV RL 105 RX6 yX6_differ wsX6_differ) := goodIn_app (goodIn_of _ (by decide +kernel)) ggL_law_X6_differ
set_option maxRecDepth 20000 in
theorem ggL_law_X5_since : GoodIn wsL_law wsX5_since := goodIn_r _ [653, 32, 20, 624, 625, 2, 626, 536, 360, 361, 335, 336, 337, 31, 338, 64, 654, 349, 350, 351, 65, 66, 655, 632, 633, 634, 352, 353, 354, 355, 356, 357, 358, 359, 362, 363, 343, 364, 365, 366, 367, 77, 75, 368, 369, 370, 371, 74, 72, 73, 372, 373, 374, 375, 69, 70, 71, 376, 377, 378, 379, 380, 381, 951, 952, 953, 954, 955, 956, 957, 958, 980, 981, 982, 983, 984, 990, 991, 992, 993, 994, 995, 996, 997, 998, 999, 1000, 1001, 1002, 1003] (by decide +kernel) (by decide +kernel)
set_option maxRecDepth 20000 in
theorem gL_law_X5_since : GoodIn wsL_law (wsV RL 106 RX5 yX5_since wsX5_since) := goodIn_app (goodIn_of _ (by decide +kernel)) ggL_law_X5_since
set_option maxRecDepth 20000 in
theorem ggL_law_X6_since : GoodIn wsL_law wsX6_since := goodIn_r _ [659, 639, 640, 5, 641, 387, 388, 389, 390, 93, 129, 130, 131, 399, 400, 401, 402, 403, 404, 405, 406, 407, 408, 409, 410, 100, 101, 411, 412, 413, 414, 415, 416, 417, 418, 419, 646, 647, 648, 649, 660, 661, 662, 663, 174, 959, 960, 961, 962, 963, 964, 965, 966, 967, 968, 969, 970, 971, 972, 973, 974, 975, 976] (by decide +kernel) (by decide +kernel)
set_option maxRecDepth 20000 in
theorem gL_law_X6_since : GoodIn wsL_law (wsV RL 109 RX6 yX6_since wsX6_since) := goodIn_app (goodIn_of _ (by decide +kernel)) ggL_law_X6_since
set_option maxRecDepth 20000 in
theorem ggL_law_X5_worst : GoodIn wsL_law wsX5_worst := goodIn_r _ [667, 32, 20, 537, 362, 2, 363, 627, 628, 629, 31, 630, 64, 348, 349, 350, 351, 65, 66, 631, 632, 633, 634, 352, 353, 354, 355, 356, 357, 358, 359, 360, 361, 343, 336, 337, 338, 364, 365, 366, 367, 77, 75, 368, 369, 370, 371, 74, 72, 73, 372, 373, 374, 375, 69, 70, 71, 376, 377, 378, 379, 380, 381, 510, 511, 512, 513, 514, 515, 516, 951, 952, 953, 954, 955, 956, 957, 958, 990, 991, 992, 993, 994, 995, 996, 997, 998, 999, 1000, 1001, 1002, 1003, 980, 981, 982, 983, 984] (by decide +kernel) (by decide +kernel)
set_option maxRecDepth 20000 in
theorem gL_law_X5_worst : GoodIn wsL_law (wsV RL 110 RX5 yX5_worst wsX5_worst) := goodIn_app (goodIn_of _ (by decide +kernel)) ggL_law_X5_worst
set_option maxRecDepth 20000 in
theorem ggL_law_X6_worst : GoodIn wsL_law wsX6_worst := goodIn_r _ [671, 386, 555, 93, 129, 130, 5, 131, 403, 404, 405, 406, 642, 643, 644, 645, 407, 408, 409, 410, 100, 101, 411, 412, 413, 414, 415, 416, 417, 418, 419, 646, 647, 648, 649, 529, 530, 531, 660, 661, 662, 663, 174, 959, 960, 961, 962, 963, 964, 965, 966, 967, 968, 969, 970, 971, 972, 973, 974, 975, 976] (by decide +kernel) (by decide +kernel)
set_option maxRecDepth 20000 in
theorem gL_law_X6_worst : GoodIn wsL_law (wsV RL 113 RX6 yX6_worst wsX6_worst) := goodIn_app (goodIn_of _ (by decide +kernel)) ggL_law_X6_worst
set_option maxRecDepth 20000 in
theorem ggL_law_X5_source : GoodIn wsL_law wsX5_source := goodIn_r _ [675, 32, 536, 360, 2, 361, 537, 362, 363, 335, 336, 337, 31, 338, 64, 654, 349, 350, 351, 65, 66, 612, 345, 346, 347, 348, 352, 353, 354, 355, 356, 357, 358, 359, 343, 364, 365, 366, 367, 77, 75, 368, 369, 370, 371, 74, 72, 73, 372, 373, 374, 375, 69, 70, 71, 376, 377, 378, 379, 380, 381, 676, 951, 952, 953, 954, 955, 956, 957, 958, 990, 991, 992, 993, 994, 995, 996, 997, 998, 999, 1000, 1001, 1002, 1003] (by decide +kernel) (by decide +kernel)
set_option maxRecDepth 20000 in
theorem gL_law_X5_source : GoodIn wsL_law (wsV RL 114 RX5 yX5_source wsX5_source) := goodIn_app (goodIn_of _ (by decide +kernel)) ggL_law_X5_source
set_option maxRecDepth 20000 in
theorem ggL_law_X6_source : GoodIn wsL_law wsX6_source := goodIn_r _ [680, 93, 101, 617, 618, 5, 619, 386, 129, 130, 131, 552, 553, 554, 555, 387, 388, 389, 390, 395, 396, 397, 398, 399, 400, 401, 402, 403, 404, 405, 406, 407, 408, 409, 410, 100, 411, 412, 413, 414, 415, 416, 417, 418, 419, 959, 960, 961, 962, 963, 964, 965, 966, 967, 968, 969, 970, 971, 972, 973, 974, 975, 976] (by decide +kernel) (by decide +kernel)
set_option maxRecDepth 20000 in
theorem gL_law_X6_source : GoodIn wsL_law (wsV RL 117 RX6 yX6_source wsX6_source) := goodIn_app (goodIn_of _ (by decide +kernel)) ggL_law_X6_source
set_option maxRecDepth 20000 in
theorem ggL_law_X5_together : GoodIn wsL_law wsX5_together := goodIn_r _ [684, 32, 20, 536, 360, 2, 361, 335, 336, 337, 31, 338, 64, 612, 345, 346, 347, 348, 349, 350, 351, 65, 66, 352, 353, 354, 355, 356, 357, 358, 359, 362, 363, 343, 364, 365, 366, 367, 77, 75, 368, 369, 370, 371, 74, 72, 73, 372, 373, 374, 375, 69, 70, 71, 376, 377, 378, 379, 380, 381, 951, 952, 953, 954, 955, 956, 957, 958, 980, 981, 982, 983, 984, 990, 991, 992, 993, 994, 995, 996, 997, 998, 999, 1000, 1001, 1002, 1003] (by decide +kernel) (by decide +kernel)
set_option maxRecDepth 20000 in
theorem gL_law_X5_together : GoodIn wsL_law (wsV RL 118 RX5 yX5_together wsX5_together) := goodIn_app (goodIn_of _ (by decide +kernel)) ggL_law_X5_together
set_option maxRecDepth 20000 in
theorem ggL_law_X6_together : GoodIn wsL_law wsX6_together := goodIn_r _ [688, 102, 101, 617, 618, 5, 619, 386, 129, 130, 131, 387, 388, 389, 390, 93, 399, 400, 401, 402, 403, 404, 405, 406, 407, 408, 409, 410, 100, 411, 412, 413, 414, 415, 416, 417, 418, 419, 660, 661, 662, 663, 174, 959, 960, 961, 962, 963, 964, 965, 966, 967, 968, 969, 970, 971, 972, 973, 974, 975, 976] (by decide +kernel) (by decide +kernel)
set_option maxRecDepth 20000 in
theorem gL_law_X6_together : GoodIn wsL_law (wsV RL 121 RX6 yX6_together wsX6_together) := goodIn_app (goodIn_of _ (by decide +kernel)) ggL_law_X6_together
set_option maxRecDepth 20000 in
theorem ggL_law_X5_warn : GoodIn wsL_law wsX5_warn := goodIn_r _ [692, 32, 20, 536, 360, 2, 361, 537, 362, 363, 335, 336, 337, 31, 338, 64, 693, 694, 695, 612, 345, 346, 347, 348, 349, 350, 351, 65, 66, 352, 353, 354, 355, 356, 357, 358, 359, 343, 364, 365, 366, 367, 77, 75, 368, 369, 370, 371, 74, 72, 73, 372, 373, 374, 375, 69, 70, 71, 376, 377, 378, 379, 380, 381, 696, 697, 698, 699, 951, 952, 953, 954, 955, 956, 957, 958, 990, 991, 992, 993, 994, 995, 996, 997, 998, 999, 1000, 1001, 1002, 1003, 980, 981, 982, 983, 984] (by decide +kernel) (by decide +kernel)
set_option maxRecDepth 20000 in
theorem gL_law_X5_warn : GoodIn wsL_law (wsV RL 122 RX5 yX5_warn wsX5_warn) := goodIn_app (goodIn_of _ (by decide +kernel)) ggL_law_X5_warn
set_option maxRecDepth 20000 in
theorem ggL_law_X6_warn : GoodIn wsL_law wsX6_warn := goodIn_r _ [703, 386, 93, 101, 129, 130, 5, 131, 552, 553, 554, 555, 387, 388, 389, 390, 489, 490, 491, 492, 395, 396, 397, 398, 399, 400, 401, 402, 403, 404, 405, 406, 407, 408, 409, 410, 100, 411, 412, 413, 414, 415, 416, 417, 418, 419, 660, 661, 662, 663, 174, 959, 960, 961, 962, 963, 964, 965, 966, 967, 968, 969, 970, 971, 972, 973, 974, 975, 976] (by decide +kernel) (by decide +kernel)
set_option maxRecDepth 20000 in
theorem gL_law_X6_warn : GoodIn wsL_law (wsV RL 126 RX6 yX6_warn wsX6_warn) := goodIn_app (goodIn_of _ (by decide +kernel)) ggL_law_X6_warn
set_option maxRecDepth 20000 in
theorem ggL_law_X5_agree : GoodIn wsL_law wsX5_agree := goodIn_r _ [707, 32, 20, 624, 625, 2, 626, 536, 360, 361, 537, 362, 363, 708, 709, 710, 31, 711, 348, 349, 350, 351, 65, 66, 712, 713, 714, 715, 368, 369, 370, 371, 74, 72, 73, 716, 511, 512, 513, 514, 515, 516, 631, 632, 633, 634, 352, 353, 354, 355, 356, 357, 358, 359, 343, 336, 337, 338, 64, 364, 365, 366, 367, 77, 75, 372, 373, 374, 375, 69, 70, 71, 376, 377, 378, 379, 380, 381, 717, 718, 510, 951, 952, 953, 954, 955, 956, 957, 958, 990, 991, 992, 993, 994, 995, 996, 997, 998, 999, 1000, 1001, 1002, 1003, 980, 981, 982, 983, 984] (by decide +kernel) (by decide +kernel)
set_option maxRecDepth 20000 in
theorem gL_law_X5_agree : GoodIn wsL_law (wsV RL 127 RX5 yX5_agree wsX5_agree) := goodIn_app (goodIn_of _ (by decide +kernel)) ggL_law_X5_agree
set_option maxRecDepth 20000 in
theorem ggL_law_X6_agree : GoodIn wsL_law wsX6_agree := goodIn_r _ [722, 555, 639, 640, 5, 641, 129, 130, 131, 403, 404, 405, 406, 93, 529, 530, 531, 642, 643, 644, 645, 407, 408, 409, 410, 100, 101, 411, 412, 413, 414, 415, 416, 417, 418, 419, 646, 647, 648, 649, 660, 661, 662, 663, 174, 959, 960, 961, 962, 963, 964, 965, 966, 967, 968, 969, 970, 971, 972, 973, 974, 975, 976] (by decide +kernel) (by decide +kernel)
set_option maxRecDepth 20000 in
theorem gL_law_X6_agree : GoodIn wsL_law (wsV RL 130 RX6 yX6_agree wsX6_agree) := goodIn_app (goodIn_of _ (by decide +kernel)) ggL_law_X6_agree
set_option maxRecDepth 20000 in
theorem ggL_law_X5_next : GoodIn wsL_law wsX5_next := goodIn_r _ [726, 32, 536, 360, 2, 361, 537, 362, 363, 335, 336, 337, 31, 338, 64, 693, 694, 695, 612, 345, 346, 347, 348, 349, 350, 351, 65, 66, 352, 353, 354, 355, 356, 357, 358, 359, 343, 364, 365, 366, 367, 77, 75, 368, 369, 370, 371, 74, 72, 73, 372, 373, 374, 375, 69, 70, 71, 376, 377, 378, 379, 380, 381, 951, 952, 953, 954, 955, 956, 957, 958, 990, 991, 992, 993, 994, 995, 996, 997, 998, 999, 1000, 1001, 1002, 1003] (by decide +kernel) (by decide +kernel)
set_option maxRecDepth 20000 in
theorem gL_law_X5_next : GoodIn wsL_law (wsV RL 131 RX5 yX5_next wsX5_next) := goodIn_app (goodIn_of _ (by decide +kernel)) ggL_law_X5_next
set_option maxRecDepth 20000 in
theorem ggL_law_X6_next : GoodIn wsL_law wsX6_next := goodIn_r _ [730, 101, 617, 618, 5, 619, 386, 129, 130, 131, 552, 553, 554, 555, 387, 388, 389, 390, 93, 489, 490, 491, 492, 399, 400, 401, 402, 403, 404, 405, 406, 407, 408, 409, 410, 100, 411, 412, 413, 414, 415, 416, 417, 418, 419, 959, 960, 961, 962, 963, 964, 965, 966, 967, 968, 969, 970, 971, 972, 973, 974, 975, 976] (by decide +kernel) (by decide +kernel)
set_option maxRecDepth 20000 in
theorem gL_law_X6_next : GoodIn wsL_law (wsV RL 134 RX6 yX6_next wsX6_next) := goodIn_app (goodIn_of _ (by decide +kernel)) ggL_law_X6_next
set_option maxRecDepth 20000 in
theorem ggL_law_X5_letter : GoodIn wsL_law wsX5_letter := goodIn_r _ [734, 32, 35, 20, 536, 360, 2, 361, 335, 336, 337, 31, 338, 64, 693, 694, 695, 612, 345, 346, 347, 348, 349, 350, 351, 65, 66, 352, 353, 354, 355, 356, 357, 358, 359, 362, 363, 343, 364, 365, 366, 367, 77, 75, 368, 369, 370, 371, 74, 72, 73, 372, 373, 374, 375, 69, 70, 71, 376, 377, 378, 379, 380, 381, 951, 952, 953, 954, 955, 956, 957, 958, 980, 981, 982, 983, 984, 990, 991, 992, 993, 994, 995, 996, 997, 998, 999, 1000, 1001, 1002, 1003] (by decide +kernel) (by decide +kernel)
set_option maxRecDepth 20000 in
theorem gL_law_X5_letter : GoodIn wsL_law (wsV RL 135 RX5 yX5_letter wsX5_letter) := goodIn_app (goodIn_of _ (by decide +kernel)) ggL_law_X5_letter
set_option maxRecDepth 20000 in
theorem ggL_law_X6_letter : GoodIn wsL_law wsX6_letter := goodIn_r _ [738, 103, 101, 617, 618, 5, 619, 386, 129, 130, 131, 387, 388, 389, 390, 93, 489, 490, 491, 492, 399, 400, 401, 402, 403, 404, 405, 406, 407, 408, 409, 410, 100, 411, 412, 413, 414, 415, 416, 417, 418, 419, 660, 661, 662, 663, 174, 959, 960, 961, 962, 963, 964, 965, 966, 967, 968, 969, 970, 971, 972, 973, 974, 975, 976] (by decide +kernel) (by decide +kernel)
set_option maxRecDepth 20000 in
theorem gL_law_X6_letter : GoodIn wsL_law (wsV RL 138 RX6 yX6_letter wsX6_letter) := goodIn_app (goodIn_of _ (by decide +kernel)) ggL_law_X6_letter
set_option maxRecDepth 20000 in
theorem ggL_law_X5_fits : GoodIn wsL_law wsX5_fits := goodIn_r _ [742, 28, 32, 15, 20, 743, 744, 745, 2, 746, 108, 109, 110, 14, 111, 47, 149, 150, 151, 152, 120, 112, 113, 114, 19, 115, 54, 55, 221, 222, 223, 224, 747, 748, 749, 750, 157, 158, 159, 160, 46, 161, 154, 155, 156, 536, 360, 361, 537, 362, 363, 335, 336, 337, 31, 338, 64, 693, 694, 695, 751, 752, 753, 27, 754, 81, 82, 83, 84, 755, 349, 350, 351, 65, 66, 756, 757, 758, 759, 760, 761, 713, 714, 715, 368, 369, 370, 371, 74, 72, 73, 762, 511, 512, 513, 514, 515, 516, 763, 764, 765, 766, 767, 768, 769, 770, 771, 353, 354, 355, 356, 357, 358, 359, 343, 364, 365, 366, 367, 77, 75, 372, 373, 374, 375, 69, 70, 71, 376, 377, 378, 379, 380, 381, 772, 773, 774, 775, 717, 718, 776, 777, 778, 779, 780, 781, 782, 783, 52, 53, 784, 785, 786, 951, 952, 953, 954, 955, 956, 957, 958, 986, 987, 988, 989, 980, 981, 982, 983, 984, 990, 991, 992, 993, 994, 995, 996, 997, 998, 999, 1000, 1001, 1002, 1003, 977, 978, 979] (by decide +kernel) (by decide +kernel)
set_option maxRecDepth 20000 in
theorem gL_law_X5_fits : GoodIn wsL_law (wsV RL 139 RX5 yX5_fits wsX5_fits) := goodIn_app (goodIn_of _ (by decide +kernel)) ggL_law_X5_fits
set_option maxRecDepth 20000 in
theorem ggL_law_X6_fits : GoodIn wsL_law wsX6_fits := goodIn_r _ [790, 791, 97, 792, 793, 794, 5, 795, 93, 89, 90, 125, 126, 127, 128, 129, 130, 131, 132, 133, 134, 135, 136, 98, 617, 618, 619, 386, 552, 553, 554, 555, 387, 388, 389, 390, 489, 490, 491, 492, 403, 404, 405, 406, 796, 797, 798, 799, 101, 407, 408, 409, 410, 100, 411, 412, 413, 414, 415, 416, 417, 418, 419, 660, 661, 662, 663, 174, 959, 960, 961, 962, 963, 964, 965, 966, 967, 968, 969, 970, 971, 972, 973, 974, 975, 976] (by decide +kernel) (by decide +kernel)
set_option maxRecDepth 20000 in
theorem gL_law_X6_fits : GoodIn wsL_law (wsV RL 142 RX6 yX6_fits wsX6_fits) := goodIn_app (goodIn_of _ (by decide +kernel)) ggL_law_X6_fits
set_option maxRecDepth 20000 in
theorem ggL_law_X5_sure : GoodIn wsL_law wsX5_sure := goodIn_r _ [803, 28, 32, 15, 20, 743, 744, 745, 2, 746, 108, 109, 110, 14, 111, 47, 149, 150, 151, 152, 120, 112, 113, 114, 19, 115, 54, 55, 221, 222, 223, 224, 747, 748, 749, 750, 157, 158, 159, 160, 46, 161, 154, 155, 156, 536, 360, 361, 537, 362, 363, 335, 336, 337, 31, 338, 64, 693, 694, 695, 751, 752, 753, 27, 754, 81, 82, 83, 84, 755, 349, 350, 351, 65, 66, 756, 757, 758, 759, 760, 761, 713, 714, 715, 368, 369, 370, 371, 74, 72, 73, 762, 511, 512, 513, 514, 515, 516, 763, 764, 765, 766, 767, 768, 769, 770, 771, 353, 354, 355, 356, 357, 358, 359, 343, 364, 365, 366, 367, 77, 75, 372, 373, 374, 375, 69, 70, 71, 376, 377, 378, 379, 380, 381, 772, 773, 774, 775, 717, 718, 776, 777, 778, 779, 654, 951, 952, 953, 954, 955, 956, 957, 958, 986, 987, 988, 989, 980, 981, 982, 983, 984, 990, 991, 992, 993, 994, 995, 996, 997, 998, 999, 1000, 1001, 1002, 1003, 977, 978, 979] (by decide +kernel) (by decide +kernel)
set_option maxRecDepth 20000 in
theorem gL_law_X5_sure : GoodIn wsL_law (wsV RL 143 RX5 yX5_sure wsX5_sure) := goodIn_app (goodIn_of _ (by decide +kernel)) ggL_law_X5_sure
set_option maxRecDepth 20000 in
theorem ggL_law_X6_sure : GoodIn wsL_law wsX6_sure := goodIn_r _ [807, 792, 793, 794, 5, 795, 93, 89, 90, 125, 126, 127, 128, 129, 130, 131, 132, 133, 134, 135, 136, 98, 617, 618, 619, 386, 552, 553, 554, 555, 387, 388, 389, 390, 489, 490, 491, 492, 403, 404, 405, 406, 796, 797, 798, 799, 101, 407, 408, 409, 410, 100, 411, 412, 413, 414, 415, 416, 417, 418, 419, 660, 661, 662, 663, 174, 959, 960, 961, 962, 963, 964, 965, 966, 967, 968, 969, 970, 971, 972, 973, 974, 975, 976] (by decide +kernel) (by decide +kernel)
set_option maxRecDepth 20000 in
theorem gL_law_X6_sure : GoodIn wsL_law (wsV RL 146 RX6 yX6_sure wsX6_sure) := goodIn_app (goodIn_of _ (by decide +kernel)) ggL_law_X6_sure
set_option maxRecDepth 20000 in
theorem ggL_law_X5_lies : GoodIn wsL_law wsX5_lies := goodIn_r _ [811, 15, 28, 32, 20, 743, 744, 745, 2, 746, 108, 109, 110, 14, 111, 47, 149, 150, 151, 152, 120, 112, 113, 114, 19, 115, 54, 55, 221, 222, 223, 224, 747, 748, 749, 750, 157, 158, 159, 160, 46, 161, 154, 155, 156, 536, 360, 361, 537, 362, 363, 335, 336, 337, 31, 338, 64, 693, 694, 695, 654, 349, 350, 351, 65, 66, 812, 768, 769, 27, 770, 760, 771, 353, 354, 355, 356, 357, 358, 359, 343, 364, 365, 366, 367, 77, 75, 368, 369, 370, 371, 74, 72, 73, 372, 373, 374, 375, 69, 70, 71, 376, 377, 378, 379, 380, 381, 951, 952, 953, 954, 955, 956, 957, 958, 980, 981, 982, 983, 984, 990, 991, 992, 993, 994, 995, 996, 997, 998, 999, 1000, 1001, 1002, 1003, 977, 978, 979] (by decide +kernel) (by decide +kernel)
set_option maxRecDepth 20000 in
theorem gL_law_X5_lies : GoodIn wsL_law (wsV RL 147 RX5 yX5_lies wsX5_lies) := goodIn_app (goodIn_of _ (by decide +kernel)) ggL_law_X5_lies
set_option maxRecDepth 20000 in
theorem ggL_law_X6_lies : GoodIn wsL_law wsX6_lies := goodIn_r _ [816, 89, 90, 792, 793, 794, 5, 795, 93, 125, 126, 127, 128, 129, 130, 131, 132, 133, 134, 135, 136, 98, 617, 618, 619, 386, 552, 553, 554, 555, 387, 388, 389, 390, 489, 490, 491, 492, 395, 396, 397, 398, 101, 399, 400, 401, 402, 403, 404, 405, 406, 407, 408, 409, 410, 100, 411, 412, 413, 414, 415, 416, 417, 418, 419, 660, 661, 662, 663, 174, 959, 960, 961, 962, 963, 964, 965, 966, 967, 968, 969, 970, 971, 972, 973, 974, 975, 976] (by decide +kernel) (by decide +kernel)
set_option maxRecDepth 20000 in
theorem gL_law_X6_lies : GoodIn wsL_law (wsV RL 150 RX6 yX6_lies wsX6_lies) := goodIn_app (goodIn_of _ (by decide +kernel)) ggL_law_X6_lies
set_option maxRecDepth 20000 in
theorem ggL_law_X5_odds : GoodIn wsL_law wsX5_odds := goodIn_r _ [820, 32, 20, 536, 360, 2, 361, 537, 362, 363, 335, 336, 337, 31, 338, 64, 693, 694, 695, 821, 713, 714, 715, 65, 368, 369, 370, 371, 74, 72, 73, 654, 349, 350, 351, 66, 510, 511, 512, 513, 514, 515, 516, 676, 353, 354, 355, 356, 357, 358, 359, 343, 364, 365, 366, 367, 77, 75, 372, 373, 374, 375, 69, 70, 71, 376, 377, 378, 379, 380, 381, 822, 823, 824, 825, 717, 718, 780, 781, 782, 19, 783, 52, 53, 784, 785, 786, 951, 952, 953, 954, 955, 956, 957, 958, 990, 991, 992, 993, 994, 995, 996, 997, 998, 999, 1000, 1001, 1002, 1003, 980, 981, 982, 983, 984] (by decide +kernel) (by decide +kernel)
set_option maxRecDepth 20000 in
theorem gL_law_X5_odds : GoodIn wsL_law (wsV RL 151 RX5 yX5_odds wsX5_odds) := goodIn_app (goodIn_of _ (by decide +kernel)) ggL_law_X5_odds
set_option maxRecDepth 20000 in
theorem ggL_law_X6_odds : GoodIn wsL_law wsX6_odds := goodIn_r _ [829, 830, 93, 101, 617, 618, 5, 619, 386, 129, 130, 131, 552, 553, 554, 555, 387, 388, 389, 390, 489, 490, 491, 492, 403, 404, 405, 406, 529, 530, 531, 411, 412, 413, 407, 408, 409, 410, 100, 414, 415, 416, 417, 418, 419, 831, 832, 833, 834, 791, 97, 959, 960, 961, 962, 963, 964, 965, 966, 967, 968, 969, 970, 971, 972, 973, 974, 975, 976] (by decide +kernel) (by decide +kernel)
set_option maxRecDepth 20000 in
theorem gL_law_X6_odds : GoodIn wsL_law (wsV RL 154 RX6 yX6_odds wsX6_odds) := goodIn_app (goodIn_of _ (by decide +kernel)) ggL_law_X6_odds
set_option maxRecDepth 20000 in
theorem ggL_law_X5_lots : GoodIn wsL_law wsX5_lots := goodIn_r _ [838, 839, 32, 840, 841, 842, 843, 844, 845, 846, 847, 538, 539, 540, 31, 541, 65, 498, 499, 500, 501, 68, 542, 543, 544, 545, 546, 272, 273, 274, 72, 73, 74, 75, 506, 507, 508, 509, 76, 627, 628, 629, 630, 64, 348, 349, 350, 351, 66, 631, 632, 633, 634, 352, 353, 354, 355, 356, 357, 358, 359, 360, 2, 361, 362, 363, 343, 336, 337, 338, 364, 365, 366, 367, 77, 368, 369, 370, 371, 372, 373, 374, 375, 69, 70, 71, 376, 377, 378, 379, 380, 381, 510, 511, 512, 513, 514, 515, 516, 951, 952, 953, 954, 955, 956, 957, 958, 990, 991, 992, 993, 994, 995, 996, 997, 998, 999, 1000, 1001, 1002, 1003] (by decide +kernel) (by decide +kernel)
set_option maxRecDepth 20000 in
theorem gL_law_X5_lots : GoodIn wsL_law (wsV RL 155 RX5 yX5_lots wsX5_lots) := goodIn_app (goodIn_of _ (by decide +kernel)) ggL_law_X5_lots
set_option maxRecDepth 20000 in
theorem ggL_law_X6_lots : GoodIn wsL_law wsX6_lots := goodIn_r _ [851, 852, 853, 93, 854, 855, 129, 130, 5, 131, 556, 557, 558, 559, 521, 522, 523, 524, 403, 404, 405, 406, 642, 643, 644, 645, 407, 408, 409, 410, 100, 101, 411, 412, 413, 414, 415, 416, 417, 418, 419, 646, 647, 648, 649, 529, 530, 531, 959, 960, 961, 962, 963, 964, 965, 966, 967, 968, 969, 970, 971, 972, 973, 974, 975, 976] (by decide +kernel) (by decide +kernel)
set_option maxRecDepth 20000 in
theorem gL_law_X6_lots : GoodIn wsL_law (wsV RL 158 RX6 yX6_lots wsX6_lots) := goodIn_app (goodIn_of _ (by decide +kernel)) ggL_law_X6_lots
set_option maxRecDepth 20000 in
theorem ggL_law_X5_asked : GoodIn wsL_law wsX5_asked := goodIn_r _ [859, 20, 951, 952, 953, 954, 955, 956, 957, 958, 980, 981, 982, 983, 984] (by decide +kernel) (by decide +kernel)
set_option maxRecDepth 20000 in
theorem gL_law_X5_asked : GoodIn wsL_law (wsV RL 159 RX5 yX5_asked wsX5_asked) := goodIn_app (goodIn_of _ (by decide +kernel)) ggL_law_X5_asked
set_option maxRecDepth 20000 in
theorem ggL_law_X6_asked : GoodIn wsL_law wsX6_asked := goodIn_r _ [863, 174, 959, 960, 961, 962, 963, 964, 965, 966, 967, 968, 969, 970, 971, 972, 973, 974, 975, 976] (by decide +kernel) (by decide +kernel)
set_option maxRecDepth 20000 in
theorem gL_law_X6_asked : GoodIn wsL_law (wsV RL 162 RX6 yX6_asked wsX6_asked) := goodIn_app (goodIn_of _ (by decide +kernel)) ggL_law_X6_asked
set_option maxRecDepth 20000 in
theorem ggL_law_X5_upper : GoodIn wsL_law wsX5_upper := goodIn_r _ [867, 20, 951, 952, 953, 954, 955, 956, 957, 958, 980, 981, 982, 983, 984] (by decide +kernel) (by decide +kernel)
set_option maxRecDepth 20000 in
theorem gL_law_X5_upper : GoodIn wsL_law (wsV RL 163 RX5 yX5_upper wsX5_upper) := goodIn_app (goodIn_of _ (by decide +kernel)) ggL_law_X5_upper
set_option maxRecDepth 20000 in
theorem ggL_law_X6_upper : GoodIn wsL_law wsX6_upper := goodIn_r _ [871, 791, 959, 960, 961, 962, 963, 964, 965, 966, 967, 968, 969, 970, 971, 972, 973, 974, 975, 976] (by decide +kernel) (by decide +kernel)
set_option maxRecDepth 20000 in
theorem gL_law_X6_upper : GoodIn wsL_law (wsV RL 167 RX6 yX6_upper wsX6_upper) := goodIn_app (goodIn_of _ (by decide +kernel)) ggL_law_X6_upper
set_option maxRecDepth 20000 in
theorem ggL_law_X5_lower : GoodIn wsL_law wsX5_lower := goodIn_r _ [875, 20, 951, 952, 953, 954, 955, 956, 957, 958, 980, 981, 982, 983, 984] (by decide +kernel) (by decide +kernel)
set_option maxRecDepth 20000 in
theorem gL_law_X5_lower : GoodIn wsL_law (wsV RL 168 RX5 yX5_lower wsX5_lower) := goodIn_app (goodIn_of _ (by decide +kernel)) ggL_law_X5_lower
set_option maxRecDepth 20000 in
theorem ggL_law_X6_lower : GoodIn wsL_law wsX6_lower := goodIn_r _ [879, 97, 959, 960, 961, 962, 963, 964, 965, 966, 967, 968, 969, 970, 971, 972, 973, 974, 975, 976] (by decide +kernel) (by decide +kernel)
set_option maxRecDepth 20000 in
theorem gL_law_X6_lower : GoodIn wsL_law (wsV RL 171 RX6 yX6_lower wsX6_lower) := goodIn_app (goodIn_of _ (by decide +kernel)) ggL_law_X6_lower
set_option maxRecDepth 20000 in
theorem ggL_law_X5_count : GoodIn wsL_law wsX5_count := goodIn_r _ [883, 884, 885, 886, 2, 887, 32, 15, 16, 510, 511, 512, 513, 514, 515, 516, 888, 889, 890, 31, 891, 64, 892, 450, 451, 452, 69, 343, 336, 337, 338, 376, 377, 378, 893, 894, 895, 14, 896, 47, 203, 150, 151, 152, 120, 109, 110, 111, 897, 898, 899, 900, 600, 601, 602, 603, 33, 588, 589, 590, 951, 952, 953, 954, 955, 956, 957, 958, 990, 991, 992, 993, 994, 995, 996, 997, 998, 999, 1000, 1001, 1002, 1003, 977, 978, 979] (by decide +kernel) (by decide +kernel)
set_option maxRecDepth 20000 in
theorem gL_law_X5_count : GoodIn wsL_law (wsV RL 172 RX5 yX5_count wsX5_count) := goodIn_app (goodIn_of _ (by decide +kernel)) ggL_law_X5_count
set_option maxRecDepth 20000 in
theorem ggL_law_X6_count : GoodIn wsL_law wsX6_count := goodIn_r _ [904, 905, 129, 130, 5, 131, 906, 907, 908, 909, 93, 89, 91, 96, 414, 415, 416, 525, 526, 527, 528, 403, 404, 405, 406, 529, 530, 531, 959, 960, 961, 962, 963, 964, 965, 966, 967, 968, 969, 970, 971, 972, 973, 974, 975, 976] (by decide +kernel) (by decide +kernel)
set_option maxRecDepth 20000 in
theorem gL_law_X6_count : GoodIn wsL_law (wsV RL 175 RX6 yX6_count wsX6_count) := goodIn_app (goodIn_of _ (by decide +kernel)) ggL_law_X6_count
set_option maxRecDepth 20000 in
theorem ggL_law_X5_finding : GoodIn wsL_law wsX5_finding := goodIn_r _ [913, 20, 951, 952, 953, 954, 955, 956, 957, 958, 980, 981, 982, 983, 984] (by decide +kernel) (by decide +kernel)
set_option maxRecDepth 20000 in
theorem gL_law_X5_finding : GoodIn wsL_law (wsV RL 176 RX5 yX5_finding wsX5_finding) := goodIn_app (goodIn_of _ (by decide +kernel)) ggL_law_X5_finding
set_option maxRecDepth 20000 in
theorem ggL_law_X6_finding : GoodIn wsL_law wsX6_finding := goodIn_r _ [917, 136, 959, 960, 961, 962, 963, 964, 965, 966, 967, 968, 969, 970, 971, 972, 973, 974, 975, 976] (by decide +kernel) (by decide +kernel)
set_option maxRecDepth 20000 in
theorem gL_law_X6_finding : GoodIn wsL_law (wsV RL 179 RX6 yX6_finding wsX6_finding) := goodIn_app (goodIn_of _ (by decide +kernel)) ggL_law_X6_finding
set_option maxRecDepth 20000 in
theorem ggL_law_X5_findings : GoodIn wsL_law wsX5_findings := goodIn_r _ [921, 20, 951, 952, 953, 954, 955, 956, 957, 958, 980, 981, 982, 983, 984] (by decide +kernel) (by decide +kernel)
set_option maxRecDepth 20000 in
theorem gL_law_X5_findings : GoodIn wsL_law (wsV RL 180 RX5 yX5_findings wsX5_findings) := goodIn_app (goodIn_of _ (by decide +kernel)) ggL_law_X5_findings
set_option maxRecDepth 20000 in
theorem ggL_law_X6_findings : GoodIn wsL_law wsX6_findings := goodIn_r _ [925, 128, 98, 129, 130, 5, 131, 959, 960, 961, 962, 963, 964, 965, 966, 967, 968, 969, 970, 971, 972, 973, 974, 975, 976] (by decide +kernel) (by decide +kernel)
set_option maxRecDepth 20000 in
theorem gL_law_X6_findings : GoodIn wsL_law (wsV RL 183 RX6 yX6_findings wsX6_findings) := goodIn_app (goodIn_of _ (by decide +kernel)) ggL_law_X6_findings
set_option maxRecDepth 20000 in
theorem ggL_law_X5_digest : GoodIn wsL_law wsX5_digest := goodIn_r _ [929, 930, 931, 32, 33, 15, 16, 884, 885, 886, 2, 887, 510, 511, 512, 513, 514, 515, 516, 888, 889, 890, 31, 891, 64, 892, 450, 451, 452, 69, 343, 336, 337, 338, 376, 377, 378, 893, 894, 895, 14, 896, 47, 203, 150, 151, 152, 120, 109, 110, 111, 897, 898, 899, 900, 600, 601, 602, 603, 588, 589, 590, 932, 933, 934, 935, 936, 65, 937, 340, 341, 342, 70, 71, 67, 344, 345, 346, 347, 348, 349, 350, 351, 66, 352, 353, 354, 355, 356, 357, 358, 359, 360, 361, 362, 363, 364, 365, 366, 367, 77, 75, 368, 369, 370, 371, 74, 72, 73, 372, 373, 374, 375, 379, 380, 381, 938, 429, 430, 431, 432, 425, 426, 427, 433, 434, 435, 436, 939, 940, 941, 942, 943, 944, 158, 159, 160, 46, 161, 154, 155, 156, 951, 952, 953, 954, 955, 956, 957, 958, 990, 991, 992, 993, 994, 995, 996, 997, 998, 999, 1000, 1001, 1002, 1003, 977, 978, 979] (by decide +kernel) (by decide +kernel)
set_option maxRecDepth 20000 in
theorem gL_law_X5_digest : GoodIn wsL_law (wsV RL 184 RX5 yX5_digest wsX5_digest) := goodIn_app (goodIn_of _ (by decide +kernel)) ggL_law_X5_digest
set_option maxRecDepth 20000 in
theorem ggL_law_X6_digest : GoodIn wsL_law wsX6_digest := goodIn_r _ [948, 949, 950, 93, 96, 94, 89, 90, 91, 92, 906, 907, 908, 5, 909, 414, 415, 416, 525, 526, 527, 528, 403, 404, 405, 406, 529, 530, 531, 391, 392, 393, 394, 395, 396, 397, 398, 101, 399, 400, 401, 402, 407, 408, 409, 410, 100, 411, 412, 413, 417, 418, 419, 959, 960, 961, 962, 963, 964, 965, 966, 967, 968, 969, 970, 971, 972, 973, 974, 975, 976] (by decide +kernel) (by decide +kernel)
set_option maxRecDepth 20000 in
theorem gL_law_X6_digest : GoodIn wsL_law (wsV RL 187 RX6 yX6_digest wsX6_digest) := goodIn_app (goodIn_of _ (by decide +kernel)) ggL_law_X6_digest
theorem dL_law_0 : decode cL_law 0 = .ok (.new 7, 3) := by decide +kernel
theorem dL_law_3 : decode cL_law 3 = .ok (.dup, 1) := by decide +kernel
theorem dL_law_4 : decode cL_law 4 = .ok (.invokespecial 9, 3) := by decide +kernel
theorem dL_law_7 : decode cL_law 7 = .ok (.astore_n 1, 1) := by decide +kernel
theorem dL_law_8 : decode cL_law 8 = .ok (.new 10, 3) := by decide +kernel
theorem dL_law_11 : decode cL_law 11 = .ok (.dup, 1) := by decide +kernel
theorem dL_law_12 : decode cL_law 12 = .ok (.invokespecial 12, 3) := by decide +kernel
theorem dL_law_15 : decode cL_law 15 = .ok (.astore_n 2, 1) := by decide +kernel
theorem dL_law_16 : decode cL_law 16 = .ok (.iconst 0, 1) := by decide +kernel
theorem dL_law_17 : decode cL_law 17 = .ok (.istore_n 3, 1) := by decide +kernel
theorem dL_law_18 : decode cL_law 18 = .ok (.iload_n 3, 1) := by decide +kernel
theorem dL_law_19 : decode cL_law 19 = .ok (.aload_n 0, 1) := by decide +kernel
theorem dL_law_20 : decode cL_law 20 = .ok (.arraylength, 1) := by decide +kernel
theorem dL_law_21 : decode cL_law 21 = .ok (.bipush 6, 2) := by decide +kernel
theorem dL_law_23 : decode cL_law 23 = .ok (.isub, 1) := by decide +kernel
theorem dL_law_24 : decode cL_law 24 = .ok (.if_icmp .gt 1527, 3) := by decide +kernel
theorem dL_law_27 : decode cL_law 27 = .ok (.aload_n 0, 1) := by decide +kernel
theorem dL_law_28 : decode cL_law 28 = .ok (.iload_n 3, 1) := by decide +kernel
theorem dL_law_29 : decode cL_law 29 = .ok (.iaload, 1) := by decide +kernel
theorem dL_law_30 : decode cL_law 30 = .ok (.bipush 63, 2) := by decide +kernel
theorem dL_law_32 : decode cL_law 32 = .ok (.iand, 1) := by decide +kernel
theorem dL_law_33 : decode cL_law 33 = .ok (.tableswitch 1512 0 41 #[183, 216, 259, 292, 315, 378, 401, 434, 477, 500, 523, 556, 589, 622, 655, 688, 721, 734, 757, 780, 803, 846, 889, 932, 955, 998, 1041, 1094, 1137, 1190, 1233, 1256, 1279, 1302, 1365, 1398, 1411, 1425, 1439, 1462, 1475, 1498], 183) := by decide +kernel
theorem dL_law_216 : decode cL_law 216 = .ok (.aload_n 1, 1) := by decide +kernel
theorem dL_law_217 : decode cL_law 217 = .ok (.aload_n 0, 1) := by decide +kernel
theorem dL_law_218 : decode cL_law 218 = .ok (.iload_n 3, 1) := by decide +kernel
theorem dL_law_219 : decode cL_law 219 = .ok (.iconst 1, 1) := by decide +kernel
theorem dL_law_220 : decode cL_law 220 = .ok (.iadd, 1) := by decide +kernel
theorem dL_law_221 : decode cL_law 221 = .ok (.iaload, 1) := by decide +kernel
theorem dL_law_222 : decode cL_law 222 = .ok (.aload_n 0, 1) := by decide +kernel
theorem dL_law_223 : decode cL_law 223 = .ok (.iload_n 3, 1) := by decide +kernel
theorem dL_law_224 : decode cL_law 224 = .ok (.iconst 2, 1) := by decide +kernel
theorem dL_law_225 : decode cL_law 225 = .ok (.iadd, 1) := by decide +kernel
theorem dL_law_226 : decode cL_law 226 = .ok (.iaload, 1) := by decide +kernel
theorem dL_law_227 : decode cL_law 227 = .ok (.invokevirtual 13, 3) := by decide +kernel
theorem dL_law_230 : decode cL_law 230 = .ok (.aload_n 2, 1) := by decide +kernel
theorem dL_law_231 : decode cL_law 231 = .ok (.aload_n 0, 1) := by decide +kernel
theorem dL_law_232 : decode cL_law 232 = .ok (.iload_n 3, 1) := by decide +kernel
theorem dL_law_233 : decode cL_law 233 = .ok (.iconst 1, 1) := by decide +kernel
theorem dL_law_234 : decode cL_law 234 = .ok (.iadd, 1) := by decide +kernel
theorem dL_law_235 : decode cL_law 235 = .ok (.iaload, 1) := by decide +kernel
theorem dL_law_236 : decode cL_law 236 = .ok (.aload_n 0, 1) := by decide +kernel
theorem dL_law_237 : decode cL_law 237 = .ok (.iload_n 3, 1) := by decide +kernel
theorem dL_law_238 : decode cL_law 238 = .ok (.iconst 2, 1) := by decide +kernel
theorem dL_law_239 : decode cL_law 239 = .ok (.iadd, 1) := by decide +kernel
theorem dL_law_240 : decode cL_law 240 = .ok (.iaload, 1) := by decide +kernel
theorem dL_law_241 : decode cL_law 241 = .ok (.invokevirtual 17, 3) := by decide +kernel
theorem dL_law_244 : decode cL_law 244 = .ok (.if_icmp .eq 1301, 3) := by decide +kernel
theorem dL_law_247 : decode cL_law 247 = .ok (.iconst 0, 1) := by decide +kernel
theorem dL_law_248 : decode cL_law 248 = .ok (.ireturn, 1) := by decide +kernel
theorem dL_law_249 : decode cL_law 249 = .ok (.aload_n 1, 1) := by decide +kernel
theorem dL_law_250 : decode cL_law 250 = .ok (.aload_n 0, 1) := by decide +kernel
theorem dL_law_251 : decode cL_law 251 = .ok (.iload_n 3, 1) := by decide +kernel
theorem dL_law_252 : decode cL_law 252 = .ok (.iconst 1, 1) := by decide +kernel
theorem dL_law_253 : decode cL_law 253 = .ok (.iadd, 1) := by decide +kernel
theorem dL_law_254 : decode cL_law 254 = .ok (.iaload, 1) := by decide +kernel
theorem dL_law_255 : decode cL_law 255 = .ok (.aload_n 0, 1) := by decide +kernel
theorem dL_law_256 : decode cL_law 256 = .ok (.iload_n 3, 1) := by decide +kernel
theorem dL_law_257 : decode cL_law 257 = .ok (.iconst 2, 1) := by decide +kernel
theorem dL_law_258 : decode cL_law 258 = .ok (.iadd, 1) := by decide +kernel
theorem dL_law_259 : decode cL_law 259 = .ok (.iaload, 1) := by decide +kernel
theorem dL_law_260 : decode cL_law 260 = .ok (.aload_n 0, 1) := by decide +kernel
theorem dL_law_261 : decode cL_law 261 = .ok (.iload_n 3, 1) := by decide +kernel
theorem dL_law_262 : decode cL_law 262 = .ok (.iconst 3, 1) := by decide +kernel
theorem dL_law_263 : decode cL_law 263 = .ok (.iadd, 1) := by decide +kernel
theorem dL_law_264 : decode cL_law 264 = .ok (.iaload, 1) := by decide +kernel
theorem dL_law_265 : decode cL_law 265 = .ok (.invokevirtual 18, 3) := by decide +kernel
theorem dL_law_268 : decode cL_law 268 = .ok (.aload_n 2, 1) := by decide +kernel
theorem dL_law_269 : decode cL_law 269 = .ok (.aload_n 0, 1) := by decide +kernel
theorem dL_law_270 : decode cL_law 270 = .ok (.iload_n 3, 1) := by decide +kernel
theorem dL_law_271 : decode cL_law 271 = .ok (.iconst 1, 1) := by decide +kernel
theorem dL_law_272 : decode cL_law 272 = .ok (.iadd, 1) := by decide +kernel
theorem dL_law_273 : decode cL_law 273 = .ok (.iaload, 1) := by decide +kernel
theorem dL_law_274 : decode cL_law 274 = .ok (.aload_n 0, 1) := by decide +kernel
theorem dL_law_275 : decode cL_law 275 = .ok (.iload_n 3, 1) := by decide +kernel
theorem dL_law_276 : decode cL_law 276 = .ok (.iconst 2, 1) := by decide +kernel
theorem dL_law_277 : decode cL_law 277 = .ok (.iadd, 1) := by decide +kernel
theorem dL_law_278 : decode cL_law 278 = .ok (.iaload, 1) := by decide +kernel
theorem dL_law_279 : decode cL_law 279 = .ok (.aload_n 0, 1) := by decide +kernel
theorem dL_law_280 : decode cL_law 280 = .ok (.iload_n 3, 1) := by decide +kernel
theorem dL_law_281 : decode cL_law 281 = .ok (.iconst 3, 1) := by decide +kernel
theorem dL_law_282 : decode cL_law 282 = .ok (.iadd, 1) := by decide +kernel
theorem dL_law_283 : decode cL_law 283 = .ok (.iaload, 1) := by decide +kernel
theorem dL_law_284 : decode cL_law 284 = .ok (.invokevirtual 22, 3) := by decide +kernel
theorem dL_law_287 : decode cL_law 287 = .ok (.if_icmp .eq 1258, 3) := by decide +kernel
theorem dL_law_290 : decode cL_law 290 = .ok (.iconst 0, 1) := by decide +kernel
theorem dL_law_291 : decode cL_law 291 = .ok (.ireturn, 1) := by decide +kernel
theorem dL_law_292 : decode cL_law 292 = .ok (.aload_n 1, 1) := by decide +kernel
theorem dL_law_293 : decode cL_law 293 = .ok (.aload_n 0, 1) := by decide +kernel
theorem dL_law_294 : decode cL_law 294 = .ok (.iload_n 3, 1) := by decide +kernel
theorem dL_law_295 : decode cL_law 295 = .ok (.iconst 1, 1) := by decide +kernel
theorem dL_law_296 : decode cL_law 296 = .ok (.iadd, 1) := by decide +kernel
theorem dL_law_297 : decode cL_law 297 = .ok (.iaload, 1) := by decide +kernel
theorem dL_law_298 : decode cL_law 298 = .ok (.aload_n 0, 1) := by decide +kernel
theorem dL_law_299 : decode cL_law 299 = .ok (.iload_n 3, 1) := by decide +kernel
theorem dL_law_300 : decode cL_law 300 = .ok (.iconst 2, 1) := by decide +kernel
theorem dL_law_301 : decode cL_law 301 = .ok (.iadd, 1) := by decide +kernel
theorem dL_law_302 : decode cL_law 302 = .ok (.iaload, 1) := by decide +kernel
theorem dL_law_303 : decode cL_law 303 = .ok (.invokevirtual 23, 3) := by decide +kernel
theorem dL_law_306 : decode cL_law 306 = .ok (.aload_n 2, 1) := by decide +kernel
theorem dL_law_307 : decode cL_law 307 = .ok (.aload_n 0, 1) := by decide +kernel
theorem dL_law_308 : decode cL_law 308 = .ok (.iload_n 3, 1) := by decide +kernel
theorem dL_law_309 : decode cL_law 309 = .ok (.iconst 1, 1) := by decide +kernel
theorem dL_law_310 : decode cL_law 310 = .ok (.iadd, 1) := by decide +kernel
theorem dL_law_311 : decode cL_law 311 = .ok (.iaload, 1) := by decide +kernel
theorem dL_law_312 : decode cL_law 312 = .ok (.aload_n 0, 1) := by decide +kernel
theorem dL_law_313 : decode cL_law 313 = .ok (.iload_n 3, 1) := by decide +kernel
theorem dL_law_314 : decode cL_law 314 = .ok (.iconst 2, 1) := by decide +kernel
theorem dL_law_315 : decode cL_law 315 = .ok (.iadd, 1) := by decide +kernel
theorem dL_law_316 : decode cL_law 316 = .ok (.iaload, 1) := by decide +kernel
theorem dL_law_317 : decode cL_law 317 = .ok (.invokevirtual 26, 3) := by decide +kernel
theorem dL_law_320 : decode cL_law 320 = .ok (.if_icmp .eq 1225, 3) := by decide +kernel
theorem dL_law_323 : decode cL_law 323 = .ok (.iconst 0, 1) := by decide +kernel
theorem dL_law_324 : decode cL_law 324 = .ok (.ireturn, 1) := by decide +kernel
theorem dL_law_325 : decode cL_law 325 = .ok (.aload_n 1, 1) := by decide +kernel
theorem dL_law_326 : decode cL_law 326 = .ok (.aload_n 0, 1) := by decide +kernel
theorem dL_law_327 : decode cL_law 327 = .ok (.iload_n 3, 1) := by decide +kernel
theorem dL_law_328 : decode cL_law 328 = .ok (.iconst 1, 1) := by decide +kernel
theorem dL_law_329 : decode cL_law 329 = .ok (.iadd, 1) := by decide +kernel
theorem dL_law_330 : decode cL_law 330 = .ok (.iaload, 1) := by decide +kernel
theorem dL_law_331 : decode cL_law 331 = .ok (.invokevirtual 27, 3) := by decide +kernel
theorem dL_law_334 : decode cL_law 334 = .ok (.aload_n 2, 1) := by decide +kernel
theorem dL_law_335 : decode cL_law 335 = .ok (.aload_n 0, 1) := by decide +kernel
theorem dL_law_336 : decode cL_law 336 = .ok (.iload_n 3, 1) := by decide +kernel
theorem dL_law_337 : decode cL_law 337 = .ok (.iconst 1, 1) := by decide +kernel
theorem dL_law_338 : decode cL_law 338 = .ok (.iadd, 1) := by decide +kernel
theorem dL_law_339 : decode cL_law 339 = .ok (.iaload, 1) := by decide +kernel
theorem dL_law_340 : decode cL_law 340 = .ok (.invokevirtual 31, 3) := by decide +kernel
theorem dL_law_343 : decode cL_law 343 = .ok (.if_icmp .eq 1202, 3) := by decide +kernel
theorem dL_law_346 : decode cL_law 346 = .ok (.iconst 0, 1) := by decide +kernel
theorem dL_law_347 : decode cL_law 347 = .ok (.ireturn, 1) := by decide +kernel
theorem dL_law_348 : decode cL_law 348 = .ok (.aload_n 1, 1) := by decide +kernel
theorem dL_law_349 : decode cL_law 349 = .ok (.aload_n 0, 1) := by decide +kernel
theorem dL_law_350 : decode cL_law 350 = .ok (.iload_n 3, 1) := by decide +kernel
theorem dL_law_351 : decode cL_law 351 = .ok (.iconst 1, 1) := by decide +kernel
theorem dL_law_352 : decode cL_law 352 = .ok (.iadd, 1) := by decide +kernel
theorem dL_law_353 : decode cL_law 353 = .ok (.iaload, 1) := by decide +kernel
theorem dL_law_354 : decode cL_law 354 = .ok (.aload_n 0, 1) := by decide +kernel
theorem dL_law_355 : decode cL_law 355 = .ok (.iload_n 3, 1) := by decide +kernel
theorem dL_law_356 : decode cL_law 356 = .ok (.iconst 2, 1) := by decide +kernel
theorem dL_law_357 : decode cL_law 357 = .ok (.iadd, 1) := by decide +kernel
theorem dL_law_358 : decode cL_law 358 = .ok (.iaload, 1) := by decide +kernel
theorem dL_law_359 : decode cL_law 359 = .ok (.aload_n 0, 1) := by decide +kernel
theorem dL_law_360 : decode cL_law 360 = .ok (.iload_n 3, 1) := by decide +kernel
theorem dL_law_361 : decode cL_law 361 = .ok (.iconst 3, 1) := by decide +kernel
theorem dL_law_362 : decode cL_law 362 = .ok (.iadd, 1) := by decide +kernel
theorem dL_law_363 : decode cL_law 363 = .ok (.iaload, 1) := by decide +kernel
theorem dL_law_364 : decode cL_law 364 = .ok (.aload_n 0, 1) := by decide +kernel
theorem dL_law_365 : decode cL_law 365 = .ok (.iload_n 3, 1) := by decide +kernel
theorem dL_law_366 : decode cL_law 366 = .ok (.iconst 4, 1) := by decide +kernel
theorem dL_law_367 : decode cL_law 367 = .ok (.iadd, 1) := by decide +kernel
theorem dL_law_368 : decode cL_law 368 = .ok (.iaload, 1) := by decide +kernel
theorem dL_law_369 : decode cL_law 369 = .ok (.aload_n 0, 1) := by decide +kernel
theorem dL_law_370 : decode cL_law 370 = .ok (.iload_n 3, 1) := by decide +kernel
theorem dL_law_371 : decode cL_law 371 = .ok (.iconst 5, 1) := by decide +kernel
theorem dL_law_372 : decode cL_law 372 = .ok (.iadd, 1) := by decide +kernel
theorem dL_law_373 : decode cL_law 373 = .ok (.iaload, 1) := by decide +kernel
theorem dL_law_374 : decode cL_law 374 = .ok (.invokevirtual 32, 3) := by decide +kernel
theorem dL_law_377 : decode cL_law 377 = .ok (.aload_n 2, 1) := by decide +kernel
theorem dL_law_378 : decode cL_law 378 = .ok (.aload_n 0, 1) := by decide +kernel
theorem dL_law_379 : decode cL_law 379 = .ok (.iload_n 3, 1) := by decide +kernel
theorem dL_law_380 : decode cL_law 380 = .ok (.iconst 1, 1) := by decide +kernel
theorem dL_law_381 : decode cL_law 381 = .ok (.iadd, 1) := by decide +kernel
theorem dL_law_382 : decode cL_law 382 = .ok (.iaload, 1) := by decide +kernel
theorem dL_law_383 : decode cL_law 383 = .ok (.aload_n 0, 1) := by decide +kernel
theorem dL_law_384 : decode cL_law 384 = .ok (.iload_n 3, 1) := by decide +kernel
theorem dL_law_385 : decode cL_law 385 = .ok (.iconst 2, 1) := by decide +kernel
theorem dL_law_386 : decode cL_law 386 = .ok (.iadd, 1) := by decide +kernel
theorem dL_law_387 : decode cL_law 387 = .ok (.iaload, 1) := by decide +kernel
theorem dL_law_388 : decode cL_law 388 = .ok (.aload_n 0, 1) := by decide +kernel
theorem dL_law_389 : decode cL_law 389 = .ok (.iload_n 3, 1) := by decide +kernel
theorem dL_law_390 : decode cL_law 390 = .ok (.iconst 3, 1) := by decide +kernel
theorem dL_law_391 : decode cL_law 391 = .ok (.iadd, 1) := by decide +kernel
theorem dL_law_392 : decode cL_law 392 = .ok (.iaload, 1) := by decide +kernel
theorem dL_law_393 : decode cL_law 393 = .ok (.aload_n 0, 1) := by decide +kernel
theorem dL_law_394 : decode cL_law 394 = .ok (.iload_n 3, 1) := by decide +kernel
theorem dL_law_395 : decode cL_law 395 = .ok (.iconst 4, 1) := by decide +kernel
theorem dL_law_396 : decode cL_law 396 = .ok (.iadd, 1) := by decide +kernel
theorem dL_law_397 : decode cL_law 397 = .ok (.iaload, 1) := by decide +kernel
theorem dL_law_398 : decode cL_law 398 = .ok (.aload_n 0, 1) := by decide +kernel
theorem dL_law_399 : decode cL_law 399 = .ok (.iload_n 3, 1) := by decide +kernel
theorem dL_law_400 : decode cL_law 400 = .ok (.iconst 5, 1) := by decide +kernel
theorem dL_law_401 : decode cL_law 401 = .ok (.iadd, 1) := by decide +kernel
theorem dL_law_402 : decode cL_law 402 = .ok (.iaload, 1) := by decide +kernel
theorem dL_law_403 : decode cL_law 403 = .ok (.invokevirtual 36, 3) := by decide +kernel
theorem dL_law_406 : decode cL_law 406 = .ok (.if_icmp .eq 1139, 3) := by decide +kernel
theorem dL_law_409 : decode cL_law 409 = .ok (.iconst 0, 1) := by decide +kernel
theorem dL_law_410 : decode cL_law 410 = .ok (.ireturn, 1) := by decide +kernel
theorem dL_law_411 : decode cL_law 411 = .ok (.aload_n 1, 1) := by decide +kernel
theorem dL_law_412 : decode cL_law 412 = .ok (.aload_n 0, 1) := by decide +kernel
theorem dL_law_413 : decode cL_law 413 = .ok (.iload_n 3, 1) := by decide +kernel
theorem dL_law_414 : decode cL_law 414 = .ok (.iconst 1, 1) := by decide +kernel
theorem dL_law_415 : decode cL_law 415 = .ok (.iadd, 1) := by decide +kernel
theorem dL_law_416 : decode cL_law 416 = .ok (.iaload, 1) := by decide +kernel
