theorem dX6_init_12 : decode cX6_init 12 = .ok (.aload_n 0, 1) := by decide +kernel
theorem dX6_init_13 : decode cX6_init 13 = .ok (.sipush 240, 3) := by decide +kernel
theorem dX6_init_16 : decode cX6_init 16 = .ok (.newarray .int, 2) := by decide +kernel
theorem dX6_init_18 : decode cX6_init 18 = .ok (.putfield 13, 3) := by decide +kernel
theorem dX6_init_21 : decode cX6_init 21 = .ok (.aload_n 0, 1) := by decide +kernel
theorem dX6_init_22 : decode cX6_init 22 = .ok (.iconst 4, 1) := by decide +kernel
theorem dX6_init_23 : decode cX6_init 23 = .ok (.newarray .int, 2) := by decide +kernel
theorem dX6_init_25 : decode cX6_init 25 = .ok (.putfield 16, 3) := by decide +kernel
theorem dX6_init_28 : decode cX6_init 28 = .ok (.aload_n 0, 1) := by decide +kernel
theorem dX6_init_29 : decode cX6_init 29 = .ok (.sipush 240, 3) := by decide +kernel
theorem dX6_init_32 : decode cX6_init 32 = .ok (.newarray .int, 2) := by decide +kernel
theorem dX6_init_34 : decode cX6_init 34 = .ok (.putfield 19, 3) := by decide +kernel
theorem dX6_init_37 : decode cX6_init 37 = .ok (.aload_n 0, 1) := by decide +kernel
theorem dX6_init_38 : decode cX6_init 38 = .ok (.bipush 119, 2) := by decide +kernel
theorem dX6_init_40 : decode cX6_init 40 = .ok (.newarray .int, 2) := by decide +kernel
theorem dX6_init_42 : decode cX6_init 42 = .ok (.putfield 22, 3) := by decide +kernel
theorem dX6_init_45 : decode cX6_init 45 = .ok (.aload_n 0, 1) := by decide +kernel
theorem dX6_init_46 : decode cX6_init 46 = .ok (.sipush 357, 3) := by decide +kernel
theorem dX6_init_49 : decode cX6_init 49 = .ok (.newarray .int, 2) := by decide +kernel
theorem dX6_init_51 : decode cX6_init 51 = .ok (.putfield 25, 3) := by decide +kernel
theorem dX6_init_54 : decode cX6_init 54 = .ok (.aload_n 0, 1) := by decide +kernel
theorem dX6_init_55 : decode cX6_init 55 = .ok (.iconst 3, 1) := by decide +kernel
theorem dX6_init_56 : decode cX6_init 56 = .ok (.newarray .boolean, 2) := by decide +kernel
theorem dX6_init_58 : decode cX6_init 58 = .ok (.putfield 28, 3) := by decide +kernel
theorem dX6_init_61 : decode cX6_init 61 = .ok (.aload_n 0, 1) := by decide +kernel
theorem dX6_init_62 : decode cX6_init 62 = .ok (.lconst 1, 1) := by decide +kernel
theorem dX6_init_63 : decode cX6_init 63 = .ok (.putfield 32, 3) := by decide +kernel
theorem dX6_init_66 : decode cX6_init 66 = .ok (.aload_n 0, 1) := by decide +kernel
theorem dX6_init_67 : decode cX6_init 67 = .ok (.bipush 6, 2) := by decide +kernel
theorem dX6_init_69 : decode cX6_init 69 = .ok (.newarray .int, 2) := by decide +kernel
theorem dX6_init_71 : decode cX6_init 71 = .ok (.putfield 36, 3) := by decide +kernel
theorem dX6_init_74 : decode cX6_init 74 = .ok (.aload_n 0, 1) := by decide +kernel
theorem dX6_init_75 : decode cX6_init 75 = .ok (.bipush 119, 2) := by decide +kernel
theorem dX6_init_77 : decode cX6_init 77 = .ok (.newarray .int, 2) := by decide +kernel
theorem dX6_init_79 : decode cX6_init 79 = .ok (.putfield 39, 3) := by decide +kernel
theorem dX6_init_82 : decode cX6_init 82 = .ok (.aload_n 0, 1) := by decide +kernel
theorem dX6_init_83 : decode cX6_init 83 = .ok (.bipush 100, 2) := by decide +kernel
theorem dX6_init_85 : decode cX6_init 85 = .ok (.newarray .int, 2) := by decide +kernel
theorem dX6_init_87 : decode cX6_init 87 = .ok (.putfield 42, 3) := by decide +kernel
theorem dX6_init_90 : decode cX6_init 90 = .ok (.aload_n 0, 1) := by decide +kernel
theorem dX6_init_91 : decode cX6_init 91 = .ok (.bipush 100, 2) := by decide +kernel
theorem dX6_init_93 : decode cX6_init 93 = .ok (.newarray .int, 2) := by decide +kernel
theorem dX6_init_95 : decode cX6_init 95 = .ok (.putfield 45, 3) := by decide +kernel
theorem dX6_init_98 : decode cX6_init 98 = .ok (.aload_n 0, 1) := by decide +kernel
theorem dX6_init_99 : decode cX6_init 99 = .ok (.bipush 100, 2) := by decide +kernel
theorem dX6_init_101 : decode cX6_init 101 = .ok (.newarray .int, 2) := by decide +kernel
theorem dX6_init_103 : decode cX6_init 103 = .ok (.putfield 48, 3) := by decide +kernel
theorem dX6_init_106 : decode cX6_init 106 = .ok (.aload_n 0, 1) := by decide +kernel
theorem dX6_init_107 : decode cX6_init 107 = .ok (.bipush 50, 2) := by decide +kernel
theorem dX6_init_109 : decode cX6_init 109 = .ok (.newarray .int, 2) := by decide +kernel
theorem dX6_init_111 : decode cX6_init 111 = .ok (.putfield 51, 3) := by decide +kernel
theorem dX6_init_114 : decode cX6_init 114 = .ok (.iconst 0, 1) := by decide +kernel
theorem dX6_init_115 : decode cX6_init 115 = .ok (.istore_n 1, 1) := by decide +kernel
theorem dX6_init_116 : decode cX6_init 116 = .ok (.iload_n 1, 1) := by decide +kernel
theorem dX6_init_117 : decode cX6_init 117 = .ok (.bipush 6, 2) := by decide +kernel
theorem dX6_init_119 : decode cX6_init 119 = .ok (.if_icmp .ge 16, 3) := by decide +kernel
theorem dX6_init_122 : decode cX6_init 122 = .ok (.aload_n 0, 1) := by decide +kernel
theorem dX6_init_123 : decode cX6_init 123 = .ok (.getfield 7, 3) := by decide +kernel
theorem dX6_init_126 : decode cX6_init 126 = .ok (.iload_n 1, 1) := by decide +kernel
theorem dX6_init_127 : decode cX6_init 127 = .ok (.iconst (-1), 1) := by decide +kernel
theorem dX6_init_128 : decode cX6_init 128 = .ok (.iastore, 1) := by decide +kernel
theorem dX6_init_129 : decode cX6_init 129 = .ok (.iinc 1 1, 3) := by decide +kernel
theorem dX6_init_132 : decode cX6_init 132 = .ok (.goto (-16), 3) := by decide +kernel
theorem dX6_init_135 : decode cX6_init 135 = .ok (.iconst 0, 1) := by decide +kernel
theorem dX6_init_136 : decode cX6_init 136 = .ok (.istore_n 1, 1) := by decide +kernel
theorem dX6_init_137 : decode cX6_init 137 = .ok (.iload_n 1, 1) := by decide +kernel
theorem dX6_init_138 : decode cX6_init 138 = .ok (.iconst 4, 1) := by decide +kernel
theorem dX6_init_139 : decode cX6_init 139 = .ok (.if_icmp .ge 16, 3) := by decide +kernel
theorem dX6_init_142 : decode cX6_init 142 = .ok (.aload_n 0, 1) := by decide +kernel
theorem dX6_init_143 : decode cX6_init 143 = .ok (.getfield 16, 3) := by decide +kernel
theorem dX6_init_146 : decode cX6_init 146 = .ok (.iload_n 1, 1) := by decide +kernel
theorem dX6_init_147 : decode cX6_init 147 = .ok (.iconst (-1), 1) := by decide +kernel
theorem dX6_init_148 : decode cX6_init 148 = .ok (.iastore, 1) := by decide +kernel
theorem dX6_init_149 : decode cX6_init 149 = .ok (.iinc 1 1, 3) := by decide +kernel
theorem dX6_init_152 : decode cX6_init 152 = .ok (.goto (-15), 3) := by decide +kernel
theorem dX6_init_155 : decode cX6_init 155 = .ok (.return_, 1) := by decide +kernel
theorem dX6_in_0 : decode cX6_in 0 = .ok (.lload_n 0, 1) := by decide +kernel
theorem dX6_in_1 : decode cX6_in 1 = .ok (.lload_n 2, 1) := by decide +kernel
theorem dX6_in_2 : decode cX6_in 2 = .ok (.lcmp, 1) := by decide +kernel
theorem dX6_in_3 : decode cX6_in 3 = .ok (.ifCond .lt 14, 3) := by decide +kernel
theorem dX6_in_6 : decode cX6_in 6 = .ok (.lload_n 0, 1) := by decide +kernel
theorem dX6_in_7 : decode cX6_in 7 = .ok (.lload 4, 2) := by decide +kernel
theorem dX6_in_9 : decode cX6_in 9 = .ok (.lcmp, 1) := by decide +kernel
theorem dX6_in_10 : decode cX6_in 10 = .ok (.ifCond .gt 7, 3) := by decide +kernel
theorem dX6_in_13 : decode cX6_in 13 = .ok (.iconst 1, 1) := by decide +kernel
theorem dX6_in_14 : decode cX6_in 14 = .ok (.goto 4, 3) := by decide +kernel
theorem dX6_in_17 : decode cX6_in 17 = .ok (.iconst 0, 1) := by decide +kernel
theorem dX6_in_18 : decode cX6_in 18 = .ok (.ireturn, 1) := by decide +kernel
theorem dX6_found_0 : decode cX6_found 0 = .ok (.aload_n 0, 1) := by decide +kernel
theorem dX6_found_1 : decode cX6_found 1 = .ok (.iload_n 1, 1) := by decide +kernel
theorem dX6_found_2 : decode cX6_found 2 = .ok (.putfield 54, 3) := by decide +kernel
theorem dX6_found_5 : decode cX6_found 5 = .ok (.aload_n 0, 1) := by decide +kernel
theorem dX6_found_6 : decode cX6_found 6 = .ok (.getfield 36, 3) := by decide +kernel
theorem dX6_found_9 : decode cX6_found 9 = .ok (.iload_n 1, 1) := by decide +kernel
theorem dX6_found_10 : decode cX6_found 10 = .ok (.dup2, 1) := by decide +kernel
theorem dX6_found_11 : decode cX6_found 11 = .ok (.iaload, 1) := by decide +kernel
theorem dX6_found_12 : decode cX6_found 12 = .ok (.iconst 1, 1) := by decide +kernel
theorem dX6_found_13 : decode cX6_found 13 = .ok (.iadd, 1) := by decide +kernel
theorem dX6_found_14 : decode cX6_found 14 = .ok (.iastore, 1) := by decide +kernel
theorem dX6_found_15 : decode cX6_found 15 = .ok (.bipush (-3), 2) := by decide +kernel
theorem dX6_found_17 : decode cX6_found 17 = .ok (.ireturn, 1) := by decide +kernel
theorem dX6_tell_0 : decode cX6_tell 0 = .ok (.aload_n 0, 1) := by decide +kernel
theorem dX6_tell_1 : decode cX6_tell 1 = .ok (.iload_n 1, 1) := by decide +kernel
theorem dX6_tell_2 : decode cX6_tell 2 = .ok (.putfield 58, 3) := by decide +kernel
theorem dX6_tell_5 : decode cX6_tell 5 = .ok (.iconst 1, 1) := by decide +kernel
theorem dX6_tell_6 : decode cX6_tell 6 = .ok (.ireturn, 1) := by decide +kernel
theorem dX6_answer_0 : decode cX6_answer 0 = .ok (.aload_n 0, 1) := by decide +kernel
theorem dX6_answer_1 : decode cX6_answer 1 = .ok (.iload_n 2, 1) := by decide +kernel
theorem dX6_answer_2 : decode cX6_answer 2 = .ok (.putfield 58, 3) := by decide +kernel
theorem dX6_answer_5 : decode cX6_answer 5 = .ok (.iload_n 1, 1) := by decide +kernel
theorem dX6_answer_6 : decode cX6_answer 6 = .ok (.ireturn, 1) := by decide +kernel
set_option maxRecDepth 20000 in
theorem ggX6_isRow_X6_in : GoodIn wsX6_isRow wsX6_in := goodIn_r _ [5] (by decide +kernel) (by decide +kernel)
set_option maxRecDepth 20000 in
theorem gX6_isRow_X6_in : GoodIn wsX6_isRow (va_wsS RX6 63 yX6_in wsX6_in) := goodIn_app (goodIn_of _ (by decide +kernel)) ggX6_isRow_X6_in
theorem dX6_isRow_0 : decode cX6_isRow 0 = .ok (.iload_n 0, 1) := by decide +kernel
theorem dX6_isRow_1 : decode cX6_isRow 1 = .ok (.i2l, 1) := by decide +kernel
theorem dX6_isRow_2 : decode cX6_isRow 2 = .ok (.lconst 0, 1) := by decide +kernel
theorem dX6_isRow_3 : decode cX6_isRow 3 = .ok (.ldc2_w 61, 3) := by decide +kernel
theorem dX6_isRow_6 : decode cX6_isRow 6 = .ok (.invokestatic 63, 3) := by decide +kernel
theorem dX6_isRow_9 : decode cX6_isRow 9 = .ok (.ireturn, 1) := by decide +kernel
set_option maxRecDepth 20000 in
theorem ggX6_isText_X6_in : GoodIn wsX6_isText wsX6_in := goodIn_r _ [5] (by decide +kernel) (by decide +kernel)
set_option maxRecDepth 20000 in
theorem gX6_isText_X6_in : GoodIn wsX6_isText (va_wsS RX6 63 yX6_in wsX6_in) := goodIn_app (goodIn_of _ (by decide +kernel)) ggX6_isText_X6_in
theorem dX6_isText_0 : decode cX6_isText 0 = .ok (.iload_n 0, 1) := by decide +kernel
theorem dX6_isText_1 : decode cX6_isText 1 = .ok (.i2l, 1) := by decide +kernel
theorem dX6_isText_2 : decode cX6_isText 2 = .ok (.lconst 0, 1) := by decide +kernel
theorem dX6_isText_3 : decode cX6_isText 3 = .ok (.ldc2_w 67, 3) := by decide +kernel
theorem dX6_isText_6 : decode cX6_isText 6 = .ok (.invokestatic 63, 3) := by decide +kernel
theorem dX6_isText_9 : decode cX6_isText 9 = .ok (.ireturn, 1) := by decide +kernel
set_option maxRecDepth 20000 in
theorem ggX6_row_X6_isRow : GoodIn wsX6_row wsX6_isRow := goodIn_r _ [6, 7, 8, 9, 5, 10] (by decide +kernel) (by decide +kernel)
set_option maxRecDepth 20000 in
theorem gX6_row_X6_isRow : GoodIn wsX6_row (va_wsS RX6 69 yX6_isRow wsX6_isRow) := goodIn_app (goodIn_of _ (by decide +kernel)) ggX6_row_X6_isRow
set_option maxRecDepth 20000 in
theorem ggX6_row_X6_found : GoodIn wsX6_row wsX6_found := goodIn_r _ [14, 15, 16, 17, 18, 19, 20, 21, 22, 23, 24, 25, 26, 27, 28, 29, 30, 31, 32, 33, 34] (by decide +kernel) (by decide +kernel)
set_option maxRecDepth 20000 in
theorem gX6_row_X6_found : GoodIn wsX6_row (wsV RX6 73 RX6 yX6_found wsX6_found) := goodIn_app (goodIn_of _ (by decide +kernel)) ggX6_row_X6_found
theorem dX6_row_0 : decode cX6_row 0 = .ok (.iload_n 1, 1) := by decide +kernel
theorem dX6_row_1 : decode cX6_row 1 = .ok (.invokestatic 69, 3) := by decide +kernel
theorem dX6_row_4 : decode cX6_row 4 = .ok (.ifCond .eq 9, 3) := by decide +kernel
theorem dX6_row_7 : decode cX6_row 7 = .ok (.iload_n 2, 1) := by decide +kernel
theorem dX6_row_8 : decode cX6_row 8 = .ok (.bipush 40, 2) := by decide +kernel
theorem dX6_row_10 : decode cX6_row 10 = .ok (.if_icmp .le 5, 3) := by decide +kernel
theorem dX6_row_13 : decode cX6_row 13 = .ok (.iconst (-1), 1) := by decide +kernel
theorem dX6_row_14 : decode cX6_row 14 = .ok (.ireturn, 1) := by decide +kernel
theorem dX6_row_15 : decode cX6_row 15 = .ok (.iload_n 2, 1) := by decide +kernel
theorem dX6_row_16 : decode cX6_row 16 = .ok (.ifCond .ge 9, 3) := by decide +kernel
theorem dX6_row_19 : decode cX6_row 19 = .ok (.aload_n 0, 1) := by decide +kernel
theorem dX6_row_20 : decode cX6_row 20 = .ok (.iconst 5, 1) := by decide +kernel
theorem dX6_row_21 : decode cX6_row 21 = .ok (.invokevirtual 73, 3) := by decide +kernel
theorem dX6_row_24 : decode cX6_row 24 = .ok (.ireturn, 1) := by decide +kernel
theorem dX6_row_25 : decode cX6_row 25 = .ok (.aload_n 0, 1) := by decide +kernel
theorem dX6_row_26 : decode cX6_row 26 = .ok (.getfield 7, 3) := by decide +kernel
theorem dX6_row_29 : decode cX6_row 29 = .ok (.iload_n 1, 1) := by decide +kernel
theorem dX6_row_30 : decode cX6_row 30 = .ok (.iload_n 2, 1) := by decide +kernel
theorem dX6_row_31 : decode cX6_row 31 = .ok (.iastore, 1) := by decide +kernel
theorem dX6_row_32 : decode cX6_row 32 = .ok (.iconst 0, 1) := by decide +kernel
theorem dX6_row_33 : decode cX6_row 33 = .ok (.istore_n 3, 1) := by decide +kernel
theorem dX6_row_34 : decode cX6_row 34 = .ok (.iload_n 3, 1) := by decide +kernel
theorem dX6_row_35 : decode cX6_row 35 = .ok (.bipush 40, 2) := by decide +kernel
theorem dX6_row_37 : decode cX6_row 37 = .ok (.if_icmp .ge 21, 3) := by decide +kernel
theorem dX6_row_40 : decode cX6_row 40 = .ok (.aload_n 0, 1) := by decide +kernel
theorem dX6_row_41 : decode cX6_row 41 = .ok (.getfield 13, 3) := by decide +kernel
theorem dX6_row_44 : decode cX6_row 44 = .ok (.bipush 40, 2) := by decide +kernel
theorem dX6_row_46 : decode cX6_row 46 = .ok (.iload_n 1, 1) := by decide +kernel
theorem dX6_row_47 : decode cX6_row 47 = .ok (.imul, 1) := by decide +kernel
theorem dX6_row_48 : decode cX6_row 48 = .ok (.iload_n 3, 1) := by decide +kernel
theorem dX6_row_49 : decode cX6_row 49 = .ok (.iadd, 1) := by decide +kernel
theorem dX6_row_50 : decode cX6_row 50 = .ok (.iconst 0, 1) := by decide +kernel
theorem dX6_row_51 : decode cX6_row 51 = .ok (.iastore, 1) := by decide +kernel
theorem dX6_row_52 : decode cX6_row 52 = .ok (.iinc 3 1, 3) := by decide +kernel
theorem dX6_row_55 : decode cX6_row 55 = .ok (.goto (-21), 3) := by decide +kernel
theorem dX6_row_58 : decode cX6_row 58 = .ok (.iload_n 2, 1) := by decide +kernel
theorem dX6_row_59 : decode cX6_row 59 = .ok (.ireturn, 1) := by decide +kernel
set_option maxRecDepth 20000 in
theorem ggX6_lay_X6_isRow : GoodIn wsX6_lay wsX6_isRow := goodIn_r _ [6, 7, 8, 9, 5, 10] (by decide +kernel) (by decide +kernel)
set_option maxRecDepth 20000 in
theorem gX6_lay_X6_isRow : GoodIn wsX6_lay (va_wsS RX6 69 yX6_isRow wsX6_isRow) := goodIn_app (goodIn_of _ (by decide +kernel)) ggX6_lay_X6_isRow
set_option maxRecDepth 20000 in
theorem ggX6_lay_X6_found : GoodIn wsX6_lay wsX6_found := goodIn_r _ [14, 15, 16, 22, 23, 24, 25, 26, 27, 28, 29, 30, 31, 32, 33, 34, 35, 36, 37, 38, 39] (by decide +kernel) (by decide +kernel)
set_option maxRecDepth 20000 in
theorem gX6_lay_X6_found : GoodIn wsX6_lay (wsV RX6 73 RX6 yX6_found wsX6_found) := goodIn_app (goodIn_of _ (by decide +kernel)) ggX6_lay_X6_found
set_option maxRecDepth 20000 in
theorem ggX6_lay_X6_in : GoodIn wsX6_lay wsX6_in := goodIn_r _ [10] (by decide +kernel) (by decide +kernel)
set_option maxRecDepth 20000 in
theorem gX6_lay_X6_in : GoodIn wsX6_lay (va_wsS RX6 63 yX6_in wsX6_in) := goodIn_app (goodIn_of _ (by decide +kernel)) ggX6_lay_X6_in
set_option maxRecDepth 20000 in
theorem ggX6_lay_X6_tell : GoodIn wsX6_lay wsX6_tell := goodIn_r _ [20, 21, 22, 23, 24, 25, 26, 27, 28, 29, 30, 31, 32, 33, 34, 35, 36, 37, 38, 39] (by decide +kernel) (by decide +kernel)
set_option maxRecDepth 20000 in
theorem gX6_lay_X6_tell : GoodIn wsX6_lay (wsV RX6 77 RX6 yX6_tell wsX6_tell) := goodIn_app (goodIn_of _ (by decide +kernel)) ggX6_lay_X6_tell
theorem dX6_lay_0 : decode cX6_lay 0 = .ok (.iload_n 1, 1) := by decide +kernel
theorem dX6_lay_1 : decode cX6_lay 1 = .ok (.invokestatic 69, 3) := by decide +kernel
theorem dX6_lay_4 : decode cX6_lay 4 = .ok (.ifCond .ne 5, 3) := by decide +kernel
theorem dX6_lay_7 : decode cX6_lay 7 = .ok (.iconst (-1), 1) := by decide +kernel
theorem dX6_lay_8 : decode cX6_lay 8 = .ok (.ireturn, 1) := by decide +kernel
theorem dX6_lay_9 : decode cX6_lay 9 = .ok (.aload_n 0, 1) := by decide +kernel
theorem dX6_lay_10 : decode cX6_lay 10 = .ok (.getfield 7, 3) := by decide +kernel
theorem dX6_lay_13 : decode cX6_lay 13 = .ok (.iload_n 1, 1) := by decide +kernel
theorem dX6_lay_14 : decode cX6_lay 14 = .ok (.iaload, 1) := by decide +kernel
theorem dX6_lay_15 : decode cX6_lay 15 = .ok (.ifCond .ge 9, 3) := by decide +kernel
theorem dX6_lay_18 : decode cX6_lay 18 = .ok (.aload_n 0, 1) := by decide +kernel
theorem dX6_lay_19 : decode cX6_lay 19 = .ok (.iconst 1, 1) := by decide +kernel
theorem dX6_lay_20 : decode cX6_lay 20 = .ok (.invokevirtual 73, 3) := by decide +kernel
theorem dX6_lay_23 : decode cX6_lay 23 = .ok (.ireturn, 1) := by decide +kernel
theorem dX6_lay_24 : decode cX6_lay 24 = .ok (.iload_n 2, 1) := by decide +kernel
theorem dX6_lay_25 : decode cX6_lay 25 = .ok (.i2l, 1) := by decide +kernel
theorem dX6_lay_26 : decode cX6_lay 26 = .ok (.lconst 0, 1) := by decide +kernel
theorem dX6_lay_27 : decode cX6_lay 27 = .ok (.aload_n 0, 1) := by decide +kernel
theorem dX6_lay_28 : decode cX6_lay 28 = .ok (.getfield 7, 3) := by decide +kernel
theorem dX6_lay_31 : decode cX6_lay 31 = .ok (.iload_n 1, 1) := by decide +kernel
theorem dX6_lay_32 : decode cX6_lay 32 = .ok (.iaload, 1) := by decide +kernel
theorem dX6_lay_33 : decode cX6_lay 33 = .ok (.iconst 1, 1) := by decide +kernel
theorem dX6_lay_34 : decode cX6_lay 34 = .ok (.isub, 1) := by decide +kernel
theorem dX6_lay_35 : decode cX6_lay 35 = .ok (.i2l, 1) := by decide +kernel
theorem dX6_lay_36 : decode cX6_lay 36 = .ok (.invokestatic 63, 3) := by decide +kernel
theorem dX6_lay_39 : decode cX6_lay 39 = .ok (.ifCond .ne 9, 3) := by decide +kernel
theorem dX6_lay_42 : decode cX6_lay 42 = .ok (.aload_n 0, 1) := by decide +kernel
theorem dX6_lay_43 : decode cX6_lay 43 = .ok (.iconst 2, 1) := by decide +kernel
theorem dX6_lay_44 : decode cX6_lay 44 = .ok (.invokevirtual 73, 3) := by decide +kernel
theorem dX6_lay_47 : decode cX6_lay 47 = .ok (.ireturn, 1) := by decide +kernel
theorem dX6_lay_48 : decode cX6_lay 48 = .ok (.aload_n 0, 1) := by decide +kernel
theorem dX6_lay_49 : decode cX6_lay 49 = .ok (.getfield 13, 3) := by decide +kernel
theorem dX6_lay_52 : decode cX6_lay 52 = .ok (.bipush 40, 2) := by decide +kernel
theorem dX6_lay_54 : decode cX6_lay 54 = .ok (.iload_n 1, 1) := by decide +kernel
theorem dX6_lay_55 : decode cX6_lay 55 = .ok (.imul, 1) := by decide +kernel
theorem dX6_lay_56 : decode cX6_lay 56 = .ok (.iload_n 2, 1) := by decide +kernel
theorem dX6_lay_57 : decode cX6_lay 57 = .ok (.iadd, 1) := by decide +kernel
theorem dX6_lay_58 : decode cX6_lay 58 = .ok (.iaload, 1) := by decide +kernel
theorem dX6_lay_59 : decode cX6_lay 59 = .ok (.istore 4, 2) := by decide +kernel
theorem dX6_lay_61 : decode cX6_lay 61 = .ok (.aload_n 0, 1) := by decide +kernel
theorem dX6_lay_62 : decode cX6_lay 62 = .ok (.getfield 13, 3) := by decide +kernel
theorem dX6_lay_65 : decode cX6_lay 65 = .ok (.bipush 40, 2) := by decide +kernel
theorem dX6_lay_67 : decode cX6_lay 67 = .ok (.iload_n 1, 1) := by decide +kernel
theorem dX6_lay_68 : decode cX6_lay 68 = .ok (.imul, 1) := by decide +kernel
theorem dX6_lay_69 : decode cX6_lay 69 = .ok (.iload_n 2, 1) := by decide +kernel
theorem dX6_lay_70 : decode cX6_lay 70 = .ok (.iadd, 1) := by decide +kernel
theorem dX6_lay_71 : decode cX6_lay 71 = .ok (.iload_n 3, 1) := by decide +kernel
theorem dX6_lay_72 : decode cX6_lay 72 = .ok (.iastore, 1) := by decide +kernel
theorem dX6_lay_73 : decode cX6_lay 73 = .ok (.aload_n 0, 1) := by decide +kernel
theorem dX6_lay_74 : decode cX6_lay 74 = .ok (.iload 4, 2) := by decide +kernel
theorem dX6_lay_76 : decode cX6_lay 76 = .ok (.invokevirtual 77, 3) := by decide +kernel
theorem dX6_lay_79 : decode cX6_lay 79 = .ok (.ireturn, 1) := by decide +kernel
set_option maxRecDepth 20000 in
theorem ggX6_at_X6_isRow : GoodIn wsX6_at wsX6_isRow := goodIn_r _ [6, 7, 8, 9, 5, 10] (by decide +kernel) (by decide +kernel)
set_option maxRecDepth 20000 in
theorem gX6_at_X6_isRow : GoodIn wsX6_at (va_wsS RX6 69 yX6_isRow wsX6_isRow) := goodIn_app (goodIn_of _ (by decide +kernel)) ggX6_at_X6_isRow
set_option maxRecDepth 20000 in
theorem ggX6_at_X6_found : GoodIn wsX6_at wsX6_found := goodIn_r _ [14, 15, 16, 22, 23, 24, 25, 26, 27, 28, 29, 30, 31, 32, 33, 34, 35, 36, 37, 38, 39] (by decide +kernel) (by decide +kernel)
set_option maxRecDepth 20000 in
theorem gX6_at_X6_found : GoodIn wsX6_at (wsV RX6 73 RX6 yX6_found wsX6_found) := goodIn_app (goodIn_of _ (by decide +kernel)) ggX6_at_X6_found
set_option maxRecDepth 20000 in
theorem ggX6_at_X6_in : GoodIn wsX6_at wsX6_in := goodIn_r _ [10] (by decide +kernel) (by decide +kernel)
set_option maxRecDepth 20000 in
theorem gX6_at_X6_in : GoodIn wsX6_at (va_wsS RX6 63 yX6_in wsX6_in) := goodIn_app (goodIn_of _ (by decide +kernel)) ggX6_at_X6_in
set_option maxRecDepth 20000 in
theorem ggX6_at_X6_tell : GoodIn wsX6_at wsX6_tell := goodIn_r _ [20, 21, 22, 23, 24, 25, 26, 27, 28, 29, 30, 31, 32, 33, 34, 35, 36, 37, 38, 39] (by decide +kernel) (by decide +kernel)
set_option maxRecDepth 20000 in
theorem gX6_at_X6_tell : GoodIn wsX6_at (wsV RX6 77 RX6 yX6_tell wsX6_tell) := goodIn_app (goodIn_of _ (by decide +kernel)) ggX6_at_X6_tell
theorem dX6_at_0 : decode cX6_at 0 = .ok (.iload_n 1, 1) := by decide +kernel
theorem dX6_at_1 : decode cX6_at 1 = .ok (.invokestatic 69, 3) := by decide +kernel
theorem dX6_at_4 : decode cX6_at 4 = .ok (.ifCond .ne 5, 3) := by decide +kernel
theorem dX6_at_7 : decode cX6_at 7 = .ok (.iconst (-1), 1) := by decide +kernel
theorem dX6_at_8 : decode cX6_at 8 = .ok (.ireturn, 1) := by decide +kernel
theorem dX6_at_9 : decode cX6_at 9 = .ok (.aload_n 0, 1) := by decide +kernel
theorem dX6_at_10 : decode cX6_at 10 = .ok (.getfield 7, 3) := by decide +kernel
theorem dX6_at_13 : decode cX6_at 13 = .ok (.iload_n 1, 1) := by decide +kernel
theorem dX6_at_14 : decode cX6_at 14 = .ok (.iaload, 1) := by decide +kernel
theorem dX6_at_15 : decode cX6_at 15 = .ok (.ifCond .ge 9, 3) := by decide +kernel
theorem dX6_at_18 : decode cX6_at 18 = .ok (.aload_n 0, 1) := by decide +kernel
theorem dX6_at_19 : decode cX6_at 19 = .ok (.iconst 1, 1) := by decide +kernel
theorem dX6_at_20 : decode cX6_at 20 = .ok (.invokevirtual 73, 3) := by decide +kernel
theorem dX6_at_23 : decode cX6_at 23 = .ok (.ireturn, 1) := by decide +kernel
theorem dX6_at_24 : decode cX6_at 24 = .ok (.iload_n 2, 1) := by decide +kernel
theorem dX6_at_25 : decode cX6_at 25 = .ok (.i2l, 1) := by decide +kernel
theorem dX6_at_26 : decode cX6_at 26 = .ok (.lconst 0, 1) := by decide +kernel
theorem dX6_at_27 : decode cX6_at 27 = .ok (.aload_n 0, 1) := by decide +kernel
theorem dX6_at_28 : decode cX6_at 28 = .ok (.getfield 7, 3) := by decide +kernel
theorem dX6_at_31 : decode cX6_at 31 = .ok (.iload_n 1, 1) := by decide +kernel
theorem dX6_at_32 : decode cX6_at 32 = .ok (.iaload, 1) := by decide +kernel
theorem dX6_at_33 : decode cX6_at 33 = .ok (.iconst 1, 1) := by decide +kernel
theorem dX6_at_34 : decode cX6_at 34 = .ok (.isub, 1) := by decide +kernel
theorem dX6_at_35 : decode cX6_at 35 = .ok (.i2l, 1) := by decide +kernel
theorem dX6_at_36 : decode cX6_at 36 = .ok (.invokestatic 63, 3) := by decide +kernel
theorem dX6_at_39 : decode cX6_at 39 = .ok (.ifCond .eq 21, 3) := by decide +kernel
theorem dX6_at_42 : decode cX6_at 42 = .ok (.aload_n 0, 1) := by decide +kernel
theorem dX6_at_43 : decode cX6_at 43 = .ok (.aload_n 0, 1) := by decide +kernel
theorem dX6_at_44 : decode cX6_at 44 = .ok (.getfield 13, 3) := by decide +kernel
theorem dX6_at_47 : decode cX6_at 47 = .ok (.bipush 40, 2) := by decide +kernel
theorem dX6_at_49 : decode cX6_at 49 = .ok (.iload_n 1, 1) := by decide +kernel
theorem dX6_at_50 : decode cX6_at 50 = .ok (.imul, 1) := by decide +kernel
theorem dX6_at_51 : decode cX6_at 51 = .ok (.iload_n 2, 1) := by decide +kernel
theorem dX6_at_52 : decode cX6_at 52 = .ok (.iadd, 1) := by decide +kernel
theorem dX6_at_53 : decode cX6_at 53 = .ok (.iaload, 1) := by decide +kernel
theorem dX6_at_54 : decode cX6_at 54 = .ok (.invokevirtual 77, 3) := by decide +kernel
theorem dX6_at_57 : decode cX6_at 57 = .ok (.goto 8, 3) := by decide +kernel
theorem dX6_at_60 : decode cX6_at 60 = .ok (.aload_n 0, 1) := by decide +kernel
theorem dX6_at_61 : decode cX6_at 61 = .ok (.iconst 2, 1) := by decide +kernel
theorem dX6_at_62 : decode cX6_at 62 = .ok (.invokevirtual 73, 3) := by decide +kernel
theorem dX6_at_65 : decode cX6_at 65 = .ok (.ireturn, 1) := by decide +kernel
set_option maxRecDepth 20000 in
theorem ggX6_tear_X6_isRow : GoodIn wsX6_tear wsX6_isRow := goodIn_r _ [5, 6, 7, 8, 4, 9] (by decide +kernel) (by decide +kernel)
set_option maxRecDepth 20000 in
theorem gX6_tear_X6_isRow : GoodIn wsX6_tear (va_wsS RX6 69 yX6_isRow wsX6_isRow) := goodIn_app (goodIn_of _ (by decide +kernel)) ggX6_tear_X6_isRow
set_option maxRecDepth 20000 in
theorem ggX6_tear_X6_found : GoodIn wsX6_tear wsX6_found := goodIn_r _ [13, 14, 15, 16, 17, 18, 19, 20, 21, 22, 23, 24, 25, 26, 27, 28, 29, 30, 31, 32, 33] (by decide +kernel) (by decide +kernel)
set_option maxRecDepth 20000 in
theorem gX6_tear_X6_found : GoodIn wsX6_tear (wsV RX6 73 RX6 yX6_found wsX6_found) := goodIn_app (goodIn_of _ (by decide +kernel)) ggX6_tear_X6_found
theorem dX6_tear_0 : decode cX6_tear 0 = .ok (.iload_n 1, 1) := by decide +kernel
theorem dX6_tear_1 : decode cX6_tear 1 = .ok (.invokestatic 69, 3) := by decide +kernel
theorem dX6_tear_4 : decode cX6_tear 4 = .ok (.ifCond .ne 5, 3) := by decide +kernel
theorem dX6_tear_7 : decode cX6_tear 7 = .ok (.iconst (-1), 1) := by decide +kernel
theorem dX6_tear_8 : decode cX6_tear 8 = .ok (.ireturn, 1) := by decide +kernel
theorem dX6_tear_9 : decode cX6_tear 9 = .ok (.aload_n 0, 1) := by decide +kernel
theorem dX6_tear_10 : decode cX6_tear 10 = .ok (.getfield 7, 3) := by decide +kernel
theorem dX6_tear_13 : decode cX6_tear 13 = .ok (.iload_n 1, 1) := by decide +kernel
theorem dX6_tear_14 : decode cX6_tear 14 = .ok (.iaload, 1) := by decide +kernel
theorem dX6_tear_15 : decode cX6_tear 15 = .ok (.ifCond .ge 9, 3) := by decide +kernel
theorem dX6_tear_18 : decode cX6_tear 18 = .ok (.aload_n 0, 1) := by decide +kernel
theorem dX6_tear_19 : decode cX6_tear 19 = .ok (.iconst 1, 1) := by decide +kernel
theorem dX6_tear_20 : decode cX6_tear 20 = .ok (.invokevirtual 73, 3) := by decide +kernel
theorem dX6_tear_23 : decode cX6_tear 23 = .ok (.ireturn, 1) := by decide +kernel
theorem dX6_tear_24 : decode cX6_tear 24 = .ok (.aload_n 0, 1) := by decide +kernel
theorem dX6_tear_25 : decode cX6_tear 25 = .ok (.getfield 7, 3) := by decide +kernel
theorem dX6_tear_28 : decode cX6_tear 28 = .ok (.iload_n 1, 1) := by decide +kernel
theorem dX6_tear_29 : decode cX6_tear 29 = .ok (.iconst (-1), 1) := by decide +kernel
theorem dX6_tear_30 : decode cX6_tear 30 = .ok (.iastore, 1) := by decide +kernel
theorem dX6_tear_31 : decode cX6_tear 31 = .ok (.iconst 1, 1) := by decide +kernel
theorem dX6_tear_32 : decode cX6_tear 32 = .ok (.ireturn, 1) := by decide +kernel
set_option maxRecDepth 20000 in
theorem ggX6_copy_X6_isRow : GoodIn wsX6_copy wsX6_isRow := goodIn_r _ [6, 7, 8, 9, 5, 10] (by decide +kernel) (by decide +kernel)
set_option maxRecDepth 20000 in
theorem gX6_copy_X6_isRow : GoodIn wsX6_copy (va_wsS RX6 69 yX6_isRow wsX6_isRow) := goodIn_app (goodIn_of _ (by decide +kernel)) ggX6_copy_X6_isRow
set_option maxRecDepth 20000 in
theorem ggX6_copy_X6_found : GoodIn wsX6_copy wsX6_found := goodIn_r _ [14, 15, 16, 17, 18, 19, 20, 21, 22, 23, 24, 25, 26, 27, 28, 29, 30, 31, 32, 33, 34] (by decide +kernel) (by decide +kernel)
set_option maxRecDepth 20000 in
theorem gX6_copy_X6_found : GoodIn wsX6_copy (wsV RX6 73 RX6 yX6_found wsX6_found) := goodIn_app (goodIn_of _ (by decide +kernel)) ggX6_copy_X6_found
theorem dX6_copy_0 : decode cX6_copy 0 = .ok (.iload_n 1, 1) := by decide +kernel
theorem dX6_copy_1 : decode cX6_copy 1 = .ok (.invokestatic 69, 3) := by decide +kernel
theorem dX6_copy_4 : decode cX6_copy 4 = .ok (.ifCond .eq 10, 3) := by decide +kernel
theorem dX6_copy_7 : decode cX6_copy 7 = .ok (.iload_n 3, 1) := by decide +kernel
theorem dX6_copy_8 : decode cX6_copy 8 = .ok (.invokestatic 69, 3) := by decide +kernel
theorem dX6_copy_11 : decode cX6_copy 11 = .ok (.ifCond .ne 5, 3) := by decide +kernel
theorem dX6_copy_14 : decode cX6_copy 14 = .ok (.iconst (-1), 1) := by decide +kernel
theorem dX6_copy_15 : decode cX6_copy 15 = .ok (.ireturn, 1) := by decide +kernel
theorem dX6_copy_16 : decode cX6_copy 16 = .ok (.iload 5, 2) := by decide +kernel
theorem dX6_copy_18 : decode cX6_copy 18 = .ok (.ifCond .ge 9, 3) := by decide +kernel
theorem dX6_copy_21 : decode cX6_copy 21 = .ok (.aload_n 0, 1) := by decide +kernel
theorem dX6_copy_22 : decode cX6_copy 22 = .ok (.iconst 5, 1) := by decide +kernel
theorem dX6_copy_23 : decode cX6_copy 23 = .ok (.invokevirtual 73, 3) := by decide +kernel
theorem dX6_copy_26 : decode cX6_copy 26 = .ok (.ireturn, 1) := by decide +kernel
theorem dX6_copy_27 : decode cX6_copy 27 = .ok (.aload_n 0, 1) := by decide +kernel
theorem dX6_copy_28 : decode cX6_copy 28 = .ok (.getfield 7, 3) := by decide +kernel
theorem dX6_copy_31 : decode cX6_copy 31 = .ok (.iload_n 1, 1) := by decide +kernel
theorem dX6_copy_32 : decode cX6_copy 32 = .ok (.iaload, 1) := by decide +kernel
theorem dX6_copy_33 : decode cX6_copy 33 = .ok (.ifCond .lt 12, 3) := by decide +kernel
theorem dX6_copy_36 : decode cX6_copy 36 = .ok (.aload_n 0, 1) := by decide +kernel
theorem dX6_copy_37 : decode cX6_copy 37 = .ok (.getfield 7, 3) := by decide +kernel
theorem dX6_copy_40 : decode cX6_copy 40 = .ok (.iload_n 3, 1) := by decide +kernel
theorem dX6_copy_41 : decode cX6_copy 41 = .ok (.iaload, 1) := by decide +kernel
theorem dX6_copy_42 : decode cX6_copy 42 = .ok (.ifCond .ge 9, 3) := by decide +kernel
theorem dX6_copy_45 : decode cX6_copy 45 = .ok (.aload_n 0, 1) := by decide +kernel
theorem dX6_copy_46 : decode cX6_copy 46 = .ok (.iconst 1, 1) := by decide +kernel
theorem dX6_copy_47 : decode cX6_copy 47 = .ok (.invokevirtual 73, 3) := by decide +kernel
theorem dX6_copy_50 : decode cX6_copy 50 = .ok (.ireturn, 1) := by decide +kernel
theorem dX6_copy_51 : decode cX6_copy 51 = .ok (.iload_n 2, 1) := by decide +kernel
theorem dX6_copy_52 : decode cX6_copy 52 = .ok (.ifCond .lt 43, 3) := by decide +kernel
theorem dX6_copy_55 : decode cX6_copy 55 = .ok (.iload 4, 2) := by decide +kernel
theorem dX6_copy_57 : decode cX6_copy 57 = .ok (.ifCond .lt 38, 3) := by decide +kernel
theorem dX6_copy_60 : decode cX6_copy 60 = .ok (.iload_n 2, 1) := by decide +kernel
theorem dX6_copy_61 : decode cX6_copy 61 = .ok (.i2l, 1) := by decide +kernel
theorem dX6_copy_62 : decode cX6_copy 62 = .ok (.iload 5, 2) := by decide +kernel
theorem dX6_copy_64 : decode cX6_copy 64 = .ok (.i2l, 1) := by decide +kernel
theorem dX6_copy_65 : decode cX6_copy 65 = .ok (.ladd, 1) := by decide +kernel
theorem dX6_copy_66 : decode cX6_copy 66 = .ok (.aload_n 0, 1) := by decide +kernel
theorem dX6_copy_67 : decode cX6_copy 67 = .ok (.getfield 7, 3) := by decide +kernel
theorem dX6_copy_70 : decode cX6_copy 70 = .ok (.iload_n 1, 1) := by decide +kernel
theorem dX6_copy_71 : decode cX6_copy 71 = .ok (.iaload, 1) := by decide +kernel
theorem dX6_copy_72 : decode cX6_copy 72 = .ok (.i2l, 1) := by decide +kernel
theorem dX6_copy_73 : decode cX6_copy 73 = .ok (.lcmp, 1) := by decide +kernel
theorem dX6_copy_74 : decode cX6_copy 74 = .ok (.ifCond .gt 21, 3) := by decide +kernel
theorem dX6_copy_77 : decode cX6_copy 77 = .ok (.iload 4, 2) := by decide +kernel
theorem dX6_copy_79 : decode cX6_copy 79 = .ok (.i2l, 1) := by decide +kernel
theorem dX6_copy_80 : decode cX6_copy 80 = .ok (.iload 5, 2) := by decide +kernel
theorem dX6_copy_82 : decode cX6_copy 82 = .ok (.i2l, 1) := by decide +kernel
theorem dX6_copy_83 : decode cX6_copy 83 = .ok (.ladd, 1) := by decide +kernel
theorem dX6_copy_84 : decode cX6_copy 84 = .ok (.aload_n 0, 1) := by decide +kernel
theorem dX6_copy_85 : decode cX6_copy 85 = .ok (.getfield 7, 3) := by decide +kernel
theorem dX6_copy_88 : decode cX6_copy 88 = .ok (.iload_n 3, 1) := by decide +kernel
theorem dX6_copy_89 : decode cX6_copy 89 = .ok (.iaload, 1) := by decide +kernel
theorem dX6_copy_90 : decode cX6_copy 90 = .ok (.i2l, 1) := by decide +kernel
theorem dX6_copy_91 : decode cX6_copy 91 = .ok (.lcmp, 1) := by decide +kernel
theorem dX6_copy_92 : decode cX6_copy 92 = .ok (.ifCond .le 9, 3) := by decide +kernel
theorem dX6_copy_95 : decode cX6_copy 95 = .ok (.aload_n 0, 1) := by decide +kernel
theorem dX6_copy_96 : decode cX6_copy 96 = .ok (.iconst 2, 1) := by decide +kernel
theorem dX6_copy_97 : decode cX6_copy 97 = .ok (.invokevirtual 73, 3) := by decide +kernel
theorem dX6_copy_100 : decode cX6_copy 100 = .ok (.ireturn, 1) := by decide +kernel
theorem dX6_copy_101 : decode cX6_copy 101 = .ok (.iconst 0, 1) := by decide +kernel
theorem dX6_copy_102 : decode cX6_copy 102 = .ok (.istore 6, 2) := by decide +kernel
theorem dX6_copy_104 : decode cX6_copy 104 = .ok (.iload 6, 2) := by decide +kernel
theorem dX6_copy_106 : decode cX6_copy 106 = .ok (.iload 5, 2) := by decide +kernel
theorem dX6_copy_108 : decode cX6_copy 108 = .ok (.if_icmp .ge 58, 3) := by decide +kernel
theorem dX6_copy_111 : decode cX6_copy 111 = .ok (.iload 4, 2) := by decide +kernel
theorem dX6_copy_113 : decode cX6_copy 113 = .ok (.iload_n 2, 1) := by decide +kernel
theorem dX6_copy_114 : decode cX6_copy 114 = .ok (.if_icmp .le 13, 3) := by decide +kernel
theorem dX6_copy_117 : decode cX6_copy 117 = .ok (.iload 5, 2) := by decide +kernel
theorem dX6_copy_119 : decode cX6_copy 119 = .ok (.iconst 1, 1) := by decide +kernel
theorem dX6_copy_120 : decode cX6_copy 120 = .ok (.isub, 1) := by decide +kernel
theorem dX6_copy_121 : decode cX6_copy 121 = .ok (.iload 6, 2) := by decide +kernel
theorem dX6_copy_123 : decode cX6_copy 123 = .ok (.isub, 1) := by decide +kernel
theorem dX6_copy_124 : decode cX6_copy 124 = .ok (.goto 5, 3) := by decide +kernel
theorem dX6_copy_127 : decode cX6_copy 127 = .ok (.iload 6, 2) := by decide +kernel
theorem dX6_copy_129 : decode cX6_copy 129 = .ok (.istore 7, 2) := by decide +kernel
theorem dX6_copy_131 : decode cX6_copy 131 = .ok (.aload_n 0, 1) := by decide +kernel
theorem dX6_copy_132 : decode cX6_copy 132 = .ok (.getfield 13, 3) := by decide +kernel
theorem dX6_copy_135 : decode cX6_copy 135 = .ok (.bipush 40, 2) := by decide +kernel
theorem dX6_copy_137 : decode cX6_copy 137 = .ok (.iload_n 3, 1) := by decide +kernel
theorem dX6_copy_138 : decode cX6_copy 138 = .ok (.imul, 1) := by decide +kernel
theorem dX6_copy_139 : decode cX6_copy 139 = .ok (.iload 4, 2) := by decide +kernel
theorem dX6_copy_141 : decode cX6_copy 141 = .ok (.iadd, 1) := by decide +kernel
theorem dX6_copy_142 : decode cX6_copy 142 = .ok (.iload 7, 2) := by decide +kernel
theorem dX6_copy_144 : decode cX6_copy 144 = .ok (.iadd, 1) := by decide +kernel
theorem dX6_copy_145 : decode cX6_copy 145 = .ok (.aload_n 0, 1) := by decide +kernel
theorem dX6_copy_146 : decode cX6_copy 146 = .ok (.getfield 13, 3) := by decide +kernel
theorem dX6_copy_149 : decode cX6_copy 149 = .ok (.bipush 40, 2) := by decide +kernel
theorem dX6_copy_151 : decode cX6_copy 151 = .ok (.iload_n 1, 1) := by decide +kernel
theorem dX6_copy_152 : decode cX6_copy 152 = .ok (.imul, 1) := by decide +kernel
theorem dX6_copy_153 : decode cX6_copy 153 = .ok (.iload_n 2, 1) := by decide +kernel
theorem dX6_copy_154 : decode cX6_copy 154 = .ok (.iadd, 1) := by decide +kernel
theorem dX6_copy_155 : decode cX6_copy 155 = .ok (.iload 7, 2) := by decide +kernel
theorem dX6_copy_157 : decode cX6_copy 157 = .ok (.iadd, 1) := by decide +kernel
theorem dX6_copy_158 : decode cX6_copy 158 = .ok (.iaload, 1) := by decide +kernel
theorem dX6_copy_159 : decode cX6_copy 159 = .ok (.iastore, 1) := by decide +kernel
theorem dX6_copy_160 : decode cX6_copy 160 = .ok (.iinc 6 1, 3) := by decide +kernel
theorem dX6_copy_163 : decode cX6_copy 163 = .ok (.goto (-59), 3) := by decide +kernel
theorem dX6_copy_166 : decode cX6_copy 166 = .ok (.iconst 1, 1) := by decide +kernel
theorem dX6_copy_167 : decode cX6_copy 167 = .ok (.ireturn, 1) := by decide +kernel
set_option maxRecDepth 20000 in
theorem ggX6_mean_X6_isRow : GoodIn wsX6_mean wsX6_isRow := goodIn_r _ [6, 7, 8, 9, 5, 10] (by decide +kernel) (by decide +kernel)
set_option maxRecDepth 20000 in
theorem gX6_mean_X6_isRow : GoodIn wsX6_mean (va_wsS RX6 69 yX6_isRow wsX6_isRow) := goodIn_app (goodIn_of _ (by decide +kernel)) ggX6_mean_X6_isRow
set_option maxRecDepth 20000 in
theorem ggX6_mean_X6_found : GoodIn wsX6_mean wsX6_found := goodIn_r _ [14, 15, 16, 22, 23, 24, 25, 26, 27, 28, 29, 30, 31, 32, 33, 34, 35, 36, 37, 38, 39] (by decide +kernel) (by decide +kernel)
set_option maxRecDepth 20000 in
theorem gX6_mean_X6_found : GoodIn wsX6_mean (wsV RX6 73 RX6 yX6_found wsX6_found) := goodIn_app (goodIn_of _ (by decide +kernel)) ggX6_mean_X6_found
set_option maxRecDepth 20000 in
theorem ggX6_mean_X6_tell : GoodIn wsX6_mean wsX6_tell := goodIn_r _ [20, 21, 22, 23, 24, 25, 26, 27, 28, 29, 30, 31, 32, 33, 34, 35, 36, 37, 38, 39] (by decide +kernel) (by decide +kernel)
set_option maxRecDepth 20000 in
theorem gX6_mean_X6_tell : GoodIn wsX6_mean (wsV RX6 77 RX6 yX6_tell wsX6_tell) := goodIn_app (goodIn_of _ (by decide +kernel)) ggX6_mean_X6_tell
theorem dX6_mean_0 : decode cX6_mean 0 = .ok (.iload_n 1, 1) := by decide +kernel
theorem dX6_mean_1 : decode cX6_mean 1 = .ok (.invokestatic 69, 3) := by decide +kernel
theorem dX6_mean_4 : decode cX6_mean 4 = .ok (.ifCond .ne 5, 3) := by decide +kernel
theorem dX6_mean_7 : decode cX6_mean 7 = .ok (.iconst (-1), 1) := by decide +kernel
theorem dX6_mean_8 : decode cX6_mean 8 = .ok (.ireturn, 1) := by decide +kernel
theorem dX6_mean_9 : decode cX6_mean 9 = .ok (.aload_n 0, 1) := by decide +kernel
theorem dX6_mean_10 : decode cX6_mean 10 = .ok (.getfield 7, 3) := by decide +kernel
theorem dX6_mean_13 : decode cX6_mean 13 = .ok (.iload_n 1, 1) := by decide +kernel
theorem dX6_mean_14 : decode cX6_mean 14 = .ok (.iaload, 1) := by decide +kernel
theorem dX6_mean_15 : decode cX6_mean 15 = .ok (.ifCond .ge 9, 3) := by decide +kernel
theorem dX6_mean_18 : decode cX6_mean 18 = .ok (.aload_n 0, 1) := by decide +kernel
theorem dX6_mean_19 : decode cX6_mean 19 = .ok (.iconst 1, 1) := by decide +kernel
theorem dX6_mean_20 : decode cX6_mean 20 = .ok (.invokevirtual 73, 3) := by decide +kernel
theorem dX6_mean_23 : decode cX6_mean 23 = .ok (.ireturn, 1) := by decide +kernel
theorem dX6_mean_24 : decode cX6_mean 24 = .ok (.aload_n 0, 1) := by decide +kernel
theorem dX6_mean_25 : decode cX6_mean 25 = .ok (.getfield 7, 3) := by decide +kernel
theorem dX6_mean_28 : decode cX6_mean 28 = .ok (.iload_n 1, 1) := by decide +kernel
theorem dX6_mean_29 : decode cX6_mean 29 = .ok (.iaload, 1) := by decide +kernel
theorem dX6_mean_30 : decode cX6_mean 30 = .ok (.ifCond .ne 9, 3) := by decide +kernel
theorem dX6_mean_33 : decode cX6_mean 33 = .ok (.aload_n 0, 1) := by decide +kernel
theorem dX6_mean_34 : decode cX6_mean 34 = .ok (.iconst 4, 1) := by decide +kernel
theorem dX6_mean_35 : decode cX6_mean 35 = .ok (.invokevirtual 73, 3) := by decide +kernel
theorem dX6_mean_38 : decode cX6_mean 38 = .ok (.ireturn, 1) := by decide +kernel
theorem dX6_mean_39 : decode cX6_mean 39 = .ok (.lconst 0, 1) := by decide +kernel
theorem dX6_mean_40 : decode cX6_mean 40 = .ok (.lstore_n 2, 1) := by decide +kernel
theorem dX6_mean_41 : decode cX6_mean 41 = .ok (.iconst 0, 1) := by decide +kernel
theorem dX6_mean_42 : decode cX6_mean 42 = .ok (.istore 4, 2) := by decide +kernel
theorem dX6_mean_44 : decode cX6_mean 44 = .ok (.iload 4, 2) := by decide +kernel
theorem dX6_mean_46 : decode cX6_mean 46 = .ok (.aload_n 0, 1) := by decide +kernel
theorem dX6_mean_47 : decode cX6_mean 47 = .ok (.getfield 7, 3) := by decide +kernel
theorem dX6_mean_50 : decode cX6_mean 50 = .ok (.iload_n 1, 1) := by decide +kernel
theorem dX6_mean_51 : decode cX6_mean 51 = .ok (.iaload, 1) := by decide +kernel
theorem dX6_mean_52 : decode cX6_mean 52 = .ok (.if_icmp .ge 25, 3) := by decide +kernel
theorem dX6_mean_55 : decode cX6_mean 55 = .ok (.lload_n 2, 1) := by decide +kernel
theorem dX6_mean_56 : decode cX6_mean 56 = .ok (.aload_n 0, 1) := by decide +kernel
theorem dX6_mean_57 : decode cX6_mean 57 = .ok (.getfield 13, 3) := by decide +kernel
theorem dX6_mean_60 : decode cX6_mean 60 = .ok (.bipush 40, 2) := by decide +kernel
theorem dX6_mean_62 : decode cX6_mean 62 = .ok (.iload_n 1, 1) := by decide +kernel
theorem dX6_mean_63 : decode cX6_mean 63 = .ok (.imul, 1) := by decide +kernel
theorem dX6_mean_64 : decode cX6_mean 64 = .ok (.iload 4, 2) := by decide +kernel
theorem dX6_mean_66 : decode cX6_mean 66 = .ok (.iadd, 1) := by decide +kernel
theorem dX6_mean_67 : decode cX6_mean 67 = .ok (.iaload, 1) := by decide +kernel
theorem dX6_mean_68 : decode cX6_mean 68 = .ok (.i2l, 1) := by decide +kernel
theorem dX6_mean_69 : decode cX6_mean 69 = .ok (.ladd, 1) := by decide +kernel
theorem dX6_mean_70 : decode cX6_mean 70 = .ok (.lstore_n 2, 1) := by decide +kernel
theorem dX6_mean_71 : decode cX6_mean 71 = .ok (.iinc 4 1, 3) := by decide +kernel
theorem dX6_mean_74 : decode cX6_mean 74 = .ok (.goto (-30), 3) := by decide +kernel
theorem dX6_mean_77 : decode cX6_mean 77 = .ok (.aload_n 0, 1) := by decide +kernel
theorem dX6_mean_78 : decode cX6_mean 78 = .ok (.lload_n 2, 1) := by decide +kernel
theorem dX6_mean_79 : decode cX6_mean 79 = .ok (.aload_n 0, 1) := by decide +kernel
theorem dX6_mean_80 : decode cX6_mean 80 = .ok (.getfield 7, 3) := by decide +kernel
theorem dX6_mean_83 : decode cX6_mean 83 = .ok (.iload_n 1, 1) := by decide +kernel
theorem dX6_mean_84 : decode cX6_mean 84 = .ok (.iaload, 1) := by decide +kernel
theorem dX6_mean_85 : decode cX6_mean 85 = .ok (.i2l, 1) := by decide +kernel
theorem dX6_mean_86 : decode cX6_mean 86 = .ok (.ldiv, 1) := by decide +kernel
theorem dX6_mean_87 : decode cX6_mean 87 = .ok (.l2i, 1) := by decide +kernel
theorem dX6_mean_88 : decode cX6_mean 88 = .ok (.invokevirtual 77, 3) := by decide +kernel
theorem dX6_mean_91 : decode cX6_mean 91 = .ok (.ireturn, 1) := by decide +kernel
set_option maxRecDepth 20000 in
theorem ggX6_text_X6_isText : GoodIn wsX6_text wsX6_isText := goodIn_r _ [6, 7, 8, 9, 5, 10] (by decide +kernel) (by decide +kernel)
set_option maxRecDepth 20000 in
theorem gX6_text_X6_isText : GoodIn wsX6_text (va_wsS RX6 80 yX6_isText wsX6_isText) := goodIn_app (goodIn_of _ (by decide +kernel)) ggX6_text_X6_isText
set_option maxRecDepth 20000 in
theorem ggX6_text_X6_found : GoodIn wsX6_text wsX6_found := goodIn_r _ [14, 15, 16, 17, 18, 19, 20, 21, 22, 23, 24, 25, 26, 27, 28, 29, 30, 31, 32, 33, 34] (by decide +kernel) (by decide +kernel)
set_option maxRecDepth 20000 in
theorem gX6_text_X6_found : GoodIn wsX6_text (wsV RX6 73 RX6 yX6_found wsX6_found) := goodIn_app (goodIn_of _ (by decide +kernel)) ggX6_text_X6_found
theorem dX6_text_0 : decode cX6_text 0 = .ok (.iload_n 1, 1) := by decide +kernel
theorem dX6_text_1 : decode cX6_text 1 = .ok (.invokestatic 80, 3) := by decide +kernel
theorem dX6_text_4 : decode cX6_text 4 = .ok (.ifCond .eq 9, 3) := by decide +kernel
theorem dX6_text_7 : decode cX6_text 7 = .ok (.iload_n 2, 1) := by decide +kernel
theorem dX6_text_8 : decode cX6_text 8 = .ok (.bipush 60, 2) := by decide +kernel
theorem dX6_text_10 : decode cX6_text 10 = .ok (.if_icmp .le 5, 3) := by decide +kernel
theorem dX6_text_13 : decode cX6_text 13 = .ok (.iconst (-1), 1) := by decide +kernel
theorem dX6_text_14 : decode cX6_text 14 = .ok (.ireturn, 1) := by decide +kernel
theorem dX6_text_15 : decode cX6_text 15 = .ok (.iload_n 2, 1) := by decide +kernel
theorem dX6_text_16 : decode cX6_text 16 = .ok (.ifCond .ge 9, 3) := by decide +kernel
theorem dX6_text_19 : decode cX6_text 19 = .ok (.aload_n 0, 1) := by decide +kernel
theorem dX6_text_20 : decode cX6_text 20 = .ok (.iconst 5, 1) := by decide +kernel
theorem dX6_text_21 : decode cX6_text 21 = .ok (.invokevirtual 73, 3) := by decide +kernel
theorem dX6_text_24 : decode cX6_text 24 = .ok (.ireturn, 1) := by decide +kernel
theorem dX6_text_25 : decode cX6_text 25 = .ok (.aload_n 0, 1) := by decide +kernel
theorem dX6_text_26 : decode cX6_text 26 = .ok (.getfield 16, 3) := by decide +kernel
theorem dX6_text_29 : decode cX6_text 29 = .ok (.iload_n 1, 1) := by decide +kernel
theorem dX6_text_30 : decode cX6_text 30 = .ok (.iload_n 2, 1) := by decide +kernel
theorem dX6_text_31 : decode cX6_text 31 = .ok (.iastore, 1) := by decide +kernel
theorem dX6_text_32 : decode cX6_text 32 = .ok (.iconst 0, 1) := by decide +kernel
theorem dX6_text_33 : decode cX6_text 33 = .ok (.istore_n 3, 1) := by decide +kernel
theorem dX6_text_34 : decode cX6_text 34 = .ok (.iload_n 3, 1) := by decide +kernel
theorem dX6_text_35 : decode cX6_text 35 = .ok (.bipush 60, 2) := by decide +kernel
theorem dX6_text_37 : decode cX6_text 37 = .ok (.if_icmp .ge 22, 3) := by decide +kernel
theorem dX6_text_40 : decode cX6_text 40 = .ok (.aload_n 0, 1) := by decide +kernel
theorem dX6_text_41 : decode cX6_text 41 = .ok (.getfield 19, 3) := by decide +kernel
theorem dX6_text_44 : decode cX6_text 44 = .ok (.bipush 60, 2) := by decide +kernel
theorem dX6_text_46 : decode cX6_text 46 = .ok (.iload_n 1, 1) := by decide +kernel
theorem dX6_text_47 : decode cX6_text 47 = .ok (.imul, 1) := by decide +kernel
theorem dX6_text_48 : decode cX6_text 48 = .ok (.iload_n 3, 1) := by decide +kernel
theorem dX6_text_49 : decode cX6_text 49 = .ok (.iadd, 1) := by decide +kernel
theorem dX6_text_50 : decode cX6_text 50 = .ok (.bipush 32, 2) := by decide +kernel
theorem dX6_text_52 : decode cX6_text 52 = .ok (.iastore, 1) := by decide +kernel
theorem dX6_text_53 : decode cX6_text 53 = .ok (.iinc 3 1, 3) := by decide +kernel
theorem dX6_text_56 : decode cX6_text 56 = .ok (.goto (-22), 3) := by decide +kernel
theorem dX6_text_59 : decode cX6_text 59 = .ok (.iload_n 2, 1) := by decide +kernel
theorem dX6_text_60 : decode cX6_text 60 = .ok (.ireturn, 1) := by decide +kernel
set_option maxRecDepth 20000 in
theorem ggX6_put_X6_isText : GoodIn wsX6_put wsX6_isText := goodIn_r _ [6, 7, 8, 9, 5, 10] (by decide +kernel) (by decide +kernel)
set_option maxRecDepth 20000 in
theorem gX6_put_X6_isText : GoodIn wsX6_put (va_wsS RX6 80 yX6_isText wsX6_isText) := goodIn_app (goodIn_of _ (by decide +kernel)) ggX6_put_X6_isText
set_option maxRecDepth 20000 in
theorem ggX6_put_X6_found : GoodIn wsX6_put wsX6_found := goodIn_r _ [14, 15, 16, 17, 18, 19, 20, 21, 22, 23, 24, 25, 26, 27, 28, 29, 30, 31, 32, 33, 34] (by decide +kernel) (by decide +kernel)
set_option maxRecDepth 20000 in
theorem gX6_put_X6_found : GoodIn wsX6_put (wsV RX6 73 RX6 yX6_found wsX6_found) := goodIn_app (goodIn_of _ (by decide +kernel)) ggX6_put_X6_found
set_option maxRecDepth 20000 in
theorem ggX6_put_X6_in : GoodIn wsX6_put wsX6_in := goodIn_r _ [10] (by decide +kernel) (by decide +kernel)
set_option maxRecDepth 20000 in
theorem gX6_put_X6_in : GoodIn wsX6_put (va_wsS RX6 63 yX6_in wsX6_in) := goodIn_app (goodIn_of _ (by decide +kernel)) ggX6_put_X6_in
theorem dX6_put_0 : decode cX6_put 0 = .ok (.iload_n 1, 1) := by decide +kernel
theorem dX6_put_1 : decode cX6_put 1 = .ok (.invokestatic 80, 3) := by decide +kernel
theorem dX6_put_4 : decode cX6_put 4 = .ok (.ifCond .ne 5, 3) := by decide +kernel
theorem dX6_put_7 : decode cX6_put 7 = .ok (.iconst (-1), 1) := by decide +kernel
theorem dX6_put_8 : decode cX6_put 8 = .ok (.ireturn, 1) := by decide +kernel
theorem dX6_put_9 : decode cX6_put 9 = .ok (.aload_n 0, 1) := by decide +kernel
theorem dX6_put_10 : decode cX6_put 10 = .ok (.getfield 16, 3) := by decide +kernel
theorem dX6_put_13 : decode cX6_put 13 = .ok (.iload_n 1, 1) := by decide +kernel
theorem dX6_put_14 : decode cX6_put 14 = .ok (.iaload, 1) := by decide +kernel
theorem dX6_put_15 : decode cX6_put 15 = .ok (.ifCond .ge 9, 3) := by decide +kernel
theorem dX6_put_18 : decode cX6_put 18 = .ok (.aload_n 0, 1) := by decide +kernel
theorem dX6_put_19 : decode cX6_put 19 = .ok (.iconst 1, 1) := by decide +kernel
theorem dX6_put_20 : decode cX6_put 20 = .ok (.invokevirtual 73, 3) := by decide +kernel
theorem dX6_put_23 : decode cX6_put 23 = .ok (.ireturn, 1) := by decide +kernel
theorem dX6_put_24 : decode cX6_put 24 = .ok (.iload_n 2, 1) := by decide +kernel
theorem dX6_put_25 : decode cX6_put 25 = .ok (.i2l, 1) := by decide +kernel
theorem dX6_put_26 : decode cX6_put 26 = .ok (.lconst 0, 1) := by decide +kernel
theorem dX6_put_27 : decode cX6_put 27 = .ok (.aload_n 0, 1) := by decide +kernel
theorem dX6_put_28 : decode cX6_put 28 = .ok (.getfield 16, 3) := by decide +kernel
theorem dX6_put_31 : decode cX6_put 31 = .ok (.iload_n 1, 1) := by decide +kernel
theorem dX6_put_32 : decode cX6_put 32 = .ok (.iaload, 1) := by decide +kernel
theorem dX6_put_33 : decode cX6_put 33 = .ok (.iconst 1, 1) := by decide +kernel
theorem dX6_put_34 : decode cX6_put 34 = .ok (.isub, 1) := by decide +kernel
theorem dX6_put_35 : decode cX6_put 35 = .ok (.i2l, 1) := by decide +kernel
theorem dX6_put_36 : decode cX6_put 36 = .ok (.invokestatic 63, 3) := by decide +kernel
theorem dX6_put_39 : decode cX6_put 39 = .ok (.ifCond .ne 9, 3) := by decide +kernel
theorem dX6_put_42 : decode cX6_put 42 = .ok (.aload_n 0, 1) := by decide +kernel
theorem dX6_put_43 : decode cX6_put 43 = .ok (.iconst 2, 1) := by decide +kernel
theorem dX6_put_44 : decode cX6_put 44 = .ok (.invokevirtual 73, 3) := by decide +kernel
theorem dX6_put_47 : decode cX6_put 47 = .ok (.ireturn, 1) := by decide +kernel
theorem dX6_put_48 : decode cX6_put 48 = .ok (.aload_n 0, 1) := by decide +kernel
theorem dX6_put_49 : decode cX6_put 49 = .ok (.getfield 19, 3) := by decide +kernel
theorem dX6_put_52 : decode cX6_put 52 = .ok (.bipush 60, 2) := by decide +kernel
theorem dX6_put_54 : decode cX6_put 54 = .ok (.iload_n 1, 1) := by decide +kernel
theorem dX6_put_55 : decode cX6_put 55 = .ok (.imul, 1) := by decide +kernel
theorem dX6_put_56 : decode cX6_put 56 = .ok (.iload_n 2, 1) := by decide +kernel
theorem dX6_put_57 : decode cX6_put 57 = .ok (.iadd, 1) := by decide +kernel
theorem dX6_put_58 : decode cX6_put 58 = .ok (.iaload, 1) := by decide +kernel
theorem dX6_put_59 : decode cX6_put 59 = .ok (.istore 4, 2) := by decide +kernel
theorem dX6_put_61 : decode cX6_put 61 = .ok (.aload_n 0, 1) := by decide +kernel
theorem dX6_put_62 : decode cX6_put 62 = .ok (.getfield 19, 3) := by decide +kernel
theorem dX6_put_65 : decode cX6_put 65 = .ok (.bipush 60, 2) := by decide +kernel
theorem dX6_put_67 : decode cX6_put 67 = .ok (.iload_n 1, 1) := by decide +kernel
theorem dX6_put_68 : decode cX6_put 68 = .ok (.imul, 1) := by decide +kernel
theorem dX6_put_69 : decode cX6_put 69 = .ok (.iload_n 2, 1) := by decide +kernel
theorem dX6_put_70 : decode cX6_put 70 = .ok (.iadd, 1) := by decide +kernel
theorem dX6_put_71 : decode cX6_put 71 = .ok (.iload_n 3, 1) := by decide +kernel
theorem dX6_put_72 : decode cX6_put 72 = .ok (.i2b, 1) := by decide +kernel
theorem dX6_put_73 : decode cX6_put 73 = .ok (.iastore, 1) := by decide +kernel
theorem dX6_put_74 : decode cX6_put 74 = .ok (.iload 4, 2) := by decide +kernel
theorem dX6_put_76 : decode cX6_put 76 = .ok (.sipush 1000, 3) := by decide +kernel
theorem dX6_put_79 : decode cX6_put 79 = .ok (.iadd, 1) := by decide +kernel
theorem dX6_put_80 : decode cX6_put 80 = .ok (.ireturn, 1) := by decide +kernel
theorem dX6_byteAt_0 : decode cX6_byteAt 0 = .ok (.aload_n 0, 1) := by decide +kernel
theorem dX6_byteAt_1 : decode cX6_byteAt 1 = .ok (.getfield 83, 3) := by decide +kernel
theorem dX6_byteAt_4 : decode cX6_byteAt 4 = .ok (.aload_n 0, 1) := by decide +kernel
theorem dX6_byteAt_5 : decode cX6_byteAt 5 = .ok (.getfield 16, 3) := by decide +kernel
theorem dX6_byteAt_8 : decode cX6_byteAt 8 = .ok (.iload_n 1, 1) := by decide +kernel
theorem dX6_byteAt_9 : decode cX6_byteAt 9 = .ok (.iaload, 1) := by decide +kernel
theorem dX6_byteAt_10 : decode cX6_byteAt 10 = .ok (.if_icmp .ge 20, 3) := by decide +kernel
theorem dX6_byteAt_13 : decode cX6_byteAt 13 = .ok (.aload_n 0, 1) := by decide +kernel
theorem dX6_byteAt_14 : decode cX6_byteAt 14 = .ok (.getfield 19, 3) := by decide +kernel
theorem dX6_byteAt_17 : decode cX6_byteAt 17 = .ok (.bipush 60, 2) := by decide +kernel
theorem dX6_byteAt_19 : decode cX6_byteAt 19 = .ok (.iload_n 1, 1) := by decide +kernel
theorem dX6_byteAt_20 : decode cX6_byteAt 20 = .ok (.imul, 1) := by decide +kernel
theorem dX6_byteAt_21 : decode cX6_byteAt 21 = .ok (.aload_n 0, 1) := by decide +kernel
theorem dX6_byteAt_22 : decode cX6_byteAt 22 = .ok (.getfield 83, 3) := by decide +kernel
theorem dX6_byteAt_25 : decode cX6_byteAt 25 = .ok (.iadd, 1) := by decide +kernel
theorem dX6_byteAt_26 : decode cX6_byteAt 26 = .ok (.iaload, 1) := by decide +kernel
theorem dX6_byteAt_27 : decode cX6_byteAt 27 = .ok (.goto 6, 3) := by decide +kernel
theorem dX6_byteAt_30 : decode cX6_byteAt 30 = .ok (.sipush (-1000), 3) := by decide +kernel
theorem dX6_byteAt_33 : decode cX6_byteAt 33 = .ok (.ireturn, 1) := by decide +kernel
set_option maxRecDepth 20000 in
theorem ggX6_takes_X6_byteAt : GoodIn wsX6_takes wsX6_byteAt := goodIn_r _ [7, 2, 8, 9, 13, 14, 15, 16, 17, 18, 19, 20, 21, 22, 23, 24, 25, 26, 27, 28, 29, 30] (by decide +kernel) (by decide +kernel)
set_option maxRecDepth 20000 in
theorem gX6_takes_X6_byteAt : GoodIn wsX6_takes (wsV RX6 86 RX6 yX6_byteAt wsX6_byteAt) := goodIn_app (goodIn_of _ (by decide +kernel)) ggX6_takes_X6_byteAt
set_option maxRecDepth 20000 in
theorem ggX6_takes_X6_in : GoodIn wsX6_takes wsX6_in := goodIn_r _ [12] (by decide +kernel) (by decide +kernel)
set_option maxRecDepth 20000 in
theorem gX6_takes_X6_in : GoodIn wsX6_takes (va_wsS RX6 63 yX6_in wsX6_in) := goodIn_app (goodIn_of _ (by decide +kernel)) ggX6_takes_X6_in
theorem dX6_takes_0 : decode cX6_takes 0 = .ok (.aload_n 0, 1) := by decide +kernel
theorem dX6_takes_1 : decode cX6_takes 1 = .ok (.iload_n 1, 1) := by decide +kernel
theorem dX6_takes_2 : decode cX6_takes 2 = .ok (.invokevirtual 86, 3) := by decide +kernel
theorem dX6_takes_5 : decode cX6_takes 5 = .ok (.iload_n 3, 1) := by decide +kernel
theorem dX6_takes_6 : decode cX6_takes 6 = .ok (.isub, 1) := by decide +kernel
theorem dX6_takes_7 : decode cX6_takes 7 = .ok (.istore 6, 2) := by decide +kernel
theorem dX6_takes_9 : decode cX6_takes 9 = .ok (.iload 6, 2) := by decide +kernel
theorem dX6_takes_11 : decode cX6_takes 11 = .ok (.i2l, 1) := by decide +kernel
theorem dX6_takes_12 : decode cX6_takes 12 = .ok (.iload 4, 2) := by decide +kernel
theorem dX6_takes_14 : decode cX6_takes 14 = .ok (.i2l, 1) := by decide +kernel
theorem dX6_takes_15 : decode cX6_takes 15 = .ok (.iload 5, 2) := by decide +kernel
theorem dX6_takes_17 : decode cX6_takes 17 = .ok (.i2l, 1) := by decide +kernel
theorem dX6_takes_18 : decode cX6_takes 18 = .ok (.invokestatic 63, 3) := by decide +kernel
theorem dX6_takes_21 : decode cX6_takes 21 = .ok (.ifCond .ne 5, 3) := by decide +kernel
theorem dX6_takes_24 : decode cX6_takes 24 = .ok (.iconst 0, 1) := by decide +kernel
theorem dX6_takes_25 : decode cX6_takes 25 = .ok (.ireturn, 1) := by decide +kernel
theorem dX6_takes_26 : decode cX6_takes 26 = .ok (.aload_n 0, 1) := by decide +kernel
theorem dX6_takes_27 : decode cX6_takes 27 = .ok (.getfield 39, 3) := by decide +kernel
theorem dX6_takes_30 : decode cX6_takes 30 = .ok (.iload_n 2, 1) := by decide +kernel
theorem dX6_takes_31 : decode cX6_takes 31 = .ok (.iload 6, 2) := by decide +kernel
theorem dX6_takes_33 : decode cX6_takes 33 = .ok (.iastore, 1) := by decide +kernel
theorem dX6_takes_34 : decode cX6_takes 34 = .ok (.aload_n 0, 1) := by decide +kernel
theorem dX6_takes_35 : decode cX6_takes 35 = .ok (.dup, 1) := by decide +kernel
theorem dX6_takes_36 : decode cX6_takes 36 = .ok (.getfield 83, 3) := by decide +kernel
theorem dX6_takes_39 : decode cX6_takes 39 = .ok (.iconst 1, 1) := by decide +kernel
theorem dX6_takes_40 : decode cX6_takes 40 = .ok (.iadd, 1) := by decide +kernel
theorem dX6_takes_41 : decode cX6_takes 41 = .ok (.putfield 83, 3) := by decide +kernel
theorem dX6_takes_44 : decode cX6_takes 44 = .ok (.iconst 1, 1) := by decide +kernel
theorem dX6_takes_45 : decode cX6_takes 45 = .ok (.ireturn, 1) := by decide +kernel
theorem dX6_kindOf_0 : decode cX6_kindOf 0 = .ok (.iload_n 0, 1) := by decide +kernel
theorem dX6_kindOf_1 : decode cX6_kindOf 1 = .ok (.bipush 112, 2) := by decide +kernel
theorem dX6_kindOf_3 : decode cX6_kindOf 3 = .ok (.if_icmp .ne 7, 3) := by decide +kernel
theorem dX6_kindOf_6 : decode cX6_kindOf 6 = .ok (.iconst 0, 1) := by decide +kernel
theorem dX6_kindOf_7 : decode cX6_kindOf 7 = .ok (.goto 54, 3) := by decide +kernel
theorem dX6_kindOf_10 : decode cX6_kindOf 10 = .ok (.iload_n 0, 1) := by decide +kernel
theorem dX6_kindOf_11 : decode cX6_kindOf 11 = .ok (.bipush 100, 2) := by decide +kernel
theorem dX6_kindOf_13 : decode cX6_kindOf 13 = .ok (.if_icmp .ne 7, 3) := by decide +kernel
theorem dX6_kindOf_16 : decode cX6_kindOf 16 = .ok (.iconst 1, 1) := by decide +kernel
theorem dX6_kindOf_17 : decode cX6_kindOf 17 = .ok (.goto 44, 3) := by decide +kernel
theorem dX6_kindOf_20 : decode cX6_kindOf 20 = .ok (.iload_n 0, 1) := by decide +kernel
theorem dX6_kindOf_21 : decode cX6_kindOf 21 = .ok (.bipush 122, 2) := by decide +kernel
theorem dX6_kindOf_23 : decode cX6_kindOf 23 = .ok (.if_icmp .ne 7, 3) := by decide +kernel
theorem dX6_kindOf_26 : decode cX6_kindOf 26 = .ok (.iconst 2, 1) := by decide +kernel
theorem dX6_kindOf_27 : decode cX6_kindOf 27 = .ok (.goto 34, 3) := by decide +kernel
theorem dX6_kindOf_30 : decode cX6_kindOf 30 = .ok (.iload_n 0, 1) := by decide +kernel
theorem dX6_kindOf_31 : decode cX6_kindOf 31 = .ok (.bipush 108, 2) := by decide +kernel
theorem dX6_kindOf_33 : decode cX6_kindOf 33 = .ok (.if_icmp .ne 7, 3) := by decide +kernel
theorem dX6_kindOf_36 : decode cX6_kindOf 36 = .ok (.iconst 3, 1) := by decide +kernel
theorem dX6_kindOf_37 : decode cX6_kindOf 37 = .ok (.goto 24, 3) := by decide +kernel
theorem dX6_kindOf_40 : decode cX6_kindOf 40 = .ok (.iload_n 0, 1) := by decide +kernel
theorem dX6_kindOf_41 : decode cX6_kindOf 41 = .ok (.bipush 115, 2) := by decide +kernel
theorem dX6_kindOf_43 : decode cX6_kindOf 43 = .ok (.if_icmp .ne 7, 3) := by decide +kernel
theorem dX6_kindOf_46 : decode cX6_kindOf 46 = .ok (.iconst 4, 1) := by decide +kernel
theorem dX6_kindOf_47 : decode cX6_kindOf 47 = .ok (.goto 14, 3) := by decide +kernel
theorem dX6_kindOf_50 : decode cX6_kindOf 50 = .ok (.iload_n 0, 1) := by decide +kernel
theorem dX6_kindOf_51 : decode cX6_kindOf 51 = .ok (.bipush 102, 2) := by decide +kernel
theorem dX6_kindOf_53 : decode cX6_kindOf 53 = .ok (.if_icmp .ne 7, 3) := by decide +kernel
theorem dX6_kindOf_56 : decode cX6_kindOf 56 = .ok (.iconst 5, 1) := by decide +kernel
theorem dX6_kindOf_57 : decode cX6_kindOf 57 = .ok (.goto 4, 3) := by decide +kernel
theorem dX6_kindOf_60 : decode cX6_kindOf 60 = .ok (.iconst (-1), 1) := by decide +kernel
theorem dX6_kindOf_61 : decode cX6_kindOf 61 = .ok (.ireturn, 1) := by decide +kernel
set_option maxRecDepth 20000 in
theorem ggX6_takesPerson_X6_byteAt : GoodIn wsX6_takesPerson wsX6_byteAt := goodIn_r _ [7, 2, 8, 9, 20, 21, 22, 23, 24, 25, 26, 27, 28, 29, 30, 31, 32, 33, 34, 35, 36, 37] (by decide +kernel) (by decide +kernel)
set_option maxRecDepth 20000 in
theorem gX6_takesPerson_X6_byteAt : GoodIn wsX6_takesPerson (wsV RX6 86 RX6 yX6_byteAt wsX6_byteAt) := goodIn_app (goodIn_of _ (by decide +kernel)) ggX6_takesPerson_X6_byteAt
set_option maxRecDepth 20000 in
theorem ggX6_takesPerson_X6_kindOf : GoodIn wsX6_takesPerson wsX6_kindOf := goodIn_r _ [12] (by decide +kernel) (by decide +kernel)
set_option maxRecDepth 20000 in
theorem gX6_takesPerson_X6_kindOf : GoodIn wsX6_takesPerson (va_wsS RX6 89 yX6_kindOf wsX6_kindOf) := goodIn_app (goodIn_of _ (by decide +kernel)) ggX6_takesPerson_X6_kindOf
set_option maxRecDepth 20000 in
theorem ggX6_takesPerson_X6_takes : GoodIn wsX6_takesPerson wsX6_takes := goodIn_r _ [16, 1, 2, 3, 4, 5, 6, 7, 8, 9, 17, 18, 19, 20, 21, 22, 23, 24, 25, 26, 27, 28, 29, 30, 31, 32, 33, 34, 35, 36, 37] (by decide +kernel) (by decide +kernel)
set_option maxRecDepth 20000 in
theorem gX6_takesPerson_X6_takes : GoodIn wsX6_takesPerson (wsV RX6 92 RX6 yX6_takes wsX6_takes) := goodIn_app (goodIn_of _ (by decide +kernel)) ggX6_takesPerson_X6_takes
theorem dX6_takesPerson_0 : decode cX6_takesPerson 0 = .ok (.aload_n 0, 1) := by decide +kernel
theorem dX6_takesPerson_1 : decode cX6_takesPerson 1 = .ok (.getfield 39, 3) := by decide +kernel
theorem dX6_takesPerson_4 : decode cX6_takesPerson 4 = .ok (.iconst 0, 1) := by decide +kernel
theorem dX6_takesPerson_5 : decode cX6_takesPerson 5 = .ok (.iaload, 1) := by decide +kernel
theorem dX6_takesPerson_6 : decode cX6_takesPerson 6 = .ok (.istore_n 2, 1) := by decide +kernel
theorem dX6_takesPerson_7 : decode cX6_takesPerson 7 = .ok (.aload_n 0, 1) := by decide +kernel
theorem dX6_takesPerson_8 : decode cX6_takesPerson 8 = .ok (.iload_n 1, 1) := by decide +kernel
theorem dX6_takesPerson_9 : decode cX6_takesPerson 9 = .ok (.invokevirtual 86, 3) := by decide +kernel
theorem dX6_takesPerson_12 : decode cX6_takesPerson 12 = .ok (.invokestatic 89, 3) := by decide +kernel
theorem dX6_takesPerson_15 : decode cX6_takesPerson 15 = .ok (.istore_n 3, 1) := by decide +kernel
theorem dX6_takesPerson_16 : decode cX6_takesPerson 16 = .ok (.iload_n 3, 1) := by decide +kernel
theorem dX6_takesPerson_17 : decode cX6_takesPerson 17 = .ok (.ifCond .lt 17, 3) := by decide +kernel
theorem dX6_takesPerson_20 : decode cX6_takesPerson 20 = .ok (.iload_n 2, 1) := by decide +kernel
theorem dX6_takesPerson_21 : decode cX6_takesPerson 21 = .ok (.iconst 5, 1) := by decide +kernel
theorem dX6_takesPerson_22 : decode cX6_takesPerson 22 = .ok (.if_icmp .eq 12, 3) := by decide +kernel
theorem dX6_takesPerson_25 : decode cX6_takesPerson 25 = .ok (.aload_n 0, 1) := by decide +kernel
theorem dX6_takesPerson_26 : decode cX6_takesPerson 26 = .ok (.getfield 39, 3) := by decide +kernel
theorem dX6_takesPerson_29 : decode cX6_takesPerson 29 = .ok (.iconst 1, 1) := by decide +kernel
theorem dX6_takesPerson_30 : decode cX6_takesPerson 30 = .ok (.iaload, 1) := by decide +kernel
theorem dX6_takesPerson_31 : decode cX6_takesPerson 31 = .ok (.ifCond .le 5, 3) := by decide +kernel
theorem dX6_takesPerson_34 : decode cX6_takesPerson 34 = .ok (.iconst 0, 1) := by decide +kernel
theorem dX6_takesPerson_35 : decode cX6_takesPerson 35 = .ok (.ireturn, 1) := by decide +kernel
theorem dX6_takesPerson_36 : decode cX6_takesPerson 36 = .ok (.aload_n 0, 1) := by decide +kernel
theorem dX6_takesPerson_37 : decode cX6_takesPerson 37 = .ok (.dup, 1) := by decide +kernel
theorem dX6_takesPerson_38 : decode cX6_takesPerson 38 = .ok (.getfield 83, 3) := by decide +kernel
theorem dX6_takesPerson_41 : decode cX6_takesPerson 41 = .ok (.iconst 1, 1) := by decide +kernel
theorem dX6_takesPerson_42 : decode cX6_takesPerson 42 = .ok (.iadd, 1) := by decide +kernel
theorem dX6_takesPerson_43 : decode cX6_takesPerson 43 = .ok (.putfield 83, 3) := by decide +kernel
theorem dX6_takesPerson_46 : decode cX6_takesPerson 46 = .ok (.aload_n 0, 1) := by decide +kernel
theorem dX6_takesPerson_47 : decode cX6_takesPerson 47 = .ok (.getfield 39, 3) := by decide +kernel
theorem dX6_takesPerson_50 : decode cX6_takesPerson 50 = .ok (.iconst 4, 1) := by decide +kernel
theorem dX6_takesPerson_51 : decode cX6_takesPerson 51 = .ok (.iload_n 2, 1) := by decide +kernel
theorem dX6_takesPerson_52 : decode cX6_takesPerson 52 = .ok (.iadd, 1) := by decide +kernel
theorem dX6_takesPerson_53 : decode cX6_takesPerson 53 = .ok (.iload_n 3, 1) := by decide +kernel
theorem dX6_takesPerson_54 : decode cX6_takesPerson 54 = .ok (.iastore, 1) := by decide +kernel
theorem dX6_takesPerson_55 : decode cX6_takesPerson 55 = .ok (.aload_n 0, 1) := by decide +kernel
theorem dX6_takesPerson_56 : decode cX6_takesPerson 56 = .ok (.getfield 39, 3) := by decide +kernel
theorem dX6_takesPerson_59 : decode cX6_takesPerson 59 = .ok (.iconst 0, 1) := by decide +kernel
theorem dX6_takesPerson_60 : decode cX6_takesPerson 60 = .ok (.dup2, 1) := by decide +kernel
theorem dX6_takesPerson_61 : decode cX6_takesPerson 61 = .ok (.iaload, 1) := by decide +kernel
theorem dX6_takesPerson_62 : decode cX6_takesPerson 62 = .ok (.iconst 1, 1) := by decide +kernel
theorem dX6_takesPerson_63 : decode cX6_takesPerson 63 = .ok (.iadd, 1) := by decide +kernel
theorem dX6_takesPerson_64 : decode cX6_takesPerson 64 = .ok (.iastore, 1) := by decide +kernel
theorem dX6_takesPerson_65 : decode cX6_takesPerson 65 = .ok (.aload_n 0, 1) := by decide +kernel
theorem dX6_takesPerson_66 : decode cX6_takesPerson 66 = .ok (.iload_n 1, 1) := by decide +kernel
theorem dX6_takesPerson_67 : decode cX6_takesPerson 67 = .ok (.bipush 9, 2) := by decide +kernel
theorem dX6_takesPerson_69 : decode cX6_takesPerson 69 = .ok (.iload_n 2, 1) := by decide +kernel
theorem dX6_takesPerson_70 : decode cX6_takesPerson 70 = .ok (.iadd, 1) := by decide +kernel
theorem dX6_takesPerson_71 : decode cX6_takesPerson 71 = .ok (.bipush 48, 2) := by decide +kernel
theorem dX6_takesPerson_73 : decode cX6_takesPerson 73 = .ok (.iconst 0, 1) := by decide +kernel
theorem dX6_takesPerson_74 : decode cX6_takesPerson 74 = .ok (.bipush 9, 2) := by decide +kernel
theorem dX6_takesPerson_76 : decode cX6_takesPerson 76 = .ok (.invokevirtual 92, 3) := by decide +kernel
theorem dX6_takesPerson_79 : decode cX6_takesPerson 79 = .ok (.ifCond .eq 24, 3) := by decide +kernel
theorem dX6_takesPerson_82 : decode cX6_takesPerson 82 = .ok (.aload_n 0, 1) := by decide +kernel
theorem dX6_takesPerson_83 : decode cX6_takesPerson 83 = .ok (.iload_n 1, 1) := by decide +kernel
theorem dX6_takesPerson_84 : decode cX6_takesPerson 84 = .ok (.bipush 14, 2) := by decide +kernel
theorem dX6_takesPerson_86 : decode cX6_takesPerson 86 = .ok (.iload_n 2, 1) := by decide +kernel
theorem dX6_takesPerson_87 : decode cX6_takesPerson 87 = .ok (.iadd, 1) := by decide +kernel
theorem dX6_takesPerson_88 : decode cX6_takesPerson 88 = .ok (.bipush 48, 2) := by decide +kernel
theorem dX6_takesPerson_90 : decode cX6_takesPerson 90 = .ok (.iconst 0, 1) := by decide +kernel
theorem dX6_takesPerson_91 : decode cX6_takesPerson 91 = .ok (.bipush 9, 2) := by decide +kernel
theorem dX6_takesPerson_93 : decode cX6_takesPerson 93 = .ok (.invokevirtual 92, 3) := by decide +kernel
theorem dX6_takesPerson_96 : decode cX6_takesPerson 96 = .ok (.ifCond .eq 7, 3) := by decide +kernel
theorem dX6_takesPerson_99 : decode cX6_takesPerson 99 = .ok (.iconst 1, 1) := by decide +kernel
theorem dX6_takesPerson_100 : decode cX6_takesPerson 100 = .ok (.goto 4, 3) := by decide +kernel
theorem dX6_takesPerson_103 : decode cX6_takesPerson 103 = .ok (.iconst 0, 1) := by decide +kernel
theorem dX6_takesPerson_104 : decode cX6_takesPerson 104 = .ok (.ireturn, 1) := by decide +kernel
set_option maxRecDepth 20000 in
theorem ggX6_takesError_X6_byteAt : GoodIn wsX6_takesError wsX6_byteAt := goodIn_r _ [7, 2, 8, 9, 17, 18, 19, 20, 21, 22, 23, 24, 25, 26, 27, 28, 29, 30, 31, 32, 33, 34] (by decide +kernel) (by decide +kernel)
set_option maxRecDepth 20000 in
theorem gX6_takesError_X6_byteAt : GoodIn wsX6_takesError (wsV RX6 86 RX6 yX6_byteAt wsX6_byteAt) := goodIn_app (goodIn_of _ (by decide +kernel)) ggX6_takesError_X6_byteAt
set_option maxRecDepth 20000 in
theorem ggX6_takesError_X6_takes : GoodIn wsX6_takesError wsX6_takes := goodIn_r _ [13, 1, 2, 3, 4, 5, 6, 7, 8, 9, 14, 15, 16, 17, 18, 19, 20, 21, 22, 23, 24, 25, 26, 27, 28, 29, 30, 31, 32, 33, 34] (by decide +kernel) (by decide +kernel)
set_option maxRecDepth 20000 in
theorem gX6_takesError_X6_takes : GoodIn wsX6_takesError (wsV RX6 92 RX6 yX6_takes wsX6_takes) := goodIn_app (goodIn_of _ (by decide +kernel)) ggX6_takesError_X6_takes
theorem dX6_takesError_0 : decode cX6_takesError 0 = .ok (.aload_n 0, 1) := by decide +kernel
theorem dX6_takesError_1 : decode cX6_takesError 1 = .ok (.getfield 39, 3) := by decide +kernel
theorem dX6_takesError_4 : decode cX6_takesError 4 = .ok (.iconst 1, 1) := by decide +kernel
theorem dX6_takesError_5 : decode cX6_takesError 5 = .ok (.iaload, 1) := by decide +kernel
theorem dX6_takesError_6 : decode cX6_takesError 6 = .ok (.istore_n 2, 1) := by decide +kernel
theorem dX6_takesError_7 : decode cX6_takesError 7 = .ok (.aload_n 0, 1) := by decide +kernel
theorem dX6_takesError_8 : decode cX6_takesError 8 = .ok (.iload_n 1, 1) := by decide +kernel
theorem dX6_takesError_9 : decode cX6_takesError 9 = .ok (.invokevirtual 86, 3) := by decide +kernel
theorem dX6_takesError_12 : decode cX6_takesError 12 = .ok (.bipush 120, 2) := by decide +kernel
theorem dX6_takesError_14 : decode cX6_takesError 14 = .ok (.if_icmp .ne 18, 3) := by decide +kernel
theorem dX6_takesError_17 : decode cX6_takesError 17 = .ok (.iload_n 2, 1) := by decide +kernel
theorem dX6_takesError_18 : decode cX6_takesError 18 = .ok (.bipush 6, 2) := by decide +kernel
theorem dX6_takesError_20 : decode cX6_takesError 20 = .ok (.if_icmp .eq 12, 3) := by decide +kernel
theorem dX6_takesError_23 : decode cX6_takesError 23 = .ok (.aload_n 0, 1) := by decide +kernel
theorem dX6_takesError_24 : decode cX6_takesError 24 = .ok (.getfield 39, 3) := by decide +kernel
theorem dX6_takesError_27 : decode cX6_takesError 27 = .ok (.iconst 0, 1) := by decide +kernel
theorem dX6_takesError_28 : decode cX6_takesError 28 = .ok (.iaload, 1) := by decide +kernel
theorem dX6_takesError_29 : decode cX6_takesError 29 = .ok (.ifCond .ne 5, 3) := by decide +kernel
theorem dX6_takesError_32 : decode cX6_takesError 32 = .ok (.iconst 0, 1) := by decide +kernel
theorem dX6_takesError_33 : decode cX6_takesError 33 = .ok (.ireturn, 1) := by decide +kernel
theorem dX6_takesError_34 : decode cX6_takesError 34 = .ok (.aload_n 0, 1) := by decide +kernel
theorem dX6_takesError_35 : decode cX6_takesError 35 = .ok (.dup, 1) := by decide +kernel
theorem dX6_takesError_36 : decode cX6_takesError 36 = .ok (.getfield 83, 3) := by decide +kernel
theorem dX6_takesError_39 : decode cX6_takesError 39 = .ok (.iconst 1, 1) := by decide +kernel
theorem dX6_takesError_40 : decode cX6_takesError 40 = .ok (.iadd, 1) := by decide +kernel
theorem dX6_takesError_41 : decode cX6_takesError 41 = .ok (.putfield 83, 3) := by decide +kernel
theorem dX6_takesError_44 : decode cX6_takesError 44 = .ok (.aload_n 0, 1) := by decide +kernel
theorem dX6_takesError_45 : decode cX6_takesError 45 = .ok (.getfield 39, 3) := by decide +kernel
theorem dX6_takesError_48 : decode cX6_takesError 48 = .ok (.iconst 1, 1) := by decide +kernel
theorem dX6_takesError_49 : decode cX6_takesError 49 = .ok (.dup2, 1) := by decide +kernel
theorem dX6_takesError_50 : decode cX6_takesError 50 = .ok (.iaload, 1) := by decide +kernel
theorem dX6_takesError_51 : decode cX6_takesError 51 = .ok (.iconst 1, 1) := by decide +kernel
theorem dX6_takesError_52 : decode cX6_takesError 52 = .ok (.iadd, 1) := by decide +kernel
theorem dX6_takesError_53 : decode cX6_takesError 53 = .ok (.iastore, 1) := by decide +kernel
theorem dX6_takesError_54 : decode cX6_takesError 54 = .ok (.aload_n 0, 1) := by decide +kernel
theorem dX6_takesError_55 : decode cX6_takesError 55 = .ok (.iload_n 1, 1) := by decide +kernel
theorem dX6_takesError_56 : decode cX6_takesError 56 = .ok (.bipush 19, 2) := by decide +kernel
theorem dX6_takesError_58 : decode cX6_takesError 58 = .ok (.iload_n 2, 1) := by decide +kernel
theorem dX6_takesError_59 : decode cX6_takesError 59 = .ok (.iadd, 1) := by decide +kernel
theorem dX6_takesError_60 : decode cX6_takesError 60 = .ok (.bipush 48, 2) := by decide +kernel
theorem dX6_takesError_62 : decode cX6_takesError 62 = .ok (.iconst 0, 1) := by decide +kernel
theorem dX6_takesError_63 : decode cX6_takesError 63 = .ok (.iconst 4, 1) := by decide +kernel
theorem dX6_takesError_64 : decode cX6_takesError 64 = .ok (.invokevirtual 92, 3) := by decide +kernel
theorem dX6_takesError_67 : decode cX6_takesError 67 = .ok (.ifCond .eq 64, 3) := by decide +kernel
theorem dX6_takesError_70 : decode cX6_takesError 70 = .ok (.aload_n 0, 1) := by decide +kernel
theorem dX6_takesError_71 : decode cX6_takesError 71 = .ok (.iload_n 1, 1) := by decide +kernel
theorem dX6_takesError_72 : decode cX6_takesError 72 = .ok (.bipush 31, 2) := by decide +kernel
theorem dX6_takesError_74 : decode cX6_takesError 74 = .ok (.iload_n 2, 1) := by decide +kernel
theorem dX6_takesError_75 : decode cX6_takesError 75 = .ok (.iadd, 1) := by decide +kernel
theorem dX6_takesError_76 : decode cX6_takesError 76 = .ok (.bipush 65, 2) := by decide +kernel
theorem dX6_takesError_78 : decode cX6_takesError 78 = .ok (.iconst 0, 1) := by decide +kernel
theorem dX6_takesError_79 : decode cX6_takesError 79 = .ok (.bipush 19, 2) := by decide +kernel
theorem dX6_takesError_81 : decode cX6_takesError 81 = .ok (.invokevirtual 92, 3) := by decide +kernel
theorem dX6_takesError_84 : decode cX6_takesError 84 = .ok (.ifCond .eq 47, 3) := by decide +kernel
theorem dX6_takesError_87 : decode cX6_takesError 87 = .ok (.aload_n 0, 1) := by decide +kernel
theorem dX6_takesError_88 : decode cX6_takesError 88 = .ok (.iload_n 1, 1) := by decide +kernel
theorem dX6_takesError_89 : decode cX6_takesError 89 = .ok (.bipush 43, 2) := by decide +kernel
theorem dX6_takesError_91 : decode cX6_takesError 91 = .ok (.iload_n 2, 1) := by decide +kernel
theorem dX6_takesError_92 : decode cX6_takesError 92 = .ok (.iadd, 1) := by decide +kernel
theorem dX6_takesError_93 : decode cX6_takesError 93 = .ok (.bipush 48, 2) := by decide +kernel
theorem dX6_takesError_95 : decode cX6_takesError 95 = .ok (.iconst 0, 1) := by decide +kernel
theorem dX6_takesError_96 : decode cX6_takesError 96 = .ok (.aload_n 0, 1) := by decide +kernel
theorem dX6_takesError_97 : decode cX6_takesError 97 = .ok (.getfield 39, 3) := by decide +kernel
theorem dX6_takesError_100 : decode cX6_takesError 100 = .ok (.iconst 0, 1) := by decide +kernel
theorem dX6_takesError_101 : decode cX6_takesError 101 = .ok (.iaload, 1) := by decide +kernel
theorem dX6_takesError_102 : decode cX6_takesError 102 = .ok (.iconst 1, 1) := by decide +kernel
theorem dX6_takesError_103 : decode cX6_takesError 103 = .ok (.isub, 1) := by decide +kernel
theorem dX6_takesError_104 : decode cX6_takesError 104 = .ok (.invokevirtual 92, 3) := by decide +kernel
theorem dX6_takesError_107 : decode cX6_takesError 107 = .ok (.ifCond .eq 24, 3) := by decide +kernel
theorem dX6_takesError_110 : decode cX6_takesError 110 = .ok (.aload_n 0, 1) := by decide +kernel
theorem dX6_takesError_111 : decode cX6_takesError 111 = .ok (.iload_n 1, 1) := by decide +kernel
theorem dX6_takesError_112 : decode cX6_takesError 112 = .ok (.bipush 55, 2) := by decide +kernel
theorem dX6_takesError_114 : decode cX6_takesError 114 = .ok (.iload_n 2, 1) := by decide +kernel
theorem dX6_takesError_115 : decode cX6_takesError 115 = .ok (.iadd, 1) := by decide +kernel
theorem dX6_takesError_116 : decode cX6_takesError 116 = .ok (.bipush 48, 2) := by decide +kernel
theorem dX6_takesError_118 : decode cX6_takesError 118 = .ok (.iconst 1, 1) := by decide +kernel
theorem dX6_takesError_119 : decode cX6_takesError 119 = .ok (.bipush 9, 2) := by decide +kernel
theorem dX6_takesError_121 : decode cX6_takesError 121 = .ok (.invokevirtual 92, 3) := by decide +kernel
theorem dX6_takesError_124 : decode cX6_takesError 124 = .ok (.ifCond .eq 7, 3) := by decide +kernel
theorem dX6_takesError_127 : decode cX6_takesError 127 = .ok (.iconst 1, 1) := by decide +kernel
theorem dX6_takesError_128 : decode cX6_takesError 128 = .ok (.goto 4, 3) := by decide +kernel
theorem dX6_takesError_131 : decode cX6_takesError 131 = .ok (.iconst 0, 1) := by decide +kernel
theorem dX6_takesError_132 : decode cX6_takesError 132 = .ok (.ireturn, 1) := by decide +kernel
set_option maxRecDepth 20000 in
theorem ggX6_reads_X6_byteAt : GoodIn wsX6_reads wsX6_byteAt := goodIn_r _ [8, 2, 3, 9, 28, 29, 30, 31, 32, 33, 34, 35, 36, 37, 38, 39, 40, 41, 42, 43, 44, 45] (by decide +kernel) (by decide +kernel)
set_option maxRecDepth 20000 in
theorem gX6_reads_X6_byteAt : GoodIn wsX6_reads (wsV RX6 86 RX6 yX6_byteAt wsX6_byteAt) := goodIn_app (goodIn_of _ (by decide +kernel)) ggX6_reads_X6_byteAt
set_option maxRecDepth 20000 in
theorem ggX6_reads_X6_takesError : GoodIn wsX6_reads wsX6_takesError := goodIn_r _ [13, 1, 2, 4, 5, 6, 7, 8, 3, 9, 14, 15, 16, 17, 18, 19, 20, 28, 29, 30, 31, 32, 33, 34, 35, 36, 37, 38, 39, 40, 41, 42, 43, 44, 45] (by decide +kernel) (by decide +kernel)
set_option maxRecDepth 20000 in
theorem gX6_reads_X6_takesError : GoodIn wsX6_reads (wsV RX6 96 RX6 yX6_takesError wsX6_takesError) := goodIn_app (goodIn_of _ (by decide +kernel)) ggX6_reads_X6_takesError
set_option maxRecDepth 20000 in
theorem ggX6_reads_X6_takesPerson : GoodIn wsX6_reads wsX6_takesPerson := goodIn_r _ [24, 1, 2, 4, 5, 6, 7, 8, 3, 9, 25, 26, 27, 14, 15, 16, 17, 18, 19, 20, 28, 29, 30, 31, 32, 33, 34, 35, 36, 37, 38, 39, 40, 41, 42, 43, 44, 45] (by decide +kernel) (by decide +kernel)
set_option maxRecDepth 20000 in
theorem gX6_reads_X6_takesPerson : GoodIn wsX6_reads (wsV RX6 99 RX6 yX6_takesPerson wsX6_takesPerson) := goodIn_app (goodIn_of _ (by decide +kernel)) ggX6_reads_X6_takesPerson
theorem dX6_reads_0 : decode cX6_reads 0 = .ok (.iconst 0, 1) := by decide +kernel
theorem dX6_reads_1 : decode cX6_reads 1 = .ok (.istore_n 2, 1) := by decide +kernel
theorem dX6_reads_2 : decode cX6_reads 2 = .ok (.iload_n 2, 1) := by decide +kernel
theorem dX6_reads_3 : decode cX6_reads 3 = .ok (.bipush 119, 2) := by decide +kernel
theorem dX6_reads_5 : decode cX6_reads 5 = .ok (.if_icmp .ge 16, 3) := by decide +kernel
theorem dX6_reads_8 : decode cX6_reads 8 = .ok (.aload_n 0, 1) := by decide +kernel
theorem dX6_reads_9 : decode cX6_reads 9 = .ok (.getfield 39, 3) := by decide +kernel
theorem dX6_reads_12 : decode cX6_reads 12 = .ok (.iload_n 2, 1) := by decide +kernel
theorem dX6_reads_13 : decode cX6_reads 13 = .ok (.iconst 0, 1) := by decide +kernel
theorem dX6_reads_14 : decode cX6_reads 14 = .ok (.iastore, 1) := by decide +kernel
theorem dX6_reads_15 : decode cX6_reads 15 = .ok (.iinc 2 1, 3) := by decide +kernel
theorem dX6_reads_18 : decode cX6_reads 18 = .ok (.goto (-16), 3) := by decide +kernel
theorem dX6_reads_21 : decode cX6_reads 21 = .ok (.aload_n 0, 1) := by decide +kernel
theorem dX6_reads_22 : decode cX6_reads 22 = .ok (.iconst 0, 1) := by decide +kernel
theorem dX6_reads_23 : decode cX6_reads 23 = .ok (.putfield 83, 3) := by decide +kernel
theorem dX6_reads_26 : decode cX6_reads 26 = .ok (.aload_n 0, 1) := by decide +kernel
theorem dX6_reads_27 : decode cX6_reads 27 = .ok (.getfield 83, 3) := by decide +kernel
theorem dX6_reads_30 : decode cX6_reads 30 = .ok (.aload_n 0, 1) := by decide +kernel
theorem dX6_reads_31 : decode cX6_reads 31 = .ok (.getfield 16, 3) := by decide +kernel
theorem dX6_reads_34 : decode cX6_reads 34 = .ok (.iload_n 1, 1) := by decide +kernel
theorem dX6_reads_35 : decode cX6_reads 35 = .ok (.iaload, 1) := by decide +kernel
theorem dX6_reads_36 : decode cX6_reads 36 = .ok (.if_icmp .ge 60, 3) := by decide +kernel
theorem dX6_reads_39 : decode cX6_reads 39 = .ok (.aload_n 0, 1) := by decide +kernel
theorem dX6_reads_40 : decode cX6_reads 40 = .ok (.iload_n 1, 1) := by decide +kernel
theorem dX6_reads_41 : decode cX6_reads 41 = .ok (.invokevirtual 86, 3) := by decide +kernel
theorem dX6_reads_44 : decode cX6_reads 44 = .ok (.bipush 32, 2) := by decide +kernel
theorem dX6_reads_46 : decode cX6_reads 46 = .ok (.if_icmp .ne 16, 3) := by decide +kernel
theorem dX6_reads_49 : decode cX6_reads 49 = .ok (.aload_n 0, 1) := by decide +kernel
theorem dX6_reads_50 : decode cX6_reads 50 = .ok (.dup, 1) := by decide +kernel
theorem dX6_reads_51 : decode cX6_reads 51 = .ok (.getfield 83, 3) := by decide +kernel
theorem dX6_reads_54 : decode cX6_reads 54 = .ok (.iconst 1, 1) := by decide +kernel
theorem dX6_reads_55 : decode cX6_reads 55 = .ok (.iadd, 1) := by decide +kernel
theorem dX6_reads_56 : decode cX6_reads 56 = .ok (.putfield 83, 3) := by decide +kernel
theorem dX6_reads_59 : decode cX6_reads 59 = .ok (.goto (-33), 3) := by decide +kernel
theorem dX6_reads_62 : decode cX6_reads 62 = .ok (.aload_n 0, 1) := by decide +kernel
theorem dX6_reads_63 : decode cX6_reads 63 = .ok (.iload_n 1, 1) := by decide +kernel
theorem dX6_reads_64 : decode cX6_reads 64 = .ok (.invokevirtual 86, 3) := by decide +kernel
theorem dX6_reads_67 : decode cX6_reads 67 = .ok (.bipush 120, 2) := by decide +kernel
theorem dX6_reads_69 : decode cX6_reads 69 = .ok (.if_icmp .ne 14, 3) := by decide +kernel
theorem dX6_reads_72 : decode cX6_reads 72 = .ok (.aload_n 0, 1) := by decide +kernel
theorem dX6_reads_73 : decode cX6_reads 73 = .ok (.iload_n 1, 1) := by decide +kernel
theorem dX6_reads_74 : decode cX6_reads 74 = .ok (.invokevirtual 96, 3) := by decide +kernel
theorem dX6_reads_77 : decode cX6_reads 77 = .ok (.ifCond .eq 14, 3) := by decide +kernel
theorem dX6_reads_80 : decode cX6_reads 80 = .ok (.goto (-54), 3) := by decide +kernel
theorem dX6_reads_83 : decode cX6_reads 83 = .ok (.aload_n 0, 1) := by decide +kernel
theorem dX6_reads_84 : decode cX6_reads 84 = .ok (.iload_n 1, 1) := by decide +kernel
theorem dX6_reads_85 : decode cX6_reads 85 = .ok (.invokevirtual 99, 3) := by decide +kernel
theorem dX6_reads_88 : decode cX6_reads 88 = .ok (.ifCond .ne (-62), 3) := by decide +kernel
theorem dX6_reads_91 : decode cX6_reads 91 = .ok (.aload_n 0, 1) := by decide +kernel
theorem dX6_reads_92 : decode cX6_reads 92 = .ok (.getfield 83, 3) := by decide +kernel
theorem dX6_reads_95 : decode cX6_reads 95 = .ok (.ireturn, 1) := by decide +kernel
theorem dX6_reads_96 : decode cX6_reads 96 = .ok (.aload_n 0, 1) := by decide +kernel
theorem dX6_reads_97 : decode cX6_reads 97 = .ok (.getfield 39, 3) := by decide +kernel
theorem dX6_reads_100 : decode cX6_reads 100 = .ok (.iconst 0, 1) := by decide +kernel
theorem dX6_reads_101 : decode cX6_reads 101 = .ok (.iaload, 1) := by decide +kernel
theorem dX6_reads_102 : decode cX6_reads 102 = .ok (.ifCond .ne 10, 3) := by decide +kernel
theorem dX6_reads_105 : decode cX6_reads 105 = .ok (.aload_n 0, 1) := by decide +kernel
theorem dX6_reads_106 : decode cX6_reads 106 = .ok (.getfield 83, 3) := by decide +kernel
theorem dX6_reads_109 : decode cX6_reads 109 = .ok (.goto 5, 3) := by decide +kernel
theorem dX6_reads_112 : decode cX6_reads 112 = .ok (.bipush (-9), 2) := by decide +kernel
theorem dX6_reads_114 : decode cX6_reads 114 = .ok (.ireturn, 1) := by decide +kernel
set_option maxRecDepth 20000 in
theorem ggX6_fault_X6_isText : GoodIn wsX6_fault wsX6_isText := goodIn_r _ [5, 6, 7, 8, 4, 9] (by decide +kernel) (by decide +kernel)
set_option maxRecDepth 20000 in
theorem gX6_fault_X6_isText : GoodIn wsX6_fault (va_wsS RX6 80 yX6_isText wsX6_isText) := goodIn_app (goodIn_of _ (by decide +kernel)) ggX6_fault_X6_isText
set_option maxRecDepth 20000 in
theorem ggX6_fault_X6_found : GoodIn wsX6_fault wsX6_found := goodIn_r _ [13, 14, 15, 42, 43, 44, 45, 46, 47, 48, 49, 50, 51, 52, 53, 54, 55, 56, 57, 58, 59] (by decide +kernel) (by decide +kernel)
set_option maxRecDepth 20000 in
theorem gX6_fault_X6_found : GoodIn wsX6_fault (wsV RX6 73 RX6 yX6_found wsX6_found) := goodIn_app (goodIn_of _ (by decide +kernel)) ggX6_fault_X6_found
set_option maxRecDepth 20000 in
theorem ggX6_fault_X6_reads : GoodIn wsX6_fault wsX6_reads := goodIn_r _ [19, 20, 21, 1, 22, 23, 24, 4, 25, 26, 27, 28, 29, 30, 31, 32, 33, 34, 7, 8, 9, 35, 36, 37, 38, 39, 40, 41, 42, 43, 44, 45, 46, 47, 48, 49, 50, 51, 52, 53, 54, 55, 56, 57, 58, 59] (by decide +kernel) (by decide +kernel)
set_option maxRecDepth 20000 in
theorem gX6_fault_X6_reads : GoodIn wsX6_fault (wsV RX6 102 RX6 yX6_reads wsX6_reads) := goodIn_app (goodIn_of _ (by decide +kernel)) ggX6_fault_X6_reads
theorem dX6_fault_0 : decode cX6_fault 0 = .ok (.iload_n 1, 1) := by decide +kernel
theorem dX6_fault_1 : decode cX6_fault 1 = .ok (.invokestatic 80, 3) := by decide +kernel
theorem dX6_fault_4 : decode cX6_fault 4 = .ok (.ifCond .ne 5, 3) := by decide +kernel
theorem dX6_fault_7 : decode cX6_fault 7 = .ok (.iconst (-1), 1) := by decide +kernel
theorem dX6_fault_8 : decode cX6_fault 8 = .ok (.ireturn, 1) := by decide +kernel
theorem dX6_fault_9 : decode cX6_fault 9 = .ok (.aload_n 0, 1) := by decide +kernel
theorem dX6_fault_10 : decode cX6_fault 10 = .ok (.getfield 16, 3) := by decide +kernel
theorem dX6_fault_13 : decode cX6_fault 13 = .ok (.iload_n 1, 1) := by decide +kernel
theorem dX6_fault_14 : decode cX6_fault 14 = .ok (.iaload, 1) := by decide +kernel
theorem dX6_fault_15 : decode cX6_fault 15 = .ok (.ifCond .ge 11, 3) := by decide +kernel
theorem dX6_fault_18 : decode cX6_fault 18 = .ok (.aload_n 0, 1) := by decide +kernel
theorem dX6_fault_19 : decode cX6_fault 19 = .ok (.iconst 1, 1) := by decide +kernel
theorem dX6_fault_20 : decode cX6_fault 20 = .ok (.invokevirtual 73, 3) := by decide +kernel
theorem dX6_fault_23 : decode cX6_fault 23 = .ok (.goto 8, 3) := by decide +kernel
theorem dX6_fault_26 : decode cX6_fault 26 = .ok (.aload_n 0, 1) := by decide +kernel
theorem dX6_fault_27 : decode cX6_fault 27 = .ok (.iload_n 1, 1) := by decide +kernel
theorem dX6_fault_28 : decode cX6_fault 28 = .ok (.invokevirtual 102, 3) := by decide +kernel
theorem dX6_fault_31 : decode cX6_fault 31 = .ok (.ireturn, 1) := by decide +kernel
theorem dX6_copies_0 : decode cX6_copies 0 = .ok (.iconst 0, 1) := by decide +kernel
theorem dX6_copies_1 : decode cX6_copies 1 = .ok (.istore 4, 2) := by decide +kernel
theorem dX6_copies_3 : decode cX6_copies 3 = .ok (.iload 4, 2) := by decide +kernel
theorem dX6_copies_5 : decode cX6_copies 5 = .ok (.bipush 119, 2) := by decide +kernel
theorem dX6_copies_7 : decode cX6_copies 7 = .ok (.if_icmp .ge 21, 3) := by decide +kernel
theorem dX6_copies_10 : decode cX6_copies 10 = .ok (.aload_n 2, 1) := by decide +kernel
theorem dX6_copies_11 : decode cX6_copies 11 = .ok (.iload_n 3, 1) := by decide +kernel
theorem dX6_copies_12 : decode cX6_copies 12 = .ok (.iload 4, 2) := by decide +kernel
theorem dX6_copies_14 : decode cX6_copies 14 = .ok (.iadd, 1) := by decide +kernel
theorem dX6_copies_15 : decode cX6_copies 15 = .ok (.aload_n 0, 1) := by decide +kernel
theorem dX6_copies_16 : decode cX6_copies 16 = .ok (.iload_n 1, 1) := by decide +kernel
theorem dX6_copies_17 : decode cX6_copies 17 = .ok (.iload 4, 2) := by decide +kernel
theorem dX6_copies_19 : decode cX6_copies 19 = .ok (.iadd, 1) := by decide +kernel
theorem dX6_copies_20 : decode cX6_copies 20 = .ok (.iaload, 1) := by decide +kernel
theorem dX6_copies_21 : decode cX6_copies 21 = .ok (.iastore, 1) := by decide +kernel
theorem dX6_copies_22 : decode cX6_copies 22 = .ok (.iinc 4 1, 3) := by decide +kernel
theorem dX6_copies_25 : decode cX6_copies 25 = .ok (.goto (-22), 3) := by decide +kernel
theorem dX6_copies_28 : decode cX6_copies 28 = .ok (.return_, 1) := by decide +kernel
set_option maxRecDepth 20000 in
theorem ggX6_chain_X6_isText : GoodIn wsX6_chain wsX6_isText := goodIn_r _ [8, 9, 10, 11, 7, 12] (by decide +kernel) (by decide +kernel)
set_option maxRecDepth 20000 in
theorem gX6_chain_X6_isText : GoodIn wsX6_chain (va_wsS RX6 80 yX6_isText wsX6_isText) := goodIn_app (goodIn_of _ (by decide +kernel)) ggX6_chain_X6_isText
set_option maxRecDepth 20000 in
theorem ggX6_chain_X6_found : GoodIn wsX6_chain wsX6_found := goodIn_r _ [16, 17, 18, 47, 48, 49, 50, 51, 52, 53, 54, 55, 56, 57, 58, 59, 60, 61, 62, 63, 64] (by decide +kernel) (by decide +kernel)
set_option maxRecDepth 20000 in
theorem gX6_chain_X6_found : GoodIn wsX6_chain (wsV RX6 73 RX6 yX6_found wsX6_found) := goodIn_app (goodIn_of _ (by decide +kernel)) ggX6_chain_X6_found
set_option maxRecDepth 20000 in
theorem ggX6_chain_X6_reads : GoodIn wsX6_chain wsX6_reads := goodIn_r _ [22, 2, 23, 1, 24, 25, 26, 7, 27, 28, 29, 30, 31, 32, 33, 34, 35, 36, 10, 11, 12, 37, 38, 39, 40, 41, 42, 43, 47, 48, 49, 50, 51, 52, 53, 54, 55, 56, 57, 58, 59, 60, 61, 62, 63, 64] (by decide +kernel) (by decide +kernel)
set_option maxRecDepth 20000 in
theorem gX6_chain_X6_reads : GoodIn wsX6_chain (wsV RX6 102 RX6 yX6_reads wsX6_reads) := goodIn_app (goodIn_of _ (by decide +kernel)) ggX6_chain_X6_reads
set_option maxRecDepth 20000 in
theorem ggX6_chain_X6_copies : GoodIn wsX6_chain wsX6_copies := goodIn_r _ [46] (by decide +kernel) (by decide +kernel)
set_option maxRecDepth 20000 in
theorem gX6_chain_X6_copies : GoodIn wsX6_chain (va_wsS RX6 105 yX6_copies wsX6_copies) := goodIn_app (goodIn_of _ (by decide +kernel)) ggX6_chain_X6_copies
theorem dX6_chain_0 : decode cX6_chain 0 = .ok (.iload_n 1, 1) := by decide +kernel
theorem dX6_chain_1 : decode cX6_chain 1 = .ok (.invokestatic 80, 3) := by decide +kernel
theorem dX6_chain_4 : decode cX6_chain 4 = .ok (.ifCond .ne 5, 3) := by decide +kernel
theorem dX6_chain_7 : decode cX6_chain 7 = .ok (.iconst (-1), 1) := by decide +kernel
theorem dX6_chain_8 : decode cX6_chain 8 = .ok (.ireturn, 1) := by decide +kernel
theorem dX6_chain_9 : decode cX6_chain 9 = .ok (.aload_n 0, 1) := by decide +kernel
theorem dX6_chain_10 : decode cX6_chain 10 = .ok (.getfield 16, 3) := by decide +kernel
theorem dX6_chain_13 : decode cX6_chain 13 = .ok (.iload_n 1, 1) := by decide +kernel
theorem dX6_chain_14 : decode cX6_chain 14 = .ok (.iaload, 1) := by decide +kernel
theorem dX6_chain_15 : decode cX6_chain 15 = .ok (.ifCond .ge 9, 3) := by decide +kernel
theorem dX6_chain_18 : decode cX6_chain 18 = .ok (.aload_n 0, 1) := by decide +kernel
theorem dX6_chain_19 : decode cX6_chain 19 = .ok (.iconst 1, 1) := by decide +kernel
theorem dX6_chain_20 : decode cX6_chain 20 = .ok (.invokevirtual 73, 3) := by decide +kernel
theorem dX6_chain_23 : decode cX6_chain 23 = .ok (.ireturn, 1) := by decide +kernel
theorem dX6_chain_24 : decode cX6_chain 24 = .ok (.aload_n 0, 1) := by decide +kernel
theorem dX6_chain_25 : decode cX6_chain 25 = .ok (.iload_n 1, 1) := by decide +kernel
theorem dX6_chain_26 : decode cX6_chain 26 = .ok (.invokevirtual 102, 3) := by decide +kernel
theorem dX6_chain_29 : decode cX6_chain 29 = .ok (.bipush (-9), 2) := by decide +kernel
theorem dX6_chain_31 : decode cX6_chain 31 = .ok (.if_icmp .eq 6, 3) := by decide +kernel
theorem dX6_chain_34 : decode cX6_chain 34 = .ok (.bipush (-4), 2) := by decide +kernel
theorem dX6_chain_36 : decode cX6_chain 36 = .ok (.ireturn, 1) := by decide +kernel
theorem dX6_chain_37 : decode cX6_chain 37 = .ok (.aload_n 0, 1) := by decide +kernel
theorem dX6_chain_38 : decode cX6_chain 38 = .ok (.getfield 39, 3) := by decide +kernel
theorem dX6_chain_41 : decode cX6_chain 41 = .ok (.iconst 0, 1) := by decide +kernel
theorem dX6_chain_42 : decode cX6_chain 42 = .ok (.aload_n 0, 1) := by decide +kernel
theorem dX6_chain_43 : decode cX6_chain 43 = .ok (.getfield 22, 3) := by decide +kernel
theorem dX6_chain_46 : decode cX6_chain 46 = .ok (.iconst 0, 1) := by decide +kernel
theorem dX6_chain_47 : decode cX6_chain 47 = .ok (.invokestatic 105, 3) := by decide +kernel
theorem dX6_chain_50 : decode cX6_chain 50 = .ok (.iconst 0, 1) := by decide +kernel
theorem dX6_chain_51 : decode cX6_chain 51 = .ok (.istore_n 2, 1) := by decide +kernel
theorem dX6_chain_52 : decode cX6_chain 52 = .ok (.iload_n 2, 1) := by decide +kernel
theorem dX6_chain_53 : decode cX6_chain 53 = .ok (.iconst 3, 1) := by decide +kernel
theorem dX6_chain_54 : decode cX6_chain 54 = .ok (.if_icmp .ge 16, 3) := by decide +kernel
theorem dX6_chain_57 : decode cX6_chain 57 = .ok (.aload_n 0, 1) := by decide +kernel
theorem dX6_chain_58 : decode cX6_chain 58 = .ok (.getfield 28, 3) := by decide +kernel
theorem dX6_chain_61 : decode cX6_chain 61 = .ok (.iload_n 2, 1) := by decide +kernel
theorem dX6_chain_62 : decode cX6_chain 62 = .ok (.iconst 0, 1) := by decide +kernel
theorem dX6_chain_63 : decode cX6_chain 63 = .ok (.bastore, 1) := by decide +kernel
theorem dX6_chain_64 : decode cX6_chain 64 = .ok (.iinc 2 1, 3) := by decide +kernel
theorem dX6_chain_67 : decode cX6_chain 67 = .ok (.goto (-15), 3) := by decide +kernel
theorem dX6_chain_70 : decode cX6_chain 70 = .ok (.aload_n 0, 1) := by decide +kernel
theorem dX6_chain_71 : decode cX6_chain 71 = .ok (.getfield 22, 3) := by decide +kernel
theorem dX6_chain_74 : decode cX6_chain 74 = .ok (.iconst 0, 1) := by decide +kernel
theorem dX6_chain_75 : decode cX6_chain 75 = .ok (.iaload, 1) := by decide +kernel
theorem dX6_chain_76 : decode cX6_chain 76 = .ok (.ireturn, 1) := by decide +kernel
set_option maxRecDepth 20000 in
theorem ggX6_isTown_X6_in : GoodIn wsX6_isTown wsX6_in := goodIn_r _ [5] (by decide +kernel) (by decide +kernel)
set_option maxRecDepth 20000 in
theorem gX6_isTown_X6_in : GoodIn wsX6_isTown (va_wsS RX6 63 yX6_in wsX6_in) := goodIn_app (goodIn_of _ (by decide +kernel)) ggX6_isTown_X6_in
theorem dX6_isTown_0 : decode cX6_isTown 0 = .ok (.iload_n 0, 1) := by decide +kernel
theorem dX6_isTown_1 : decode cX6_isTown 1 = .ok (.i2l, 1) := by decide +kernel
theorem dX6_isTown_2 : decode cX6_isTown 2 = .ok (.lconst 0, 1) := by decide +kernel
theorem dX6_isTown_3 : decode cX6_isTown 3 = .ok (.ldc2_w 109, 3) := by decide +kernel
theorem dX6_isTown_6 : decode cX6_isTown 6 = .ok (.invokestatic 63, 3) := by decide +kernel
theorem dX6_isTown_9 : decode cX6_isTown 9 = .ok (.ireturn, 1) := by decide +kernel
set_option maxRecDepth 20000 in
theorem ggX6_isDay_X6_in : GoodIn wsX6_isDay wsX6_in := goodIn_r _ [5] (by decide +kernel) (by decide +kernel)
set_option maxRecDepth 20000 in
theorem gX6_isDay_X6_in : GoodIn wsX6_isDay (va_wsS RX6 63 yX6_in wsX6_in) := goodIn_app (goodIn_of _ (by decide +kernel)) ggX6_isDay_X6_in
theorem dX6_isDay_0 : decode cX6_isDay 0 = .ok (.iload_n 0, 1) := by decide +kernel
theorem dX6_isDay_1 : decode cX6_isDay 1 = .ok (.i2l, 1) := by decide +kernel
theorem dX6_isDay_2 : decode cX6_isDay 2 = .ok (.lconst 0, 1) := by decide +kernel
theorem dX6_isDay_3 : decode cX6_isDay 3 = .ok (.ldc2_w 111, 3) := by decide +kernel
theorem dX6_isDay_6 : decode cX6_isDay 6 = .ok (.invokestatic 63, 3) := by decide +kernel
theorem dX6_isDay_9 : decode cX6_isDay 9 = .ok (.ireturn, 1) := by decide +kernel
set_option maxRecDepth 20000 in
theorem ggX6_isDeed_X6_in : GoodIn wsX6_isDeed wsX6_in := goodIn_r _ [5] (by decide +kernel) (by decide +kernel)
set_option maxRecDepth 20000 in
theorem gX6_isDeed_X6_in : GoodIn wsX6_isDeed (va_wsS RX6 63 yX6_in wsX6_in) := goodIn_app (goodIn_of _ (by decide +kernel)) ggX6_isDeed_X6_in
theorem dX6_isDeed_0 : decode cX6_isDeed 0 = .ok (.iload_n 0, 1) := by decide +kernel
theorem dX6_isDeed_1 : decode cX6_isDeed 1 = .ok (.i2l, 1) := by decide +kernel
theorem dX6_isDeed_2 : decode cX6_isDeed 2 = .ok (.lconst 0, 1) := by decide +kernel
theorem dX6_isDeed_3 : decode cX6_isDeed 3 = .ok (.ldc2_w 113, 3) := by decide +kernel
theorem dX6_isDeed_6 : decode cX6_isDeed 6 = .ok (.invokestatic 63, 3) := by decide +kernel
theorem dX6_isDeed_9 : decode cX6_isDeed 9 = .ok (.ireturn, 1) := by decide +kernel
set_option maxRecDepth 20000 in
theorem ggX6_isPerson_X6_in : GoodIn wsX6_isPerson wsX6_in := goodIn_r _ [5] (by decide +kernel) (by decide +kernel)
set_option maxRecDepth 20000 in
theorem gX6_isPerson_X6_in : GoodIn wsX6_isPerson (va_wsS RX6 63 yX6_in wsX6_in) := goodIn_app (goodIn_of _ (by decide +kernel)) ggX6_isPerson_X6_in
theorem dX6_isPerson_0 : decode cX6_isPerson 0 = .ok (.iload_n 1, 1) := by decide +kernel
theorem dX6_isPerson_1 : decode cX6_isPerson 1 = .ok (.i2l, 1) := by decide +kernel
theorem dX6_isPerson_2 : decode cX6_isPerson 2 = .ok (.lconst 0, 1) := by decide +kernel
theorem dX6_isPerson_3 : decode cX6_isPerson 3 = .ok (.aload_n 0, 1) := by decide +kernel
theorem dX6_isPerson_4 : decode cX6_isPerson 4 = .ok (.getfield 22, 3) := by decide +kernel
theorem dX6_isPerson_7 : decode cX6_isPerson 7 = .ok (.iconst 0, 1) := by decide +kernel
theorem dX6_isPerson_8 : decode cX6_isPerson 8 = .ok (.iaload, 1) := by decide +kernel
theorem dX6_isPerson_9 : decode cX6_isPerson 9 = .ok (.iconst 1, 1) := by decide +kernel
theorem dX6_isPerson_10 : decode cX6_isPerson 10 = .ok (.isub, 1) := by decide +kernel
theorem dX6_isPerson_11 : decode cX6_isPerson 11 = .ok (.i2l, 1) := by decide +kernel
theorem dX6_isPerson_12 : decode cX6_isPerson 12 = .ok (.invokestatic 63, 3) := by decide +kernel
theorem dX6_isPerson_15 : decode cX6_isPerson 15 = .ok (.ireturn, 1) := by decide +kernel
set_option maxRecDepth 20000 in
theorem ggX6_isError_X6_in : GoodIn wsX6_isError wsX6_in := goodIn_r _ [5] (by decide +kernel) (by decide +kernel)
set_option maxRecDepth 20000 in
theorem gX6_isError_X6_in : GoodIn wsX6_isError (va_wsS RX6 63 yX6_in wsX6_in) := goodIn_app (goodIn_of _ (by decide +kernel)) ggX6_isError_X6_in
theorem dX6_isError_0 : decode cX6_isError 0 = .ok (.iload_n 1, 1) := by decide +kernel
theorem dX6_isError_1 : decode cX6_isError 1 = .ok (.i2l, 1) := by decide +kernel
theorem dX6_isError_2 : decode cX6_isError 2 = .ok (.lconst 0, 1) := by decide +kernel
theorem dX6_isError_3 : decode cX6_isError 3 = .ok (.aload_n 0, 1) := by decide +kernel
theorem dX6_isError_4 : decode cX6_isError 4 = .ok (.getfield 22, 3) := by decide +kernel
theorem dX6_isError_7 : decode cX6_isError 7 = .ok (.iconst 1, 1) := by decide +kernel
theorem dX6_isError_8 : decode cX6_isError 8 = .ok (.iaload, 1) := by decide +kernel
theorem dX6_isError_9 : decode cX6_isError 9 = .ok (.iconst 1, 1) := by decide +kernel
theorem dX6_isError_10 : decode cX6_isError 10 = .ok (.isub, 1) := by decide +kernel
theorem dX6_isError_11 : decode cX6_isError 11 = .ok (.i2l, 1) := by decide +kernel
theorem dX6_isError_12 : decode cX6_isError 12 = .ok (.invokestatic 63, 3) := by decide +kernel
theorem dX6_isError_15 : decode cX6_isError 15 = .ok (.ireturn, 1) := by decide +kernel
theorem dX6_has_0 : decode cX6_has 0 = .ok (.iload_n 0, 1) := by decide +kernel
theorem dX6_has_1 : decode cX6_has 1 = .ok (.iload_n 1, 1) := by decide +kernel
theorem dX6_has_2 : decode cX6_has 2 = .ok (.ishr, 1) := by decide +kernel
theorem dX6_has_3 : decode cX6_has 3 = .ok (.iconst 1, 1) := by decide +kernel
theorem dX6_has_4 : decode cX6_has 4 = .ok (.iand, 1) := by decide +kernel
theorem dX6_has_5 : decode cX6_has 5 = .ok (.iconst 1, 1) := by decide +kernel
theorem dX6_has_6 : decode cX6_has 6 = .ok (.if_icmp .ne 7, 3) := by decide +kernel
theorem dX6_has_9 : decode cX6_has 9 = .ok (.iconst 1, 1) := by decide +kernel
theorem dX6_has_10 : decode cX6_has 10 = .ok (.goto 4, 3) := by decide +kernel
theorem dX6_has_13 : decode cX6_has 13 = .ok (.iconst 0, 1) := by decide +kernel
theorem dX6_has_14 : decode cX6_has 14 = .ok (.ireturn, 1) := by decide +kernel
theorem dX6_bits_0 : decode cX6_bits 0 = .ok (.iconst 0, 1) := by decide +kernel
theorem dX6_bits_1 : decode cX6_bits 1 = .ok (.istore_n 1, 1) := by decide +kernel
theorem dX6_bits_2 : decode cX6_bits 2 = .ok (.iload_n 0, 1) := by decide +kernel
theorem dX6_bits_3 : decode cX6_bits 3 = .ok (.istore_n 2, 1) := by decide +kernel
theorem dX6_bits_4 : decode cX6_bits 4 = .ok (.iload_n 2, 1) := by decide +kernel
theorem dX6_bits_5 : decode cX6_bits 5 = .ok (.ifCond .eq 15, 3) := by decide +kernel
theorem dX6_bits_8 : decode cX6_bits 8 = .ok (.iinc 1 1, 3) := by decide +kernel
theorem dX6_bits_11 : decode cX6_bits 11 = .ok (.iload_n 2, 1) := by decide +kernel
theorem dX6_bits_12 : decode cX6_bits 12 = .ok (.iload_n 2, 1) := by decide +kernel
theorem dX6_bits_13 : decode cX6_bits 13 = .ok (.iconst 1, 1) := by decide +kernel
theorem dX6_bits_14 : decode cX6_bits 14 = .ok (.isub, 1) := by decide +kernel
theorem dX6_bits_15 : decode cX6_bits 15 = .ok (.iand, 1) := by decide +kernel
theorem dX6_bits_16 : decode cX6_bits 16 = .ok (.istore_n 2, 1) := by decide +kernel
theorem dX6_bits_17 : decode cX6_bits 17 = .ok (.goto (-13), 3) := by decide +kernel
theorem dX6_bits_20 : decode cX6_bits 20 = .ok (.iload_n 1, 1) := by decide +kernel
theorem dX6_bits_21 : decode cX6_bits 21 = .ok (.ireturn, 1) := by decide +kernel
theorem dX6_isOf_0 : decode cX6_isOf 0 = .ok (.iload_n 1, 1) := by decide +kernel
theorem dX6_isOf_1 : decode cX6_isOf 1 = .ok (.ifCond .eq 28, 3) := by decide +kernel
theorem dX6_isOf_4 : decode cX6_isOf 4 = .ok (.iload_n 0, 1) := by decide +kernel
theorem dX6_isOf_5 : decode cX6_isOf 5 = .ok (.iload_n 1, 1) := by decide +kernel
theorem dX6_isOf_6 : decode cX6_isOf 6 = .ok (.if_icmp .eq 23, 3) := by decide +kernel
theorem dX6_isOf_9 : decode cX6_isOf 9 = .ok (.iload_n 1, 1) := by decide +kernel
theorem dX6_isOf_10 : decode cX6_isOf 10 = .ok (.iconst 1, 1) := by decide +kernel
theorem dX6_isOf_11 : decode cX6_isOf 11 = .ok (.if_icmp .ne 8, 3) := by decide +kernel
theorem dX6_isOf_14 : decode cX6_isOf 14 = .ok (.iload_n 0, 1) := by decide +kernel
theorem dX6_isOf_15 : decode cX6_isOf 15 = .ok (.iconst 4, 1) := by decide +kernel
theorem dX6_isOf_16 : decode cX6_isOf 16 = .ok (.if_icmp .eq 13, 3) := by decide +kernel
theorem dX6_isOf_19 : decode cX6_isOf 19 = .ok (.iload_n 1, 1) := by decide +kernel
theorem dX6_isOf_20 : decode cX6_isOf 20 = .ok (.iconst 2, 1) := by decide +kernel
theorem dX6_isOf_21 : decode cX6_isOf 21 = .ok (.if_icmp .ne 12, 3) := by decide +kernel
theorem dX6_isOf_24 : decode cX6_isOf 24 = .ok (.iload_n 0, 1) := by decide +kernel
theorem dX6_isOf_25 : decode cX6_isOf 25 = .ok (.iconst 5, 1) := by decide +kernel
theorem dX6_isOf_26 : decode cX6_isOf 26 = .ok (.if_icmp .ne 7, 3) := by decide +kernel
theorem dX6_isOf_29 : decode cX6_isOf 29 = .ok (.iconst 1, 1) := by decide +kernel
theorem dX6_isOf_30 : decode cX6_isOf 30 = .ok (.goto 4, 3) := by decide +kernel
theorem dX6_isOf_33 : decode cX6_isOf 33 = .ok (.iconst 0, 1) := by decide +kernel
theorem dX6_isOf_34 : decode cX6_isOf 34 = .ok (.ireturn, 1) := by decide +kernel
set_option maxRecDepth 20000 in
theorem ggX6_lays_X6_has : GoodIn wsX6_lays wsX6_has := goodIn_r _ [7] (by decide +kernel) (by decide +kernel)
set_option maxRecDepth 20000 in
theorem gX6_lays_X6_has : GoodIn wsX6_lays (va_wsS RX6 115 yX6_has wsX6_has) := goodIn_app (goodIn_of _ (by decide +kernel)) ggX6_lays_X6_has
set_option maxRecDepth 20000 in
theorem ggX6_lays_X6_isOf : GoodIn wsX6_lays wsX6_isOf := goodIn_r _ [10] (by decide +kernel) (by decide +kernel)
set_option maxRecDepth 20000 in
theorem gX6_lays_X6_isOf : GoodIn wsX6_lays (va_wsS RX6 119 yX6_isOf wsX6_isOf) := goodIn_app (goodIn_of _ (by decide +kernel)) ggX6_lays_X6_isOf
set_option maxRecDepth 20000 in
theorem ggX6_lays_X6_beyond : GoodIn wsX6_lays wsX6_beyond := goodIn_r _ [13] (by decide +kernel) (by decide +kernel)
set_option maxRecDepth 20000 in
theorem gX6_lays_X6_beyond : GoodIn wsX6_lays (va_wsS RX6 122 yX6_beyond wsX6_beyond) := goodIn_app (goodIn_of _ (by decide +kernel)) ggX6_lays_X6_beyond
theorem dX6_lays_0 : decode cX6_lays 0 = .ok (.iconst 0, 1) := by decide +kernel
theorem dX6_lays_1 : decode cX6_lays 1 = .ok (.istore 4, 2) := by decide +kernel
theorem dX6_lays_3 : decode cX6_lays 3 = .ok (.iload 4, 2) := by decide +kernel
theorem dX6_lays_5 : decode cX6_lays 5 = .ok (.bipush 100, 2) := by decide +kernel
theorem dX6_lays_7 : decode cX6_lays 7 = .ok (.if_icmp .ge 27, 3) := by decide +kernel
theorem dX6_lays_10 : decode cX6_lays 10 = .ok (.aload_n 0, 1) := by decide +kernel
theorem dX6_lays_11 : decode cX6_lays 11 = .ok (.getfield 42, 3) := by decide +kernel
theorem dX6_lays_14 : decode cX6_lays 14 = .ok (.iload 4, 2) := by decide +kernel
theorem dX6_lays_16 : decode cX6_lays 16 = .ok (.iload 4, 2) := by decide +kernel
theorem dX6_lays_18 : decode cX6_lays 18 = .ok (.iload_n 3, 1) := by decide +kernel
theorem dX6_lays_19 : decode cX6_lays 19 = .ok (.if_icmp .ne 7, 3) := by decide +kernel
theorem dX6_lays_22 : decode cX6_lays 22 = .ok (.iconst 5, 1) := by decide +kernel
theorem dX6_lays_23 : decode cX6_lays 23 = .ok (.goto 4, 3) := by decide +kernel
theorem dX6_lays_26 : decode cX6_lays 26 = .ok (.iconst 0, 1) := by decide +kernel
theorem dX6_lays_27 : decode cX6_lays 27 = .ok (.iastore, 1) := by decide +kernel
theorem dX6_lays_28 : decode cX6_lays 28 = .ok (.iinc 4 1, 3) := by decide +kernel
theorem dX6_lays_31 : decode cX6_lays 31 = .ok (.goto (-28), 3) := by decide +kernel
theorem dX6_lays_34 : decode cX6_lays 34 = .ok (.iconst 0, 1) := by decide +kernel
theorem dX6_lays_35 : decode cX6_lays 35 = .ok (.istore 4, 2) := by decide +kernel
theorem dX6_lays_37 : decode cX6_lays 37 = .ok (.iload 4, 2) := by decide +kernel
