theorem dX6_since_27 : decode cX6_since 27 = .ok (.iconst 0, 1) := by decide +kernel
theorem dX6_since_28 : decode cX6_since 28 = .ok (.istore 5, 2) := by decide +kernel
theorem dX6_since_30 : decode cX6_since 30 = .ok (.bipush 19, 2) := by decide +kernel
theorem dX6_since_32 : decode cX6_since 32 = .ok (.istore 6, 2) := by decide +kernel
theorem dX6_since_34 : decode cX6_since 34 = .ok (.iload 6, 2) := by decide +kernel
theorem dX6_since_36 : decode cX6_since 36 = .ok (.iload_n 2, 1) := by decide +kernel
theorem dX6_since_37 : decode cX6_since 37 = .ok (.if_icmp .lt 48, 3) := by decide +kernel
theorem dX6_since_40 : decode cX6_since 40 = .ok (.aload_n 0, 1) := by decide +kernel
theorem dX6_since_41 : decode cX6_since 41 = .ok (.iload_n 1, 1) := by decide +kernel
theorem dX6_since_42 : decode cX6_since 42 = .ok (.iload_n 2, 1) := by decide +kernel
theorem dX6_since_43 : decode cX6_since 43 = .ok (.iload 6, 2) := by decide +kernel
theorem dX6_since_45 : decode cX6_since 45 = .ok (.invokevirtual 177, 3) := by decide +kernel
theorem dX6_since_48 : decode cX6_since 48 = .ok (.istore 7, 2) := by decide +kernel
theorem dX6_since_50 : decode cX6_since 50 = .ok (.iload 5, 2) := by decide +kernel
theorem dX6_since_52 : decode cX6_since 52 = .ok (.iload 7, 2) := by decide +kernel
theorem dX6_since_54 : decode cX6_since 54 = .ok (.ifCond .eq 7, 3) := by decide +kernel
theorem dX6_since_57 : decode cX6_since 57 = .ok (.iconst 1, 1) := by decide +kernel
theorem dX6_since_58 : decode cX6_since 58 = .ok (.goto 4, 3) := by decide +kernel
theorem dX6_since_61 : decode cX6_since 61 = .ok (.iconst 0, 1) := by decide +kernel
theorem dX6_since_62 : decode cX6_since 62 = .ok (.iadd, 1) := by decide +kernel
theorem dX6_since_63 : decode cX6_since 63 = .ok (.istore 5, 2) := by decide +kernel
theorem dX6_since_65 : decode cX6_since 65 = .ok (.iload 7, 2) := by decide +kernel
theorem dX6_since_67 : decode cX6_since 67 = .ok (.ifCond .eq 8, 3) := by decide +kernel
theorem dX6_since_70 : decode cX6_since 70 = .ok (.iload 6, 2) := by decide +kernel
theorem dX6_since_72 : decode cX6_since 72 = .ok (.goto 5, 3) := by decide +kernel
theorem dX6_since_75 : decode cX6_since 75 = .ok (.iload 4, 2) := by decide +kernel
theorem dX6_since_77 : decode cX6_since 77 = .ok (.istore 4, 2) := by decide +kernel
theorem dX6_since_79 : decode cX6_since 79 = .ok (.iinc 6 (-1), 3) := by decide +kernel
theorem dX6_since_82 : decode cX6_since 82 = .ok (.goto (-48), 3) := by decide +kernel
theorem dX6_since_85 : decode cX6_since 85 = .ok (.iload 4, 2) := by decide +kernel
theorem dX6_since_87 : decode cX6_since 87 = .ok (.bipush (-9), 2) := by decide +kernel
theorem dX6_since_89 : decode cX6_since 89 = .ok (.if_icmp .ne 8, 3) := by decide +kernel
theorem dX6_since_92 : decode cX6_since 92 = .ok (.bipush (-9), 2) := by decide +kernel
theorem dX6_since_94 : decode cX6_since 94 = .ok (.goto 11, 3) := by decide +kernel
theorem dX6_since_97 : decode cX6_since 97 = .ok (.aload_n 0, 1) := by decide +kernel
theorem dX6_since_98 : decode cX6_since 98 = .ok (.iload 4, 2) := by decide +kernel
theorem dX6_since_100 : decode cX6_since 100 = .ok (.iload 5, 2) := by decide +kernel
theorem dX6_since_102 : decode cX6_since 102 = .ok (.invokevirtual 187, 3) := by decide +kernel
theorem dX6_since_105 : decode cX6_since 105 = .ok (.ireturn, 1) := by decide +kernel
set_option maxRecDepth 20000 in
theorem ggX6_worst_X6_in : GoodIn wsX6_worst wsX6_in := goodIn_r _ [7] (by decide +kernel) (by decide +kernel)
set_option maxRecDepth 20000 in
theorem gX6_worst_X6_in : GoodIn wsX6_worst (va_wsS RX6 63 yX6_in wsX6_in) := goodIn_app (goodIn_of _ (by decide +kernel)) ggX6_worst_X6_in
set_option maxRecDepth 20000 in
theorem ggX6_worst_X6_live : GoodIn wsX6_worst wsX6_live := goodIn_r _ [11, 3, 43, 44, 45, 46, 47, 48, 49, 50, 51, 52, 53, 54, 55, 56, 57, 58, 59, 60] (by decide +kernel) (by decide +kernel)
set_option maxRecDepth 20000 in
theorem gX6_worst_X6_live : GoodIn wsX6_worst (wsV RX6 126 RX6 yX6_live wsX6_live) := goodIn_app (goodIn_of _ (by decide +kernel)) ggX6_worst_X6_live
set_option maxRecDepth 20000 in
theorem ggX6_worst_X6_differing : GoodIn wsX6_worst wsX6_differing := goodIn_r _ [15, 3, 16, 17, 18, 6, 19, 20, 21, 22, 23, 24, 25, 26, 27, 28, 29, 30, 31, 32, 33, 34, 43, 44, 45, 46, 47, 48, 49, 50, 51, 52, 53, 54, 55, 56, 57, 58, 59, 60] (by decide +kernel) (by decide +kernel)
set_option maxRecDepth 20000 in
theorem gX6_worst_X6_differing : GoodIn wsX6_worst (wsV RX6 184 RX6 yX6_differing wsX6_differing) := goodIn_app (goodIn_of _ (by decide +kernel)) ggX6_worst_X6_differing
set_option maxRecDepth 20000 in
theorem ggX6_worst_X6_bits : GoodIn wsX6_worst wsX6_bits := goodIn_r _ [37] (by decide +kernel) (by decide +kernel)
set_option maxRecDepth 20000 in
theorem gX6_worst_X6_bits : GoodIn wsX6_worst (va_wsS RX6 154 yX6_bits wsX6_bits) := goodIn_app (goodIn_of _ (by decide +kernel)) ggX6_worst_X6_bits
set_option maxRecDepth 20000 in
theorem ggX6_worst_X6_answer : GoodIn wsX6_worst wsX6_answer := goodIn_r _ [41, 42, 43, 44, 45, 46, 47, 48, 49, 50, 51, 52, 53, 54, 55, 56, 57, 58, 59, 60] (by decide +kernel) (by decide +kernel)
set_option maxRecDepth 20000 in
theorem gX6_worst_X6_answer : GoodIn wsX6_worst (wsV RX6 187 RX6 yX6_answer wsX6_answer) := goodIn_app (goodIn_of _ (by decide +kernel)) ggX6_worst_X6_answer
theorem dX6_worst_0 : decode cX6_worst 0 = .ok (.iload_n 1, 1) := by decide +kernel
theorem dX6_worst_1 : decode cX6_worst 1 = .ok (.i2l, 1) := by decide +kernel
theorem dX6_worst_2 : decode cX6_worst 2 = .ok (.ldc2_w 109, 3) := by decide +kernel
theorem dX6_worst_5 : decode cX6_worst 5 = .ok (.ldc2_w 111, 3) := by decide +kernel
theorem dX6_worst_8 : decode cX6_worst 8 = .ok (.invokestatic 63, 3) := by decide +kernel
theorem dX6_worst_11 : decode cX6_worst 11 = .ok (.ifCond .ne 5, 3) := by decide +kernel
theorem dX6_worst_14 : decode cX6_worst 14 = .ok (.iconst (-1), 1) := by decide +kernel
theorem dX6_worst_15 : decode cX6_worst 15 = .ok (.ireturn, 1) := by decide +kernel
theorem dX6_worst_16 : decode cX6_worst 16 = .ok (.aload_n 0, 1) := by decide +kernel
theorem dX6_worst_17 : decode cX6_worst 17 = .ok (.getfield 22, 3) := by decide +kernel
theorem dX6_worst_20 : decode cX6_worst 20 = .ok (.iconst 0, 1) := by decide +kernel
theorem dX6_worst_21 : decode cX6_worst 21 = .ok (.iaload, 1) := by decide +kernel
theorem dX6_worst_22 : decode cX6_worst 22 = .ok (.ifCond .ne 6, 3) := by decide +kernel
theorem dX6_worst_25 : decode cX6_worst 25 = .ok (.bipush (-4), 2) := by decide +kernel
theorem dX6_worst_27 : decode cX6_worst 27 = .ok (.ireturn, 1) := by decide +kernel
theorem dX6_worst_28 : decode cX6_worst 28 = .ok (.iconst 0, 1) := by decide +kernel
theorem dX6_worst_29 : decode cX6_worst 29 = .ok (.istore_n 2, 1) := by decide +kernel
theorem dX6_worst_30 : decode cX6_worst 30 = .ok (.iconst (-1), 1) := by decide +kernel
theorem dX6_worst_31 : decode cX6_worst 31 = .ok (.istore_n 3, 1) := by decide +kernel
theorem dX6_worst_32 : decode cX6_worst 32 = .ok (.iconst 1, 1) := by decide +kernel
theorem dX6_worst_33 : decode cX6_worst 33 = .ok (.istore 4, 2) := by decide +kernel
theorem dX6_worst_35 : decode cX6_worst 35 = .ok (.iload 4, 2) := by decide +kernel
theorem dX6_worst_37 : decode cX6_worst 37 = .ok (.iconst 5, 1) := by decide +kernel
theorem dX6_worst_38 : decode cX6_worst 38 = .ok (.if_icmp .ge 55, 3) := by decide +kernel
theorem dX6_worst_41 : decode cX6_worst 41 = .ok (.aload_n 0, 1) := by decide +kernel
theorem dX6_worst_42 : decode cX6_worst 42 = .ok (.iload 4, 2) := by decide +kernel
theorem dX6_worst_44 : decode cX6_worst 44 = .ok (.iconst 1, 1) := by decide +kernel
theorem dX6_worst_45 : decode cX6_worst 45 = .ok (.isub, 1) := by decide +kernel
theorem dX6_worst_46 : decode cX6_worst 46 = .ok (.iload 4, 2) := by decide +kernel
theorem dX6_worst_48 : decode cX6_worst 48 = .ok (.iload_n 1, 1) := by decide +kernel
theorem dX6_worst_49 : decode cX6_worst 49 = .ok (.aload_n 0, 1) := by decide +kernel
theorem dX6_worst_50 : decode cX6_worst 50 = .ok (.invokevirtual 126, 3) := by decide +kernel
theorem dX6_worst_53 : decode cX6_worst 53 = .ok (.invokevirtual 184, 3) := by decide +kernel
theorem dX6_worst_56 : decode cX6_worst 56 = .ok (.invokestatic 154, 3) := by decide +kernel
theorem dX6_worst_59 : decode cX6_worst 59 = .ok (.istore 5, 2) := by decide +kernel
theorem dX6_worst_61 : decode cX6_worst 61 = .ok (.iload 5, 2) := by decide +kernel
theorem dX6_worst_63 : decode cX6_worst 63 = .ok (.iload_n 3, 1) := by decide +kernel
theorem dX6_worst_64 : decode cX6_worst 64 = .ok (.if_icmp .le 8, 3) := by decide +kernel
theorem dX6_worst_67 : decode cX6_worst 67 = .ok (.iload 4, 2) := by decide +kernel
theorem dX6_worst_69 : decode cX6_worst 69 = .ok (.goto 4, 3) := by decide +kernel
theorem dX6_worst_72 : decode cX6_worst 72 = .ok (.iload_n 2, 1) := by decide +kernel
theorem dX6_worst_73 : decode cX6_worst 73 = .ok (.istore_n 2, 1) := by decide +kernel
theorem dX6_worst_74 : decode cX6_worst 74 = .ok (.iload 5, 2) := by decide +kernel
theorem dX6_worst_76 : decode cX6_worst 76 = .ok (.iload_n 3, 1) := by decide +kernel
theorem dX6_worst_77 : decode cX6_worst 77 = .ok (.if_icmp .le 8, 3) := by decide +kernel
theorem dX6_worst_80 : decode cX6_worst 80 = .ok (.iload 5, 2) := by decide +kernel
theorem dX6_worst_82 : decode cX6_worst 82 = .ok (.goto 4, 3) := by decide +kernel
theorem dX6_worst_85 : decode cX6_worst 85 = .ok (.iload_n 3, 1) := by decide +kernel
theorem dX6_worst_86 : decode cX6_worst 86 = .ok (.istore_n 3, 1) := by decide +kernel
theorem dX6_worst_87 : decode cX6_worst 87 = .ok (.iinc 4 1, 3) := by decide +kernel
theorem dX6_worst_90 : decode cX6_worst 90 = .ok (.goto (-55), 3) := by decide +kernel
theorem dX6_worst_93 : decode cX6_worst 93 = .ok (.aload_n 0, 1) := by decide +kernel
theorem dX6_worst_94 : decode cX6_worst 94 = .ok (.iload_n 2, 1) := by decide +kernel
theorem dX6_worst_95 : decode cX6_worst 95 = .ok (.iload_n 3, 1) := by decide +kernel
theorem dX6_worst_96 : decode cX6_worst 96 = .ok (.invokevirtual 187, 3) := by decide +kernel
theorem dX6_worst_99 : decode cX6_worst 99 = .ok (.ireturn, 1) := by decide +kernel
set_option maxRecDepth 20000 in
theorem ggX6_source_X6_isTown : GoodIn wsX6_source wsX6_isTown := goodIn_r _ [6, 7, 8, 9, 5, 10] (by decide +kernel) (by decide +kernel)
set_option maxRecDepth 20000 in
theorem gX6_source_X6_isTown : GoodIn wsX6_source (va_wsS RX6 174 yX6_isTown wsX6_isTown) := goodIn_app (goodIn_of _ (by decide +kernel)) ggX6_source_X6_isTown
set_option maxRecDepth 20000 in
theorem ggX6_source_X6_isDay : GoodIn wsX6_source wsX6_isDay := goodIn_r _ [13, 14, 8, 9, 5, 10] (by decide +kernel) (by decide +kernel)
set_option maxRecDepth 20000 in
theorem gX6_source_X6_isDay : GoodIn wsX6_source (va_wsS RX6 165 yX6_isDay wsX6_isDay) := goodIn_app (goodIn_of _ (by decide +kernel)) ggX6_source_X6_isDay
set_option maxRecDepth 20000 in
theorem ggX6_source_X6_isPerson : GoodIn wsX6_source wsX6_isPerson := goodIn_r _ [18, 1, 8, 9, 5, 10, 45, 46, 47, 48, 49, 50, 51, 52, 53, 54, 55, 56, 57, 58, 59, 60, 61, 62] (by decide +kernel) (by decide +kernel)
set_option maxRecDepth 20000 in
theorem gX6_source_X6_isPerson : GoodIn wsX6_source (wsV RX6 141 RX6 yX6_isPerson wsX6_isPerson) := goodIn_app (goodIn_of _ (by decide +kernel)) ggX6_source_X6_isPerson
set_option maxRecDepth 20000 in
theorem ggX6_source_X6_doing : GoodIn wsX6_source wsX6_doing := goodIn_r _ [22, 2, 23, 24, 25, 5, 26, 27, 28, 29, 30, 1, 31, 32, 33, 34, 35, 36, 37, 38, 39, 40, 41, 42, 43, 44, 45, 46, 47, 48, 49, 50, 51, 52, 53, 54, 55, 56, 57, 58, 59, 60, 61, 62] (by decide +kernel) (by decide +kernel)
set_option maxRecDepth 20000 in
theorem gX6_source_X6_doing : GoodIn wsX6_source (wsV RX6 138 RX6 yX6_doing wsX6_doing) := goodIn_app (goodIn_of _ (by decide +kernel)) ggX6_source_X6_doing
set_option maxRecDepth 20000 in
theorem ggX6_source_X6_live : GoodIn wsX6_source wsX6_live := goodIn_r _ [30, 1, 45, 46, 47, 48, 49, 50, 51, 52, 53, 54, 55, 56, 57, 58, 59, 60, 61, 62] (by decide +kernel) (by decide +kernel)
set_option maxRecDepth 20000 in
theorem gX6_source_X6_live : GoodIn wsX6_source (wsV RX6 126 RX6 yX6_live wsX6_live) := goodIn_app (goodIn_of _ (by decide +kernel)) ggX6_source_X6_live
set_option maxRecDepth 20000 in
theorem ggX6_source_X6_has : GoodIn wsX6_source wsX6_has := goodIn_r _ [38] (by decide +kernel) (by decide +kernel)
set_option maxRecDepth 20000 in
theorem gX6_source_X6_has : GoodIn wsX6_source (va_wsS RX6 115 yX6_has wsX6_has) := goodIn_app (goodIn_of _ (by decide +kernel)) ggX6_source_X6_has
set_option maxRecDepth 20000 in
theorem ggX6_source_X6_lays : GoodIn wsX6_source wsX6_lays := goodIn_r _ [34, 35, 1, 2, 36, 37, 5, 38, 39, 40, 41, 42, 43, 44, 45, 46, 47, 48, 49, 50, 51, 52, 53, 54, 55, 56, 57, 58, 59, 60, 61, 62] (by decide +kernel) (by decide +kernel)
set_option maxRecDepth 20000 in
theorem gX6_source_X6_lays : GoodIn wsX6_source (wsV RX6 130 RX6 yX6_lays wsX6_lays) := goodIn_app (goodIn_of _ (by decide +kernel)) ggX6_source_X6_lays
theorem dX6_source_0 : decode cX6_source 0 = .ok (.iload_n 1, 1) := by decide +kernel
theorem dX6_source_1 : decode cX6_source 1 = .ok (.invokestatic 174, 3) := by decide +kernel
theorem dX6_source_4 : decode cX6_source 4 = .ok (.ifCond .eq 23, 3) := by decide +kernel
theorem dX6_source_7 : decode cX6_source 7 = .ok (.iload_n 2, 1) := by decide +kernel
theorem dX6_source_8 : decode cX6_source 8 = .ok (.invokestatic 165, 3) := by decide +kernel
theorem dX6_source_11 : decode cX6_source 11 = .ok (.ifCond .eq 16, 3) := by decide +kernel
theorem dX6_source_14 : decode cX6_source 14 = .ok (.aload_n 0, 1) := by decide +kernel
theorem dX6_source_15 : decode cX6_source 15 = .ok (.iload_n 3, 1) := by decide +kernel
theorem dX6_source_16 : decode cX6_source 16 = .ok (.invokevirtual 141, 3) := by decide +kernel
theorem dX6_source_19 : decode cX6_source 19 = .ok (.ifCond .eq 8, 3) := by decide +kernel
theorem dX6_source_22 : decode cX6_source 22 = .ok (.iload_n 2, 1) := by decide +kernel
theorem dX6_source_23 : decode cX6_source 23 = .ok (.iload_n 1, 1) := by decide +kernel
theorem dX6_source_24 : decode cX6_source 24 = .ok (.if_icmp .ge 5, 3) := by decide +kernel
theorem dX6_source_27 : decode cX6_source 27 = .ok (.iconst (-1), 1) := by decide +kernel
theorem dX6_source_28 : decode cX6_source 28 = .ok (.ireturn, 1) := by decide +kernel
theorem dX6_source_29 : decode cX6_source 29 = .ok (.aload_n 0, 1) := by decide +kernel
theorem dX6_source_30 : decode cX6_source 30 = .ok (.iload_n 3, 1) := by decide +kernel
theorem dX6_source_31 : decode cX6_source 31 = .ok (.iload_n 1, 1) := by decide +kernel
theorem dX6_source_32 : decode cX6_source 32 = .ok (.iload_n 2, 1) := by decide +kernel
theorem dX6_source_33 : decode cX6_source 33 = .ok (.invokevirtual 138, 3) := by decide +kernel
theorem dX6_source_36 : decode cX6_source 36 = .ok (.istore 4, 2) := by decide +kernel
theorem dX6_source_38 : decode cX6_source 38 = .ok (.aload_n 0, 1) := by decide +kernel
theorem dX6_source_39 : decode cX6_source 39 = .ok (.invokevirtual 126, 3) := by decide +kernel
theorem dX6_source_42 : decode cX6_source 42 = .ok (.istore 5, 2) := by decide +kernel
theorem dX6_source_44 : decode cX6_source 44 = .ok (.iconst 0, 1) := by decide +kernel
theorem dX6_source_45 : decode cX6_source 45 = .ok (.istore 6, 2) := by decide +kernel
theorem dX6_source_47 : decode cX6_source 47 = .ok (.iconst 0, 1) := by decide +kernel
theorem dX6_source_48 : decode cX6_source 48 = .ok (.istore 7, 2) := by decide +kernel
theorem dX6_source_50 : decode cX6_source 50 = .ok (.iload 7, 2) := by decide +kernel
theorem dX6_source_52 : decode cX6_source 52 = .ok (.aload_n 0, 1) := by decide +kernel
theorem dX6_source_53 : decode cX6_source 53 = .ok (.getfield 22, 3) := by decide +kernel
theorem dX6_source_56 : decode cX6_source 56 = .ok (.iconst 1, 1) := by decide +kernel
theorem dX6_source_57 : decode cX6_source 57 = .ok (.iaload, 1) := by decide +kernel
theorem dX6_source_58 : decode cX6_source 58 = .ok (.if_icmp .ge 63, 3) := by decide +kernel
theorem dX6_source_61 : decode cX6_source 61 = .ok (.iload 5, 2) := by decide +kernel
theorem dX6_source_63 : decode cX6_source 63 = .ok (.iload 7, 2) := by decide +kernel
theorem dX6_source_65 : decode cX6_source 65 = .ok (.invokestatic 115, 3) := by decide +kernel
theorem dX6_source_68 : decode cX6_source 68 = .ok (.ifCond .eq 47, 3) := by decide +kernel
theorem dX6_source_71 : decode cX6_source 71 = .ok (.aload_n 0, 1) := by decide +kernel
theorem dX6_source_72 : decode cX6_source 72 = .ok (.iload_n 3, 1) := by decide +kernel
theorem dX6_source_73 : decode cX6_source 73 = .ok (.iload 5, 2) := by decide +kernel
theorem dX6_source_75 : decode cX6_source 75 = .ok (.iconst 1, 1) := by decide +kernel
theorem dX6_source_76 : decode cX6_source 76 = .ok (.iload 7, 2) := by decide +kernel
theorem dX6_source_78 : decode cX6_source 78 = .ok (.ishl, 1) := by decide +kernel
theorem dX6_source_79 : decode cX6_source 79 = .ok (.iconst (-1), 1) := by decide +kernel
theorem dX6_source_80 : decode cX6_source 80 = .ok (.ixor, 1) := by decide +kernel
theorem dX6_source_81 : decode cX6_source 81 = .ok (.iand, 1) := by decide +kernel
theorem dX6_source_82 : decode cX6_source 82 = .ok (.iconst (-1), 1) := by decide +kernel
theorem dX6_source_83 : decode cX6_source 83 = .ok (.invokevirtual 130, 3) := by decide +kernel
theorem dX6_source_86 : decode cX6_source 86 = .ok (.iload 6, 2) := by decide +kernel
theorem dX6_source_88 : decode cX6_source 88 = .ok (.aload_n 0, 1) := by decide +kernel
theorem dX6_source_89 : decode cX6_source 89 = .ok (.getfield 45, 3) := by decide +kernel
theorem dX6_source_92 : decode cX6_source 92 = .ok (.bipush 20, 2) := by decide +kernel
theorem dX6_source_94 : decode cX6_source 94 = .ok (.iload_n 1, 1) := by decide +kernel
theorem dX6_source_95 : decode cX6_source 95 = .ok (.imul, 1) := by decide +kernel
theorem dX6_source_96 : decode cX6_source 96 = .ok (.iload_n 2, 1) := by decide +kernel
theorem dX6_source_97 : decode cX6_source 97 = .ok (.iadd, 1) := by decide +kernel
theorem dX6_source_98 : decode cX6_source 98 = .ok (.iaload, 1) := by decide +kernel
theorem dX6_source_99 : decode cX6_source 99 = .ok (.iload 4, 2) := by decide +kernel
theorem dX6_source_101 : decode cX6_source 101 = .ok (.if_icmp .eq 10, 3) := by decide +kernel
theorem dX6_source_104 : decode cX6_source 104 = .ok (.iconst 1, 1) := by decide +kernel
theorem dX6_source_105 : decode cX6_source 105 = .ok (.iload 7, 2) := by decide +kernel
theorem dX6_source_107 : decode cX6_source 107 = .ok (.ishl, 1) := by decide +kernel
theorem dX6_source_108 : decode cX6_source 108 = .ok (.goto 4, 3) := by decide +kernel
theorem dX6_source_111 : decode cX6_source 111 = .ok (.iconst 0, 1) := by decide +kernel
theorem dX6_source_112 : decode cX6_source 112 = .ok (.ior, 1) := by decide +kernel
theorem dX6_source_113 : decode cX6_source 113 = .ok (.istore 6, 2) := by decide +kernel
theorem dX6_source_115 : decode cX6_source 115 = .ok (.iinc 7 1, 3) := by decide +kernel
theorem dX6_source_118 : decode cX6_source 118 = .ok (.goto (-68), 3) := by decide +kernel
theorem dX6_source_121 : decode cX6_source 121 = .ok (.iload 6, 2) := by decide +kernel
theorem dX6_source_123 : decode cX6_source 123 = .ok (.ireturn, 1) := by decide +kernel
set_option maxRecDepth 20000 in
theorem ggX6_together_X6_isTown : GoodIn wsX6_together wsX6_isTown := goodIn_r _ [6, 7, 8, 9, 5, 10] (by decide +kernel) (by decide +kernel)
set_option maxRecDepth 20000 in
theorem gX6_together_X6_isTown : GoodIn wsX6_together (va_wsS RX6 174 yX6_isTown wsX6_isTown) := goodIn_app (goodIn_of _ (by decide +kernel)) ggX6_together_X6_isTown
set_option maxRecDepth 20000 in
theorem ggX6_together_X6_isPerson : GoodIn wsX6_together wsX6_isPerson := goodIn_r _ [14, 15, 8, 9, 5, 10, 43, 44, 45, 46, 47, 48, 49, 50, 51, 52, 53, 54, 55, 56, 57, 58, 59, 60] (by decide +kernel) (by decide +kernel)
set_option maxRecDepth 20000 in
theorem gX6_together_X6_isPerson : GoodIn wsX6_together (wsV RX6 141 RX6 yX6_isPerson wsX6_isPerson) := goodIn_app (goodIn_of _ (by decide +kernel)) ggX6_together_X6_isPerson
set_option maxRecDepth 20000 in
theorem ggX6_together_X6_layNow : GoodIn wsX6_together wsX6_layNow := goodIn_r _ [19, 20, 21, 22, 5, 23, 15, 24, 25, 26, 27, 28, 2, 29, 30, 31, 32, 33, 34, 35, 36, 37, 43, 44, 45, 46, 47, 48, 49, 50, 51, 52, 53, 54, 55, 56, 57, 58, 59, 60] (by decide +kernel) (by decide +kernel)
set_option maxRecDepth 20000 in
theorem gX6_together_X6_layNow : GoodIn wsX6_together (wsV RX6 134 RX6 yX6_layNow wsX6_layNow) := goodIn_app (goodIn_of _ (by decide +kernel)) ggX6_together_X6_layNow
set_option maxRecDepth 20000 in
theorem ggX6_together_X6_answer : GoodIn wsX6_together wsX6_answer := goodIn_r _ [41, 42, 43, 44, 45, 46, 47, 48, 49, 50, 51, 52, 53, 54, 55, 56, 57, 58, 59, 60] (by decide +kernel) (by decide +kernel)
set_option maxRecDepth 20000 in
theorem gX6_together_X6_answer : GoodIn wsX6_together (wsV RX6 187 RX6 yX6_answer wsX6_answer) := goodIn_app (goodIn_of _ (by decide +kernel)) ggX6_together_X6_answer
theorem dX6_together_0 : decode cX6_together 0 = .ok (.iload_n 1, 1) := by decide +kernel
theorem dX6_together_1 : decode cX6_together 1 = .ok (.invokestatic 174, 3) := by decide +kernel
theorem dX6_together_4 : decode cX6_together 4 = .ok (.ifCond .eq 24, 3) := by decide +kernel
theorem dX6_together_7 : decode cX6_together 7 = .ok (.aload_n 0, 1) := by decide +kernel
theorem dX6_together_8 : decode cX6_together 8 = .ok (.iload_n 2, 1) := by decide +kernel
theorem dX6_together_9 : decode cX6_together 9 = .ok (.invokevirtual 141, 3) := by decide +kernel
theorem dX6_together_12 : decode cX6_together 12 = .ok (.ifCond .eq 16, 3) := by decide +kernel
theorem dX6_together_15 : decode cX6_together 15 = .ok (.aload_n 0, 1) := by decide +kernel
theorem dX6_together_16 : decode cX6_together 16 = .ok (.iload_n 3, 1) := by decide +kernel
theorem dX6_together_17 : decode cX6_together 17 = .ok (.invokevirtual 141, 3) := by decide +kernel
theorem dX6_together_20 : decode cX6_together 20 = .ok (.ifCond .eq 8, 3) := by decide +kernel
theorem dX6_together_23 : decode cX6_together 23 = .ok (.iload_n 2, 1) := by decide +kernel
theorem dX6_together_24 : decode cX6_together 24 = .ok (.iload_n 3, 1) := by decide +kernel
theorem dX6_together_25 : decode cX6_together 25 = .ok (.if_icmp .ne 5, 3) := by decide +kernel
theorem dX6_together_28 : decode cX6_together 28 = .ok (.iconst (-1), 1) := by decide +kernel
theorem dX6_together_29 : decode cX6_together 29 = .ok (.ireturn, 1) := by decide +kernel
theorem dX6_together_30 : decode cX6_together 30 = .ok (.aload_n 0, 1) := by decide +kernel
theorem dX6_together_31 : decode cX6_together 31 = .ok (.iload_n 2, 1) := by decide +kernel
theorem dX6_together_32 : decode cX6_together 32 = .ok (.invokevirtual 134, 3) := by decide +kernel
theorem dX6_together_35 : decode cX6_together 35 = .ok (.iconst 0, 1) := by decide +kernel
theorem dX6_together_36 : decode cX6_together 36 = .ok (.istore 4, 2) := by decide +kernel
theorem dX6_together_38 : decode cX6_together 38 = .ok (.iload 4, 2) := by decide +kernel
theorem dX6_together_40 : decode cX6_together 40 = .ok (.bipush 100, 2) := by decide +kernel
theorem dX6_together_42 : decode cX6_together 42 = .ok (.if_icmp .ge 23, 3) := by decide +kernel
theorem dX6_together_45 : decode cX6_together 45 = .ok (.aload_n 0, 1) := by decide +kernel
theorem dX6_together_46 : decode cX6_together 46 = .ok (.getfield 48, 3) := by decide +kernel
theorem dX6_together_49 : decode cX6_together 49 = .ok (.iload 4, 2) := by decide +kernel
theorem dX6_together_51 : decode cX6_together 51 = .ok (.aload_n 0, 1) := by decide +kernel
theorem dX6_together_52 : decode cX6_together 52 = .ok (.getfield 45, 3) := by decide +kernel
theorem dX6_together_55 : decode cX6_together 55 = .ok (.iload 4, 2) := by decide +kernel
theorem dX6_together_57 : decode cX6_together 57 = .ok (.iaload, 1) := by decide +kernel
theorem dX6_together_58 : decode cX6_together 58 = .ok (.iastore, 1) := by decide +kernel
theorem dX6_together_59 : decode cX6_together 59 = .ok (.iinc 4 1, 3) := by decide +kernel
theorem dX6_together_62 : decode cX6_together 62 = .ok (.goto (-24), 3) := by decide +kernel
theorem dX6_together_65 : decode cX6_together 65 = .ok (.aload_n 0, 1) := by decide +kernel
theorem dX6_together_66 : decode cX6_together 66 = .ok (.iload_n 3, 1) := by decide +kernel
theorem dX6_together_67 : decode cX6_together 67 = .ok (.invokevirtual 134, 3) := by decide +kernel
theorem dX6_together_70 : decode cX6_together 70 = .ok (.bipush (-9), 2) := by decide +kernel
theorem dX6_together_72 : decode cX6_together 72 = .ok (.istore 4, 2) := by decide +kernel
theorem dX6_together_74 : decode cX6_together 74 = .ok (.iconst 0, 1) := by decide +kernel
theorem dX6_together_75 : decode cX6_together 75 = .ok (.istore 5, 2) := by decide +kernel
theorem dX6_together_77 : decode cX6_together 77 = .ok (.bipush 19, 2) := by decide +kernel
theorem dX6_together_79 : decode cX6_together 79 = .ok (.istore 6, 2) := by decide +kernel
theorem dX6_together_81 : decode cX6_together 81 = .ok (.iload 6, 2) := by decide +kernel
theorem dX6_together_83 : decode cX6_together 83 = .ok (.iload_n 1, 1) := by decide +kernel
theorem dX6_together_84 : decode cX6_together 84 = .ok (.if_icmp .lt 72, 3) := by decide +kernel
theorem dX6_together_87 : decode cX6_together 87 = .ok (.aload_n 0, 1) := by decide +kernel
theorem dX6_together_88 : decode cX6_together 88 = .ok (.getfield 45, 3) := by decide +kernel
theorem dX6_together_91 : decode cX6_together 91 = .ok (.bipush 20, 2) := by decide +kernel
theorem dX6_together_93 : decode cX6_together 93 = .ok (.iload_n 1, 1) := by decide +kernel
theorem dX6_together_94 : decode cX6_together 94 = .ok (.imul, 1) := by decide +kernel
theorem dX6_together_95 : decode cX6_together 95 = .ok (.iload 6, 2) := by decide +kernel
theorem dX6_together_97 : decode cX6_together 97 = .ok (.iadd, 1) := by decide +kernel
theorem dX6_together_98 : decode cX6_together 98 = .ok (.iaload, 1) := by decide +kernel
theorem dX6_together_99 : decode cX6_together 99 = .ok (.aload_n 0, 1) := by decide +kernel
theorem dX6_together_100 : decode cX6_together 100 = .ok (.getfield 48, 3) := by decide +kernel
theorem dX6_together_103 : decode cX6_together 103 = .ok (.bipush 20, 2) := by decide +kernel
theorem dX6_together_105 : decode cX6_together 105 = .ok (.iload_n 1, 1) := by decide +kernel
theorem dX6_together_106 : decode cX6_together 106 = .ok (.imul, 1) := by decide +kernel
theorem dX6_together_107 : decode cX6_together 107 = .ok (.iload 6, 2) := by decide +kernel
theorem dX6_together_109 : decode cX6_together 109 = .ok (.iadd, 1) := by decide +kernel
theorem dX6_together_110 : decode cX6_together 110 = .ok (.iaload, 1) := by decide +kernel
theorem dX6_together_111 : decode cX6_together 111 = .ok (.if_icmp .ne 7, 3) := by decide +kernel
theorem dX6_together_114 : decode cX6_together 114 = .ok (.iconst 1, 1) := by decide +kernel
theorem dX6_together_115 : decode cX6_together 115 = .ok (.goto 4, 3) := by decide +kernel
theorem dX6_together_118 : decode cX6_together 118 = .ok (.iconst 0, 1) := by decide +kernel
theorem dX6_together_119 : decode cX6_together 119 = .ok (.istore 7, 2) := by decide +kernel
theorem dX6_together_121 : decode cX6_together 121 = .ok (.iload 5, 2) := by decide +kernel
theorem dX6_together_123 : decode cX6_together 123 = .ok (.iload 7, 2) := by decide +kernel
theorem dX6_together_125 : decode cX6_together 125 = .ok (.ifCond .eq 7, 3) := by decide +kernel
theorem dX6_together_128 : decode cX6_together 128 = .ok (.iconst 1, 1) := by decide +kernel
theorem dX6_together_129 : decode cX6_together 129 = .ok (.goto 4, 3) := by decide +kernel
theorem dX6_together_132 : decode cX6_together 132 = .ok (.iconst 0, 1) := by decide +kernel
theorem dX6_together_133 : decode cX6_together 133 = .ok (.iadd, 1) := by decide +kernel
theorem dX6_together_134 : decode cX6_together 134 = .ok (.istore 5, 2) := by decide +kernel
theorem dX6_together_136 : decode cX6_together 136 = .ok (.iload 7, 2) := by decide +kernel
theorem dX6_together_138 : decode cX6_together 138 = .ok (.ifCond .eq 8, 3) := by decide +kernel
theorem dX6_together_141 : decode cX6_together 141 = .ok (.iload 6, 2) := by decide +kernel
theorem dX6_together_143 : decode cX6_together 143 = .ok (.goto 5, 3) := by decide +kernel
theorem dX6_together_146 : decode cX6_together 146 = .ok (.iload 4, 2) := by decide +kernel
theorem dX6_together_148 : decode cX6_together 148 = .ok (.istore 4, 2) := by decide +kernel
theorem dX6_together_150 : decode cX6_together 150 = .ok (.iinc 6 (-1), 3) := by decide +kernel
theorem dX6_together_153 : decode cX6_together 153 = .ok (.goto (-72), 3) := by decide +kernel
theorem dX6_together_156 : decode cX6_together 156 = .ok (.aload_n 0, 1) := by decide +kernel
theorem dX6_together_157 : decode cX6_together 157 = .ok (.iload 5, 2) := by decide +kernel
theorem dX6_together_159 : decode cX6_together 159 = .ok (.iload 4, 2) := by decide +kernel
theorem dX6_together_161 : decode cX6_together 161 = .ok (.invokevirtual 187, 3) := by decide +kernel
theorem dX6_together_164 : decode cX6_together 164 = .ok (.ireturn, 1) := by decide +kernel
set_option maxRecDepth 20000 in
theorem ggX6_warn_X6_in : GoodIn wsX6_warn wsX6_in := goodIn_r _ [7] (by decide +kernel) (by decide +kernel)
set_option maxRecDepth 20000 in
theorem gX6_warn_X6_in : GoodIn wsX6_warn (va_wsS RX6 63 yX6_in wsX6_in) := goodIn_app (goodIn_of _ (by decide +kernel)) ggX6_warn_X6_in
set_option maxRecDepth 20000 in
theorem ggX6_warn_X6_isDay : GoodIn wsX6_warn wsX6_isDay := goodIn_r _ [10, 11, 4, 5, 6, 7] (by decide +kernel) (by decide +kernel)
set_option maxRecDepth 20000 in
theorem gX6_warn_X6_isDay : GoodIn wsX6_warn (va_wsS RX6 165 yX6_isDay wsX6_isDay) := goodIn_app (goodIn_of _ (by decide +kernel)) ggX6_warn_X6_isDay
set_option maxRecDepth 20000 in
theorem ggX6_warn_X6_isPerson : GoodIn wsX6_warn wsX6_isPerson := goodIn_r _ [15, 2, 4, 5, 6, 7, 51, 52, 53, 54, 55, 56, 57, 58, 59, 60, 61, 62, 63, 64, 65, 66, 67, 68] (by decide +kernel) (by decide +kernel)
set_option maxRecDepth 20000 in
theorem gX6_warn_X6_isPerson : GoodIn wsX6_warn (wsV RX6 141 RX6 yX6_isPerson wsX6_isPerson) := goodIn_app (goodIn_of _ (by decide +kernel)) ggX6_warn_X6_isPerson
set_option maxRecDepth 20000 in
theorem ggX6_warn_X6_isDeed : GoodIn wsX6_warn wsX6_isDeed := goodIn_r _ [18, 19, 4, 5, 6, 7] (by decide +kernel) (by decide +kernel)
set_option maxRecDepth 20000 in
theorem gX6_warn_X6_isDeed : GoodIn wsX6_warn (va_wsS RX6 151 yX6_isDeed wsX6_isDeed) := goodIn_app (goodIn_of _ (by decide +kernel)) ggX6_warn_X6_isDeed
set_option maxRecDepth 20000 in
theorem ggX6_warn_X6_doing : GoodIn wsX6_warn wsX6_doing := goodIn_r _ [23, 3, 24, 25, 26, 6, 27, 28, 29, 30, 31, 2, 32, 33, 34, 35, 36, 37, 38, 39, 40, 41, 42, 43, 44, 45, 51, 52, 53, 54, 55, 56, 57, 58, 59, 60, 61, 62, 63, 64, 65, 66, 67, 68] (by decide +kernel) (by decide +kernel)
set_option maxRecDepth 20000 in
theorem gX6_warn_X6_doing : GoodIn wsX6_warn (wsV RX6 138 RX6 yX6_doing wsX6_doing) := goodIn_app (goodIn_of _ (by decide +kernel)) ggX6_warn_X6_doing
set_option maxRecDepth 20000 in
theorem ggX6_warn_X6_live : GoodIn wsX6_warn wsX6_live := goodIn_r _ [31, 2, 51, 52, 53, 54, 55, 56, 57, 58, 59, 60, 61, 62, 63, 64, 65, 66, 67, 68] (by decide +kernel) (by decide +kernel)
set_option maxRecDepth 20000 in
theorem gX6_warn_X6_live : GoodIn wsX6_warn (wsV RX6 126 RX6 yX6_live wsX6_live) := goodIn_app (goodIn_of _ (by decide +kernel)) ggX6_warn_X6_live
set_option maxRecDepth 20000 in
theorem ggX6_warn_X6_lays : GoodIn wsX6_warn wsX6_lays := goodIn_r _ [35, 36, 2, 3, 37, 38, 6, 39, 40, 41, 42, 43, 44, 45, 51, 52, 53, 54, 55, 56, 57, 58, 59, 60, 61, 62, 63, 64, 65, 66, 67, 68] (by decide +kernel) (by decide +kernel)
set_option maxRecDepth 20000 in
theorem gX6_warn_X6_lays : GoodIn wsX6_warn (wsV RX6 130 RX6 yX6_lays wsX6_lays) := goodIn_app (goodIn_of _ (by decide +kernel)) ggX6_warn_X6_lays
set_option maxRecDepth 20000 in
theorem ggX6_warn_X6_answer : GoodIn wsX6_warn wsX6_answer := goodIn_r _ [49, 50, 51, 52, 53, 54, 55, 56, 57, 58, 59, 60, 61, 62, 63, 64, 65, 66, 67, 68] (by decide +kernel) (by decide +kernel)
set_option maxRecDepth 20000 in
theorem gX6_warn_X6_answer : GoodIn wsX6_warn (wsV RX6 187 RX6 yX6_answer wsX6_answer) := goodIn_app (goodIn_of _ (by decide +kernel)) ggX6_warn_X6_answer
theorem dX6_warn_0 : decode cX6_warn 0 = .ok (.iload_n 1, 1) := by decide +kernel
theorem dX6_warn_1 : decode cX6_warn 1 = .ok (.i2l, 1) := by decide +kernel
theorem dX6_warn_2 : decode cX6_warn 2 = .ok (.lconst 1, 1) := by decide +kernel
theorem dX6_warn_3 : decode cX6_warn 3 = .ok (.ldc2_w 109, 3) := by decide +kernel
theorem dX6_warn_6 : decode cX6_warn 6 = .ok (.invokestatic 63, 3) := by decide +kernel
theorem dX6_warn_9 : decode cX6_warn 9 = .ok (.ifCond .eq 26, 3) := by decide +kernel
theorem dX6_warn_12 : decode cX6_warn 12 = .ok (.iload_n 2, 1) := by decide +kernel
theorem dX6_warn_13 : decode cX6_warn 13 = .ok (.invokestatic 165, 3) := by decide +kernel
theorem dX6_warn_16 : decode cX6_warn 16 = .ok (.ifCond .eq 19, 3) := by decide +kernel
theorem dX6_warn_19 : decode cX6_warn 19 = .ok (.aload_n 0, 1) := by decide +kernel
theorem dX6_warn_20 : decode cX6_warn 20 = .ok (.iload_n 3, 1) := by decide +kernel
theorem dX6_warn_21 : decode cX6_warn 21 = .ok (.invokevirtual 141, 3) := by decide +kernel
theorem dX6_warn_24 : decode cX6_warn 24 = .ok (.ifCond .eq 11, 3) := by decide +kernel
theorem dX6_warn_27 : decode cX6_warn 27 = .ok (.iload 4, 2) := by decide +kernel
theorem dX6_warn_29 : decode cX6_warn 29 = .ok (.invokestatic 151, 3) := by decide +kernel
theorem dX6_warn_32 : decode cX6_warn 32 = .ok (.ifCond .ne 5, 3) := by decide +kernel
theorem dX6_warn_35 : decode cX6_warn 35 = .ok (.iconst (-1), 1) := by decide +kernel
theorem dX6_warn_36 : decode cX6_warn 36 = .ok (.ireturn, 1) := by decide +kernel
theorem dX6_warn_37 : decode cX6_warn 37 = .ok (.aload_n 0, 1) := by decide +kernel
theorem dX6_warn_38 : decode cX6_warn 38 = .ok (.iload_n 3, 1) := by decide +kernel
theorem dX6_warn_39 : decode cX6_warn 39 = .ok (.iload_n 1, 1) := by decide +kernel
theorem dX6_warn_40 : decode cX6_warn 40 = .ok (.iload_n 2, 1) := by decide +kernel
theorem dX6_warn_41 : decode cX6_warn 41 = .ok (.invokevirtual 138, 3) := by decide +kernel
theorem dX6_warn_44 : decode cX6_warn 44 = .ok (.iload 4, 2) := by decide +kernel
theorem dX6_warn_46 : decode cX6_warn 46 = .ok (.if_icmp .eq 6, 3) := by decide +kernel
theorem dX6_warn_49 : decode cX6_warn 49 = .ok (.bipush (-9), 2) := by decide +kernel
theorem dX6_warn_51 : decode cX6_warn 51 = .ok (.ireturn, 1) := by decide +kernel
theorem dX6_warn_52 : decode cX6_warn 52 = .ok (.aload_n 0, 1) := by decide +kernel
theorem dX6_warn_53 : decode cX6_warn 53 = .ok (.getfield 22, 3) := by decide +kernel
theorem dX6_warn_56 : decode cX6_warn 56 = .ok (.iconst 2, 1) := by decide +kernel
theorem dX6_warn_57 : decode cX6_warn 57 = .ok (.iaload, 1) := by decide +kernel
theorem dX6_warn_58 : decode cX6_warn 58 = .ok (.istore 5, 2) := by decide +kernel
theorem dX6_warn_60 : decode cX6_warn 60 = .ok (.iload 5, 2) := by decide +kernel
theorem dX6_warn_62 : decode cX6_warn 62 = .ok (.iload_n 2, 1) := by decide +kernel
theorem dX6_warn_63 : decode cX6_warn 63 = .ok (.if_icmp .gt 66, 3) := by decide +kernel
theorem dX6_warn_66 : decode cX6_warn 66 = .ok (.iconst 1, 1) := by decide +kernel
theorem dX6_warn_67 : decode cX6_warn 67 = .ok (.istore 6, 2) := by decide +kernel
theorem dX6_warn_69 : decode cX6_warn 69 = .ok (.iload 6, 2) := by decide +kernel
theorem dX6_warn_71 : decode cX6_warn 71 = .ok (.iload_n 1, 1) := by decide +kernel
theorem dX6_warn_72 : decode cX6_warn 72 = .ok (.if_icmp .gt 51, 3) := by decide +kernel
theorem dX6_warn_75 : decode cX6_warn 75 = .ok (.aload_n 0, 1) := by decide +kernel
theorem dX6_warn_76 : decode cX6_warn 76 = .ok (.iload_n 3, 1) := by decide +kernel
theorem dX6_warn_77 : decode cX6_warn 77 = .ok (.aload_n 0, 1) := by decide +kernel
theorem dX6_warn_78 : decode cX6_warn 78 = .ok (.invokevirtual 126, 3) := by decide +kernel
theorem dX6_warn_81 : decode cX6_warn 81 = .ok (.bipush 20, 2) := by decide +kernel
theorem dX6_warn_83 : decode cX6_warn 83 = .ok (.iload 6, 2) := by decide +kernel
theorem dX6_warn_85 : decode cX6_warn 85 = .ok (.imul, 1) := by decide +kernel
theorem dX6_warn_86 : decode cX6_warn 86 = .ok (.iload 5, 2) := by decide +kernel
theorem dX6_warn_88 : decode cX6_warn 88 = .ok (.iadd, 1) := by decide +kernel
theorem dX6_warn_89 : decode cX6_warn 89 = .ok (.invokevirtual 130, 3) := by decide +kernel
theorem dX6_warn_92 : decode cX6_warn 92 = .ok (.aload_n 0, 1) := by decide +kernel
theorem dX6_warn_93 : decode cX6_warn 93 = .ok (.getfield 45, 3) := by decide +kernel
theorem dX6_warn_96 : decode cX6_warn 96 = .ok (.bipush 20, 2) := by decide +kernel
theorem dX6_warn_98 : decode cX6_warn 98 = .ok (.iload_n 1, 1) := by decide +kernel
theorem dX6_warn_99 : decode cX6_warn 99 = .ok (.imul, 1) := by decide +kernel
theorem dX6_warn_100 : decode cX6_warn 100 = .ok (.iload_n 2, 1) := by decide +kernel
theorem dX6_warn_101 : decode cX6_warn 101 = .ok (.iadd, 1) := by decide +kernel
theorem dX6_warn_102 : decode cX6_warn 102 = .ok (.iaload, 1) := by decide +kernel
theorem dX6_warn_103 : decode cX6_warn 103 = .ok (.iload 4, 2) := by decide +kernel
theorem dX6_warn_105 : decode cX6_warn 105 = .ok (.if_icmp .eq 12, 3) := by decide +kernel
theorem dX6_warn_108 : decode cX6_warn 108 = .ok (.aload_n 0, 1) := by decide +kernel
theorem dX6_warn_109 : decode cX6_warn 109 = .ok (.iload 5, 2) := by decide +kernel
theorem dX6_warn_111 : decode cX6_warn 111 = .ok (.iload 6, 2) := by decide +kernel
theorem dX6_warn_113 : decode cX6_warn 113 = .ok (.invokevirtual 187, 3) := by decide +kernel
theorem dX6_warn_116 : decode cX6_warn 116 = .ok (.ireturn, 1) := by decide +kernel
theorem dX6_warn_117 : decode cX6_warn 117 = .ok (.iinc 6 1, 3) := by decide +kernel
theorem dX6_warn_120 : decode cX6_warn 120 = .ok (.goto (-51), 3) := by decide +kernel
theorem dX6_warn_123 : decode cX6_warn 123 = .ok (.iinc 5 1, 3) := by decide +kernel
theorem dX6_warn_126 : decode cX6_warn 126 = .ok (.goto (-66), 3) := by decide +kernel
theorem dX6_warn_129 : decode cX6_warn 129 = .ok (.bipush (-9), 2) := by decide +kernel
theorem dX6_warn_131 : decode cX6_warn 131 = .ok (.ireturn, 1) := by decide +kernel
set_option maxRecDepth 20000 in
theorem ggX6_agree_X6_areTowns : GoodIn wsX6_agree wsX6_areTowns := goodIn_r _ [5] (by decide +kernel) (by decide +kernel)
set_option maxRecDepth 20000 in
theorem gX6_agree_X6_areTowns : GoodIn wsX6_agree (va_wsS RX6 181 yX6_areTowns wsX6_areTowns) := goodIn_app (goodIn_of _ (by decide +kernel)) ggX6_agree_X6_areTowns
set_option maxRecDepth 20000 in
theorem ggX6_agree_X6_in : GoodIn wsX6_agree wsX6_in := goodIn_r _ [8] (by decide +kernel) (by decide +kernel)
set_option maxRecDepth 20000 in
theorem gX6_agree_X6_in : GoodIn wsX6_agree (va_wsS RX6 63 yX6_in wsX6_in) := goodIn_app (goodIn_of _ (by decide +kernel)) ggX6_agree_X6_in
set_option maxRecDepth 20000 in
theorem ggX6_agree_X6_live : GoodIn wsX6_agree wsX6_live := goodIn_r _ [12, 13, 45, 46, 47, 48, 49, 50, 51, 52, 53, 54, 55, 56, 57, 58, 59, 60, 61, 62] (by decide +kernel) (by decide +kernel)
set_option maxRecDepth 20000 in
theorem gX6_agree_X6_live : GoodIn wsX6_agree (wsV RX6 126 RX6 yX6_live wsX6_live) := goodIn_app (goodIn_of _ (by decide +kernel)) ggX6_agree_X6_live
set_option maxRecDepth 20000 in
theorem ggX6_agree_X6_bits : GoodIn wsX6_agree wsX6_bits := goodIn_r _ [16] (by decide +kernel) (by decide +kernel)
set_option maxRecDepth 20000 in
theorem gX6_agree_X6_bits : GoodIn wsX6_agree (va_wsS RX6 154 yX6_bits wsX6_bits) := goodIn_app (goodIn_of _ (by decide +kernel)) ggX6_agree_X6_bits
set_option maxRecDepth 20000 in
theorem ggX6_agree_X6_differing : GoodIn wsX6_agree wsX6_differing := goodIn_r _ [20, 13, 21, 22, 23, 4, 24, 25, 26, 27, 28, 29, 30, 31, 32, 33, 34, 35, 36, 37, 38, 39, 45, 46, 47, 48, 49, 50, 51, 52, 53, 54, 55, 56, 57, 58, 59, 60, 61, 62] (by decide +kernel) (by decide +kernel)
set_option maxRecDepth 20000 in
theorem gX6_agree_X6_differing : GoodIn wsX6_agree (wsV RX6 184 RX6 yX6_differing wsX6_differing) := goodIn_app (goodIn_of _ (by decide +kernel)) ggX6_agree_X6_differing
set_option maxRecDepth 20000 in
theorem ggX6_agree_X6_answer : GoodIn wsX6_agree wsX6_answer := goodIn_r _ [43, 44, 45, 46, 47, 48, 49, 50, 51, 52, 53, 54, 55, 56, 57, 58, 59, 60, 61, 62] (by decide +kernel) (by decide +kernel)
set_option maxRecDepth 20000 in
theorem gX6_agree_X6_answer : GoodIn wsX6_agree (wsV RX6 187 RX6 yX6_answer wsX6_answer) := goodIn_app (goodIn_of _ (by decide +kernel)) ggX6_agree_X6_answer
theorem dX6_agree_0 : decode cX6_agree 0 = .ok (.iload_n 1, 1) := by decide +kernel
theorem dX6_agree_1 : decode cX6_agree 1 = .ok (.iload_n 2, 1) := by decide +kernel
theorem dX6_agree_2 : decode cX6_agree 2 = .ok (.invokestatic 181, 3) := by decide +kernel
theorem dX6_agree_5 : decode cX6_agree 5 = .ok (.ifCond .eq 16, 3) := by decide +kernel
theorem dX6_agree_8 : decode cX6_agree 8 = .ok (.iload_n 3, 1) := by decide +kernel
theorem dX6_agree_9 : decode cX6_agree 9 = .ok (.i2l, 1) := by decide +kernel
theorem dX6_agree_10 : decode cX6_agree 10 = .ok (.iload_n 2, 1) := by decide +kernel
theorem dX6_agree_11 : decode cX6_agree 11 = .ok (.i2l, 1) := by decide +kernel
theorem dX6_agree_12 : decode cX6_agree 12 = .ok (.ldc2_w 111, 3) := by decide +kernel
theorem dX6_agree_15 : decode cX6_agree 15 = .ok (.invokestatic 63, 3) := by decide +kernel
theorem dX6_agree_18 : decode cX6_agree 18 = .ok (.ifCond .ne 5, 3) := by decide +kernel
theorem dX6_agree_21 : decode cX6_agree 21 = .ok (.iconst (-1), 1) := by decide +kernel
theorem dX6_agree_22 : decode cX6_agree 22 = .ok (.ireturn, 1) := by decide +kernel
theorem dX6_agree_23 : decode cX6_agree 23 = .ok (.aload_n 0, 1) := by decide +kernel
theorem dX6_agree_24 : decode cX6_agree 24 = .ok (.invokevirtual 126, 3) := by decide +kernel
theorem dX6_agree_27 : decode cX6_agree 27 = .ok (.istore 4, 2) := by decide +kernel
theorem dX6_agree_29 : decode cX6_agree 29 = .ok (.bipush (-9), 2) := by decide +kernel
theorem dX6_agree_31 : decode cX6_agree 31 = .ok (.istore 5, 2) := by decide +kernel
theorem dX6_agree_33 : decode cX6_agree 33 = .ok (.iconst 0, 1) := by decide +kernel
theorem dX6_agree_34 : decode cX6_agree 34 = .ok (.istore 6, 2) := by decide +kernel
theorem dX6_agree_36 : decode cX6_agree 36 = .ok (.iload 6, 2) := by decide +kernel
theorem dX6_agree_38 : decode cX6_agree 38 = .ok (.iload 4, 2) := by decide +kernel
theorem dX6_agree_40 : decode cX6_agree 40 = .ok (.if_icmp .gt 77, 3) := by decide +kernel
theorem dX6_agree_43 : decode cX6_agree 43 = .ok (.iload 6, 2) := by decide +kernel
theorem dX6_agree_45 : decode cX6_agree 45 = .ok (.iload 4, 2) := by decide +kernel
theorem dX6_agree_47 : decode cX6_agree 47 = .ok (.iconst (-1), 1) := by decide +kernel
theorem dX6_agree_48 : decode cX6_agree 48 = .ok (.ixor, 1) := by decide +kernel
theorem dX6_agree_49 : decode cX6_agree 49 = .ok (.iand, 1) := by decide +kernel
theorem dX6_agree_50 : decode cX6_agree 50 = .ok (.ifCond .ne 27, 3) := by decide +kernel
theorem dX6_agree_53 : decode cX6_agree 53 = .ok (.iload 5, 2) := by decide +kernel
theorem dX6_agree_55 : decode cX6_agree 55 = .ok (.bipush (-9), 2) := by decide +kernel
theorem dX6_agree_57 : decode cX6_agree 57 = .ok (.if_icmp .eq 16, 3) := by decide +kernel
theorem dX6_agree_60 : decode cX6_agree 60 = .ok (.iload 6, 2) := by decide +kernel
theorem dX6_agree_62 : decode cX6_agree 62 = .ok (.invokestatic 154, 3) := by decide +kernel
theorem dX6_agree_65 : decode cX6_agree 65 = .ok (.iload 5, 2) := by decide +kernel
theorem dX6_agree_67 : decode cX6_agree 67 = .ok (.invokestatic 154, 3) := by decide +kernel
theorem dX6_agree_70 : decode cX6_agree 70 = .ok (.if_icmp .ge 7, 3) := by decide +kernel
theorem dX6_agree_73 : decode cX6_agree 73 = .ok (.iconst 1, 1) := by decide +kernel
theorem dX6_agree_74 : decode cX6_agree 74 = .ok (.goto 4, 3) := by decide +kernel
theorem dX6_agree_77 : decode cX6_agree 77 = .ok (.iconst 0, 1) := by decide +kernel
theorem dX6_agree_78 : decode cX6_agree 78 = .ok (.istore 7, 2) := by decide +kernel
theorem dX6_agree_80 : decode cX6_agree 80 = .ok (.iload 7, 2) := by decide +kernel
theorem dX6_agree_82 : decode cX6_agree 82 = .ok (.ifCond .eq 25, 3) := by decide +kernel
theorem dX6_agree_85 : decode cX6_agree 85 = .ok (.aload_n 0, 1) := by decide +kernel
theorem dX6_agree_86 : decode cX6_agree 86 = .ok (.iload_n 1, 1) := by decide +kernel
theorem dX6_agree_87 : decode cX6_agree 87 = .ok (.iload_n 2, 1) := by decide +kernel
theorem dX6_agree_88 : decode cX6_agree 88 = .ok (.iload_n 3, 1) := by decide +kernel
theorem dX6_agree_89 : decode cX6_agree 89 = .ok (.iload 4, 2) := by decide +kernel
theorem dX6_agree_91 : decode cX6_agree 91 = .ok (.iload 6, 2) := by decide +kernel
theorem dX6_agree_93 : decode cX6_agree 93 = .ok (.iconst (-1), 1) := by decide +kernel
theorem dX6_agree_94 : decode cX6_agree 94 = .ok (.ixor, 1) := by decide +kernel
theorem dX6_agree_95 : decode cX6_agree 95 = .ok (.iand, 1) := by decide +kernel
theorem dX6_agree_96 : decode cX6_agree 96 = .ok (.invokevirtual 184, 3) := by decide +kernel
theorem dX6_agree_99 : decode cX6_agree 99 = .ok (.ifCond .ne 8, 3) := by decide +kernel
theorem dX6_agree_102 : decode cX6_agree 102 = .ok (.iload 6, 2) := by decide +kernel
theorem dX6_agree_104 : decode cX6_agree 104 = .ok (.goto 5, 3) := by decide +kernel
theorem dX6_agree_107 : decode cX6_agree 107 = .ok (.iload 5, 2) := by decide +kernel
theorem dX6_agree_109 : decode cX6_agree 109 = .ok (.istore 5, 2) := by decide +kernel
theorem dX6_agree_111 : decode cX6_agree 111 = .ok (.iinc 6 1, 3) := by decide +kernel
theorem dX6_agree_114 : decode cX6_agree 114 = .ok (.goto (-78), 3) := by decide +kernel
theorem dX6_agree_117 : decode cX6_agree 117 = .ok (.iload 5, 2) := by decide +kernel
theorem dX6_agree_119 : decode cX6_agree 119 = .ok (.bipush (-9), 2) := by decide +kernel
theorem dX6_agree_121 : decode cX6_agree 121 = .ok (.if_icmp .ne 8, 3) := by decide +kernel
theorem dX6_agree_124 : decode cX6_agree 124 = .ok (.bipush (-9), 2) := by decide +kernel
theorem dX6_agree_126 : decode cX6_agree 126 = .ok (.goto 14, 3) := by decide +kernel
theorem dX6_agree_129 : decode cX6_agree 129 = .ok (.aload_n 0, 1) := by decide +kernel
theorem dX6_agree_130 : decode cX6_agree 130 = .ok (.iload 5, 2) := by decide +kernel
theorem dX6_agree_132 : decode cX6_agree 132 = .ok (.invokestatic 154, 3) := by decide +kernel
theorem dX6_agree_135 : decode cX6_agree 135 = .ok (.iload 5, 2) := by decide +kernel
theorem dX6_agree_137 : decode cX6_agree 137 = .ok (.invokevirtual 187, 3) := by decide +kernel
theorem dX6_agree_140 : decode cX6_agree 140 = .ok (.ireturn, 1) := by decide +kernel
set_option maxRecDepth 20000 in
theorem ggX6_next_X6_isTown : GoodIn wsX6_next wsX6_isTown := goodIn_r _ [5, 6, 7, 8, 4, 9] (by decide +kernel) (by decide +kernel)
set_option maxRecDepth 20000 in
theorem gX6_next_X6_isTown : GoodIn wsX6_next (va_wsS RX6 174 yX6_isTown wsX6_isTown) := goodIn_app (goodIn_of _ (by decide +kernel)) ggX6_next_X6_isTown
set_option maxRecDepth 20000 in
theorem ggX6_next_X6_isDay : GoodIn wsX6_next wsX6_isDay := goodIn_r _ [12, 13, 7, 8, 4, 9] (by decide +kernel) (by decide +kernel)
set_option maxRecDepth 20000 in
theorem gX6_next_X6_isDay : GoodIn wsX6_next (va_wsS RX6 165 yX6_isDay wsX6_isDay) := goodIn_app (goodIn_of _ (by decide +kernel)) ggX6_next_X6_isDay
set_option maxRecDepth 20000 in
theorem ggX6_next_X6_isPerson : GoodIn wsX6_next wsX6_isPerson := goodIn_r _ [17, 18, 7, 8, 4, 9, 45, 46, 47, 48, 49, 50, 51, 52, 53, 54, 55, 56, 57, 58, 59, 60, 61, 62] (by decide +kernel) (by decide +kernel)
set_option maxRecDepth 20000 in
theorem gX6_next_X6_isPerson : GoodIn wsX6_next (wsV RX6 141 RX6 yX6_isPerson wsX6_isPerson) := goodIn_app (goodIn_of _ (by decide +kernel)) ggX6_next_X6_isPerson
set_option maxRecDepth 20000 in
theorem ggX6_next_X6_isDeed : GoodIn wsX6_next wsX6_isDeed := goodIn_r _ [21, 22, 7, 8, 4, 9] (by decide +kernel) (by decide +kernel)
set_option maxRecDepth 20000 in
theorem gX6_next_X6_isDeed : GoodIn wsX6_next (va_wsS RX6 151 yX6_isDeed wsX6_isDeed) := goodIn_app (goodIn_of _ (by decide +kernel)) ggX6_next_X6_isDeed
set_option maxRecDepth 20000 in
theorem ggX6_next_X6_layNow : GoodIn wsX6_next wsX6_layNow := goodIn_r _ [26, 27, 28, 29, 4, 30, 18, 31, 32, 33, 34, 35, 1, 36, 37, 38, 39, 40, 41, 42, 43, 44, 45, 46, 47, 48, 49, 50, 51, 52, 53, 54, 55, 56, 57, 58, 59, 60, 61, 62] (by decide +kernel) (by decide +kernel)
set_option maxRecDepth 20000 in
theorem gX6_next_X6_layNow : GoodIn wsX6_next (wsV RX6 134 RX6 yX6_layNow wsX6_layNow) := goodIn_app (goodIn_of _ (by decide +kernel)) ggX6_next_X6_layNow
theorem dX6_next_0 : decode cX6_next 0 = .ok (.iload_n 1, 1) := by decide +kernel
theorem dX6_next_1 : decode cX6_next 1 = .ok (.invokestatic 174, 3) := by decide +kernel
theorem dX6_next_4 : decode cX6_next 4 = .ok (.ifCond .eq 26, 3) := by decide +kernel
theorem dX6_next_7 : decode cX6_next 7 = .ok (.iload_n 2, 1) := by decide +kernel
theorem dX6_next_8 : decode cX6_next 8 = .ok (.invokestatic 165, 3) := by decide +kernel
theorem dX6_next_11 : decode cX6_next 11 = .ok (.ifCond .eq 19, 3) := by decide +kernel
theorem dX6_next_14 : decode cX6_next 14 = .ok (.aload_n 0, 1) := by decide +kernel
theorem dX6_next_15 : decode cX6_next 15 = .ok (.iload_n 3, 1) := by decide +kernel
theorem dX6_next_16 : decode cX6_next 16 = .ok (.invokevirtual 141, 3) := by decide +kernel
theorem dX6_next_19 : decode cX6_next 19 = .ok (.ifCond .eq 11, 3) := by decide +kernel
theorem dX6_next_22 : decode cX6_next 22 = .ok (.iload 4, 2) := by decide +kernel
theorem dX6_next_24 : decode cX6_next 24 = .ok (.invokestatic 151, 3) := by decide +kernel
theorem dX6_next_27 : decode cX6_next 27 = .ok (.ifCond .ne 5, 3) := by decide +kernel
theorem dX6_next_30 : decode cX6_next 30 = .ok (.iconst (-1), 1) := by decide +kernel
theorem dX6_next_31 : decode cX6_next 31 = .ok (.ireturn, 1) := by decide +kernel
theorem dX6_next_32 : decode cX6_next 32 = .ok (.aload_n 0, 1) := by decide +kernel
theorem dX6_next_33 : decode cX6_next 33 = .ok (.iload_n 3, 1) := by decide +kernel
theorem dX6_next_34 : decode cX6_next 34 = .ok (.invokevirtual 134, 3) := by decide +kernel
theorem dX6_next_37 : decode cX6_next 37 = .ok (.iload_n 2, 1) := by decide +kernel
theorem dX6_next_38 : decode cX6_next 38 = .ok (.istore 5, 2) := by decide +kernel
theorem dX6_next_40 : decode cX6_next 40 = .ok (.iload 5, 2) := by decide +kernel
theorem dX6_next_42 : decode cX6_next 42 = .ok (.bipush 20, 2) := by decide +kernel
theorem dX6_next_44 : decode cX6_next 44 = .ok (.if_icmp .ge 29, 3) := by decide +kernel
theorem dX6_next_47 : decode cX6_next 47 = .ok (.aload_n 0, 1) := by decide +kernel
theorem dX6_next_48 : decode cX6_next 48 = .ok (.getfield 45, 3) := by decide +kernel
theorem dX6_next_51 : decode cX6_next 51 = .ok (.bipush 20, 2) := by decide +kernel
theorem dX6_next_53 : decode cX6_next 53 = .ok (.iload_n 1, 1) := by decide +kernel
theorem dX6_next_54 : decode cX6_next 54 = .ok (.imul, 1) := by decide +kernel
theorem dX6_next_55 : decode cX6_next 55 = .ok (.iload 5, 2) := by decide +kernel
theorem dX6_next_57 : decode cX6_next 57 = .ok (.iadd, 1) := by decide +kernel
theorem dX6_next_58 : decode cX6_next 58 = .ok (.iaload, 1) := by decide +kernel
theorem dX6_next_59 : decode cX6_next 59 = .ok (.iload 4, 2) := by decide +kernel
theorem dX6_next_61 : decode cX6_next 61 = .ok (.if_icmp .ne 6, 3) := by decide +kernel
theorem dX6_next_64 : decode cX6_next 64 = .ok (.iload 5, 2) := by decide +kernel
theorem dX6_next_66 : decode cX6_next 66 = .ok (.ireturn, 1) := by decide +kernel
theorem dX6_next_67 : decode cX6_next 67 = .ok (.iinc 5 1, 3) := by decide +kernel
theorem dX6_next_70 : decode cX6_next 70 = .ok (.goto (-30), 3) := by decide +kernel
theorem dX6_next_73 : decode cX6_next 73 = .ok (.bipush (-9), 2) := by decide +kernel
theorem dX6_next_75 : decode cX6_next 75 = .ok (.ireturn, 1) := by decide +kernel
set_option maxRecDepth 20000 in
theorem ggX6_letter_X6_isTown : GoodIn wsX6_letter wsX6_isTown := goodIn_r _ [6, 7, 8, 9, 5, 10] (by decide +kernel) (by decide +kernel)
set_option maxRecDepth 20000 in
theorem gX6_letter_X6_isTown : GoodIn wsX6_letter (va_wsS RX6 174 yX6_isTown wsX6_isTown) := goodIn_app (goodIn_of _ (by decide +kernel)) ggX6_letter_X6_isTown
set_option maxRecDepth 20000 in
theorem ggX6_letter_X6_isPerson : GoodIn wsX6_letter wsX6_isPerson := goodIn_r _ [14, 15, 8, 9, 5, 10, 47, 48, 49, 50, 51, 52, 53, 54, 55, 56, 57, 58, 59, 60, 61, 62, 63, 64] (by decide +kernel) (by decide +kernel)
set_option maxRecDepth 20000 in
theorem gX6_letter_X6_isPerson : GoodIn wsX6_letter (wsV RX6 141 RX6 yX6_isPerson wsX6_isPerson) := goodIn_app (goodIn_of _ (by decide +kernel)) ggX6_letter_X6_isPerson
set_option maxRecDepth 20000 in
theorem ggX6_letter_X6_isDeed : GoodIn wsX6_letter wsX6_isDeed := goodIn_r _ [18, 19, 8, 9, 5, 10] (by decide +kernel) (by decide +kernel)
set_option maxRecDepth 20000 in
theorem gX6_letter_X6_isDeed : GoodIn wsX6_letter (va_wsS RX6 151 yX6_isDeed wsX6_isDeed) := goodIn_app (goodIn_of _ (by decide +kernel)) ggX6_letter_X6_isDeed
set_option maxRecDepth 20000 in
theorem ggX6_letter_X6_layNow : GoodIn wsX6_letter wsX6_layNow := goodIn_r _ [23, 24, 25, 26, 5, 27, 15, 28, 29, 30, 31, 32, 2, 33, 34, 35, 36, 37, 38, 39, 40, 41, 47, 48, 49, 50, 51, 52, 53, 54, 55, 56, 57, 58, 59, 60, 61, 62, 63, 64] (by decide +kernel) (by decide +kernel)
set_option maxRecDepth 20000 in
theorem gX6_letter_X6_layNow : GoodIn wsX6_letter (wsV RX6 134 RX6 yX6_layNow wsX6_layNow) := goodIn_app (goodIn_of _ (by decide +kernel)) ggX6_letter_X6_layNow
set_option maxRecDepth 20000 in
theorem ggX6_letter_X6_answer : GoodIn wsX6_letter wsX6_answer := goodIn_r _ [45, 46, 47, 48, 49, 50, 51, 52, 53, 54, 55, 56, 57, 58, 59, 60, 61, 62, 63, 64] (by decide +kernel) (by decide +kernel)
set_option maxRecDepth 20000 in
theorem gX6_letter_X6_answer : GoodIn wsX6_letter (wsV RX6 187 RX6 yX6_answer wsX6_answer) := goodIn_app (goodIn_of _ (by decide +kernel)) ggX6_letter_X6_answer
theorem dX6_letter_0 : decode cX6_letter 0 = .ok (.iload_n 1, 1) := by decide +kernel
theorem dX6_letter_1 : decode cX6_letter 1 = .ok (.invokestatic 174, 3) := by decide +kernel
theorem dX6_letter_4 : decode cX6_letter 4 = .ok (.ifCond .eq 18, 3) := by decide +kernel
theorem dX6_letter_7 : decode cX6_letter 7 = .ok (.aload_n 0, 1) := by decide +kernel
theorem dX6_letter_8 : decode cX6_letter 8 = .ok (.iload_n 2, 1) := by decide +kernel
theorem dX6_letter_9 : decode cX6_letter 9 = .ok (.invokevirtual 141, 3) := by decide +kernel
theorem dX6_letter_12 : decode cX6_letter 12 = .ok (.ifCond .eq 10, 3) := by decide +kernel
theorem dX6_letter_15 : decode cX6_letter 15 = .ok (.iload_n 3, 1) := by decide +kernel
theorem dX6_letter_16 : decode cX6_letter 16 = .ok (.invokestatic 151, 3) := by decide +kernel
theorem dX6_letter_19 : decode cX6_letter 19 = .ok (.ifCond .ne 5, 3) := by decide +kernel
theorem dX6_letter_22 : decode cX6_letter 22 = .ok (.iconst (-1), 1) := by decide +kernel
theorem dX6_letter_23 : decode cX6_letter 23 = .ok (.ireturn, 1) := by decide +kernel
theorem dX6_letter_24 : decode cX6_letter 24 = .ok (.aload_n 0, 1) := by decide +kernel
theorem dX6_letter_25 : decode cX6_letter 25 = .ok (.iload_n 2, 1) := by decide +kernel
theorem dX6_letter_26 : decode cX6_letter 26 = .ok (.invokevirtual 134, 3) := by decide +kernel
theorem dX6_letter_29 : decode cX6_letter 29 = .ok (.iconst 0, 1) := by decide +kernel
theorem dX6_letter_30 : decode cX6_letter 30 = .ok (.istore 4, 2) := by decide +kernel
theorem dX6_letter_32 : decode cX6_letter 32 = .ok (.iload 4, 2) := by decide +kernel
theorem dX6_letter_34 : decode cX6_letter 34 = .ok (.bipush 50, 2) := by decide +kernel
theorem dX6_letter_36 : decode cX6_letter 36 = .ok (.if_icmp .ge 17, 3) := by decide +kernel
theorem dX6_letter_39 : decode cX6_letter 39 = .ok (.aload_n 0, 1) := by decide +kernel
theorem dX6_letter_40 : decode cX6_letter 40 = .ok (.getfield 51, 3) := by decide +kernel
theorem dX6_letter_43 : decode cX6_letter 43 = .ok (.iload 4, 2) := by decide +kernel
theorem dX6_letter_45 : decode cX6_letter 45 = .ok (.iconst (-1), 1) := by decide +kernel
theorem dX6_letter_46 : decode cX6_letter 46 = .ok (.iastore, 1) := by decide +kernel
theorem dX6_letter_47 : decode cX6_letter 47 = .ok (.iinc 4 1, 3) := by decide +kernel
theorem dX6_letter_50 : decode cX6_letter 50 = .ok (.goto (-18), 3) := by decide +kernel
theorem dX6_letter_53 : decode cX6_letter 53 = .ok (.iload_n 1, 1) := by decide +kernel
theorem dX6_letter_54 : decode cX6_letter 54 = .ok (.istore 4, 2) := by decide +kernel
theorem dX6_letter_56 : decode cX6_letter 56 = .ok (.iload_n 3, 1) := by decide +kernel
theorem dX6_letter_57 : decode cX6_letter 57 = .ok (.istore 5, 2) := by decide +kernel
theorem dX6_letter_59 : decode cX6_letter 59 = .ok (.iconst 0, 1) := by decide +kernel
theorem dX6_letter_60 : decode cX6_letter 60 = .ok (.istore 6, 2) := by decide +kernel
theorem dX6_letter_62 : decode cX6_letter 62 = .ok (.aload_n 0, 1) := by decide +kernel
theorem dX6_letter_63 : decode cX6_letter 63 = .ok (.getfield 51, 3) := by decide +kernel
theorem dX6_letter_66 : decode cX6_letter 66 = .ok (.bipush 10, 2) := by decide +kernel
theorem dX6_letter_68 : decode cX6_letter 68 = .ok (.iload 4, 2) := by decide +kernel
theorem dX6_letter_70 : decode cX6_letter 70 = .ok (.imul, 1) := by decide +kernel
theorem dX6_letter_71 : decode cX6_letter 71 = .ok (.iload 5, 2) := by decide +kernel
theorem dX6_letter_73 : decode cX6_letter 73 = .ok (.iadd, 1) := by decide +kernel
theorem dX6_letter_74 : decode cX6_letter 74 = .ok (.iaload, 1) := by decide +kernel
theorem dX6_letter_75 : decode cX6_letter 75 = .ok (.ifCond .ge 50, 3) := by decide +kernel
theorem dX6_letter_78 : decode cX6_letter 78 = .ok (.aload_n 0, 1) := by decide +kernel
theorem dX6_letter_79 : decode cX6_letter 79 = .ok (.getfield 51, 3) := by decide +kernel
theorem dX6_letter_82 : decode cX6_letter 82 = .ok (.bipush 10, 2) := by decide +kernel
theorem dX6_letter_84 : decode cX6_letter 84 = .ok (.iload 4, 2) := by decide +kernel
theorem dX6_letter_86 : decode cX6_letter 86 = .ok (.imul, 1) := by decide +kernel
theorem dX6_letter_87 : decode cX6_letter 87 = .ok (.iload 5, 2) := by decide +kernel
theorem dX6_letter_89 : decode cX6_letter 89 = .ok (.iadd, 1) := by decide +kernel
theorem dX6_letter_90 : decode cX6_letter 90 = .ok (.iload 6, 2) := by decide +kernel
theorem dX6_letter_92 : decode cX6_letter 92 = .ok (.iastore, 1) := by decide +kernel
theorem dX6_letter_93 : decode cX6_letter 93 = .ok (.aload_n 0, 1) := by decide +kernel
theorem dX6_letter_94 : decode cX6_letter 94 = .ok (.getfield 45, 3) := by decide +kernel
theorem dX6_letter_97 : decode cX6_letter 97 = .ok (.bipush 20, 2) := by decide +kernel
theorem dX6_letter_99 : decode cX6_letter 99 = .ok (.iload 4, 2) := by decide +kernel
theorem dX6_letter_101 : decode cX6_letter 101 = .ok (.imul, 1) := by decide +kernel
theorem dX6_letter_102 : decode cX6_letter 102 = .ok (.bipush 10, 2) := by decide +kernel
theorem dX6_letter_104 : decode cX6_letter 104 = .ok (.iadd, 1) := by decide +kernel
theorem dX6_letter_105 : decode cX6_letter 105 = .ok (.iload 5, 2) := by decide +kernel
theorem dX6_letter_107 : decode cX6_letter 107 = .ok (.iadd, 1) := by decide +kernel
theorem dX6_letter_108 : decode cX6_letter 108 = .ok (.iaload, 1) := by decide +kernel
theorem dX6_letter_109 : decode cX6_letter 109 = .ok (.istore 5, 2) := by decide +kernel
theorem dX6_letter_111 : decode cX6_letter 111 = .ok (.iload 4, 2) := by decide +kernel
theorem dX6_letter_113 : decode cX6_letter 113 = .ok (.iconst 1, 1) := by decide +kernel
theorem dX6_letter_114 : decode cX6_letter 114 = .ok (.iadd, 1) := by decide +kernel
theorem dX6_letter_115 : decode cX6_letter 115 = .ok (.iconst 5, 1) := by decide +kernel
theorem dX6_letter_116 : decode cX6_letter 116 = .ok (.irem, 1) := by decide +kernel
theorem dX6_letter_117 : decode cX6_letter 117 = .ok (.istore 4, 2) := by decide +kernel
theorem dX6_letter_119 : decode cX6_letter 119 = .ok (.iinc 6 1, 3) := by decide +kernel
theorem dX6_letter_122 : decode cX6_letter 122 = .ok (.goto (-60), 3) := by decide +kernel
theorem dX6_letter_125 : decode cX6_letter 125 = .ok (.aload_n 0, 1) := by decide +kernel
theorem dX6_letter_126 : decode cX6_letter 126 = .ok (.iload 6, 2) := by decide +kernel
theorem dX6_letter_128 : decode cX6_letter 128 = .ok (.iload 6, 2) := by decide +kernel
theorem dX6_letter_130 : decode cX6_letter 130 = .ok (.aload_n 0, 1) := by decide +kernel
theorem dX6_letter_131 : decode cX6_letter 131 = .ok (.getfield 51, 3) := by decide +kernel
theorem dX6_letter_134 : decode cX6_letter 134 = .ok (.bipush 10, 2) := by decide +kernel
theorem dX6_letter_136 : decode cX6_letter 136 = .ok (.iload 4, 2) := by decide +kernel
theorem dX6_letter_138 : decode cX6_letter 138 = .ok (.imul, 1) := by decide +kernel
theorem dX6_letter_139 : decode cX6_letter 139 = .ok (.iload 5, 2) := by decide +kernel
theorem dX6_letter_141 : decode cX6_letter 141 = .ok (.iadd, 1) := by decide +kernel
theorem dX6_letter_142 : decode cX6_letter 142 = .ok (.iaload, 1) := by decide +kernel
theorem dX6_letter_143 : decode cX6_letter 143 = .ok (.isub, 1) := by decide +kernel
theorem dX6_letter_144 : decode cX6_letter 144 = .ok (.invokevirtual 187, 3) := by decide +kernel
theorem dX6_letter_147 : decode cX6_letter 147 = .ok (.ireturn, 1) := by decide +kernel
set_option maxRecDepth 20000 in
theorem ggX6_fours_X6_isRow : GoodIn wsX6_fours wsX6_isRow := goodIn_r _ [7, 8, 9, 10, 6, 11] (by decide +kernel) (by decide +kernel)
set_option maxRecDepth 20000 in
theorem gX6_fours_X6_isRow : GoodIn wsX6_fours (va_wsS RX6 69 yX6_isRow wsX6_isRow) := goodIn_app (goodIn_of _ (by decide +kernel)) ggX6_fours_X6_isRow
set_option maxRecDepth 20000 in
theorem ggX6_fours_X6_found : GoodIn wsX6_fours wsX6_found := goodIn_r _ [15, 16, 17, 34, 35, 36, 37, 38, 39, 40, 41, 42, 43, 44, 45, 46, 47, 48, 49, 50, 51] (by decide +kernel) (by decide +kernel)
set_option maxRecDepth 20000 in
theorem gX6_fours_X6_found : GoodIn wsX6_fours (wsV RX6 73 RX6 yX6_found wsX6_found) := goodIn_app (goodIn_of _ (by decide +kernel)) ggX6_fours_X6_found
set_option maxRecDepth 20000 in
theorem ggX6_fours_X6_isTown : GoodIn wsX6_fours wsX6_isTown := goodIn_r _ [20, 21, 9, 10, 6, 11] (by decide +kernel) (by decide +kernel)
set_option maxRecDepth 20000 in
theorem gX6_fours_X6_isTown : GoodIn wsX6_fours (va_wsS RX6 174 yX6_isTown wsX6_isTown) := goodIn_app (goodIn_of _ (by decide +kernel)) ggX6_fours_X6_isTown
set_option maxRecDepth 20000 in
theorem ggX6_fours_X6_isDay : GoodIn wsX6_fours wsX6_isDay := goodIn_r _ [24, 25, 9, 10, 6, 11] (by decide +kernel) (by decide +kernel)
set_option maxRecDepth 20000 in
theorem gX6_fours_X6_isDay : GoodIn wsX6_fours (va_wsS RX6 165 yX6_isDay wsX6_isDay) := goodIn_app (goodIn_of _ (by decide +kernel)) ggX6_fours_X6_isDay
set_option maxRecDepth 20000 in
theorem ggX6_fours_X6_isPerson : GoodIn wsX6_fours wsX6_isPerson := goodIn_r _ [29, 1, 9, 10, 6, 11, 34, 35, 36, 37, 38, 39, 40, 41, 42, 43, 44, 45, 46, 47, 48, 49, 50, 51] (by decide +kernel) (by decide +kernel)
set_option maxRecDepth 20000 in
theorem gX6_fours_X6_isPerson : GoodIn wsX6_fours (wsV RX6 141 RX6 yX6_isPerson wsX6_isPerson) := goodIn_app (goodIn_of _ (by decide +kernel)) ggX6_fours_X6_isPerson
set_option maxRecDepth 20000 in
theorem ggX6_fours_X6_isDeed : GoodIn wsX6_fours wsX6_isDeed := goodIn_r _ [32, 33, 9, 10, 6, 11] (by decide +kernel) (by decide +kernel)
set_option maxRecDepth 20000 in
theorem gX6_fours_X6_isDeed : GoodIn wsX6_fours (va_wsS RX6 151 yX6_isDeed wsX6_isDeed) := goodIn_app (goodIn_of _ (by decide +kernel)) ggX6_fours_X6_isDeed
theorem dX6_fours_0 : decode cX6_fours 0 = .ok (.iload_n 1, 1) := by decide +kernel
theorem dX6_fours_1 : decode cX6_fours 1 = .ok (.invokestatic 69, 3) := by decide +kernel
theorem dX6_fours_4 : decode cX6_fours 4 = .ok (.ifCond .ne 5, 3) := by decide +kernel
theorem dX6_fours_7 : decode cX6_fours 7 = .ok (.iconst (-1), 1) := by decide +kernel
theorem dX6_fours_8 : decode cX6_fours 8 = .ok (.ireturn, 1) := by decide +kernel
theorem dX6_fours_9 : decode cX6_fours 9 = .ok (.aload_n 0, 1) := by decide +kernel
theorem dX6_fours_10 : decode cX6_fours 10 = .ok (.getfield 22, 3) := by decide +kernel
theorem dX6_fours_13 : decode cX6_fours 13 = .ok (.iconst 0, 1) := by decide +kernel
theorem dX6_fours_14 : decode cX6_fours 14 = .ok (.iaload, 1) := by decide +kernel
theorem dX6_fours_15 : decode cX6_fours 15 = .ok (.ifCond .ne 6, 3) := by decide +kernel
theorem dX6_fours_18 : decode cX6_fours 18 = .ok (.bipush (-4), 2) := by decide +kernel
theorem dX6_fours_20 : decode cX6_fours 20 = .ok (.ireturn, 1) := by decide +kernel
theorem dX6_fours_21 : decode cX6_fours 21 = .ok (.aload_n 0, 1) := by decide +kernel
theorem dX6_fours_22 : decode cX6_fours 22 = .ok (.getfield 7, 3) := by decide +kernel
theorem dX6_fours_25 : decode cX6_fours 25 = .ok (.iload_n 1, 1) := by decide +kernel
theorem dX6_fours_26 : decode cX6_fours 26 = .ok (.iaload, 1) := by decide +kernel
theorem dX6_fours_27 : decode cX6_fours 27 = .ok (.ifCond .ge 9, 3) := by decide +kernel
theorem dX6_fours_30 : decode cX6_fours 30 = .ok (.aload_n 0, 1) := by decide +kernel
theorem dX6_fours_31 : decode cX6_fours 31 = .ok (.iconst 1, 1) := by decide +kernel
theorem dX6_fours_32 : decode cX6_fours 32 = .ok (.invokevirtual 73, 3) := by decide +kernel
theorem dX6_fours_35 : decode cX6_fours 35 = .ok (.ireturn, 1) := by decide +kernel
theorem dX6_fours_36 : decode cX6_fours 36 = .ok (.aload_n 0, 1) := by decide +kernel
theorem dX6_fours_37 : decode cX6_fours 37 = .ok (.getfield 7, 3) := by decide +kernel
theorem dX6_fours_40 : decode cX6_fours 40 = .ok (.iload_n 1, 1) := by decide +kernel
theorem dX6_fours_41 : decode cX6_fours 41 = .ok (.iaload, 1) := by decide +kernel
theorem dX6_fours_42 : decode cX6_fours 42 = .ok (.iconst 4, 1) := by decide +kernel
theorem dX6_fours_43 : decode cX6_fours 43 = .ok (.irem, 1) := by decide +kernel
theorem dX6_fours_44 : decode cX6_fours 44 = .ok (.ifCond .eq 9, 3) := by decide +kernel
theorem dX6_fours_47 : decode cX6_fours 47 = .ok (.aload_n 0, 1) := by decide +kernel
theorem dX6_fours_48 : decode cX6_fours 48 = .ok (.iconst 5, 1) := by decide +kernel
theorem dX6_fours_49 : decode cX6_fours 49 = .ok (.invokevirtual 73, 3) := by decide +kernel
theorem dX6_fours_52 : decode cX6_fours 52 = .ok (.ireturn, 1) := by decide +kernel
theorem dX6_fours_53 : decode cX6_fours 53 = .ok (.iconst 1, 1) := by decide +kernel
theorem dX6_fours_54 : decode cX6_fours 54 = .ok (.istore_n 2, 1) := by decide +kernel
theorem dX6_fours_55 : decode cX6_fours 55 = .ok (.iconst 0, 1) := by decide +kernel
theorem dX6_fours_56 : decode cX6_fours 56 = .ok (.istore_n 3, 1) := by decide +kernel
theorem dX6_fours_57 : decode cX6_fours 57 = .ok (.iload_n 3, 1) := by decide +kernel
theorem dX6_fours_58 : decode cX6_fours 58 = .ok (.aload_n 0, 1) := by decide +kernel
theorem dX6_fours_59 : decode cX6_fours 59 = .ok (.getfield 7, 3) := by decide +kernel
theorem dX6_fours_62 : decode cX6_fours 62 = .ok (.iload_n 1, 1) := by decide +kernel
theorem dX6_fours_63 : decode cX6_fours 63 = .ok (.iaload, 1) := by decide +kernel
theorem dX6_fours_64 : decode cX6_fours 64 = .ok (.if_icmp .ge 86, 3) := by decide +kernel
theorem dX6_fours_67 : decode cX6_fours 67 = .ok (.bipush 40, 2) := by decide +kernel
theorem dX6_fours_69 : decode cX6_fours 69 = .ok (.iload_n 1, 1) := by decide +kernel
theorem dX6_fours_70 : decode cX6_fours 70 = .ok (.imul, 1) := by decide +kernel
theorem dX6_fours_71 : decode cX6_fours 71 = .ok (.iload_n 3, 1) := by decide +kernel
theorem dX6_fours_72 : decode cX6_fours 72 = .ok (.iadd, 1) := by decide +kernel
theorem dX6_fours_73 : decode cX6_fours 73 = .ok (.istore 4, 2) := by decide +kernel
theorem dX6_fours_75 : decode cX6_fours 75 = .ok (.iload_n 2, 1) := by decide +kernel
theorem dX6_fours_76 : decode cX6_fours 76 = .ok (.ifCond .eq 66, 3) := by decide +kernel
theorem dX6_fours_79 : decode cX6_fours 79 = .ok (.aload_n 0, 1) := by decide +kernel
theorem dX6_fours_80 : decode cX6_fours 80 = .ok (.getfield 13, 3) := by decide +kernel
theorem dX6_fours_83 : decode cX6_fours 83 = .ok (.iload 4, 2) := by decide +kernel
theorem dX6_fours_85 : decode cX6_fours 85 = .ok (.iaload, 1) := by decide +kernel
theorem dX6_fours_86 : decode cX6_fours 86 = .ok (.invokestatic 174, 3) := by decide +kernel
theorem dX6_fours_89 : decode cX6_fours 89 = .ok (.ifCond .eq 53, 3) := by decide +kernel
theorem dX6_fours_92 : decode cX6_fours 92 = .ok (.aload_n 0, 1) := by decide +kernel
theorem dX6_fours_93 : decode cX6_fours 93 = .ok (.getfield 13, 3) := by decide +kernel
theorem dX6_fours_96 : decode cX6_fours 96 = .ok (.iload 4, 2) := by decide +kernel
theorem dX6_fours_98 : decode cX6_fours 98 = .ok (.iconst 1, 1) := by decide +kernel
theorem dX6_fours_99 : decode cX6_fours 99 = .ok (.iadd, 1) := by decide +kernel
theorem dX6_fours_100 : decode cX6_fours 100 = .ok (.iaload, 1) := by decide +kernel
theorem dX6_fours_101 : decode cX6_fours 101 = .ok (.invokestatic 165, 3) := by decide +kernel
theorem dX6_fours_104 : decode cX6_fours 104 = .ok (.ifCond .eq 38, 3) := by decide +kernel
theorem dX6_fours_107 : decode cX6_fours 107 = .ok (.aload_n 0, 1) := by decide +kernel
theorem dX6_fours_108 : decode cX6_fours 108 = .ok (.aload_n 0, 1) := by decide +kernel
theorem dX6_fours_109 : decode cX6_fours 109 = .ok (.getfield 13, 3) := by decide +kernel
theorem dX6_fours_112 : decode cX6_fours 112 = .ok (.iload 4, 2) := by decide +kernel
theorem dX6_fours_114 : decode cX6_fours 114 = .ok (.iconst 2, 1) := by decide +kernel
theorem dX6_fours_115 : decode cX6_fours 115 = .ok (.iadd, 1) := by decide +kernel
theorem dX6_fours_116 : decode cX6_fours 116 = .ok (.iaload, 1) := by decide +kernel
theorem dX6_fours_117 : decode cX6_fours 117 = .ok (.invokevirtual 141, 3) := by decide +kernel
theorem dX6_fours_120 : decode cX6_fours 120 = .ok (.ifCond .eq 22, 3) := by decide +kernel
theorem dX6_fours_123 : decode cX6_fours 123 = .ok (.aload_n 0, 1) := by decide +kernel
theorem dX6_fours_124 : decode cX6_fours 124 = .ok (.getfield 13, 3) := by decide +kernel
theorem dX6_fours_127 : decode cX6_fours 127 = .ok (.iload 4, 2) := by decide +kernel
theorem dX6_fours_129 : decode cX6_fours 129 = .ok (.iconst 3, 1) := by decide +kernel
theorem dX6_fours_130 : decode cX6_fours 130 = .ok (.iadd, 1) := by decide +kernel
theorem dX6_fours_131 : decode cX6_fours 131 = .ok (.iaload, 1) := by decide +kernel
theorem dX6_fours_132 : decode cX6_fours 132 = .ok (.invokestatic 151, 3) := by decide +kernel
theorem dX6_fours_135 : decode cX6_fours 135 = .ok (.ifCond .eq 7, 3) := by decide +kernel
theorem dX6_fours_138 : decode cX6_fours 138 = .ok (.iconst 1, 1) := by decide +kernel
theorem dX6_fours_139 : decode cX6_fours 139 = .ok (.goto 4, 3) := by decide +kernel
theorem dX6_fours_142 : decode cX6_fours 142 = .ok (.iconst 0, 1) := by decide +kernel
theorem dX6_fours_143 : decode cX6_fours 143 = .ok (.istore_n 2, 1) := by decide +kernel
theorem dX6_fours_144 : decode cX6_fours 144 = .ok (.iinc 3 4, 3) := by decide +kernel
theorem dX6_fours_147 : decode cX6_fours 147 = .ok (.goto (-90), 3) := by decide +kernel
theorem dX6_fours_150 : decode cX6_fours 150 = .ok (.iload_n 2, 1) := by decide +kernel
theorem dX6_fours_151 : decode cX6_fours 151 = .ok (.ifCond .eq 7, 3) := by decide +kernel
theorem dX6_fours_154 : decode cX6_fours 154 = .ok (.iconst 0, 1) := by decide +kernel
theorem dX6_fours_155 : decode cX6_fours 155 = .ok (.goto 8, 3) := by decide +kernel
theorem dX6_fours_158 : decode cX6_fours 158 = .ok (.aload_n 0, 1) := by decide +kernel
theorem dX6_fours_159 : decode cX6_fours 159 = .ok (.iconst 3, 1) := by decide +kernel
theorem dX6_fours_160 : decode cX6_fours 160 = .ok (.invokevirtual 73, 3) := by decide +kernel
theorem dX6_fours_163 : decode cX6_fours 163 = .ok (.ireturn, 1) := by decide +kernel
set_option maxRecDepth 20000 in
theorem ggX6_fitsBy_X6_lays : GoodIn wsX6_fitsBy wsX6_lays := goodIn_r _ [9, 10, 1, 4, 11, 12, 8, 13, 14, 15, 16, 17, 18, 19, 20, 21, 22, 23, 24, 25, 26, 27, 28, 29, 30, 31, 32, 33, 34, 35, 36, 37] (by decide +kernel) (by decide +kernel)
set_option maxRecDepth 20000 in
theorem gX6_fitsBy_X6_lays : GoodIn wsX6_fitsBy (wsV RX6 130 RX6 yX6_lays wsX6_lays) := goodIn_app (goodIn_of _ (by decide +kernel)) ggX6_fitsBy_X6_lays
theorem dX6_fitsBy_0 : decode cX6_fitsBy 0 = .ok (.iconst 1, 1) := by decide +kernel
theorem dX6_fitsBy_1 : decode cX6_fitsBy 1 = .ok (.istore_n 3, 1) := by decide +kernel
theorem dX6_fitsBy_2 : decode cX6_fitsBy 2 = .ok (.iconst 0, 1) := by decide +kernel
theorem dX6_fitsBy_3 : decode cX6_fitsBy 3 = .ok (.istore 4, 2) := by decide +kernel
theorem dX6_fitsBy_5 : decode cX6_fitsBy 5 = .ok (.iload 4, 2) := by decide +kernel
theorem dX6_fitsBy_7 : decode cX6_fitsBy 7 = .ok (.aload_n 0, 1) := by decide +kernel
theorem dX6_fitsBy_8 : decode cX6_fitsBy 8 = .ok (.getfield 22, 3) := by decide +kernel
theorem dX6_fitsBy_11 : decode cX6_fitsBy 11 = .ok (.iconst 0, 1) := by decide +kernel
theorem dX6_fitsBy_12 : decode cX6_fitsBy 12 = .ok (.iaload, 1) := by decide +kernel
theorem dX6_fitsBy_13 : decode cX6_fitsBy 13 = .ok (.if_icmp .ge 111, 3) := by decide +kernel
theorem dX6_fitsBy_16 : decode cX6_fitsBy 16 = .ok (.iload_n 3, 1) := by decide +kernel
theorem dX6_fitsBy_17 : decode cX6_fitsBy 17 = .ok (.ifCond .eq 107, 3) := by decide +kernel
theorem dX6_fitsBy_20 : decode cX6_fitsBy 20 = .ok (.aload_n 0, 1) := by decide +kernel
theorem dX6_fitsBy_21 : decode cX6_fitsBy 21 = .ok (.iload 4, 2) := by decide +kernel
theorem dX6_fitsBy_23 : decode cX6_fitsBy 23 = .ok (.iload_n 2, 1) := by decide +kernel
theorem dX6_fitsBy_24 : decode cX6_fitsBy 24 = .ok (.iconst (-1), 1) := by decide +kernel
theorem dX6_fitsBy_25 : decode cX6_fitsBy 25 = .ok (.invokevirtual 130, 3) := by decide +kernel
theorem dX6_fitsBy_28 : decode cX6_fitsBy 28 = .ok (.iconst 0, 1) := by decide +kernel
theorem dX6_fitsBy_29 : decode cX6_fitsBy 29 = .ok (.istore 5, 2) := by decide +kernel
theorem dX6_fitsBy_31 : decode cX6_fitsBy 31 = .ok (.iload 5, 2) := by decide +kernel
theorem dX6_fitsBy_33 : decode cX6_fitsBy 33 = .ok (.aload_n 0, 1) := by decide +kernel
theorem dX6_fitsBy_34 : decode cX6_fitsBy 34 = .ok (.getfield 7, 3) := by decide +kernel
theorem dX6_fitsBy_37 : decode cX6_fitsBy 37 = .ok (.iload_n 1, 1) := by decide +kernel
theorem dX6_fitsBy_38 : decode cX6_fitsBy 38 = .ok (.iaload, 1) := by decide +kernel
theorem dX6_fitsBy_39 : decode cX6_fitsBy 39 = .ok (.if_icmp .ge 79, 3) := by decide +kernel
theorem dX6_fitsBy_42 : decode cX6_fitsBy 42 = .ok (.bipush 40, 2) := by decide +kernel
theorem dX6_fitsBy_44 : decode cX6_fitsBy 44 = .ok (.iload_n 1, 1) := by decide +kernel
theorem dX6_fitsBy_45 : decode cX6_fitsBy 45 = .ok (.imul, 1) := by decide +kernel
theorem dX6_fitsBy_46 : decode cX6_fitsBy 46 = .ok (.iload 5, 2) := by decide +kernel
theorem dX6_fitsBy_48 : decode cX6_fitsBy 48 = .ok (.iadd, 1) := by decide +kernel
theorem dX6_fitsBy_49 : decode cX6_fitsBy 49 = .ok (.istore 6, 2) := by decide +kernel
theorem dX6_fitsBy_51 : decode cX6_fitsBy 51 = .ok (.iload_n 3, 1) := by decide +kernel
theorem dX6_fitsBy_52 : decode cX6_fitsBy 52 = .ok (.ifCond .eq 58, 3) := by decide +kernel
theorem dX6_fitsBy_55 : decode cX6_fitsBy 55 = .ok (.aload_n 0, 1) := by decide +kernel
theorem dX6_fitsBy_56 : decode cX6_fitsBy 56 = .ok (.getfield 13, 3) := by decide +kernel
theorem dX6_fitsBy_59 : decode cX6_fitsBy 59 = .ok (.iload 6, 2) := by decide +kernel
theorem dX6_fitsBy_61 : decode cX6_fitsBy 61 = .ok (.iconst 2, 1) := by decide +kernel
theorem dX6_fitsBy_62 : decode cX6_fitsBy 62 = .ok (.iadd, 1) := by decide +kernel
theorem dX6_fitsBy_63 : decode cX6_fitsBy 63 = .ok (.iaload, 1) := by decide +kernel
theorem dX6_fitsBy_64 : decode cX6_fitsBy 64 = .ok (.iload 4, 2) := by decide +kernel
theorem dX6_fitsBy_66 : decode cX6_fitsBy 66 = .ok (.if_icmp .ne 40, 3) := by decide +kernel
theorem dX6_fitsBy_69 : decode cX6_fitsBy 69 = .ok (.aload_n 0, 1) := by decide +kernel
theorem dX6_fitsBy_70 : decode cX6_fitsBy 70 = .ok (.getfield 45, 3) := by decide +kernel
theorem dX6_fitsBy_73 : decode cX6_fitsBy 73 = .ok (.bipush 20, 2) := by decide +kernel
theorem dX6_fitsBy_75 : decode cX6_fitsBy 75 = .ok (.aload_n 0, 1) := by decide +kernel
theorem dX6_fitsBy_76 : decode cX6_fitsBy 76 = .ok (.getfield 13, 3) := by decide +kernel
theorem dX6_fitsBy_79 : decode cX6_fitsBy 79 = .ok (.iload 6, 2) := by decide +kernel
theorem dX6_fitsBy_81 : decode cX6_fitsBy 81 = .ok (.iaload, 1) := by decide +kernel
theorem dX6_fitsBy_82 : decode cX6_fitsBy 82 = .ok (.imul, 1) := by decide +kernel
theorem dX6_fitsBy_83 : decode cX6_fitsBy 83 = .ok (.aload_n 0, 1) := by decide +kernel
theorem dX6_fitsBy_84 : decode cX6_fitsBy 84 = .ok (.getfield 13, 3) := by decide +kernel
theorem dX6_fitsBy_87 : decode cX6_fitsBy 87 = .ok (.iload 6, 2) := by decide +kernel
theorem dX6_fitsBy_89 : decode cX6_fitsBy 89 = .ok (.iconst 1, 1) := by decide +kernel
theorem dX6_fitsBy_90 : decode cX6_fitsBy 90 = .ok (.iadd, 1) := by decide +kernel
theorem dX6_fitsBy_91 : decode cX6_fitsBy 91 = .ok (.iaload, 1) := by decide +kernel
theorem dX6_fitsBy_92 : decode cX6_fitsBy 92 = .ok (.iadd, 1) := by decide +kernel
theorem dX6_fitsBy_93 : decode cX6_fitsBy 93 = .ok (.iaload, 1) := by decide +kernel
theorem dX6_fitsBy_94 : decode cX6_fitsBy 94 = .ok (.aload_n 0, 1) := by decide +kernel
theorem dX6_fitsBy_95 : decode cX6_fitsBy 95 = .ok (.getfield 13, 3) := by decide +kernel
theorem dX6_fitsBy_98 : decode cX6_fitsBy 98 = .ok (.iload 6, 2) := by decide +kernel
theorem dX6_fitsBy_100 : decode cX6_fitsBy 100 = .ok (.iconst 3, 1) := by decide +kernel
theorem dX6_fitsBy_101 : decode cX6_fitsBy 101 = .ok (.iadd, 1) := by decide +kernel
theorem dX6_fitsBy_102 : decode cX6_fitsBy 102 = .ok (.iaload, 1) := by decide +kernel
theorem dX6_fitsBy_103 : decode cX6_fitsBy 103 = .ok (.if_icmp .ne 7, 3) := by decide +kernel
theorem dX6_fitsBy_106 : decode cX6_fitsBy 106 = .ok (.iconst 1, 1) := by decide +kernel
theorem dX6_fitsBy_107 : decode cX6_fitsBy 107 = .ok (.goto 4, 3) := by decide +kernel
theorem dX6_fitsBy_110 : decode cX6_fitsBy 110 = .ok (.iconst 0, 1) := by decide +kernel
theorem dX6_fitsBy_111 : decode cX6_fitsBy 111 = .ok (.istore_n 3, 1) := by decide +kernel
theorem dX6_fitsBy_112 : decode cX6_fitsBy 112 = .ok (.iinc 5 4, 3) := by decide +kernel
theorem dX6_fitsBy_115 : decode cX6_fitsBy 115 = .ok (.goto (-84), 3) := by decide +kernel
theorem dX6_fitsBy_118 : decode cX6_fitsBy 118 = .ok (.iinc 4 1, 3) := by decide +kernel
theorem dX6_fitsBy_121 : decode cX6_fitsBy 121 = .ok (.goto (-116), 3) := by decide +kernel
theorem dX6_fitsBy_124 : decode cX6_fitsBy 124 = .ok (.iload_n 3, 1) := by decide +kernel
theorem dX6_fitsBy_125 : decode cX6_fitsBy 125 = .ok (.ireturn, 1) := by decide +kernel
set_option maxRecDepth 20000 in
theorem ggX6_fits_X6_fours : GoodIn wsX6_fits wsX6_fours := goodIn_r _ [7, 8, 9, 10, 11, 12, 6, 13, 14, 15, 16, 17, 18, 19, 20, 21, 22, 23, 24, 25, 26, 27, 28, 29, 30, 31, 32, 33, 34, 35, 36, 37, 38, 39, 68, 69, 70, 71, 72, 73, 74, 75, 76, 77, 78, 79, 80, 81, 82, 83, 84, 85] (by decide +kernel) (by decide +kernel)
set_option maxRecDepth 20000 in
theorem gX6_fits_X6_fours : GoodIn wsX6_fits (wsV RX6 190 RX6 yX6_fours wsX6_fours) := goodIn_app (goodIn_of _ (by decide +kernel)) ggX6_fits_X6_fours
set_option maxRecDepth 20000 in
theorem ggX6_fits_X6_live : GoodIn wsX6_fits wsX6_live := goodIn_r _ [43, 8, 68, 69, 70, 71, 72, 73, 74, 75, 76, 77, 78, 79, 80, 81, 82, 83, 84, 85] (by decide +kernel) (by decide +kernel)
set_option maxRecDepth 20000 in
theorem gX6_fits_X6_live : GoodIn wsX6_fits (wsV RX6 126 RX6 yX6_live wsX6_live) := goodIn_app (goodIn_of _ (by decide +kernel)) ggX6_fits_X6_live
set_option maxRecDepth 20000 in
theorem ggX6_fits_X6_fitsBy : GoodIn wsX6_fits wsX6_fitsBy := goodIn_r _ [47, 8, 9, 10, 48, 49, 50, 51, 6, 52, 53, 54, 55, 56, 57, 58, 59, 60, 61, 62, 68, 69, 70, 71, 72, 73, 74, 75, 76, 77, 78, 79, 80, 81, 82, 83, 84, 85] (by decide +kernel) (by decide +kernel)
set_option maxRecDepth 20000 in
theorem gX6_fits_X6_fitsBy : GoodIn wsX6_fits (wsV RX6 193 RX6 yX6_fitsBy wsX6_fitsBy) := goodIn_app (goodIn_of _ (by decide +kernel)) ggX6_fits_X6_fitsBy
set_option maxRecDepth 20000 in
theorem ggX6_fits_X6_answer : GoodIn wsX6_fits wsX6_answer := goodIn_r _ [66, 67, 68, 69, 70, 71, 72, 73, 74, 75, 76, 77, 78, 79, 80, 81, 82, 83, 84, 85] (by decide +kernel) (by decide +kernel)
set_option maxRecDepth 20000 in
theorem gX6_fits_X6_answer : GoodIn wsX6_fits (wsV RX6 187 RX6 yX6_answer wsX6_answer) := goodIn_app (goodIn_of _ (by decide +kernel)) ggX6_fits_X6_answer
theorem dX6_fits_0 : decode cX6_fits 0 = .ok (.aload_n 0, 1) := by decide +kernel
theorem dX6_fits_1 : decode cX6_fits 1 = .ok (.iload_n 1, 1) := by decide +kernel
theorem dX6_fits_2 : decode cX6_fits 2 = .ok (.invokevirtual 190, 3) := by decide +kernel
theorem dX6_fits_5 : decode cX6_fits 5 = .ok (.istore_n 2, 1) := by decide +kernel
theorem dX6_fits_6 : decode cX6_fits 6 = .ok (.iload_n 2, 1) := by decide +kernel
theorem dX6_fits_7 : decode cX6_fits 7 = .ok (.ifCond .eq 5, 3) := by decide +kernel
theorem dX6_fits_10 : decode cX6_fits 10 = .ok (.iload_n 2, 1) := by decide +kernel
theorem dX6_fits_11 : decode cX6_fits 11 = .ok (.ireturn, 1) := by decide +kernel
theorem dX6_fits_12 : decode cX6_fits 12 = .ok (.iconst 0, 1) := by decide +kernel
theorem dX6_fits_13 : decode cX6_fits 13 = .ok (.istore_n 3, 1) := by decide +kernel
theorem dX6_fits_14 : decode cX6_fits 14 = .ok (.bipush (-9), 2) := by decide +kernel
theorem dX6_fits_16 : decode cX6_fits 16 = .ok (.istore 4, 2) := by decide +kernel
theorem dX6_fits_18 : decode cX6_fits 18 = .ok (.aload_n 0, 1) := by decide +kernel
theorem dX6_fits_19 : decode cX6_fits 19 = .ok (.invokevirtual 126, 3) := by decide +kernel
theorem dX6_fits_22 : decode cX6_fits 22 = .ok (.istore 5, 2) := by decide +kernel
theorem dX6_fits_24 : decode cX6_fits 24 = .ok (.iconst 0, 1) := by decide +kernel
theorem dX6_fits_25 : decode cX6_fits 25 = .ok (.istore 6, 2) := by decide +kernel
theorem dX6_fits_27 : decode cX6_fits 27 = .ok (.iload 6, 2) := by decide +kernel
theorem dX6_fits_29 : decode cX6_fits 29 = .ok (.iload 5, 2) := by decide +kernel
theorem dX6_fits_31 : decode cX6_fits 31 = .ok (.if_icmp .gt 70, 3) := by decide +kernel
theorem dX6_fits_34 : decode cX6_fits 34 = .ok (.iload 6, 2) := by decide +kernel
theorem dX6_fits_36 : decode cX6_fits 36 = .ok (.iload 5, 2) := by decide +kernel
theorem dX6_fits_38 : decode cX6_fits 38 = .ok (.iconst (-1), 1) := by decide +kernel
theorem dX6_fits_39 : decode cX6_fits 39 = .ok (.ixor, 1) := by decide +kernel
theorem dX6_fits_40 : decode cX6_fits 40 = .ok (.iand, 1) := by decide +kernel
theorem dX6_fits_41 : decode cX6_fits 41 = .ok (.ifCond .ne 17, 3) := by decide +kernel
theorem dX6_fits_44 : decode cX6_fits 44 = .ok (.aload_n 0, 1) := by decide +kernel
theorem dX6_fits_45 : decode cX6_fits 45 = .ok (.iload_n 1, 1) := by decide +kernel
theorem dX6_fits_46 : decode cX6_fits 46 = .ok (.iload 6, 2) := by decide +kernel
theorem dX6_fits_48 : decode cX6_fits 48 = .ok (.invokevirtual 193, 3) := by decide +kernel
theorem dX6_fits_51 : decode cX6_fits 51 = .ok (.ifCond .eq 7, 3) := by decide +kernel
theorem dX6_fits_54 : decode cX6_fits 54 = .ok (.iconst 1, 1) := by decide +kernel
theorem dX6_fits_55 : decode cX6_fits 55 = .ok (.goto 4, 3) := by decide +kernel
theorem dX6_fits_58 : decode cX6_fits 58 = .ok (.iconst 0, 1) := by decide +kernel
theorem dX6_fits_59 : decode cX6_fits 59 = .ok (.istore 7, 2) := by decide +kernel
theorem dX6_fits_61 : decode cX6_fits 61 = .ok (.iload_n 3, 1) := by decide +kernel
theorem dX6_fits_62 : decode cX6_fits 62 = .ok (.iload 7, 2) := by decide +kernel
theorem dX6_fits_64 : decode cX6_fits 64 = .ok (.ifCond .eq 7, 3) := by decide +kernel
theorem dX6_fits_67 : decode cX6_fits 67 = .ok (.iconst 1, 1) := by decide +kernel
theorem dX6_fits_68 : decode cX6_fits 68 = .ok (.goto 4, 3) := by decide +kernel
theorem dX6_fits_71 : decode cX6_fits 71 = .ok (.iconst 0, 1) := by decide +kernel
theorem dX6_fits_72 : decode cX6_fits 72 = .ok (.iadd, 1) := by decide +kernel
theorem dX6_fits_73 : decode cX6_fits 73 = .ok (.istore_n 3, 1) := by decide +kernel
theorem dX6_fits_74 : decode cX6_fits 74 = .ok (.iload 7, 2) := by decide +kernel
theorem dX6_fits_76 : decode cX6_fits 76 = .ok (.ifCond .eq 15, 3) := by decide +kernel
theorem dX6_fits_79 : decode cX6_fits 79 = .ok (.iload 4, 2) := by decide +kernel
theorem dX6_fits_81 : decode cX6_fits 81 = .ok (.bipush (-9), 2) := by decide +kernel
theorem dX6_fits_83 : decode cX6_fits 83 = .ok (.if_icmp .ne 8, 3) := by decide +kernel
theorem dX6_fits_86 : decode cX6_fits 86 = .ok (.iload 6, 2) := by decide +kernel
theorem dX6_fits_88 : decode cX6_fits 88 = .ok (.goto 5, 3) := by decide +kernel
theorem dX6_fits_91 : decode cX6_fits 91 = .ok (.iload 4, 2) := by decide +kernel
theorem dX6_fits_93 : decode cX6_fits 93 = .ok (.istore 4, 2) := by decide +kernel
theorem dX6_fits_95 : decode cX6_fits 95 = .ok (.iinc 6 1, 3) := by decide +kernel
theorem dX6_fits_98 : decode cX6_fits 98 = .ok (.goto (-71), 3) := by decide +kernel
theorem dX6_fits_101 : decode cX6_fits 101 = .ok (.aload_n 0, 1) := by decide +kernel
theorem dX6_fits_102 : decode cX6_fits 102 = .ok (.iload_n 3, 1) := by decide +kernel
theorem dX6_fits_103 : decode cX6_fits 103 = .ok (.i2l, 1) := by decide +kernel
theorem dX6_fits_104 : decode cX6_fits 104 = .ok (.putfield 196, 3) := by decide +kernel
theorem dX6_fits_107 : decode cX6_fits 107 = .ok (.aload_n 0, 1) := by decide +kernel
theorem dX6_fits_108 : decode cX6_fits 108 = .ok (.lconst 1, 1) := by decide +kernel
theorem dX6_fits_109 : decode cX6_fits 109 = .ok (.putfield 32, 3) := by decide +kernel
theorem dX6_fits_112 : decode cX6_fits 112 = .ok (.aload_n 0, 1) := by decide +kernel
theorem dX6_fits_113 : decode cX6_fits 113 = .ok (.iconst 1, 1) := by decide +kernel
theorem dX6_fits_114 : decode cX6_fits 114 = .ok (.iload 4, 2) := by decide +kernel
theorem dX6_fits_116 : decode cX6_fits 116 = .ok (.invokevirtual 187, 3) := by decide +kernel
theorem dX6_fits_119 : decode cX6_fits 119 = .ok (.ireturn, 1) := by decide +kernel
set_option maxRecDepth 20000 in
theorem ggX6_sure_X6_fours : GoodIn wsX6_sure wsX6_fours := goodIn_r _ [5, 6, 7, 8, 9, 10, 4, 11, 12, 13, 14, 15, 16, 17, 18, 19, 20, 21, 22, 23, 24, 25, 26, 27, 28, 29, 30, 31, 32, 33, 34, 35, 36, 37, 66, 67, 68, 69, 70, 71, 72, 73, 74, 75, 76, 77, 78, 79, 80, 81, 82, 83] (by decide +kernel) (by decide +kernel)
set_option maxRecDepth 20000 in
theorem gX6_sure_X6_fours : GoodIn wsX6_sure (wsV RX6 190 RX6 yX6_fours wsX6_fours) := goodIn_app (goodIn_of _ (by decide +kernel)) ggX6_sure_X6_fours
set_option maxRecDepth 20000 in
theorem ggX6_sure_X6_live : GoodIn wsX6_sure wsX6_live := goodIn_r _ [41, 6, 66, 67, 68, 69, 70, 71, 72, 73, 74, 75, 76, 77, 78, 79, 80, 81, 82, 83] (by decide +kernel) (by decide +kernel)
set_option maxRecDepth 20000 in
theorem gX6_sure_X6_live : GoodIn wsX6_sure (wsV RX6 126 RX6 yX6_live wsX6_live) := goodIn_app (goodIn_of _ (by decide +kernel)) ggX6_sure_X6_live
set_option maxRecDepth 20000 in
theorem ggX6_sure_X6_fitsBy : GoodIn wsX6_sure wsX6_fitsBy := goodIn_r _ [45, 6, 7, 8, 46, 47, 48, 49, 4, 50, 51, 52, 53, 54, 55, 56, 57, 58, 59, 60, 66, 67, 68, 69, 70, 71, 72, 73, 74, 75, 76, 77, 78, 79, 80, 81, 82, 83] (by decide +kernel) (by decide +kernel)
set_option maxRecDepth 20000 in
theorem gX6_sure_X6_fitsBy : GoodIn wsX6_sure (wsV RX6 193 RX6 yX6_fitsBy wsX6_fitsBy) := goodIn_app (goodIn_of _ (by decide +kernel)) ggX6_sure_X6_fitsBy
set_option maxRecDepth 20000 in
theorem ggX6_sure_X6_answer : GoodIn wsX6_sure wsX6_answer := goodIn_r _ [64, 65, 66, 67, 68, 69, 70, 71, 72, 73, 74, 75, 76, 77, 78, 79, 80, 81, 82, 83] (by decide +kernel) (by decide +kernel)
set_option maxRecDepth 20000 in
theorem gX6_sure_X6_answer : GoodIn wsX6_sure (wsV RX6 187 RX6 yX6_answer wsX6_answer) := goodIn_app (goodIn_of _ (by decide +kernel)) ggX6_sure_X6_answer
set_option maxRecDepth 20000 in
theorem ggX6_sure_X6_found : GoodIn wsX6_sure wsX6_found := goodIn_r _ [19, 20, 21, 66, 67, 68, 69, 70, 71, 72, 73, 74, 75, 76, 77, 78, 79, 80, 81, 82, 83] (by decide +kernel) (by decide +kernel)
set_option maxRecDepth 20000 in
theorem gX6_sure_X6_found : GoodIn wsX6_sure (wsV RX6 73 RX6 yX6_found wsX6_found) := goodIn_app (goodIn_of _ (by decide +kernel)) ggX6_sure_X6_found
theorem dX6_sure_0 : decode cX6_sure 0 = .ok (.aload_n 0, 1) := by decide +kernel
theorem dX6_sure_1 : decode cX6_sure 1 = .ok (.iload_n 1, 1) := by decide +kernel
theorem dX6_sure_2 : decode cX6_sure 2 = .ok (.invokevirtual 190, 3) := by decide +kernel
theorem dX6_sure_5 : decode cX6_sure 5 = .ok (.istore_n 2, 1) := by decide +kernel
theorem dX6_sure_6 : decode cX6_sure 6 = .ok (.iload_n 2, 1) := by decide +kernel
theorem dX6_sure_7 : decode cX6_sure 7 = .ok (.ifCond .eq 5, 3) := by decide +kernel
theorem dX6_sure_10 : decode cX6_sure 10 = .ok (.iload_n 2, 1) := by decide +kernel
theorem dX6_sure_11 : decode cX6_sure 11 = .ok (.ireturn, 1) := by decide +kernel
theorem dX6_sure_12 : decode cX6_sure 12 = .ok (.aload_n 0, 1) := by decide +kernel
theorem dX6_sure_13 : decode cX6_sure 13 = .ok (.invokevirtual 126, 3) := by decide +kernel
theorem dX6_sure_16 : decode cX6_sure 16 = .ok (.istore_n 3, 1) := by decide +kernel
theorem dX6_sure_17 : decode cX6_sure 17 = .ok (.iload_n 3, 1) := by decide +kernel
theorem dX6_sure_18 : decode cX6_sure 18 = .ok (.istore 4, 2) := by decide +kernel
theorem dX6_sure_20 : decode cX6_sure 20 = .ok (.iconst 0, 1) := by decide +kernel
theorem dX6_sure_21 : decode cX6_sure 21 = .ok (.istore 5, 2) := by decide +kernel
theorem dX6_sure_23 : decode cX6_sure 23 = .ok (.iconst 0, 1) := by decide +kernel
theorem dX6_sure_24 : decode cX6_sure 24 = .ok (.istore 6, 2) := by decide +kernel
theorem dX6_sure_26 : decode cX6_sure 26 = .ok (.iconst 0, 1) := by decide +kernel
theorem dX6_sure_27 : decode cX6_sure 27 = .ok (.istore 7, 2) := by decide +kernel
theorem dX6_sure_29 : decode cX6_sure 29 = .ok (.iload 7, 2) := by decide +kernel
theorem dX6_sure_31 : decode cX6_sure 31 = .ok (.iload_n 3, 1) := by decide +kernel
theorem dX6_sure_32 : decode cX6_sure 32 = .ok (.if_icmp .gt 45, 3) := by decide +kernel
theorem dX6_sure_35 : decode cX6_sure 35 = .ok (.iload 7, 2) := by decide +kernel
theorem dX6_sure_37 : decode cX6_sure 37 = .ok (.iload_n 3, 1) := by decide +kernel
theorem dX6_sure_38 : decode cX6_sure 38 = .ok (.iconst (-1), 1) := by decide +kernel
theorem dX6_sure_39 : decode cX6_sure 39 = .ok (.ixor, 1) := by decide +kernel
theorem dX6_sure_40 : decode cX6_sure 40 = .ok (.iand, 1) := by decide +kernel
theorem dX6_sure_41 : decode cX6_sure 41 = .ok (.ifCond .ne 30, 3) := by decide +kernel
theorem dX6_sure_44 : decode cX6_sure 44 = .ok (.aload_n 0, 1) := by decide +kernel
theorem dX6_sure_45 : decode cX6_sure 45 = .ok (.iload_n 1, 1) := by decide +kernel
theorem dX6_sure_46 : decode cX6_sure 46 = .ok (.iload 7, 2) := by decide +kernel
theorem dX6_sure_48 : decode cX6_sure 48 = .ok (.invokevirtual 193, 3) := by decide +kernel
theorem dX6_sure_51 : decode cX6_sure 51 = .ok (.ifCond .eq 20, 3) := by decide +kernel
theorem dX6_sure_54 : decode cX6_sure 54 = .ok (.iconst 1, 1) := by decide +kernel
theorem dX6_sure_55 : decode cX6_sure 55 = .ok (.istore 6, 2) := by decide +kernel
theorem dX6_sure_57 : decode cX6_sure 57 = .ok (.iload 4, 2) := by decide +kernel
theorem dX6_sure_59 : decode cX6_sure 59 = .ok (.iload 7, 2) := by decide +kernel
theorem dX6_sure_61 : decode cX6_sure 61 = .ok (.iand, 1) := by decide +kernel
theorem dX6_sure_62 : decode cX6_sure 62 = .ok (.istore 4, 2) := by decide +kernel
theorem dX6_sure_64 : decode cX6_sure 64 = .ok (.iload 5, 2) := by decide +kernel
theorem dX6_sure_66 : decode cX6_sure 66 = .ok (.iload 7, 2) := by decide +kernel
theorem dX6_sure_68 : decode cX6_sure 68 = .ok (.ior, 1) := by decide +kernel
theorem dX6_sure_69 : decode cX6_sure 69 = .ok (.istore 5, 2) := by decide +kernel
theorem dX6_sure_71 : decode cX6_sure 71 = .ok (.iinc 7 1, 3) := by decide +kernel
theorem dX6_sure_74 : decode cX6_sure 74 = .ok (.goto (-45), 3) := by decide +kernel
theorem dX6_sure_77 : decode cX6_sure 77 = .ok (.iload 6, 2) := by decide +kernel
theorem dX6_sure_79 : decode cX6_sure 79 = .ok (.ifCond .eq 18, 3) := by decide +kernel
theorem dX6_sure_82 : decode cX6_sure 82 = .ok (.aload_n 0, 1) := by decide +kernel
theorem dX6_sure_83 : decode cX6_sure 83 = .ok (.iload 4, 2) := by decide +kernel
theorem dX6_sure_85 : decode cX6_sure 85 = .ok (.iload_n 3, 1) := by decide +kernel
theorem dX6_sure_86 : decode cX6_sure 86 = .ok (.iload 5, 2) := by decide +kernel
theorem dX6_sure_88 : decode cX6_sure 88 = .ok (.iconst (-1), 1) := by decide +kernel
theorem dX6_sure_89 : decode cX6_sure 89 = .ok (.ixor, 1) := by decide +kernel
theorem dX6_sure_90 : decode cX6_sure 90 = .ok (.iand, 1) := by decide +kernel
theorem dX6_sure_91 : decode cX6_sure 91 = .ok (.invokevirtual 187, 3) := by decide +kernel
theorem dX6_sure_94 : decode cX6_sure 94 = .ok (.goto 8, 3) := by decide +kernel
theorem dX6_sure_97 : decode cX6_sure 97 = .ok (.aload_n 0, 1) := by decide +kernel
theorem dX6_sure_98 : decode cX6_sure 98 = .ok (.iconst 4, 1) := by decide +kernel
theorem dX6_sure_99 : decode cX6_sure 99 = .ok (.invokevirtual 73, 3) := by decide +kernel
theorem dX6_sure_102 : decode cX6_sure 102 = .ok (.ireturn, 1) := by decide +kernel
set_option maxRecDepth 20000 in
theorem ggX6_lies_X6_fours : GoodIn wsX6_lies wsX6_fours := goodIn_r _ [7, 8, 1, 2, 9, 10, 6, 11, 12, 13, 14, 15, 16, 17, 18, 19, 20, 21, 22, 23, 24, 25, 26, 27, 28, 29, 30, 31, 32, 33, 34, 35, 36, 37, 70, 71, 72, 73, 74, 75, 76, 77, 78, 79, 80, 81, 82, 83, 84, 85, 86, 87] (by decide +kernel) (by decide +kernel)
set_option maxRecDepth 20000 in
theorem gX6_lies_X6_fours : GoodIn wsX6_lies (wsV RX6 190 RX6 yX6_fours wsX6_fours) := goodIn_app (goodIn_of _ (by decide +kernel)) ggX6_lies_X6_fours
set_option maxRecDepth 20000 in
theorem ggX6_lies_X6_doing : GoodIn wsX6_lies wsX6_doing := goodIn_r _ [41, 42, 43, 44, 45, 6, 46, 47, 48, 49, 50, 8, 51, 52, 53, 54, 55, 56, 57, 58, 59, 60, 61, 62, 63, 64, 70, 71, 72, 73, 74, 75, 76, 77, 78, 79, 80, 81, 82, 83, 84, 85, 86, 87] (by decide +kernel) (by decide +kernel)
set_option maxRecDepth 20000 in
theorem gX6_lies_X6_doing : GoodIn wsX6_lies (wsV RX6 138 RX6 yX6_doing wsX6_doing) := goodIn_app (goodIn_of _ (by decide +kernel)) ggX6_lies_X6_doing
set_option maxRecDepth 20000 in
theorem ggX6_lies_X6_answer : GoodIn wsX6_lies wsX6_answer := goodIn_r _ [68, 69, 70, 71, 72, 73, 74, 75, 76, 77, 78, 79, 80, 81, 82, 83, 84, 85, 86, 87] (by decide +kernel) (by decide +kernel)
set_option maxRecDepth 20000 in
theorem gX6_lies_X6_answer : GoodIn wsX6_lies (wsV RX6 187 RX6 yX6_answer wsX6_answer) := goodIn_app (goodIn_of _ (by decide +kernel)) ggX6_lies_X6_answer
theorem dX6_lies_0 : decode cX6_lies 0 = .ok (.aload_n 0, 1) := by decide +kernel
theorem dX6_lies_1 : decode cX6_lies 1 = .ok (.iload_n 1, 1) := by decide +kernel
theorem dX6_lies_2 : decode cX6_lies 2 = .ok (.invokevirtual 190, 3) := by decide +kernel
theorem dX6_lies_5 : decode cX6_lies 5 = .ok (.istore_n 2, 1) := by decide +kernel
theorem dX6_lies_6 : decode cX6_lies 6 = .ok (.iload_n 2, 1) := by decide +kernel
theorem dX6_lies_7 : decode cX6_lies 7 = .ok (.ifCond .eq 5, 3) := by decide +kernel
theorem dX6_lies_10 : decode cX6_lies 10 = .ok (.iload_n 2, 1) := by decide +kernel
theorem dX6_lies_11 : decode cX6_lies 11 = .ok (.ireturn, 1) := by decide +kernel
theorem dX6_lies_12 : decode cX6_lies 12 = .ok (.iconst 0, 1) := by decide +kernel
theorem dX6_lies_13 : decode cX6_lies 13 = .ok (.istore_n 3, 1) := by decide +kernel
theorem dX6_lies_14 : decode cX6_lies 14 = .ok (.bipush (-9), 2) := by decide +kernel
theorem dX6_lies_16 : decode cX6_lies 16 = .ok (.istore 4, 2) := by decide +kernel
theorem dX6_lies_18 : decode cX6_lies 18 = .ok (.aload_n 0, 1) := by decide +kernel
theorem dX6_lies_19 : decode cX6_lies 19 = .ok (.getfield 7, 3) := by decide +kernel
theorem dX6_lies_22 : decode cX6_lies 22 = .ok (.iload_n 1, 1) := by decide +kernel
theorem dX6_lies_23 : decode cX6_lies 23 = .ok (.iaload, 1) := by decide +kernel
theorem dX6_lies_24 : decode cX6_lies 24 = .ok (.iconst 4, 1) := by decide +kernel
theorem dX6_lies_25 : decode cX6_lies 25 = .ok (.isub, 1) := by decide +kernel
theorem dX6_lies_26 : decode cX6_lies 26 = .ok (.istore 5, 2) := by decide +kernel
theorem dX6_lies_28 : decode cX6_lies 28 = .ok (.iload 5, 2) := by decide +kernel
theorem dX6_lies_30 : decode cX6_lies 30 = .ok (.ifCond .lt 95, 3) := by decide +kernel
theorem dX6_lies_33 : decode cX6_lies 33 = .ok (.bipush 40, 2) := by decide +kernel
theorem dX6_lies_35 : decode cX6_lies 35 = .ok (.iload_n 1, 1) := by decide +kernel
theorem dX6_lies_36 : decode cX6_lies 36 = .ok (.imul, 1) := by decide +kernel
theorem dX6_lies_37 : decode cX6_lies 37 = .ok (.iload 5, 2) := by decide +kernel
theorem dX6_lies_39 : decode cX6_lies 39 = .ok (.iadd, 1) := by decide +kernel
theorem dX6_lies_40 : decode cX6_lies 40 = .ok (.istore 6, 2) := by decide +kernel
theorem dX6_lies_42 : decode cX6_lies 42 = .ok (.aload_n 0, 1) := by decide +kernel
theorem dX6_lies_43 : decode cX6_lies 43 = .ok (.aload_n 0, 1) := by decide +kernel
theorem dX6_lies_44 : decode cX6_lies 44 = .ok (.getfield 13, 3) := by decide +kernel
theorem dX6_lies_47 : decode cX6_lies 47 = .ok (.iload 6, 2) := by decide +kernel
theorem dX6_lies_49 : decode cX6_lies 49 = .ok (.iconst 2, 1) := by decide +kernel
theorem dX6_lies_50 : decode cX6_lies 50 = .ok (.iadd, 1) := by decide +kernel
theorem dX6_lies_51 : decode cX6_lies 51 = .ok (.iaload, 1) := by decide +kernel
theorem dX6_lies_52 : decode cX6_lies 52 = .ok (.aload_n 0, 1) := by decide +kernel
theorem dX6_lies_53 : decode cX6_lies 53 = .ok (.getfield 13, 3) := by decide +kernel
theorem dX6_lies_56 : decode cX6_lies 56 = .ok (.iload 6, 2) := by decide +kernel
theorem dX6_lies_58 : decode cX6_lies 58 = .ok (.iaload, 1) := by decide +kernel
theorem dX6_lies_59 : decode cX6_lies 59 = .ok (.aload_n 0, 1) := by decide +kernel
theorem dX6_lies_60 : decode cX6_lies 60 = .ok (.getfield 13, 3) := by decide +kernel
theorem dX6_lies_63 : decode cX6_lies 63 = .ok (.iload 6, 2) := by decide +kernel
theorem dX6_lies_65 : decode cX6_lies 65 = .ok (.iconst 1, 1) := by decide +kernel
theorem dX6_lies_66 : decode cX6_lies 66 = .ok (.iadd, 1) := by decide +kernel
theorem dX6_lies_67 : decode cX6_lies 67 = .ok (.iaload, 1) := by decide +kernel
theorem dX6_lies_68 : decode cX6_lies 68 = .ok (.invokevirtual 138, 3) := by decide +kernel
theorem dX6_lies_71 : decode cX6_lies 71 = .ok (.aload_n 0, 1) := by decide +kernel
theorem dX6_lies_72 : decode cX6_lies 72 = .ok (.getfield 13, 3) := by decide +kernel
theorem dX6_lies_75 : decode cX6_lies 75 = .ok (.iload 6, 2) := by decide +kernel
theorem dX6_lies_77 : decode cX6_lies 77 = .ok (.iconst 3, 1) := by decide +kernel
theorem dX6_lies_78 : decode cX6_lies 78 = .ok (.iadd, 1) := by decide +kernel
theorem dX6_lies_79 : decode cX6_lies 79 = .ok (.iaload, 1) := by decide +kernel
theorem dX6_lies_80 : decode cX6_lies 80 = .ok (.if_icmp .eq 7, 3) := by decide +kernel
theorem dX6_lies_83 : decode cX6_lies 83 = .ok (.iconst 1, 1) := by decide +kernel
theorem dX6_lies_84 : decode cX6_lies 84 = .ok (.goto 4, 3) := by decide +kernel
theorem dX6_lies_87 : decode cX6_lies 87 = .ok (.iconst 0, 1) := by decide +kernel
theorem dX6_lies_88 : decode cX6_lies 88 = .ok (.istore 7, 2) := by decide +kernel
theorem dX6_lies_90 : decode cX6_lies 90 = .ok (.iload_n 3, 1) := by decide +kernel
theorem dX6_lies_91 : decode cX6_lies 91 = .ok (.iload 7, 2) := by decide +kernel
theorem dX6_lies_93 : decode cX6_lies 93 = .ok (.ifCond .eq 7, 3) := by decide +kernel
theorem dX6_lies_96 : decode cX6_lies 96 = .ok (.iconst 1, 1) := by decide +kernel
theorem dX6_lies_97 : decode cX6_lies 97 = .ok (.goto 4, 3) := by decide +kernel
theorem dX6_lies_100 : decode cX6_lies 100 = .ok (.iconst 0, 1) := by decide +kernel
theorem dX6_lies_101 : decode cX6_lies 101 = .ok (.iadd, 1) := by decide +kernel
theorem dX6_lies_102 : decode cX6_lies 102 = .ok (.istore_n 3, 1) := by decide +kernel
theorem dX6_lies_103 : decode cX6_lies 103 = .ok (.iload 7, 2) := by decide +kernel
theorem dX6_lies_105 : decode cX6_lies 105 = .ok (.ifCond .eq 10, 3) := by decide +kernel
theorem dX6_lies_108 : decode cX6_lies 108 = .ok (.iload 5, 2) := by decide +kernel
theorem dX6_lies_110 : decode cX6_lies 110 = .ok (.iconst 4, 1) := by decide +kernel
theorem dX6_lies_111 : decode cX6_lies 111 = .ok (.idiv, 1) := by decide +kernel
theorem dX6_lies_112 : decode cX6_lies 112 = .ok (.goto 5, 3) := by decide +kernel
theorem dX6_lies_115 : decode cX6_lies 115 = .ok (.iload 4, 2) := by decide +kernel
theorem dX6_lies_117 : decode cX6_lies 117 = .ok (.istore 4, 2) := by decide +kernel
theorem dX6_lies_119 : decode cX6_lies 119 = .ok (.iinc 5 (-4), 3) := by decide +kernel
theorem dX6_lies_122 : decode cX6_lies 122 = .ok (.goto (-94), 3) := by decide +kernel
theorem dX6_lies_125 : decode cX6_lies 125 = .ok (.aload_n 0, 1) := by decide +kernel
theorem dX6_lies_126 : decode cX6_lies 126 = .ok (.iload_n 3, 1) := by decide +kernel
theorem dX6_lies_127 : decode cX6_lies 127 = .ok (.iload 4, 2) := by decide +kernel
theorem dX6_lies_129 : decode cX6_lies 129 = .ok (.invokevirtual 187, 3) := by decide +kernel
theorem dX6_lies_132 : decode cX6_lies 132 = .ok (.ireturn, 1) := by decide +kernel
theorem dX6_fraction_0 : decode cX6_fraction 0 = .ok (.lload_n 1, 1) := by decide +kernel
theorem dX6_fraction_1 : decode cX6_fraction 1 = .ok (.lstore 5, 2) := by decide +kernel
theorem dX6_fraction_3 : decode cX6_fraction 3 = .ok (.lload_n 3, 1) := by decide +kernel
theorem dX6_fraction_4 : decode cX6_fraction 4 = .ok (.lstore 7, 2) := by decide +kernel
theorem dX6_fraction_6 : decode cX6_fraction 6 = .ok (.lload 7, 2) := by decide +kernel
theorem dX6_fraction_8 : decode cX6_fraction 8 = .ok (.lconst 0, 1) := by decide +kernel
theorem dX6_fraction_9 : decode cX6_fraction 9 = .ok (.lcmp, 1) := by decide +kernel
theorem dX6_fraction_10 : decode cX6_fraction 10 = .ok (.ifCond .eq 21, 3) := by decide +kernel
theorem dX6_fraction_13 : decode cX6_fraction 13 = .ok (.lload 5, 2) := by decide +kernel
theorem dX6_fraction_15 : decode cX6_fraction 15 = .ok (.lload 7, 2) := by decide +kernel
theorem dX6_fraction_17 : decode cX6_fraction 17 = .ok (.lrem, 1) := by decide +kernel
theorem dX6_fraction_18 : decode cX6_fraction 18 = .ok (.lstore 9, 2) := by decide +kernel
theorem dX6_fraction_20 : decode cX6_fraction 20 = .ok (.lload 7, 2) := by decide +kernel
theorem dX6_fraction_22 : decode cX6_fraction 22 = .ok (.lstore 5, 2) := by decide +kernel
theorem dX6_fraction_24 : decode cX6_fraction 24 = .ok (.lload 9, 2) := by decide +kernel
theorem dX6_fraction_26 : decode cX6_fraction 26 = .ok (.lstore 7, 2) := by decide +kernel
theorem dX6_fraction_28 : decode cX6_fraction 28 = .ok (.goto (-22), 3) := by decide +kernel
theorem dX6_fraction_31 : decode cX6_fraction 31 = .ok (.aload_n 0, 1) := by decide +kernel
theorem dX6_fraction_32 : decode cX6_fraction 32 = .ok (.lload_n 1, 1) := by decide +kernel
theorem dX6_fraction_33 : decode cX6_fraction 33 = .ok (.lload 5, 2) := by decide +kernel
theorem dX6_fraction_35 : decode cX6_fraction 35 = .ok (.ldiv, 1) := by decide +kernel
theorem dX6_fraction_36 : decode cX6_fraction 36 = .ok (.putfield 196, 3) := by decide +kernel
theorem dX6_fraction_39 : decode cX6_fraction 39 = .ok (.aload_n 0, 1) := by decide +kernel
theorem dX6_fraction_40 : decode cX6_fraction 40 = .ok (.lload_n 3, 1) := by decide +kernel
theorem dX6_fraction_41 : decode cX6_fraction 41 = .ok (.lload 5, 2) := by decide +kernel
theorem dX6_fraction_43 : decode cX6_fraction 43 = .ok (.ldiv, 1) := by decide +kernel
theorem dX6_fraction_44 : decode cX6_fraction 44 = .ok (.putfield 32, 3) := by decide +kernel
theorem dX6_fraction_47 : decode cX6_fraction 47 = .ok (.iconst 1, 1) := by decide +kernel
theorem dX6_fraction_48 : decode cX6_fraction 48 = .ok (.ireturn, 1) := by decide +kernel
set_option maxRecDepth 20000 in
theorem ggX6_odds_X6_isTown : GoodIn wsX6_odds wsX6_isTown := goodIn_r _ [7, 8, 9, 10, 6, 11] (by decide +kernel) (by decide +kernel)
set_option maxRecDepth 20000 in
theorem gX6_odds_X6_isTown : GoodIn wsX6_odds (va_wsS RX6 174 yX6_isTown wsX6_isTown) := goodIn_app (goodIn_of _ (by decide +kernel)) ggX6_odds_X6_isTown
set_option maxRecDepth 20000 in
theorem ggX6_odds_X6_isDay : GoodIn wsX6_odds wsX6_isDay := goodIn_r _ [14, 15, 9, 10, 6, 11] (by decide +kernel) (by decide +kernel)
set_option maxRecDepth 20000 in
theorem gX6_odds_X6_isDay : GoodIn wsX6_odds (va_wsS RX6 165 yX6_isDay wsX6_isDay) := goodIn_app (goodIn_of _ (by decide +kernel)) ggX6_odds_X6_isDay
set_option maxRecDepth 20000 in
theorem ggX6_odds_X6_isPerson : GoodIn wsX6_odds wsX6_isPerson := goodIn_r _ [19, 2, 9, 10, 6, 11, 51, 52, 53, 54, 55, 56, 57, 58, 59, 60, 61, 62, 63, 64, 65, 66, 67, 68] (by decide +kernel) (by decide +kernel)
set_option maxRecDepth 20000 in
theorem gX6_odds_X6_isPerson : GoodIn wsX6_odds (wsV RX6 141 RX6 yX6_isPerson wsX6_isPerson) := goodIn_app (goodIn_of _ (by decide +kernel)) ggX6_odds_X6_isPerson
set_option maxRecDepth 20000 in
theorem ggX6_odds_X6_isDeed : GoodIn wsX6_odds wsX6_isDeed := goodIn_r _ [22, 23, 9, 10, 6, 11] (by decide +kernel) (by decide +kernel)
set_option maxRecDepth 20000 in
theorem gX6_odds_X6_isDeed : GoodIn wsX6_odds (va_wsS RX6 151 yX6_isDeed wsX6_isDeed) := goodIn_app (goodIn_of _ (by decide +kernel)) ggX6_odds_X6_isDeed
set_option maxRecDepth 20000 in
theorem ggX6_odds_X6_in : GoodIn wsX6_odds wsX6_in := goodIn_r _ [11] (by decide +kernel) (by decide +kernel)
set_option maxRecDepth 20000 in
theorem gX6_odds_X6_in : GoodIn wsX6_odds (va_wsS RX6 63 yX6_in wsX6_in) := goodIn_app (goodIn_of _ (by decide +kernel)) ggX6_odds_X6_in
set_option maxRecDepth 20000 in
theorem ggX6_odds_X6_live : GoodIn wsX6_odds wsX6_live := goodIn_r _ [27, 2, 51, 52, 53, 54, 55, 56, 57, 58, 59, 60, 61, 62, 63, 64, 65, 66, 67, 68] (by decide +kernel) (by decide +kernel)
set_option maxRecDepth 20000 in
theorem gX6_odds_X6_live : GoodIn wsX6_odds (wsV RX6 126 RX6 yX6_live wsX6_live) := goodIn_app (goodIn_of _ (by decide +kernel)) ggX6_odds_X6_live
set_option maxRecDepth 20000 in
theorem ggX6_odds_X6_bits : GoodIn wsX6_odds wsX6_bits := goodIn_r _ [30] (by decide +kernel) (by decide +kernel)
set_option maxRecDepth 20000 in
theorem gX6_odds_X6_bits : GoodIn wsX6_odds (va_wsS RX6 154 yX6_bits wsX6_bits) := goodIn_app (goodIn_of _ (by decide +kernel)) ggX6_odds_X6_bits
set_option maxRecDepth 20000 in
theorem ggX6_odds_X6_has : GoodIn wsX6_odds wsX6_has := goodIn_r _ [33] (by decide +kernel) (by decide +kernel)
set_option maxRecDepth 20000 in
theorem gX6_odds_X6_has : GoodIn wsX6_odds (va_wsS RX6 115 yX6_has wsX6_has) := goodIn_app (goodIn_of _ (by decide +kernel)) ggX6_odds_X6_has
set_option maxRecDepth 20000 in
theorem ggX6_odds_X6_lays : GoodIn wsX6_odds wsX6_lays := goodIn_r _ [37, 38, 2, 3, 31, 32, 6, 33, 39, 40, 41, 42, 43, 44, 51, 52, 53, 54, 55, 56, 57, 58, 59, 60, 61, 62, 63, 64, 65, 66, 67, 68] (by decide +kernel) (by decide +kernel)
set_option maxRecDepth 20000 in
theorem gX6_odds_X6_lays : GoodIn wsX6_odds (wsV RX6 130 RX6 yX6_lays wsX6_lays) := goodIn_app (goodIn_of _ (by decide +kernel)) ggX6_odds_X6_lays
set_option maxRecDepth 20000 in
theorem ggX6_odds_X6_fraction : GoodIn wsX6_odds wsX6_fraction := goodIn_r _ [48, 49, 50, 51, 52, 53, 54, 55, 56, 57, 58, 59, 60, 61, 62, 63, 64, 65, 66, 67, 68] (by decide +kernel) (by decide +kernel)
set_option maxRecDepth 20000 in
theorem gX6_odds_X6_fraction : GoodIn wsX6_odds (wsV RX6 201 RX6 yX6_fraction wsX6_fraction) := goodIn_app (goodIn_of _ (by decide +kernel)) ggX6_odds_X6_fraction
theorem dX6_odds_0 : decode cX6_odds 0 = .ok (.iload_n 1, 1) := by decide +kernel
theorem dX6_odds_1 : decode cX6_odds 1 = .ok (.invokestatic 174, 3) := by decide +kernel
