theorem dX5_warn_8 : decode cX5_warn 8 = .ok (.iconst 1, 1) := by decide +kernel
theorem dX5_warn_9 : decode cX5_warn 9 = .ok (.if_icmp .lt 29, 3) := by decide +kernel
theorem dX5_warn_12 : decode cX5_warn 12 = .ok (.iload_n 2, 1) := by decide +kernel
theorem dX5_warn_13 : decode cX5_warn 13 = .ok (.invokestatic 179, 3) := by decide +kernel
theorem dX5_warn_16 : decode cX5_warn 16 = .ok (.ifCond .eq 22, 3) := by decide +kernel
theorem dX5_warn_19 : decode cX5_warn 19 = .ok (.aload_n 0, 1) := by decide +kernel
theorem dX5_warn_20 : decode cX5_warn 20 = .ok (.getfield 45, 3) := by decide +kernel
theorem dX5_warn_23 : decode cX5_warn 23 = .ok (.iload_n 3, 1) := by decide +kernel
theorem dX5_warn_24 : decode cX5_warn 24 = .ok (.invokevirtual 122, 3) := by decide +kernel
theorem dX5_warn_27 : decode cX5_warn 27 = .ok (.ifCond .eq 11, 3) := by decide +kernel
theorem dX5_warn_30 : decode cX5_warn 30 = .ok (.iload 4, 2) := by decide +kernel
theorem dX5_warn_32 : decode cX5_warn 32 = .ok (.invokestatic 229, 3) := by decide +kernel
theorem dX5_warn_35 : decode cX5_warn 35 = .ok (.ifCond .ne 5, 3) := by decide +kernel
theorem dX5_warn_38 : decode cX5_warn 38 = .ok (.iconst (-1), 1) := by decide +kernel
theorem dX5_warn_39 : decode cX5_warn 39 = .ok (.ireturn, 1) := by decide +kernel
theorem dX5_warn_40 : decode cX5_warn 40 = .ok (.aload_n 0, 1) := by decide +kernel
theorem dX5_warn_41 : decode cX5_warn 41 = .ok (.getfield 45, 3) := by decide +kernel
theorem dX5_warn_44 : decode cX5_warn 44 = .ok (.iload_n 1, 1) := by decide +kernel
theorem dX5_warn_45 : decode cX5_warn 45 = .ok (.iload_n 2, 1) := by decide +kernel
theorem dX5_warn_46 : decode cX5_warn 46 = .ok (.iload_n 3, 1) := by decide +kernel
theorem dX5_warn_47 : decode cX5_warn 47 = .ok (.invokevirtual 207, 3) := by decide +kernel
theorem dX5_warn_50 : decode cX5_warn 50 = .ok (.iload 4, 2) := by decide +kernel
theorem dX5_warn_52 : decode cX5_warn 52 = .ok (.if_icmp .eq 6, 3) := by decide +kernel
theorem dX5_warn_55 : decode cX5_warn 55 = .ok (.bipush (-9), 2) := by decide +kernel
theorem dX5_warn_57 : decode cX5_warn 57 = .ok (.ireturn, 1) := by decide +kernel
theorem dX5_warn_58 : decode cX5_warn 58 = .ok (.iconst 1, 1) := by decide +kernel
theorem dX5_warn_59 : decode cX5_warn 59 = .ok (.istore 5, 2) := by decide +kernel
theorem dX5_warn_61 : decode cX5_warn 61 = .ok (.iload 5, 2) := by decide +kernel
theorem dX5_warn_63 : decode cX5_warn 63 = .ok (.iload_n 1, 1) := by decide +kernel
theorem dX5_warn_64 : decode cX5_warn 64 = .ok (.if_icmp .gt 58, 3) := by decide +kernel
theorem dX5_warn_67 : decode cX5_warn 67 = .ok (.iload_n 2, 1) := by decide +kernel
theorem dX5_warn_68 : decode cX5_warn 68 = .ok (.iload_n 1, 1) := by decide +kernel
theorem dX5_warn_69 : decode cX5_warn 69 = .ok (.isub, 1) := by decide +kernel
theorem dX5_warn_70 : decode cX5_warn 70 = .ok (.iload 5, 2) := by decide +kernel
theorem dX5_warn_72 : decode cX5_warn 72 = .ok (.iadd, 1) := by decide +kernel
theorem dX5_warn_73 : decode cX5_warn 73 = .ok (.istore 6, 2) := by decide +kernel
theorem dX5_warn_75 : decode cX5_warn 75 = .ok (.iload 6, 2) := by decide +kernel
theorem dX5_warn_77 : decode cX5_warn 77 = .ok (.aload_n 0, 1) := by decide +kernel
theorem dX5_warn_78 : decode cX5_warn 78 = .ok (.getfield 45, 3) := by decide +kernel
theorem dX5_warn_81 : decode cX5_warn 81 = .ok (.getfield 192, 3) := by decide +kernel
theorem dX5_warn_84 : decode cX5_warn 84 = .ok (.if_icmp .lt 32, 3) := by decide +kernel
theorem dX5_warn_87 : decode cX5_warn 87 = .ok (.aload_n 0, 1) := by decide +kernel
theorem dX5_warn_88 : decode cX5_warn 88 = .ok (.getfield 45, 3) := by decide +kernel
theorem dX5_warn_91 : decode cX5_warn 91 = .ok (.iload_n 1, 1) := by decide +kernel
theorem dX5_warn_92 : decode cX5_warn 92 = .ok (.iload_n 2, 1) := by decide +kernel
theorem dX5_warn_93 : decode cX5_warn 93 = .ok (.iload_n 3, 1) := by decide +kernel
theorem dX5_warn_94 : decode cX5_warn 94 = .ok (.iload 5, 2) := by decide +kernel
theorem dX5_warn_96 : decode cX5_warn 96 = .ok (.invokevirtual 232, 3) := by decide +kernel
theorem dX5_warn_99 : decode cX5_warn 99 = .ok (.iload 4, 2) := by decide +kernel
theorem dX5_warn_101 : decode cX5_warn 101 = .ok (.if_icmp .eq 15, 3) := by decide +kernel
theorem dX5_warn_104 : decode cX5_warn 104 = .ok (.aload_n 0, 1) := by decide +kernel
theorem dX5_warn_105 : decode cX5_warn 105 = .ok (.getfield 24, 3) := by decide +kernel
theorem dX5_warn_108 : decode cX5_warn 108 = .ok (.iload 5, 2) := by decide +kernel
theorem dX5_warn_110 : decode cX5_warn 110 = .ok (.putfield 77, 3) := by decide +kernel
theorem dX5_warn_113 : decode cX5_warn 113 = .ok (.iload 6, 2) := by decide +kernel
theorem dX5_warn_115 : decode cX5_warn 115 = .ok (.ireturn, 1) := by decide +kernel
theorem dX5_warn_116 : decode cX5_warn 116 = .ok (.iinc 5 1, 3) := by decide +kernel
theorem dX5_warn_119 : decode cX5_warn 119 = .ok (.goto (-58), 3) := by decide +kernel
theorem dX5_warn_122 : decode cX5_warn 122 = .ok (.bipush (-9), 2) := by decide +kernel
theorem dX5_warn_124 : decode cX5_warn 124 = .ok (.ireturn, 1) := by decide +kernel
set_option maxRecDepth 20000 in
theorem ggX5_agree_X5_arePair : GoodIn wsX5_agree wsX5_arePair := goodIn_r _ [6, 7, 8, 5, 9] (by decide +kernel) (by decide +kernel)
set_option maxRecDepth 20000 in
theorem gX5_agree_X5_arePair : GoodIn wsX5_agree (va_wsS RX5 211 yX5_arePair wsX5_arePair) := goodIn_app (goodIn_of _ (by decide +kernel)) ggX5_agree_X5_arePair
set_option maxRecDepth 20000 in
theorem ggX5_agree_X5_isDay : GoodIn wsX5_agree wsX5_isDay := goodIn_r _ [12] (by decide +kernel) (by decide +kernel)
set_option maxRecDepth 20000 in
theorem gX5_agree_X5_isDay : GoodIn wsX5_agree (va_wsS RX5 179 yX5_isDay wsX5_isDay) := goodIn_app (goodIn_of _ (by decide +kernel)) ggX5_agree_X5_isDay
set_option maxRecDepth 20000 in
theorem ggX5_agree_X0_fewestMended : GoodIn wsX5_agree wsX0_fewestMended := goodIn_r _ [17, 18, 19, 20, 16, 21, 22, 23, 24, 25, 26, 27, 28, 29, 30, 31, 32, 33, 34, 35, 36, 37, 38, 39, 40, 41, 42, 43, 44, 45, 46, 47, 48, 49, 50, 51, 52, 53, 8, 5, 9, 11, 12, 54, 55, 56, 57, 58, 59, 60, 61, 62, 63, 64, 65, 66, 67, 68, 69, 70, 71, 72, 73, 74, 75, 76, 77, 78, 79, 89, 90, 91, 92, 93, 94, 95, 96, 97, 98, 99, 100, 101, 102] (by decide +kernel) (by decide +kernel)
set_option maxRecDepth 20000 in
theorem gX5_agree_X0_fewestMended : GoodIn wsX5_agree (wsV RX5 235 RX0 yX0_fewestMended wsX0_fewestMended) := goodIn_app (goodIn_of _ (by decide +kernel)) ggX5_agree_X0_fewestMended
set_option maxRecDepth 20000 in
theorem ggX5_agree_J6_bitCount_0f7a4 : GoodIn wsX5_agree wsJ6_bitCount_0f7a4 := goodIn_r _ [38, 39, 40, 41] (by decide +kernel) (by decide +kernel)
set_option maxRecDepth 20000 in
theorem gX5_agree_J6_bitCount_0f7a4 : GoodIn wsX5_agree (va_wsS RX5 171 yJ6_bitCount_0f7a4 wsJ6_bitCount_0f7a4) := goodIn_app (goodIn_of _ (by decide +kernel)) ggX5_agree_J6_bitCount_0f7a4
theorem dX5_agree_0 : decode cX5_agree 0 = .ok (.iload_n 1, 1) := by decide +kernel
theorem dX5_agree_1 : decode cX5_agree 1 = .ok (.iload_n 2, 1) := by decide +kernel
theorem dX5_agree_2 : decode cX5_agree 2 = .ok (.invokestatic 211, 3) := by decide +kernel
theorem dX5_agree_5 : decode cX5_agree 5 = .ok (.ifCond .eq 15, 3) := by decide +kernel
theorem dX5_agree_8 : decode cX5_agree 8 = .ok (.iload_n 3, 1) := by decide +kernel
theorem dX5_agree_9 : decode cX5_agree 9 = .ok (.invokestatic 179, 3) := by decide +kernel
theorem dX5_agree_12 : decode cX5_agree 12 = .ok (.ifCond .eq 8, 3) := by decide +kernel
theorem dX5_agree_15 : decode cX5_agree 15 = .ok (.iload_n 3, 1) := by decide +kernel
theorem dX5_agree_16 : decode cX5_agree 16 = .ok (.iload_n 2, 1) := by decide +kernel
theorem dX5_agree_17 : decode cX5_agree 17 = .ok (.if_icmp .ge 5, 3) := by decide +kernel
theorem dX5_agree_20 : decode cX5_agree 20 = .ok (.iconst (-1), 1) := by decide +kernel
theorem dX5_agree_21 : decode cX5_agree 21 = .ok (.ireturn, 1) := by decide +kernel
theorem dX5_agree_22 : decode cX5_agree 22 = .ok (.iconst 0, 1) := by decide +kernel
theorem dX5_agree_23 : decode cX5_agree 23 = .ok (.istore 4, 2) := by decide +kernel
theorem dX5_agree_25 : decode cX5_agree 25 = .ok (.iconst 0, 1) := by decide +kernel
theorem dX5_agree_26 : decode cX5_agree 26 = .ok (.istore 5, 2) := by decide +kernel
theorem dX5_agree_28 : decode cX5_agree 28 = .ok (.iload 5, 2) := by decide +kernel
theorem dX5_agree_30 : decode cX5_agree 30 = .ok (.aload_n 0, 1) := by decide +kernel
theorem dX5_agree_31 : decode cX5_agree 31 = .ok (.getfield 45, 3) := by decide +kernel
theorem dX5_agree_34 : decode cX5_agree 34 = .ok (.getfield 119, 3) := by decide +kernel
theorem dX5_agree_37 : decode cX5_agree 37 = .ok (.if_icmp .ge 40, 3) := by decide +kernel
theorem dX5_agree_40 : decode cX5_agree 40 = .ok (.aload_n 0, 1) := by decide +kernel
theorem dX5_agree_41 : decode cX5_agree 41 = .ok (.getfield 45, 3) := by decide +kernel
theorem dX5_agree_44 : decode cX5_agree 44 = .ok (.iload_n 1, 1) := by decide +kernel
theorem dX5_agree_45 : decode cX5_agree 45 = .ok (.iload_n 2, 1) := by decide +kernel
theorem dX5_agree_46 : decode cX5_agree 46 = .ok (.iload_n 3, 1) := by decide +kernel
theorem dX5_agree_47 : decode cX5_agree 47 = .ok (.iload 5, 2) := by decide +kernel
theorem dX5_agree_49 : decode cX5_agree 49 = .ok (.invokevirtual 235, 3) := by decide +kernel
theorem dX5_agree_52 : decode cX5_agree 52 = .ok (.istore 6, 2) := by decide +kernel
theorem dX5_agree_54 : decode cX5_agree 54 = .ok (.iload 6, 2) := by decide +kernel
theorem dX5_agree_56 : decode cX5_agree 56 = .ok (.bipush (-9), 2) := by decide +kernel
theorem dX5_agree_58 : decode cX5_agree 58 = .ok (.if_icmp .ne 6, 3) := by decide +kernel
theorem dX5_agree_61 : decode cX5_agree 61 = .ok (.bipush (-9), 2) := by decide +kernel
theorem dX5_agree_63 : decode cX5_agree 63 = .ok (.ireturn, 1) := by decide +kernel
theorem dX5_agree_64 : decode cX5_agree 64 = .ok (.iload 4, 2) := by decide +kernel
theorem dX5_agree_66 : decode cX5_agree 66 = .ok (.iload 6, 2) := by decide +kernel
theorem dX5_agree_68 : decode cX5_agree 68 = .ok (.ior, 1) := by decide +kernel
theorem dX5_agree_69 : decode cX5_agree 69 = .ok (.istore 4, 2) := by decide +kernel
theorem dX5_agree_71 : decode cX5_agree 71 = .ok (.iinc 5 1, 3) := by decide +kernel
theorem dX5_agree_74 : decode cX5_agree 74 = .ok (.goto (-46), 3) := by decide +kernel
theorem dX5_agree_77 : decode cX5_agree 77 = .ok (.aload_n 0, 1) := by decide +kernel
theorem dX5_agree_78 : decode cX5_agree 78 = .ok (.getfield 24, 3) := by decide +kernel
theorem dX5_agree_81 : decode cX5_agree 81 = .ok (.iload 4, 2) := by decide +kernel
theorem dX5_agree_83 : decode cX5_agree 83 = .ok (.putfield 77, 3) := by decide +kernel
theorem dX5_agree_86 : decode cX5_agree 86 = .ok (.iload 4, 2) := by decide +kernel
theorem dX5_agree_88 : decode cX5_agree 88 = .ok (.invokestatic 171, 3) := by decide +kernel
theorem dX5_agree_91 : decode cX5_agree 91 = .ok (.ireturn, 1) := by decide +kernel
set_option maxRecDepth 20000 in
theorem ggX5_next_X5_isTown : GoodIn wsX5_next wsX5_isTown := goodIn_r _ [5] (by decide +kernel) (by decide +kernel)
set_option maxRecDepth 20000 in
theorem gX5_next_X5_isTown : GoodIn wsX5_next (va_wsS RX5 176 yX5_isTown wsX5_isTown) := goodIn_app (goodIn_of _ (by decide +kernel)) ggX5_next_X5_isTown
set_option maxRecDepth 20000 in
theorem ggX5_next_X5_isDay : GoodIn wsX5_next wsX5_isDay := goodIn_r _ [8] (by decide +kernel) (by decide +kernel)
set_option maxRecDepth 20000 in
theorem gX5_next_X5_isDay : GoodIn wsX5_next (va_wsS RX5 179 yX5_isDay wsX5_isDay) := goodIn_app (goodIn_of _ (by decide +kernel)) ggX5_next_X5_isDay
set_option maxRecDepth 20000 in
theorem ggX5_next_X0_isPerson : GoodIn wsX5_next wsX0_isPerson := goodIn_r _ [13, 14, 71, 72, 73, 74, 75, 76, 77, 78, 79, 80, 81, 82, 83, 84] (by decide +kernel) (by decide +kernel)
set_option maxRecDepth 20000 in
theorem gX5_next_X0_isPerson : GoodIn wsX5_next (wsV RX5 122 RX0 yX0_isPerson wsX0_isPerson) := goodIn_app (goodIn_of _ (by decide +kernel)) ggX5_next_X0_isPerson
set_option maxRecDepth 20000 in
theorem ggX5_next_X5_isDeed : GoodIn wsX5_next wsX5_isDeed := goodIn_r _ [17] (by decide +kernel) (by decide +kernel)
set_option maxRecDepth 20000 in
theorem gX5_next_X5_isDeed : GoodIn wsX5_next (va_wsS RX5 229 yX5_isDeed wsX5_isDeed) := goodIn_app (goodIn_of _ (by decide +kernel)) ggX5_next_X5_isDeed
set_option maxRecDepth 20000 in
theorem ggX5_next_X0_done : GoodIn wsX5_next wsX0_done := goodIn_r _ [21, 22, 23, 24, 12, 25, 26, 27, 28, 29, 30, 31, 32, 33, 34, 35, 3, 4, 5, 7, 8, 36, 10, 11, 13, 14, 37, 38, 39, 40, 41, 42, 43, 44, 45, 46, 47, 48, 49, 50, 51, 52, 53, 54, 55, 56, 57, 58, 59, 60, 61, 62, 71, 72, 73, 74, 75, 76, 77, 78, 79, 80, 81, 82, 83, 84] (by decide +kernel) (by decide +kernel)
set_option maxRecDepth 20000 in
theorem gX5_next_X0_done : GoodIn wsX5_next (wsV RX5 207 RX0 yX0_done wsX0_done) := goodIn_app (goodIn_of _ (by decide +kernel)) ggX5_next_X0_done
theorem dX5_next_0 : decode cX5_next 0 = .ok (.iload_n 1, 1) := by decide +kernel
theorem dX5_next_1 : decode cX5_next 1 = .ok (.invokestatic 176, 3) := by decide +kernel
theorem dX5_next_4 : decode cX5_next 4 = .ok (.ifCond .eq 29, 3) := by decide +kernel
theorem dX5_next_7 : decode cX5_next 7 = .ok (.iload_n 2, 1) := by decide +kernel
theorem dX5_next_8 : decode cX5_next 8 = .ok (.invokestatic 179, 3) := by decide +kernel
theorem dX5_next_11 : decode cX5_next 11 = .ok (.ifCond .eq 22, 3) := by decide +kernel
theorem dX5_next_14 : decode cX5_next 14 = .ok (.aload_n 0, 1) := by decide +kernel
theorem dX5_next_15 : decode cX5_next 15 = .ok (.getfield 45, 3) := by decide +kernel
theorem dX5_next_18 : decode cX5_next 18 = .ok (.iload_n 3, 1) := by decide +kernel
theorem dX5_next_19 : decode cX5_next 19 = .ok (.invokevirtual 122, 3) := by decide +kernel
theorem dX5_next_22 : decode cX5_next 22 = .ok (.ifCond .eq 11, 3) := by decide +kernel
theorem dX5_next_25 : decode cX5_next 25 = .ok (.iload 4, 2) := by decide +kernel
theorem dX5_next_27 : decode cX5_next 27 = .ok (.invokestatic 229, 3) := by decide +kernel
theorem dX5_next_30 : decode cX5_next 30 = .ok (.ifCond .ne 5, 3) := by decide +kernel
theorem dX5_next_33 : decode cX5_next 33 = .ok (.iconst (-1), 1) := by decide +kernel
theorem dX5_next_34 : decode cX5_next 34 = .ok (.ireturn, 1) := by decide +kernel
theorem dX5_next_35 : decode cX5_next 35 = .ok (.iload_n 2, 1) := by decide +kernel
theorem dX5_next_36 : decode cX5_next 36 = .ok (.istore 5, 2) := by decide +kernel
theorem dX5_next_38 : decode cX5_next 38 = .ok (.iload 5, 2) := by decide +kernel
theorem dX5_next_40 : decode cX5_next 40 = .ok (.bipush 20, 2) := by decide +kernel
theorem dX5_next_42 : decode cX5_next 42 = .ok (.if_icmp .ge 28, 3) := by decide +kernel
theorem dX5_next_45 : decode cX5_next 45 = .ok (.aload_n 0, 1) := by decide +kernel
theorem dX5_next_46 : decode cX5_next 46 = .ok (.getfield 45, 3) := by decide +kernel
theorem dX5_next_49 : decode cX5_next 49 = .ok (.iload_n 1, 1) := by decide +kernel
theorem dX5_next_50 : decode cX5_next 50 = .ok (.iload 5, 2) := by decide +kernel
theorem dX5_next_52 : decode cX5_next 52 = .ok (.iload_n 3, 1) := by decide +kernel
theorem dX5_next_53 : decode cX5_next 53 = .ok (.invokevirtual 207, 3) := by decide +kernel
theorem dX5_next_56 : decode cX5_next 56 = .ok (.iload 4, 2) := by decide +kernel
theorem dX5_next_58 : decode cX5_next 58 = .ok (.if_icmp .ne 6, 3) := by decide +kernel
theorem dX5_next_61 : decode cX5_next 61 = .ok (.iload 5, 2) := by decide +kernel
theorem dX5_next_63 : decode cX5_next 63 = .ok (.ireturn, 1) := by decide +kernel
theorem dX5_next_64 : decode cX5_next 64 = .ok (.iinc 5 1, 3) := by decide +kernel
theorem dX5_next_67 : decode cX5_next 67 = .ok (.goto (-29), 3) := by decide +kernel
theorem dX5_next_70 : decode cX5_next 70 = .ok (.bipush (-9), 2) := by decide +kernel
theorem dX5_next_72 : decode cX5_next 72 = .ok (.ireturn, 1) := by decide +kernel
set_option maxRecDepth 20000 in
theorem ggX5_letter_X5_isTown : GoodIn wsX5_letter wsX5_isTown := goodIn_r _ [7] (by decide +kernel) (by decide +kernel)
set_option maxRecDepth 20000 in
theorem gX5_letter_X5_isTown : GoodIn wsX5_letter (va_wsS RX5 176 yX5_isTown wsX5_isTown) := goodIn_app (goodIn_of _ (by decide +kernel)) ggX5_letter_X5_isTown
set_option maxRecDepth 20000 in
theorem ggX5_letter_X0_isPerson : GoodIn wsX5_letter wsX0_isPerson := goodIn_r _ [12, 13, 77, 78, 79, 80, 81, 82, 83, 84, 85, 86, 87, 88, 89, 90] (by decide +kernel) (by decide +kernel)
set_option maxRecDepth 20000 in
theorem gX5_letter_X0_isPerson : GoodIn wsX5_letter (wsV RX5 122 RX0 yX0_isPerson wsX0_isPerson) := goodIn_app (goodIn_of _ (by decide +kernel)) ggX5_letter_X0_isPerson
set_option maxRecDepth 20000 in
theorem ggX5_letter_X5_isDeed : GoodIn wsX5_letter wsX5_isDeed := goodIn_r _ [16] (by decide +kernel) (by decide +kernel)
set_option maxRecDepth 20000 in
theorem gX5_letter_X5_isDeed : GoodIn wsX5_letter (va_wsS RX5 229 yX5_isDeed wsX5_isDeed) := goodIn_app (goodIn_of _ (by decide +kernel)) ggX5_letter_X5_isDeed
set_option maxRecDepth 20000 in
theorem ggX5_letter_X0_done : GoodIn wsX5_letter wsX0_done := goodIn_r _ [20, 21, 22, 23, 11, 24, 25, 26, 27, 28, 29, 30, 31, 32, 33, 34, 5, 6, 7, 35, 36, 37, 9, 10, 12, 13, 38, 39, 40, 41, 42, 43, 44, 45, 46, 47, 48, 49, 50, 51, 52, 53, 54, 55, 56, 57, 58, 59, 60, 61, 62, 63, 77, 78, 79, 80, 81, 82, 83, 84, 85, 86, 87, 88, 89, 90] (by decide +kernel) (by decide +kernel)
set_option maxRecDepth 20000 in
theorem gX5_letter_X0_done : GoodIn wsX5_letter (wsV RX5 207 RX0 yX0_done wsX0_done) := goodIn_app (goodIn_of _ (by decide +kernel)) ggX5_letter_X0_done
theorem dX5_letter_0 : decode cX5_letter 0 = .ok (.iload_n 1, 1) := by decide +kernel
theorem dX5_letter_1 : decode cX5_letter 1 = .ok (.invokestatic 176, 3) := by decide +kernel
theorem dX5_letter_4 : decode cX5_letter 4 = .ok (.ifCond .eq 21, 3) := by decide +kernel
theorem dX5_letter_7 : decode cX5_letter 7 = .ok (.aload_n 0, 1) := by decide +kernel
theorem dX5_letter_8 : decode cX5_letter 8 = .ok (.getfield 45, 3) := by decide +kernel
theorem dX5_letter_11 : decode cX5_letter 11 = .ok (.iload_n 2, 1) := by decide +kernel
theorem dX5_letter_12 : decode cX5_letter 12 = .ok (.invokevirtual 122, 3) := by decide +kernel
theorem dX5_letter_15 : decode cX5_letter 15 = .ok (.ifCond .eq 10, 3) := by decide +kernel
theorem dX5_letter_18 : decode cX5_letter 18 = .ok (.iload_n 3, 1) := by decide +kernel
theorem dX5_letter_19 : decode cX5_letter 19 = .ok (.invokestatic 229, 3) := by decide +kernel
theorem dX5_letter_22 : decode cX5_letter 22 = .ok (.ifCond .ne 5, 3) := by decide +kernel
theorem dX5_letter_25 : decode cX5_letter 25 = .ok (.iconst (-1), 1) := by decide +kernel
theorem dX5_letter_26 : decode cX5_letter 26 = .ok (.ireturn, 1) := by decide +kernel
theorem dX5_letter_27 : decode cX5_letter 27 = .ok (.iconst 0, 1) := by decide +kernel
theorem dX5_letter_28 : decode cX5_letter 28 = .ok (.istore 4, 2) := by decide +kernel
theorem dX5_letter_30 : decode cX5_letter 30 = .ok (.iload 4, 2) := by decide +kernel
theorem dX5_letter_32 : decode cX5_letter 32 = .ok (.aload_n 0, 1) := by decide +kernel
theorem dX5_letter_33 : decode cX5_letter 33 = .ok (.getfield 53, 3) := by decide +kernel
theorem dX5_letter_36 : decode cX5_letter 36 = .ok (.arraylength, 1) := by decide +kernel
theorem dX5_letter_37 : decode cX5_letter 37 = .ok (.if_icmp .ge 18, 3) := by decide +kernel
theorem dX5_letter_40 : decode cX5_letter 40 = .ok (.aload_n 0, 1) := by decide +kernel
theorem dX5_letter_41 : decode cX5_letter 41 = .ok (.getfield 53, 3) := by decide +kernel
theorem dX5_letter_44 : decode cX5_letter 44 = .ok (.iload 4, 2) := by decide +kernel
theorem dX5_letter_46 : decode cX5_letter 46 = .ok (.bipush (-9), 2) := by decide +kernel
theorem dX5_letter_48 : decode cX5_letter 48 = .ok (.iastore, 1) := by decide +kernel
theorem dX5_letter_49 : decode cX5_letter 49 = .ok (.iinc 4 1, 3) := by decide +kernel
theorem dX5_letter_52 : decode cX5_letter 52 = .ok (.goto (-22), 3) := by decide +kernel
theorem dX5_letter_55 : decode cX5_letter 55 = .ok (.iload_n 1, 1) := by decide +kernel
theorem dX5_letter_56 : decode cX5_letter 56 = .ok (.istore 4, 2) := by decide +kernel
theorem dX5_letter_58 : decode cX5_letter 58 = .ok (.iload_n 3, 1) := by decide +kernel
theorem dX5_letter_59 : decode cX5_letter 59 = .ok (.istore 5, 2) := by decide +kernel
theorem dX5_letter_61 : decode cX5_letter 61 = .ok (.iconst 0, 1) := by decide +kernel
theorem dX5_letter_62 : decode cX5_letter 62 = .ok (.istore 6, 2) := by decide +kernel
theorem dX5_letter_64 : decode cX5_letter 64 = .ok (.iload 6, 2) := by decide +kernel
theorem dX5_letter_66 : decode cX5_letter 66 = .ok (.bipush 50, 2) := by decide +kernel
theorem dX5_letter_68 : decode cX5_letter 68 = .ok (.if_icmp .gt 93, 3) := by decide +kernel
theorem dX5_letter_71 : decode cX5_letter 71 = .ok (.iload 5, 2) := by decide +kernel
theorem dX5_letter_73 : decode cX5_letter 73 = .ok (.invokestatic 229, 3) := by decide +kernel
theorem dX5_letter_76 : decode cX5_letter 76 = .ok (.ifCond .eq 85, 3) := by decide +kernel
theorem dX5_letter_79 : decode cX5_letter 79 = .ok (.iload 4, 2) := by decide +kernel
theorem dX5_letter_81 : decode cX5_letter 81 = .ok (.bipush 10, 2) := by decide +kernel
theorem dX5_letter_83 : decode cX5_letter 83 = .ok (.imul, 1) := by decide +kernel
theorem dX5_letter_84 : decode cX5_letter 84 = .ok (.iload 5, 2) := by decide +kernel
theorem dX5_letter_86 : decode cX5_letter 86 = .ok (.iadd, 1) := by decide +kernel
theorem dX5_letter_87 : decode cX5_letter 87 = .ok (.istore 7, 2) := by decide +kernel
theorem dX5_letter_89 : decode cX5_letter 89 = .ok (.aload_n 0, 1) := by decide +kernel
theorem dX5_letter_90 : decode cX5_letter 90 = .ok (.getfield 53, 3) := by decide +kernel
theorem dX5_letter_93 : decode cX5_letter 93 = .ok (.iload 7, 2) := by decide +kernel
theorem dX5_letter_95 : decode cX5_letter 95 = .ok (.iaload, 1) := by decide +kernel
theorem dX5_letter_96 : decode cX5_letter 96 = .ok (.bipush (-9), 2) := by decide +kernel
theorem dX5_letter_98 : decode cX5_letter 98 = .ok (.if_icmp .eq 23, 3) := by decide +kernel
theorem dX5_letter_101 : decode cX5_letter 101 = .ok (.aload_n 0, 1) := by decide +kernel
theorem dX5_letter_102 : decode cX5_letter 102 = .ok (.getfield 24, 3) := by decide +kernel
theorem dX5_letter_105 : decode cX5_letter 105 = .ok (.iload 6, 2) := by decide +kernel
theorem dX5_letter_107 : decode cX5_letter 107 = .ok (.aload_n 0, 1) := by decide +kernel
theorem dX5_letter_108 : decode cX5_letter 108 = .ok (.getfield 53, 3) := by decide +kernel
theorem dX5_letter_111 : decode cX5_letter 111 = .ok (.iload 7, 2) := by decide +kernel
theorem dX5_letter_113 : decode cX5_letter 113 = .ok (.iaload, 1) := by decide +kernel
theorem dX5_letter_114 : decode cX5_letter 114 = .ok (.isub, 1) := by decide +kernel
theorem dX5_letter_115 : decode cX5_letter 115 = .ok (.putfield 77, 3) := by decide +kernel
theorem dX5_letter_118 : decode cX5_letter 118 = .ok (.iload 6, 2) := by decide +kernel
theorem dX5_letter_120 : decode cX5_letter 120 = .ok (.ireturn, 1) := by decide +kernel
theorem dX5_letter_121 : decode cX5_letter 121 = .ok (.aload_n 0, 1) := by decide +kernel
theorem dX5_letter_122 : decode cX5_letter 122 = .ok (.getfield 53, 3) := by decide +kernel
theorem dX5_letter_125 : decode cX5_letter 125 = .ok (.iload 7, 2) := by decide +kernel
theorem dX5_letter_127 : decode cX5_letter 127 = .ok (.iload 6, 2) := by decide +kernel
theorem dX5_letter_129 : decode cX5_letter 129 = .ok (.iastore, 1) := by decide +kernel
theorem dX5_letter_130 : decode cX5_letter 130 = .ok (.aload_n 0, 1) := by decide +kernel
theorem dX5_letter_131 : decode cX5_letter 131 = .ok (.getfield 45, 3) := by decide +kernel
theorem dX5_letter_134 : decode cX5_letter 134 = .ok (.iload 4, 2) := by decide +kernel
theorem dX5_letter_136 : decode cX5_letter 136 = .ok (.bipush 10, 2) := by decide +kernel
theorem dX5_letter_138 : decode cX5_letter 138 = .ok (.iload 5, 2) := by decide +kernel
theorem dX5_letter_140 : decode cX5_letter 140 = .ok (.iadd, 1) := by decide +kernel
theorem dX5_letter_141 : decode cX5_letter 141 = .ok (.iload_n 2, 1) := by decide +kernel
theorem dX5_letter_142 : decode cX5_letter 142 = .ok (.invokevirtual 207, 3) := by decide +kernel
theorem dX5_letter_145 : decode cX5_letter 145 = .ok (.istore 5, 2) := by decide +kernel
theorem dX5_letter_147 : decode cX5_letter 147 = .ok (.iload 4, 2) := by decide +kernel
theorem dX5_letter_149 : decode cX5_letter 149 = .ok (.iconst 1, 1) := by decide +kernel
theorem dX5_letter_150 : decode cX5_letter 150 = .ok (.iadd, 1) := by decide +kernel
theorem dX5_letter_151 : decode cX5_letter 151 = .ok (.iconst 5, 1) := by decide +kernel
theorem dX5_letter_152 : decode cX5_letter 152 = .ok (.irem, 1) := by decide +kernel
theorem dX5_letter_153 : decode cX5_letter 153 = .ok (.istore 4, 2) := by decide +kernel
theorem dX5_letter_155 : decode cX5_letter 155 = .ok (.iinc 6 1, 3) := by decide +kernel
theorem dX5_letter_158 : decode cX5_letter 158 = .ok (.goto (-94), 3) := by decide +kernel
theorem dX5_letter_161 : decode cX5_letter 161 = .ok (.bipush (-9), 2) := by decide +kernel
theorem dX5_letter_163 : decode cX5_letter 163 = .ok (.ireturn, 1) := by decide +kernel
set_option maxRecDepth 20000 in
theorem ggX5_fits_X5_foursRefused : GoodIn wsX5_fits wsX5_foursRefused := goodIn_r _ [9, 3, 2, 4, 10, 11, 12, 13, 14, 15, 16, 17, 18, 19, 20, 21, 22, 23, 24, 25, 26, 27, 28, 29, 30, 31, 32, 33, 34, 8, 35, 36, 37, 38, 39, 40, 41, 42, 43, 44, 45, 46, 47, 48, 49, 50, 51, 52, 53, 54, 55, 56, 57, 58, 59, 153, 154, 155, 156, 157, 158, 159, 160, 170, 171, 172, 173, 174, 175, 176, 177, 178, 179, 180, 181, 182, 183, 184, 185, 186, 165, 166, 167, 168, 169] (by decide +kernel) (by decide +kernel)
set_option maxRecDepth 20000 in
theorem gX5_fits_X5_foursRefused : GoodIn wsX5_fits (wsV RX5 238 RX5 yX5_foursRefused wsX5_foursRefused) := goodIn_app (goodIn_of _ (by decide +kernel)) ggX5_fits_X5_foursRefused
set_option maxRecDepth 20000 in
theorem ggX5_fits_X1_find : GoodIn wsX5_fits wsX1_find := goodIn_r _ [64, 65, 66, 67, 68, 69, 70, 71, 54, 72, 73, 74, 75, 76, 63, 77, 78, 29, 30, 13, 31, 15, 20, 11, 12, 14, 79, 37, 38, 39, 40, 41, 42, 43, 44, 80, 81, 82, 83, 84, 85, 86, 87, 88, 89, 90, 91, 92, 93, 94, 95, 96, 97, 98, 99, 100, 101, 102, 103, 104, 105, 106, 107, 108, 109, 110, 111, 112, 113, 46, 8, 47, 49, 50, 114, 52, 53, 55, 56, 115, 116, 117, 118, 119, 120, 121, 122, 123, 124, 125, 126, 127, 128, 129, 130, 131, 132, 133, 134, 135, 136, 137, 138, 139, 140, 141, 142, 143, 161, 162, 163, 164, 170, 171, 172, 173, 174, 175, 176, 177, 178, 179, 180, 181, 182, 183, 184, 185, 186] (by decide +kernel) (by decide +kernel)
set_option maxRecDepth 20000 in
theorem gX5_fits_X1_find : GoodIn wsX5_fits (wsV RX5 241 RX1 yX1_find wsX1_find) := goodIn_app (goodIn_of _ (by decide +kernel)) ggX5_fits_X1_find
set_option maxRecDepth 20000 in
theorem ggX5_fits_X4_tell : GoodIn wsX5_fits wsX4_tell := goodIn_r _ [147, 148, 149, 150, 151, 24, 152, 165, 166, 167, 168, 169] (by decide +kernel) (by decide +kernel)
set_option maxRecDepth 20000 in
theorem gX5_fits_X4_tell : GoodIn wsX5_fits (wsV RX5 252 RX4 yX4_tell wsX4_tell) := goodIn_app (goodIn_of _ (by decide +kernel)) ggX5_fits_X4_tell
theorem dX5_fits_0 : decode cX5_fits 0 = .ok (.aload_n 0, 1) := by decide +kernel
theorem dX5_fits_1 : decode cX5_fits 1 = .ok (.iload_n 1, 1) := by decide +kernel
theorem dX5_fits_2 : decode cX5_fits 2 = .ok (.invokevirtual 238, 3) := by decide +kernel
theorem dX5_fits_5 : decode cX5_fits 5 = .ok (.istore_n 2, 1) := by decide +kernel
theorem dX5_fits_6 : decode cX5_fits 6 = .ok (.iload_n 2, 1) := by decide +kernel
theorem dX5_fits_7 : decode cX5_fits 7 = .ok (.ifCond .eq 5, 3) := by decide +kernel
theorem dX5_fits_10 : decode cX5_fits 10 = .ok (.iload_n 2, 1) := by decide +kernel
theorem dX5_fits_11 : decode cX5_fits 11 = .ok (.ireturn, 1) := by decide +kernel
theorem dX5_fits_12 : decode cX5_fits 12 = .ok (.aload_n 0, 1) := by decide +kernel
theorem dX5_fits_13 : decode cX5_fits 13 = .ok (.getfield 38, 3) := by decide +kernel
theorem dX5_fits_16 : decode cX5_fits 16 = .ok (.aload_n 0, 1) := by decide +kernel
theorem dX5_fits_17 : decode cX5_fits 17 = .ok (.getfield 45, 3) := by decide +kernel
theorem dX5_fits_20 : decode cX5_fits 20 = .ok (.aload_n 0, 1) := by decide +kernel
theorem dX5_fits_21 : decode cX5_fits 21 = .ok (.getfield 14, 3) := by decide +kernel
theorem dX5_fits_24 : decode cX5_fits 24 = .ok (.iload_n 1, 1) := by decide +kernel
theorem dX5_fits_25 : decode cX5_fits 25 = .ok (.invokevirtual 241, 3) := by decide +kernel
theorem dX5_fits_28 : decode cX5_fits 28 = .ok (.aload_n 0, 1) := by decide +kernel
theorem dX5_fits_29 : decode cX5_fits 29 = .ok (.getfield 24, 3) := by decide +kernel
theorem dX5_fits_32 : decode cX5_fits 32 = .ok (.aload_n 0, 1) := by decide +kernel
theorem dX5_fits_33 : decode cX5_fits 33 = .ok (.getfield 38, 3) := by decide +kernel
theorem dX5_fits_36 : decode cX5_fits 36 = .ok (.getfield 245, 3) := by decide +kernel
theorem dX5_fits_39 : decode cX5_fits 39 = .ok (.putfield 77, 3) := by decide +kernel
theorem dX5_fits_42 : decode cX5_fits 42 = .ok (.aload_n 0, 1) := by decide +kernel
theorem dX5_fits_43 : decode cX5_fits 43 = .ok (.getfield 24, 3) := by decide +kernel
theorem dX5_fits_46 : decode cX5_fits 46 = .ok (.aload_n 0, 1) := by decide +kernel
theorem dX5_fits_47 : decode cX5_fits 47 = .ok (.getfield 38, 3) := by decide +kernel
theorem dX5_fits_50 : decode cX5_fits 50 = .ok (.getfield 248, 3) := by decide +kernel
theorem dX5_fits_53 : decode cX5_fits 53 = .ok (.lconst 1, 1) := by decide +kernel
theorem dX5_fits_54 : decode cX5_fits 54 = .ok (.invokevirtual 252, 3) := by decide +kernel
theorem dX5_fits_57 : decode cX5_fits 57 = .ok (.iconst 1, 1) := by decide +kernel
theorem dX5_fits_58 : decode cX5_fits 58 = .ok (.ireturn, 1) := by decide +kernel
set_option maxRecDepth 20000 in
theorem ggX5_sure_X5_foursRefused : GoodIn wsX5_sure wsX5_foursRefused := goodIn_r _ [9, 3, 2, 4, 10, 11, 12, 13, 14, 15, 16, 17, 18, 19, 20, 21, 22, 23, 24, 25, 26, 27, 28, 29, 30, 31, 32, 33, 34, 8, 35, 36, 37, 38, 39, 40, 41, 42, 43, 44, 45, 46, 47, 48, 49, 50, 51, 52, 53, 54, 55, 56, 57, 58, 59, 145, 146, 147, 148, 149, 150, 151, 152, 162, 163, 164, 165, 166, 167, 168, 169, 170, 171, 172, 173, 174, 175, 176, 177, 178, 157, 158, 159, 160, 161] (by decide +kernel) (by decide +kernel)
set_option maxRecDepth 20000 in
theorem gX5_sure_X5_foursRefused : GoodIn wsX5_sure (wsV RX5 238 RX5 yX5_foursRefused wsX5_foursRefused) := goodIn_app (goodIn_of _ (by decide +kernel)) ggX5_sure_X5_foursRefused
set_option maxRecDepth 20000 in
theorem ggX5_sure_X1_find : GoodIn wsX5_sure wsX1_find := goodIn_r _ [64, 65, 66, 67, 68, 69, 70, 71, 54, 72, 73, 74, 75, 76, 63, 77, 78, 29, 30, 13, 31, 15, 20, 11, 12, 14, 79, 37, 38, 39, 40, 41, 42, 43, 44, 80, 81, 82, 83, 84, 85, 86, 87, 88, 89, 90, 91, 92, 93, 94, 95, 96, 97, 98, 99, 100, 101, 102, 103, 104, 105, 106, 107, 108, 109, 110, 111, 112, 113, 46, 8, 47, 49, 50, 114, 52, 53, 55, 56, 115, 116, 117, 118, 119, 120, 121, 122, 123, 124, 125, 126, 127, 128, 129, 130, 131, 132, 133, 134, 135, 136, 137, 138, 139, 140, 141, 142, 143, 153, 154, 155, 156, 162, 163, 164, 165, 166, 167, 168, 169, 170, 171, 172, 173, 174, 175, 176, 177, 178] (by decide +kernel) (by decide +kernel)
set_option maxRecDepth 20000 in
theorem gX5_sure_X1_find : GoodIn wsX5_sure (wsV RX5 241 RX1 yX1_find wsX1_find) := goodIn_app (goodIn_of _ (by decide +kernel)) ggX5_sure_X1_find
set_option maxRecDepth 20000 in
theorem ggX5_sure_X4_found : GoodIn wsX5_sure wsX4_found := goodIn_r _ [25, 26, 27, 157, 158, 159, 160, 161] (by decide +kernel) (by decide +kernel)
set_option maxRecDepth 20000 in
theorem gX5_sure_X4_found : GoodIn wsX5_sure (wsV RX5 61 RX4 yX4_found wsX4_found) := goodIn_app (goodIn_of _ (by decide +kernel)) ggX5_sure_X4_found
set_option maxRecDepth 20000 in
theorem ggX5_sure_X0_unmended : GoodIn wsX5_sure wsX0_unmended := goodIn_r _ [72, 73, 74, 162, 163, 164, 165, 166, 167, 168, 169, 170, 171, 172, 173, 174, 175] (by decide +kernel) (by decide +kernel)
set_option maxRecDepth 20000 in
theorem gX5_sure_X0_unmended : GoodIn wsX5_sure (wsV RX5 217 RX0 yX0_unmended wsX0_unmended) := goodIn_app (goodIn_of _ (by decide +kernel)) ggX5_sure_X0_unmended
theorem dX5_sure_0 : decode cX5_sure 0 = .ok (.aload_n 0, 1) := by decide +kernel
theorem dX5_sure_1 : decode cX5_sure 1 = .ok (.iload_n 1, 1) := by decide +kernel
theorem dX5_sure_2 : decode cX5_sure 2 = .ok (.invokevirtual 238, 3) := by decide +kernel
theorem dX5_sure_5 : decode cX5_sure 5 = .ok (.istore_n 2, 1) := by decide +kernel
theorem dX5_sure_6 : decode cX5_sure 6 = .ok (.iload_n 2, 1) := by decide +kernel
theorem dX5_sure_7 : decode cX5_sure 7 = .ok (.ifCond .eq 5, 3) := by decide +kernel
theorem dX5_sure_10 : decode cX5_sure 10 = .ok (.iload_n 2, 1) := by decide +kernel
theorem dX5_sure_11 : decode cX5_sure 11 = .ok (.ireturn, 1) := by decide +kernel
theorem dX5_sure_12 : decode cX5_sure 12 = .ok (.aload_n 0, 1) := by decide +kernel
theorem dX5_sure_13 : decode cX5_sure 13 = .ok (.getfield 38, 3) := by decide +kernel
theorem dX5_sure_16 : decode cX5_sure 16 = .ok (.aload_n 0, 1) := by decide +kernel
theorem dX5_sure_17 : decode cX5_sure 17 = .ok (.getfield 45, 3) := by decide +kernel
theorem dX5_sure_20 : decode cX5_sure 20 = .ok (.aload_n 0, 1) := by decide +kernel
theorem dX5_sure_21 : decode cX5_sure 21 = .ok (.getfield 14, 3) := by decide +kernel
theorem dX5_sure_24 : decode cX5_sure 24 = .ok (.iload_n 1, 1) := by decide +kernel
theorem dX5_sure_25 : decode cX5_sure 25 = .ok (.invokevirtual 241, 3) := by decide +kernel
theorem dX5_sure_28 : decode cX5_sure 28 = .ok (.aload_n 0, 1) := by decide +kernel
theorem dX5_sure_29 : decode cX5_sure 29 = .ok (.getfield 38, 3) := by decide +kernel
theorem dX5_sure_32 : decode cX5_sure 32 = .ok (.getfield 248, 3) := by decide +kernel
theorem dX5_sure_35 : decode cX5_sure 35 = .ok (.lconst 0, 1) := by decide +kernel
theorem dX5_sure_36 : decode cX5_sure 36 = .ok (.lcmp, 1) := by decide +kernel
theorem dX5_sure_37 : decode cX5_sure 37 = .ok (.ifCond .ne 12, 3) := by decide +kernel
theorem dX5_sure_40 : decode cX5_sure 40 = .ok (.aload_n 0, 1) := by decide +kernel
theorem dX5_sure_41 : decode cX5_sure 41 = .ok (.getfield 24, 3) := by decide +kernel
theorem dX5_sure_44 : decode cX5_sure 44 = .ok (.iconst 4, 1) := by decide +kernel
theorem dX5_sure_45 : decode cX5_sure 45 = .ok (.invokevirtual 61, 3) := by decide +kernel
theorem dX5_sure_48 : decode cX5_sure 48 = .ok (.ireturn, 1) := by decide +kernel
theorem dX5_sure_49 : decode cX5_sure 49 = .ok (.aload_n 0, 1) := by decide +kernel
theorem dX5_sure_50 : decode cX5_sure 50 = .ok (.getfield 24, 3) := by decide +kernel
theorem dX5_sure_53 : decode cX5_sure 53 = .ok (.aload_n 0, 1) := by decide +kernel
theorem dX5_sure_54 : decode cX5_sure 54 = .ok (.getfield 45, 3) := by decide +kernel
theorem dX5_sure_57 : decode cX5_sure 57 = .ok (.invokevirtual 217, 3) := by decide +kernel
theorem dX5_sure_60 : decode cX5_sure 60 = .ok (.aload_n 0, 1) := by decide +kernel
theorem dX5_sure_61 : decode cX5_sure 61 = .ok (.getfield 38, 3) := by decide +kernel
theorem dX5_sure_64 : decode cX5_sure 64 = .ok (.getfield 256, 3) := by decide +kernel
theorem dX5_sure_67 : decode cX5_sure 67 = .ok (.iconst (-1), 1) := by decide +kernel
theorem dX5_sure_68 : decode cX5_sure 68 = .ok (.ixor, 1) := by decide +kernel
theorem dX5_sure_69 : decode cX5_sure 69 = .ok (.iand, 1) := by decide +kernel
theorem dX5_sure_70 : decode cX5_sure 70 = .ok (.putfield 77, 3) := by decide +kernel
theorem dX5_sure_73 : decode cX5_sure 73 = .ok (.aload_n 0, 1) := by decide +kernel
theorem dX5_sure_74 : decode cX5_sure 74 = .ok (.getfield 38, 3) := by decide +kernel
theorem dX5_sure_77 : decode cX5_sure 77 = .ok (.getfield 259, 3) := by decide +kernel
theorem dX5_sure_80 : decode cX5_sure 80 = .ok (.ireturn, 1) := by decide +kernel
set_option maxRecDepth 20000 in
theorem ggX5_lies_X5_foursRefused : GoodIn wsX5_lies wsX5_foursRefused := goodIn_r _ [9, 1, 3, 4, 10, 11, 12, 13, 14, 15, 16, 17, 18, 19, 20, 21, 22, 23, 24, 25, 26, 27, 28, 29, 30, 31, 32, 33, 34, 8, 35, 36, 37, 38, 39, 40, 41, 42, 43, 44, 45, 46, 47, 48, 49, 50, 51, 52, 53, 54, 55, 56, 57, 58, 59, 107, 108, 109, 110, 111, 112, 113, 114, 120, 121, 122, 123, 124, 125, 126, 127, 128, 129, 130, 131, 132, 133, 134, 135, 136, 115, 116, 117, 118, 119] (by decide +kernel) (by decide +kernel)
set_option maxRecDepth 20000 in
theorem gX5_lies_X5_foursRefused : GoodIn wsX5_lies (wsV RX5 238 RX5 yX5_foursRefused wsX5_foursRefused) := goodIn_app (goodIn_of _ (by decide +kernel)) ggX5_lies_X5_foursRefused
set_option maxRecDepth 20000 in
theorem ggX5_lies_X3_sizeOf : GoodIn wsX5_lies wsX3_sizeOf := goodIn_r _ [31, 15, 20, 11, 12, 13, 14, 134, 135, 136] (by decide +kernel) (by decide +kernel)
set_option maxRecDepth 20000 in
theorem gX5_lies_X3_sizeOf : GoodIn wsX5_lies (wsV RX5 103 RX3 yX3_sizeOf wsX3_sizeOf) := goodIn_app (goodIn_of _ (by decide +kernel)) ggX5_lies_X3_sizeOf
set_option maxRecDepth 20000 in
theorem ggX5_lies_X0_unmended : GoodIn wsX5_lies wsX0_unmended := goodIn_r _ [63, 64, 65, 120, 121, 122, 123, 124, 125, 126, 127, 128, 129, 130, 131, 132, 133] (by decide +kernel) (by decide +kernel)
set_option maxRecDepth 20000 in
theorem gX5_lies_X0_unmended : GoodIn wsX5_lies (wsV RX5 217 RX0 yX0_unmended wsX0_unmended) := goodIn_app (goodIn_of _ (by decide +kernel)) ggX5_lies_X0_unmended
set_option maxRecDepth 20000 in
theorem ggX5_lies_X1_isAsTold : GoodIn wsX5_lies wsX1_isAsTold := goodIn_r _ [70, 71, 37, 38, 13, 39, 40, 41, 42, 43, 44, 15, 20, 11, 12, 14, 72, 73, 74, 54, 75, 76, 77, 78, 79, 46, 8, 47, 49, 50, 80, 52, 53, 55, 56, 81, 82, 83, 84, 85, 64, 86, 87, 88, 89, 90, 91, 92, 93, 94, 95, 96, 97, 98, 99, 100, 101, 102, 103, 104, 105, 106, 134, 135, 136, 120, 121, 122, 123, 124, 125, 126, 127, 128, 129, 130, 131, 132, 133] (by decide +kernel) (by decide +kernel)
set_option maxRecDepth 20000 in
theorem gX5_lies_X1_isAsTold : GoodIn wsX5_lies (wsV RX5 262 RX1 yX1_isAsTold wsX1_isAsTold) := goodIn_app (goodIn_of _ (by decide +kernel)) ggX5_lies_X1_isAsTold
theorem dX5_lies_0 : decode cX5_lies 0 = .ok (.aload_n 0, 1) := by decide +kernel
theorem dX5_lies_1 : decode cX5_lies 1 = .ok (.iload_n 1, 1) := by decide +kernel
theorem dX5_lies_2 : decode cX5_lies 2 = .ok (.invokevirtual 238, 3) := by decide +kernel
theorem dX5_lies_5 : decode cX5_lies 5 = .ok (.istore_n 2, 1) := by decide +kernel
theorem dX5_lies_6 : decode cX5_lies 6 = .ok (.iload_n 2, 1) := by decide +kernel
theorem dX5_lies_7 : decode cX5_lies 7 = .ok (.ifCond .eq 5, 3) := by decide +kernel
theorem dX5_lies_10 : decode cX5_lies 10 = .ok (.iload_n 2, 1) := by decide +kernel
theorem dX5_lies_11 : decode cX5_lies 11 = .ok (.ireturn, 1) := by decide +kernel
theorem dX5_lies_12 : decode cX5_lies 12 = .ok (.bipush (-9), 2) := by decide +kernel
theorem dX5_lies_14 : decode cX5_lies 14 = .ok (.istore_n 3, 1) := by decide +kernel
theorem dX5_lies_15 : decode cX5_lies 15 = .ok (.iconst 0, 1) := by decide +kernel
theorem dX5_lies_16 : decode cX5_lies 16 = .ok (.istore 4, 2) := by decide +kernel
theorem dX5_lies_18 : decode cX5_lies 18 = .ok (.aload_n 0, 1) := by decide +kernel
theorem dX5_lies_19 : decode cX5_lies 19 = .ok (.getfield 14, 3) := by decide +kernel
theorem dX5_lies_22 : decode cX5_lies 22 = .ok (.iload_n 1, 1) := by decide +kernel
theorem dX5_lies_23 : decode cX5_lies 23 = .ok (.invokevirtual 103, 3) := by decide +kernel
theorem dX5_lies_26 : decode cX5_lies 26 = .ok (.iconst 4, 1) := by decide +kernel
theorem dX5_lies_27 : decode cX5_lies 27 = .ok (.idiv, 1) := by decide +kernel
theorem dX5_lies_28 : decode cX5_lies 28 = .ok (.istore 5, 2) := by decide +kernel
theorem dX5_lies_30 : decode cX5_lies 30 = .ok (.iconst 0, 1) := by decide +kernel
theorem dX5_lies_31 : decode cX5_lies 31 = .ok (.istore 6, 2) := by decide +kernel
theorem dX5_lies_33 : decode cX5_lies 33 = .ok (.iload 6, 2) := by decide +kernel
theorem dX5_lies_35 : decode cX5_lies 35 = .ok (.iload 5, 2) := by decide +kernel
theorem dX5_lies_37 : decode cX5_lies 37 = .ok (.if_icmp .ge 52, 3) := by decide +kernel
theorem dX5_lies_40 : decode cX5_lies 40 = .ok (.aload_n 0, 1) := by decide +kernel
theorem dX5_lies_41 : decode cX5_lies 41 = .ok (.getfield 38, 3) := by decide +kernel
theorem dX5_lies_44 : decode cX5_lies 44 = .ok (.aload_n 0, 1) := by decide +kernel
theorem dX5_lies_45 : decode cX5_lies 45 = .ok (.getfield 45, 3) := by decide +kernel
theorem dX5_lies_48 : decode cX5_lies 48 = .ok (.aload_n 0, 1) := by decide +kernel
theorem dX5_lies_49 : decode cX5_lies 49 = .ok (.getfield 14, 3) := by decide +kernel
theorem dX5_lies_52 : decode cX5_lies 52 = .ok (.iload_n 1, 1) := by decide +kernel
theorem dX5_lies_53 : decode cX5_lies 53 = .ok (.iload 6, 2) := by decide +kernel
theorem dX5_lies_55 : decode cX5_lies 55 = .ok (.aload_n 0, 1) := by decide +kernel
theorem dX5_lies_56 : decode cX5_lies 56 = .ok (.getfield 45, 3) := by decide +kernel
theorem dX5_lies_59 : decode cX5_lies 59 = .ok (.invokevirtual 217, 3) := by decide +kernel
theorem dX5_lies_62 : decode cX5_lies 62 = .ok (.invokevirtual 262, 3) := by decide +kernel
theorem dX5_lies_65 : decode cX5_lies 65 = .ok (.ifCond .ne 18, 3) := by decide +kernel
theorem dX5_lies_68 : decode cX5_lies 68 = .ok (.iload 4, 2) := by decide +kernel
theorem dX5_lies_70 : decode cX5_lies 70 = .ok (.ifCond .ne 8, 3) := by decide +kernel
theorem dX5_lies_73 : decode cX5_lies 73 = .ok (.iload 6, 2) := by decide +kernel
theorem dX5_lies_75 : decode cX5_lies 75 = .ok (.goto 4, 3) := by decide +kernel
theorem dX5_lies_78 : decode cX5_lies 78 = .ok (.iload_n 3, 1) := by decide +kernel
theorem dX5_lies_79 : decode cX5_lies 79 = .ok (.istore_n 3, 1) := by decide +kernel
theorem dX5_lies_80 : decode cX5_lies 80 = .ok (.iinc 4 1, 3) := by decide +kernel
theorem dX5_lies_83 : decode cX5_lies 83 = .ok (.iinc 6 1, 3) := by decide +kernel
theorem dX5_lies_86 : decode cX5_lies 86 = .ok (.goto (-53), 3) := by decide +kernel
theorem dX5_lies_89 : decode cX5_lies 89 = .ok (.aload_n 0, 1) := by decide +kernel
theorem dX5_lies_90 : decode cX5_lies 90 = .ok (.getfield 24, 3) := by decide +kernel
theorem dX5_lies_93 : decode cX5_lies 93 = .ok (.iload_n 3, 1) := by decide +kernel
theorem dX5_lies_94 : decode cX5_lies 94 = .ok (.putfield 77, 3) := by decide +kernel
theorem dX5_lies_97 : decode cX5_lies 97 = .ok (.iload 4, 2) := by decide +kernel
theorem dX5_lies_99 : decode cX5_lies 99 = .ok (.ireturn, 1) := by decide +kernel
set_option maxRecDepth 20000 in
theorem ggX5_odds_X5_isTown : GoodIn wsX5_odds wsX5_isTown := goodIn_r _ [6] (by decide +kernel) (by decide +kernel)
set_option maxRecDepth 20000 in
theorem gX5_odds_X5_isTown : GoodIn wsX5_odds (va_wsS RX5 176 yX5_isTown wsX5_isTown) := goodIn_app (goodIn_of _ (by decide +kernel)) ggX5_odds_X5_isTown
set_option maxRecDepth 20000 in
theorem ggX5_odds_X5_isDay : GoodIn wsX5_odds wsX5_isDay := goodIn_r _ [9] (by decide +kernel) (by decide +kernel)
set_option maxRecDepth 20000 in
theorem gX5_odds_X5_isDay : GoodIn wsX5_odds (va_wsS RX5 179 yX5_isDay wsX5_isDay) := goodIn_app (goodIn_of _ (by decide +kernel)) ggX5_odds_X5_isDay
set_option maxRecDepth 20000 in
theorem ggX5_odds_X0_isPerson : GoodIn wsX5_odds wsX0_isPerson := goodIn_r _ [14, 15, 95, 96, 97, 98, 99, 100, 101, 102, 103, 104, 105, 106, 107, 108] (by decide +kernel) (by decide +kernel)
set_option maxRecDepth 20000 in
theorem gX5_odds_X0_isPerson : GoodIn wsX5_odds (wsV RX5 122 RX0 yX0_isPerson wsX0_isPerson) := goodIn_app (goodIn_of _ (by decide +kernel)) ggX5_odds_X0_isPerson
set_option maxRecDepth 20000 in
theorem ggX5_odds_X5_isDeed : GoodIn wsX5_odds wsX5_isDeed := goodIn_r _ [18] (by decide +kernel) (by decide +kernel)
set_option maxRecDepth 20000 in
theorem gX5_odds_X5_isDeed : GoodIn wsX5_odds (va_wsS RX5 229 yX5_isDeed wsX5_isDeed) := goodIn_app (goodIn_of _ (by decide +kernel)) ggX5_odds_X5_isDeed
set_option maxRecDepth 20000 in
theorem ggX5_odds_X0_onTheWay : GoodIn wsX5_odds wsX0_onTheWay := goodIn_r _ [22, 23, 24, 25, 26, 13, 27, 28, 29, 30, 95, 96, 97, 98, 99, 100, 101, 102, 103, 104, 105, 106, 107, 108] (by decide +kernel) (by decide +kernel)
set_option maxRecDepth 20000 in
theorem gX5_odds_X0_onTheWay : GoodIn wsX5_odds (wsV RX5 266 RX0 yX0_onTheWay wsX0_onTheWay) := goodIn_app (goodIn_of _ (by decide +kernel)) ggX5_odds_X0_onTheWay
set_option maxRecDepth 20000 in
theorem ggX5_odds_X0_unmended : GoodIn wsX5_odds wsX0_unmended := goodIn_r _ [34, 23, 35, 95, 96, 97, 98, 99, 100, 101, 102, 103, 104, 105, 106, 107, 108] (by decide +kernel) (by decide +kernel)
set_option maxRecDepth 20000 in
theorem gX5_odds_X0_unmended : GoodIn wsX5_odds (wsV RX5 217 RX0 yX0_unmended wsX0_unmended) := goodIn_app (goodIn_of _ (by decide +kernel)) ggX5_odds_X0_unmended
set_option maxRecDepth 20000 in
theorem ggX5_odds_J6_bitCount_0f7a4 : GoodIn wsX5_odds wsJ6_bitCount_0f7a4 := goodIn_r _ [39, 40, 41, 42] (by decide +kernel) (by decide +kernel)
set_option maxRecDepth 20000 in
theorem gX5_odds_J6_bitCount_0f7a4 : GoodIn wsX5_odds (va_wsS RX5 171 yJ6_bitCount_0f7a4 wsJ6_bitCount_0f7a4) := goodIn_app (goodIn_of _ (by decide +kernel)) ggX5_odds_J6_bitCount_0f7a4
set_option maxRecDepth 20000 in
theorem ggX5_odds_X0_doneIf : GoodIn wsX5_odds wsX0_doneIf := goodIn_r _ [46, 47, 48, 49, 13, 50, 4, 5, 6, 8, 9, 51, 11, 12, 14, 15, 52, 53, 54, 55, 56, 23, 57, 24, 25, 26, 27, 28, 29, 30, 58, 59, 60, 61, 62, 63, 64, 65, 66, 67, 68, 69, 70, 95, 96, 97, 98, 99, 100, 101, 102, 103, 104, 105, 106, 107, 108] (by decide +kernel) (by decide +kernel)
set_option maxRecDepth 20000 in
theorem gX5_odds_X0_doneIf : GoodIn wsX5_odds (wsV RX5 225 RX0 yX0_doneIf wsX0_doneIf) := goodIn_app (goodIn_of _ (by decide +kernel)) ggX5_odds_X0_doneIf
set_option maxRecDepth 20000 in
theorem ggX5_odds_X5_power : GoodIn wsX5_odds wsX5_power := goodIn_r _ [73] (by decide +kernel) (by decide +kernel)
set_option maxRecDepth 20000 in
theorem gX5_odds_X5_power : GoodIn wsX5_odds (va_wsS RX5 269 yX5_power wsX5_power) := goodIn_app (goodIn_of _ (by decide +kernel)) ggX5_odds_X5_power
set_option maxRecDepth 20000 in
theorem ggX5_odds_X5_nextSet : GoodIn wsX5_odds wsX5_nextSet := goodIn_r _ [76] (by decide +kernel) (by decide +kernel)
set_option maxRecDepth 20000 in
theorem gX5_odds_X5_nextSet : GoodIn wsX5_odds (va_wsS RX5 273 yX5_nextSet wsX5_nextSet) := goodIn_app (goodIn_of _ (by decide +kernel)) ggX5_odds_X5_nextSet
set_option maxRecDepth 20000 in
theorem ggX5_odds_X4_tell : GoodIn wsX5_odds wsX4_tell := goodIn_r _ [81, 82, 83, 84, 85, 80, 86, 109, 110, 111, 112, 113] (by decide +kernel) (by decide +kernel)
set_option maxRecDepth 20000 in
theorem gX5_odds_X4_tell : GoodIn wsX5_odds (wsV RX5 252 RX4 yX4_tell wsX4_tell) := goodIn_app (goodIn_of _ (by decide +kernel)) ggX5_odds_X4_tell
theorem dX5_odds_0 : decode cX5_odds 0 = .ok (.iload_n 1, 1) := by decide +kernel
theorem dX5_odds_1 : decode cX5_odds 1 = .ok (.invokestatic 176, 3) := by decide +kernel
theorem dX5_odds_4 : decode cX5_odds 4 = .ok (.ifCond .eq 29, 3) := by decide +kernel
theorem dX5_odds_7 : decode cX5_odds 7 = .ok (.iload_n 2, 1) := by decide +kernel
theorem dX5_odds_8 : decode cX5_odds 8 = .ok (.invokestatic 179, 3) := by decide +kernel
theorem dX5_odds_11 : decode cX5_odds 11 = .ok (.ifCond .eq 22, 3) := by decide +kernel
theorem dX5_odds_14 : decode cX5_odds 14 = .ok (.aload_n 0, 1) := by decide +kernel
theorem dX5_odds_15 : decode cX5_odds 15 = .ok (.getfield 45, 3) := by decide +kernel
theorem dX5_odds_18 : decode cX5_odds 18 = .ok (.iload_n 3, 1) := by decide +kernel
theorem dX5_odds_19 : decode cX5_odds 19 = .ok (.invokevirtual 122, 3) := by decide +kernel
theorem dX5_odds_22 : decode cX5_odds 22 = .ok (.ifCond .eq 11, 3) := by decide +kernel
theorem dX5_odds_25 : decode cX5_odds 25 = .ok (.iload 4, 2) := by decide +kernel
theorem dX5_odds_27 : decode cX5_odds 27 = .ok (.invokestatic 229, 3) := by decide +kernel
theorem dX5_odds_30 : decode cX5_odds 30 = .ok (.ifCond .ne 5, 3) := by decide +kernel
theorem dX5_odds_33 : decode cX5_odds 33 = .ok (.iconst (-1), 1) := by decide +kernel
theorem dX5_odds_34 : decode cX5_odds 34 = .ok (.ireturn, 1) := by decide +kernel
theorem dX5_odds_35 : decode cX5_odds 35 = .ok (.iload 5, 2) := by decide +kernel
theorem dX5_odds_37 : decode cX5_odds 37 = .ok (.ifCond .lt 10, 3) := by decide +kernel
theorem dX5_odds_40 : decode cX5_odds 40 = .ok (.iload 5, 2) := by decide +kernel
theorem dX5_odds_42 : decode cX5_odds 42 = .ok (.bipush 12, 2) := by decide +kernel
theorem dX5_odds_44 : decode cX5_odds 44 = .ok (.if_icmp .le 5, 3) := by decide +kernel
theorem dX5_odds_47 : decode cX5_odds 47 = .ok (.iconst (-1), 1) := by decide +kernel
theorem dX5_odds_48 : decode cX5_odds 48 = .ok (.ireturn, 1) := by decide +kernel
theorem dX5_odds_49 : decode cX5_odds 49 = .ok (.aload_n 0, 1) := by decide +kernel
theorem dX5_odds_50 : decode cX5_odds 50 = .ok (.getfield 45, 3) := by decide +kernel
theorem dX5_odds_53 : decode cX5_odds 53 = .ok (.iload_n 1, 1) := by decide +kernel
theorem dX5_odds_54 : decode cX5_odds 54 = .ok (.iload_n 2, 1) := by decide +kernel
theorem dX5_odds_55 : decode cX5_odds 55 = .ok (.iload_n 3, 1) := by decide +kernel
theorem dX5_odds_56 : decode cX5_odds 56 = .ok (.invokevirtual 266, 3) := by decide +kernel
theorem dX5_odds_59 : decode cX5_odds 59 = .ok (.aload_n 0, 1) := by decide +kernel
theorem dX5_odds_60 : decode cX5_odds 60 = .ok (.getfield 45, 3) := by decide +kernel
theorem dX5_odds_63 : decode cX5_odds 63 = .ok (.invokevirtual 217, 3) := by decide +kernel
theorem dX5_odds_66 : decode cX5_odds 66 = .ok (.iand, 1) := by decide +kernel
theorem dX5_odds_67 : decode cX5_odds 67 = .ok (.istore 6, 2) := by decide +kernel
theorem dX5_odds_69 : decode cX5_odds 69 = .ok (.iload 6, 2) := by decide +kernel
theorem dX5_odds_71 : decode cX5_odds 71 = .ok (.invokestatic 171, 3) := by decide +kernel
theorem dX5_odds_74 : decode cX5_odds 74 = .ok (.istore 7, 2) := by decide +kernel
theorem dX5_odds_76 : decode cX5_odds 76 = .ok (.lconst 0, 1) := by decide +kernel
theorem dX5_odds_77 : decode cX5_odds 77 = .ok (.lstore 8, 2) := by decide +kernel
theorem dX5_odds_79 : decode cX5_odds 79 = .ok (.iconst 0, 1) := by decide +kernel
theorem dX5_odds_80 : decode cX5_odds 80 = .ok (.istore 10, 2) := by decide +kernel
theorem dX5_odds_82 : decode cX5_odds 82 = .ok (.iconst 0, 1) := by decide +kernel
theorem dX5_odds_83 : decode cX5_odds 83 = .ok (.istore 11, 2) := by decide +kernel
theorem dX5_odds_85 : decode cX5_odds 85 = .ok (.iload 11, 2) := by decide +kernel
theorem dX5_odds_87 : decode cX5_odds 87 = .ok (.iconst 1, 1) := by decide +kernel
theorem dX5_odds_88 : decode cX5_odds 88 = .ok (.iload 7, 2) := by decide +kernel
theorem dX5_odds_90 : decode cX5_odds 90 = .ok (.ishl, 1) := by decide +kernel
theorem dX5_odds_91 : decode cX5_odds 91 = .ok (.if_icmp .ge 68, 3) := by decide +kernel
theorem dX5_odds_94 : decode cX5_odds 94 = .ok (.aload_n 0, 1) := by decide +kernel
theorem dX5_odds_95 : decode cX5_odds 95 = .ok (.getfield 45, 3) := by decide +kernel
theorem dX5_odds_98 : decode cX5_odds 98 = .ok (.iload_n 1, 1) := by decide +kernel
theorem dX5_odds_99 : decode cX5_odds 99 = .ok (.iload_n 2, 1) := by decide +kernel
theorem dX5_odds_100 : decode cX5_odds 100 = .ok (.iload_n 3, 1) := by decide +kernel
theorem dX5_odds_101 : decode cX5_odds 101 = .ok (.iload 10, 2) := by decide +kernel
theorem dX5_odds_103 : decode cX5_odds 103 = .ok (.invokevirtual 225, 3) := by decide +kernel
theorem dX5_odds_106 : decode cX5_odds 106 = .ok (.iload 4, 2) := by decide +kernel
theorem dX5_odds_108 : decode cX5_odds 108 = .ok (.if_icmp .ne 36, 3) := by decide +kernel
theorem dX5_odds_111 : decode cX5_odds 111 = .ok (.iload 10, 2) := by decide +kernel
theorem dX5_odds_113 : decode cX5_odds 113 = .ok (.invokestatic 171, 3) := by decide +kernel
theorem dX5_odds_116 : decode cX5_odds 116 = .ok (.istore 12, 2) := by decide +kernel
theorem dX5_odds_118 : decode cX5_odds 118 = .ok (.lload 8, 2) := by decide +kernel
theorem dX5_odds_120 : decode cX5_odds 120 = .ok (.iload 5, 2) := by decide +kernel
theorem dX5_odds_122 : decode cX5_odds 122 = .ok (.iload 12, 2) := by decide +kernel
theorem dX5_odds_124 : decode cX5_odds 124 = .ok (.invokestatic 269, 3) := by decide +kernel
theorem dX5_odds_127 : decode cX5_odds 127 = .ok (.bipush 12, 2) := by decide +kernel
theorem dX5_odds_129 : decode cX5_odds 129 = .ok (.iload 5, 2) := by decide +kernel
theorem dX5_odds_131 : decode cX5_odds 131 = .ok (.isub, 1) := by decide +kernel
theorem dX5_odds_132 : decode cX5_odds 132 = .ok (.iload 7, 2) := by decide +kernel
theorem dX5_odds_134 : decode cX5_odds 134 = .ok (.iload 12, 2) := by decide +kernel
theorem dX5_odds_136 : decode cX5_odds 136 = .ok (.isub, 1) := by decide +kernel
theorem dX5_odds_137 : decode cX5_odds 137 = .ok (.invokestatic 269, 3) := by decide +kernel
theorem dX5_odds_140 : decode cX5_odds 140 = .ok (.lmul, 1) := by decide +kernel
theorem dX5_odds_141 : decode cX5_odds 141 = .ok (.ladd, 1) := by decide +kernel
theorem dX5_odds_142 : decode cX5_odds 142 = .ok (.lstore 8, 2) := by decide +kernel
theorem dX5_odds_144 : decode cX5_odds 144 = .ok (.iload 10, 2) := by decide +kernel
theorem dX5_odds_146 : decode cX5_odds 146 = .ok (.iload 6, 2) := by decide +kernel
theorem dX5_odds_148 : decode cX5_odds 148 = .ok (.invokestatic 273, 3) := by decide +kernel
theorem dX5_odds_151 : decode cX5_odds 151 = .ok (.istore 10, 2) := by decide +kernel
theorem dX5_odds_153 : decode cX5_odds 153 = .ok (.iinc 11 1, 3) := by decide +kernel
theorem dX5_odds_156 : decode cX5_odds 156 = .ok (.goto (-71), 3) := by decide +kernel
theorem dX5_odds_159 : decode cX5_odds 159 = .ok (.aload_n 0, 1) := by decide +kernel
theorem dX5_odds_160 : decode cX5_odds 160 = .ok (.getfield 24, 3) := by decide +kernel
theorem dX5_odds_163 : decode cX5_odds 163 = .ok (.lload 8, 2) := by decide +kernel
theorem dX5_odds_165 : decode cX5_odds 165 = .ok (.bipush 12, 2) := by decide +kernel
theorem dX5_odds_167 : decode cX5_odds 167 = .ok (.iload 7, 2) := by decide +kernel
theorem dX5_odds_169 : decode cX5_odds 169 = .ok (.invokestatic 269, 3) := by decide +kernel
theorem dX5_odds_172 : decode cX5_odds 172 = .ok (.invokevirtual 252, 3) := by decide +kernel
theorem dX5_odds_175 : decode cX5_odds 175 = .ok (.iconst 1, 1) := by decide +kernel
theorem dX5_odds_176 : decode cX5_odds 176 = .ok (.ireturn, 1) := by decide +kernel
set_option maxRecDepth 20000 in
theorem ggX5_lots_X0_hasErrorsLeft : GoodIn wsX5_lots wsX0_hasErrorsLeft := goodIn_r _ [15, 16, 107, 108, 109, 110, 111, 112, 113, 114, 115, 116, 117, 118, 119, 120] (by decide +kernel) (by decide +kernel)
set_option maxRecDepth 20000 in
theorem gX5_lots_X0_hasErrorsLeft : GoodIn wsX5_lots (wsV RX5 182 RX0 yX0_hasErrorsLeft wsX0_hasErrorsLeft) := goodIn_app (goodIn_of _ (by decide +kernel)) ggX5_lots_X0_hasErrorsLeft
set_option maxRecDepth 20000 in
theorem ggX5_lots_X0_hasTurnsLeft : GoodIn wsX5_lots wsX0_hasTurnsLeft := goodIn_r _ [20, 21, 107, 108, 109, 110, 111, 112, 113, 114, 115, 116, 117, 118, 119, 120] (by decide +kernel) (by decide +kernel)
set_option maxRecDepth 20000 in
theorem gX5_lots_X0_hasTurnsLeft : GoodIn wsX5_lots (wsV RX5 162 RX0 yX0_hasTurnsLeft wsX0_hasTurnsLeft) := goodIn_app (goodIn_of _ (by decide +kernel)) ggX5_lots_X0_hasTurnsLeft
set_option maxRecDepth 20000 in
theorem ggX5_lots_X0_turnErred : GoodIn wsX5_lots wsX0_turnErred := goodIn_r _ [25, 26, 27, 28, 14, 29, 16, 30, 31, 32, 33, 34, 35, 36, 37, 21, 38, 107, 108, 109, 110, 111, 112, 113, 114, 115, 116, 117, 118, 119, 120] (by decide +kernel) (by decide +kernel)
set_option maxRecDepth 20000 in
theorem gX5_lots_X0_turnErred : GoodIn wsX5_lots (wsV RX5 185 RX0 yX0_turnErred wsX0_turnErred) := goodIn_app (goodIn_of _ (by decide +kernel)) ggX5_lots_X0_turnErred
set_option maxRecDepth 20000 in
theorem ggX5_lots_X0_differing : GoodIn wsX5_lots wsX0_differing := goodIn_r _ [42, 43, 44, 45, 46, 14, 47, 16, 48, 49, 50, 51, 52, 53, 54, 55, 56, 57, 58, 59, 60, 61, 62, 63, 64, 65, 66, 67, 68, 69, 70, 71, 72, 73, 74, 33, 75, 76, 77, 78, 32, 30, 31, 79, 80, 81, 82, 83, 84, 85, 86, 87, 88, 89, 90, 91, 107, 108, 109, 110, 111, 112, 113, 114, 115, 116, 117, 118, 119, 120] (by decide +kernel) (by decide +kernel)
set_option maxRecDepth 20000 in
theorem gX5_lots_X0_differing : GoodIn wsX5_lots (wsV RX5 214 RX0 yX0_differing wsX0_differing) := goodIn_app (goodIn_of _ (by decide +kernel)) ggX5_lots_X0_differing
set_option maxRecDepth 20000 in
theorem ggX5_lots_J6_bitCount_0f7a4 : GoodIn wsX5_lots wsJ6_bitCount_0f7a4 := goodIn_r _ [95, 96, 97, 98] (by decide +kernel) (by decide +kernel)
set_option maxRecDepth 20000 in
theorem gX5_lots_J6_bitCount_0f7a4 : GoodIn wsX5_lots (va_wsS RX5 171 yJ6_bitCount_0f7a4 wsJ6_bitCount_0f7a4) := goodIn_app (goodIn_of _ (by decide +kernel)) ggX5_lots_J6_bitCount_0f7a4
theorem dX5_lots_0 : decode cX5_lots 0 = .ok (.iload_n 1, 1) := by decide +kernel
theorem dX5_lots_1 : decode cX5_lots 1 = .ok (.iconst 1, 1) := by decide +kernel
theorem dX5_lots_2 : decode cX5_lots 2 = .ok (.if_icmp .lt 21, 3) := by decide +kernel
theorem dX5_lots_5 : decode cX5_lots 5 = .ok (.iload_n 1, 1) := by decide +kernel
theorem dX5_lots_6 : decode cX5_lots 6 = .ok (.bipush 10, 2) := by decide +kernel
theorem dX5_lots_8 : decode cX5_lots 8 = .ok (.if_icmp .gt 15, 3) := by decide +kernel
theorem dX5_lots_11 : decode cX5_lots 11 = .ok (.iload_n 2, 1) := by decide +kernel
theorem dX5_lots_12 : decode cX5_lots 12 = .ok (.iconst 1, 1) := by decide +kernel
theorem dX5_lots_13 : decode cX5_lots 13 = .ok (.if_icmp .lt 10, 3) := by decide +kernel
theorem dX5_lots_16 : decode cX5_lots 16 = .ok (.iload_n 2, 1) := by decide +kernel
theorem dX5_lots_17 : decode cX5_lots 17 = .ok (.ldc_w 276, 3) := by decide +kernel
theorem dX5_lots_20 : decode cX5_lots 20 = .ok (.if_icmp .le 5, 3) := by decide +kernel
theorem dX5_lots_23 : decode cX5_lots 23 = .ok (.iconst (-1), 1) := by decide +kernel
theorem dX5_lots_24 : decode cX5_lots 24 = .ok (.ireturn, 1) := by decide +kernel
theorem dX5_lots_25 : decode cX5_lots 25 = .ok (.aload_n 0, 1) := by decide +kernel
theorem dX5_lots_26 : decode cX5_lots 26 = .ok (.getfield 45, 3) := by decide +kernel
theorem dX5_lots_29 : decode cX5_lots 29 = .ok (.getfield 119, 3) := by decide +kernel
theorem dX5_lots_32 : decode cX5_lots 32 = .ok (.iconst 1, 1) := by decide +kernel
theorem dX5_lots_33 : decode cX5_lots 33 = .ok (.if_icmp .ge 6, 3) := by decide +kernel
theorem dX5_lots_36 : decode cX5_lots 36 = .ok (.bipush (-4), 2) := by decide +kernel
theorem dX5_lots_38 : decode cX5_lots 38 = .ok (.ireturn, 1) := by decide +kernel
theorem dX5_lots_39 : decode cX5_lots 39 = .ok (.aload_n 0, 1) := by decide +kernel
theorem dX5_lots_40 : decode cX5_lots 40 = .ok (.getfield 45, 3) := by decide +kernel
theorem dX5_lots_43 : decode cX5_lots 43 = .ok (.iload_n 1, 1) := by decide +kernel
theorem dX5_lots_44 : decode cX5_lots 44 = .ok (.invokevirtual 182, 3) := by decide +kernel
theorem dX5_lots_47 : decode cX5_lots 47 = .ok (.ifCond .eq 14, 3) := by decide +kernel
theorem dX5_lots_50 : decode cX5_lots 50 = .ok (.aload_n 0, 1) := by decide +kernel
theorem dX5_lots_51 : decode cX5_lots 51 = .ok (.getfield 45, 3) := by decide +kernel
theorem dX5_lots_54 : decode cX5_lots 54 = .ok (.iload_n 1, 1) := by decide +kernel
theorem dX5_lots_55 : decode cX5_lots 55 = .ok (.invokevirtual 162, 3) := by decide +kernel
theorem dX5_lots_58 : decode cX5_lots 58 = .ok (.ifCond .ne 6, 3) := by decide +kernel
theorem dX5_lots_61 : decode cX5_lots 61 = .ok (.bipush (-2), 2) := by decide +kernel
theorem dX5_lots_63 : decode cX5_lots 63 = .ok (.ireturn, 1) := by decide +kernel
theorem dX5_lots_64 : decode cX5_lots 64 = .ok (.iload_n 2, 1) := by decide +kernel
theorem dX5_lots_65 : decode cX5_lots 65 = .ok (.i2l, 1) := by decide +kernel
theorem dX5_lots_66 : decode cX5_lots 66 = .ok (.lstore_n 3, 1) := by decide +kernel
theorem dX5_lots_67 : decode cX5_lots 67 = .ok (.iconst 0, 1) := by decide +kernel
theorem dX5_lots_68 : decode cX5_lots 68 = .ok (.istore 5, 2) := by decide +kernel
theorem dX5_lots_70 : decode cX5_lots 70 = .ok (.iload 5, 2) := by decide +kernel
theorem dX5_lots_72 : decode cX5_lots 72 = .ok (.iload_n 1, 1) := by decide +kernel
theorem dX5_lots_73 : decode cX5_lots 73 = .ok (.if_icmp .ge 85, 3) := by decide +kernel
theorem dX5_lots_76 : decode cX5_lots 76 = .ok (.lload_n 3, 1) := by decide +kernel
theorem dX5_lots_77 : decode cX5_lots 77 = .ok (.ldc2_w 277, 3) := by decide +kernel
theorem dX5_lots_80 : decode cX5_lots 80 = .ok (.lmul, 1) := by decide +kernel
theorem dX5_lots_81 : decode cX5_lots 81 = .ok (.ldc2_w 279, 3) := by decide +kernel
theorem dX5_lots_84 : decode cX5_lots 84 = .ok (.lrem, 1) := by decide +kernel
theorem dX5_lots_85 : decode cX5_lots 85 = .ok (.lstore_n 3, 1) := by decide +kernel
theorem dX5_lots_86 : decode cX5_lots 86 = .ok (.lload_n 3, 1) := by decide +kernel
theorem dX5_lots_87 : decode cX5_lots 87 = .ok (.ldc2_w 281, 3) := by decide +kernel
theorem dX5_lots_90 : decode cX5_lots 90 = .ok (.lrem, 1) := by decide +kernel
theorem dX5_lots_91 : decode cX5_lots 91 = .ok (.l2i, 1) := by decide +kernel
theorem dX5_lots_92 : decode cX5_lots 92 = .ok (.istore 6, 2) := by decide +kernel
theorem dX5_lots_94 : decode cX5_lots 94 = .ok (.lload_n 3, 1) := by decide +kernel
theorem dX5_lots_95 : decode cX5_lots 95 = .ok (.ldc2_w 283, 3) := by decide +kernel
theorem dX5_lots_98 : decode cX5_lots 98 = .ok (.ldiv, 1) := by decide +kernel
theorem dX5_lots_99 : decode cX5_lots 99 = .ok (.ldc2_w 285, 3) := by decide +kernel
theorem dX5_lots_102 : decode cX5_lots 102 = .ok (.lrem, 1) := by decide +kernel
theorem dX5_lots_103 : decode cX5_lots 103 = .ok (.l2i, 1) := by decide +kernel
theorem dX5_lots_104 : decode cX5_lots 104 = .ok (.istore 7, 2) := by decide +kernel
theorem dX5_lots_106 : decode cX5_lots 106 = .ok (.lload_n 3, 1) := by decide +kernel
theorem dX5_lots_107 : decode cX5_lots 107 = .ok (.ldc2_w 287, 3) := by decide +kernel
theorem dX5_lots_110 : decode cX5_lots 110 = .ok (.ldiv, 1) := by decide +kernel
theorem dX5_lots_111 : decode cX5_lots 111 = .ok (.aload_n 0, 1) := by decide +kernel
theorem dX5_lots_112 : decode cX5_lots 112 = .ok (.getfield 45, 3) := by decide +kernel
theorem dX5_lots_115 : decode cX5_lots 115 = .ok (.getfield 119, 3) := by decide +kernel
theorem dX5_lots_118 : decode cX5_lots 118 = .ok (.i2l, 1) := by decide +kernel
theorem dX5_lots_119 : decode cX5_lots 119 = .ok (.lrem, 1) := by decide +kernel
theorem dX5_lots_120 : decode cX5_lots 120 = .ok (.l2i, 1) := by decide +kernel
theorem dX5_lots_121 : decode cX5_lots 121 = .ok (.istore 8, 2) := by decide +kernel
theorem dX5_lots_123 : decode cX5_lots 123 = .ok (.lload_n 3, 1) := by decide +kernel
theorem dX5_lots_124 : decode cX5_lots 124 = .ok (.ldc2_w 289, 3) := by decide +kernel
theorem dX5_lots_127 : decode cX5_lots 127 = .ok (.ldiv, 1) := by decide +kernel
theorem dX5_lots_128 : decode cX5_lots 128 = .ok (.ldc2_w 291, 3) := by decide +kernel
theorem dX5_lots_131 : decode cX5_lots 131 = .ok (.lrem, 1) := by decide +kernel
theorem dX5_lots_132 : decode cX5_lots 132 = .ok (.l2i, 1) := by decide +kernel
theorem dX5_lots_133 : decode cX5_lots 133 = .ok (.iconst 1, 1) := by decide +kernel
theorem dX5_lots_134 : decode cX5_lots 134 = .ok (.iadd, 1) := by decide +kernel
theorem dX5_lots_135 : decode cX5_lots 135 = .ok (.istore 9, 2) := by decide +kernel
theorem dX5_lots_137 : decode cX5_lots 137 = .ok (.aload_n 0, 1) := by decide +kernel
theorem dX5_lots_138 : decode cX5_lots 138 = .ok (.getfield 45, 3) := by decide +kernel
theorem dX5_lots_141 : decode cX5_lots 141 = .ok (.iload 6, 2) := by decide +kernel
theorem dX5_lots_143 : decode cX5_lots 143 = .ok (.iload 7, 2) := by decide +kernel
theorem dX5_lots_145 : decode cX5_lots 145 = .ok (.iload 8, 2) := by decide +kernel
theorem dX5_lots_147 : decode cX5_lots 147 = .ok (.iload 9, 2) := by decide +kernel
theorem dX5_lots_149 : decode cX5_lots 149 = .ok (.invokevirtual 185, 3) := by decide +kernel
theorem dX5_lots_152 : decode cX5_lots 152 = .ok (.iinc 5 1, 3) := by decide +kernel
theorem dX5_lots_155 : decode cX5_lots 155 = .ok (.goto (-85), 3) := by decide +kernel
theorem dX5_lots_158 : decode cX5_lots 158 = .ok (.aload_n 0, 1) := by decide +kernel
theorem dX5_lots_159 : decode cX5_lots 159 = .ok (.getfield 45, 3) := by decide +kernel
theorem dX5_lots_162 : decode cX5_lots 162 = .ok (.iconst 0, 1) := by decide +kernel
theorem dX5_lots_163 : decode cX5_lots 163 = .ok (.iconst 4, 1) := by decide +kernel
theorem dX5_lots_164 : decode cX5_lots 164 = .ok (.bipush 19, 2) := by decide +kernel
theorem dX5_lots_166 : decode cX5_lots 166 = .ok (.invokevirtual 214, 3) := by decide +kernel
theorem dX5_lots_169 : decode cX5_lots 169 = .ok (.invokestatic 171, 3) := by decide +kernel
theorem dX5_lots_172 : decode cX5_lots 172 = .ok (.ireturn, 1) := by decide +kernel
theorem dX5_asked_0 : decode cX5_asked 0 = .ok (.aload_n 0, 1) := by decide +kernel
theorem dX5_asked_1 : decode cX5_asked 1 = .ok (.getfield 24, 3) := by decide +kernel
theorem dX5_asked_4 : decode cX5_asked 4 = .ok (.getfield 77, 3) := by decide +kernel
theorem dX5_asked_7 : decode cX5_asked 7 = .ok (.ireturn, 1) := by decide +kernel
theorem dX5_upper_0 : decode cX5_upper 0 = .ok (.aload_n 0, 1) := by decide +kernel
theorem dX5_upper_1 : decode cX5_upper 1 = .ok (.getfield 24, 3) := by decide +kernel
theorem dX5_upper_4 : decode cX5_upper 4 = .ok (.getfield 293, 3) := by decide +kernel
theorem dX5_upper_7 : decode cX5_upper 7 = .ok (.lreturn, 1) := by decide +kernel
theorem dX5_lower_0 : decode cX5_lower 0 = .ok (.aload_n 0, 1) := by decide +kernel
theorem dX5_lower_1 : decode cX5_lower 1 = .ok (.getfield 24, 3) := by decide +kernel
theorem dX5_lower_4 : decode cX5_lower 4 = .ok (.getfield 296, 3) := by decide +kernel
theorem dX5_lower_7 : decode cX5_lower 7 = .ok (.lreturn, 1) := by decide +kernel
set_option maxRecDepth 20000 in
theorem ggX5_count_X5_howMany : GoodIn wsX5_count wsX5_howMany := goodIn_r _ [5, 6, 7, 8, 9, 10, 11, 12, 13, 14, 15, 16, 17, 18, 19, 20, 21, 22, 23, 24, 25, 26, 27, 28, 29, 30, 31, 32, 33, 34, 35, 36, 37, 38, 39, 40, 41, 42, 43, 44, 45, 46, 47, 48, 49, 50, 4, 51, 52, 53, 54, 55, 56, 57, 58, 59, 60, 61, 62, 63, 64, 65, 66, 67, 68, 69, 70, 71, 72, 73, 74, 75, 76, 77, 78, 79, 80, 81, 82, 83, 84] (by decide +kernel) (by decide +kernel)
set_option maxRecDepth 20000 in
theorem gX5_count_X5_howMany : GoodIn wsX5_count (wsV RX5 299 RX5 yX5_howMany wsX5_howMany) := goodIn_app (goodIn_of _ (by decide +kernel)) ggX5_count_X5_howMany
theorem dX5_count_0 : decode cX5_count 0 = .ok (.iload_n 1, 1) := by decide +kernel
theorem dX5_count_1 : decode cX5_count 1 = .ok (.ifCond .lt 9, 3) := by decide +kernel
theorem dX5_count_4 : decode cX5_count 4 = .ok (.iload_n 1, 1) := by decide +kernel
theorem dX5_count_5 : decode cX5_count 5 = .ok (.bipush 9, 2) := by decide +kernel
theorem dX5_count_7 : decode cX5_count 7 = .ok (.if_icmp .lt 5, 3) := by decide +kernel
theorem dX5_count_10 : decode cX5_count 10 = .ok (.iconst (-1), 1) := by decide +kernel
theorem dX5_count_11 : decode cX5_count 11 = .ok (.ireturn, 1) := by decide +kernel
theorem dX5_count_12 : decode cX5_count 12 = .ok (.aload_n 0, 1) := by decide +kernel
theorem dX5_count_13 : decode cX5_count 13 = .ok (.iload_n 1, 1) := by decide +kernel
theorem dX5_count_14 : decode cX5_count 14 = .ok (.invokevirtual 299, 3) := by decide +kernel
theorem dX5_count_17 : decode cX5_count 17 = .ok (.ireturn, 1) := by decide +kernel
theorem dX5_finding_0 : decode cX5_finding 0 = .ok (.aload_n 0, 1) := by decide +kernel
theorem dX5_finding_1 : decode cX5_finding 1 = .ok (.getfield 24, 3) := by decide +kernel
theorem dX5_finding_4 : decode cX5_finding 4 = .ok (.getfield 302, 3) := by decide +kernel
theorem dX5_finding_7 : decode cX5_finding 7 = .ok (.ireturn, 1) := by decide +kernel
theorem dX5_findings_0 : decode cX5_findings 0 = .ok (.iload_n 1, 1) := by decide +kernel
theorem dX5_findings_1 : decode cX5_findings 1 = .ok (.iconst 1, 1) := by decide +kernel
theorem dX5_findings_2 : decode cX5_findings 2 = .ok (.if_icmp .lt 8, 3) := by decide +kernel
theorem dX5_findings_5 : decode cX5_findings 5 = .ok (.iload_n 1, 1) := by decide +kernel
theorem dX5_findings_6 : decode cX5_findings 6 = .ok (.iconst 5, 1) := by decide +kernel
theorem dX5_findings_7 : decode cX5_findings 7 = .ok (.if_icmp .le 5, 3) := by decide +kernel
theorem dX5_findings_10 : decode cX5_findings 10 = .ok (.iconst (-1), 1) := by decide +kernel
theorem dX5_findings_11 : decode cX5_findings 11 = .ok (.ireturn, 1) := by decide +kernel
theorem dX5_findings_12 : decode cX5_findings 12 = .ok (.aload_n 0, 1) := by decide +kernel
theorem dX5_findings_13 : decode cX5_findings 13 = .ok (.getfield 24, 3) := by decide +kernel
theorem dX5_findings_16 : decode cX5_findings 16 = .ok (.getfield 305, 3) := by decide +kernel
theorem dX5_findings_19 : decode cX5_findings 19 = .ok (.iload_n 1, 1) := by decide +kernel
theorem dX5_findings_20 : decode cX5_findings 20 = .ok (.iaload, 1) := by decide +kernel
theorem dX5_findings_21 : decode cX5_findings 21 = .ok (.ireturn, 1) := by decide +kernel
set_option maxRecDepth 20000 in
theorem ggX5_digest_X5_howMany : GoodIn wsX5_digest wsX5_howMany := goodIn_r _ [11, 3, 5, 6, 12, 13, 14, 15, 16, 17, 18, 19, 20, 21, 22, 23, 24, 25, 26, 27, 28, 29, 30, 31, 32, 33, 34, 35, 36, 37, 38, 39, 40, 41, 42, 43, 44, 45, 46, 47, 48, 49, 50, 51, 52, 53, 10, 54, 55, 56, 57, 58, 4, 59, 60, 61, 142, 143, 144, 145, 146, 147, 148, 149, 150, 151, 152, 153, 154, 155, 156, 157, 158, 159, 160, 161, 162, 163, 164, 165, 166] (by decide +kernel) (by decide +kernel)
set_option maxRecDepth 20000 in
theorem gX5_digest_X5_howMany : GoodIn wsX5_digest (wsV RX5 299 RX5 yX5_howMany wsX5_howMany) := goodIn_app (goodIn_of _ (by decide +kernel)) ggX5_digest_X5_howMany
set_option maxRecDepth 20000 in
theorem ggX5_digest_X0_digestOn : GoodIn wsX5_digest wsX0_digestOn := goodIn_r _ [65, 24, 66, 67, 68, 69, 70, 22, 71, 29, 72, 73, 74, 30, 31, 32, 33, 75, 76, 77, 78, 79, 80, 81, 82, 83, 84, 85, 86, 87, 88, 89, 90, 91, 92, 10, 93, 94, 95, 96, 97, 98, 99, 100, 101, 102, 103, 104, 105, 106, 107, 108, 109, 110, 111, 112, 34, 35, 36, 113, 114, 115, 116, 117, 118, 119, 120, 121, 122, 123, 124, 125, 126, 127, 150, 151, 152, 153, 154, 155, 156, 157, 158, 159, 160, 161, 162, 163] (by decide +kernel) (by decide +kernel)
set_option maxRecDepth 20000 in
theorem gX5_digest_X0_digestOn : GoodIn wsX5_digest (wsV RX5 312 RX0 yX0_digestOn wsX0_digestOn) := goodIn_app (goodIn_of _ (by decide +kernel)) ggX5_digest_X0_digestOn
set_option maxRecDepth 20000 in
theorem ggX5_digest_X5_isKept : GoodIn wsX5_digest wsX5_isKept := goodIn_r _ [58, 4, 59, 60, 10, 61, 142, 143, 144, 145, 146, 147, 148, 149, 150, 151, 152, 153, 154, 155, 156, 157, 158, 159, 160, 161, 162, 163] (by decide +kernel) (by decide +kernel)
set_option maxRecDepth 20000 in
theorem gX5_digest_X5_isKept : GoodIn wsX5_digest (wsV RX5 204 RX5 yX5_isKept wsX5_isKept) := goodIn_app (goodIn_of _ (by decide +kernel)) ggX5_digest_X5_isKept
set_option maxRecDepth 20000 in
theorem ggX5_digest_X3_digestOn : GoodIn wsX5_digest wsX3_digestOn := goodIn_r _ [131, 42, 132, 133, 134, 135, 40, 136, 137, 138, 139, 140, 141, 47, 48, 49, 50, 164, 165, 166] (by decide +kernel) (by decide +kernel)
set_option maxRecDepth 20000 in
theorem gX5_digest_X3_digestOn : GoodIn wsX5_digest (wsV RX5 316 RX3 yX3_digestOn wsX3_digestOn) := goodIn_app (goodIn_of _ (by decide +kernel)) ggX5_digest_X3_digestOn
theorem dX5_digest_0 : decode cX5_digest 0 = .ok (.ldc2_w 308, 3) := by decide +kernel
theorem dX5_digest_3 : decode cX5_digest 3 = .ok (.lstore_n 1, 1) := by decide +kernel
theorem dX5_digest_4 : decode cX5_digest 4 = .ok (.iconst 0, 1) := by decide +kernel
theorem dX5_digest_5 : decode cX5_digest 5 = .ok (.istore_n 3, 1) := by decide +kernel
theorem dX5_digest_6 : decode cX5_digest 6 = .ok (.iload_n 3, 1) := by decide +kernel
theorem dX5_digest_7 : decode cX5_digest 7 = .ok (.bipush 9, 2) := by decide +kernel
theorem dX5_digest_9 : decode cX5_digest 9 = .ok (.if_icmp .ge 22, 3) := by decide +kernel
theorem dX5_digest_12 : decode cX5_digest 12 = .ok (.ldc2_w 310, 3) := by decide +kernel
theorem dX5_digest_15 : decode cX5_digest 15 = .ok (.lload_n 1, 1) := by decide +kernel
theorem dX5_digest_16 : decode cX5_digest 16 = .ok (.lmul, 1) := by decide +kernel
theorem dX5_digest_17 : decode cX5_digest 17 = .ok (.aload_n 0, 1) := by decide +kernel
theorem dX5_digest_18 : decode cX5_digest 18 = .ok (.iload_n 3, 1) := by decide +kernel
theorem dX5_digest_19 : decode cX5_digest 19 = .ok (.invokevirtual 299, 3) := by decide +kernel
theorem dX5_digest_22 : decode cX5_digest 22 = .ok (.i2l, 1) := by decide +kernel
theorem dX5_digest_23 : decode cX5_digest 23 = .ok (.ladd, 1) := by decide +kernel
theorem dX5_digest_24 : decode cX5_digest 24 = .ok (.lstore_n 1, 1) := by decide +kernel
theorem dX5_digest_25 : decode cX5_digest 25 = .ok (.iinc 3 1, 3) := by decide +kernel
theorem dX5_digest_28 : decode cX5_digest 28 = .ok (.goto (-22), 3) := by decide +kernel
theorem dX5_digest_31 : decode cX5_digest 31 = .ok (.aload_n 0, 1) := by decide +kernel
theorem dX5_digest_32 : decode cX5_digest 32 = .ok (.getfield 45, 3) := by decide +kernel
theorem dX5_digest_35 : decode cX5_digest 35 = .ok (.lload_n 1, 1) := by decide +kernel
theorem dX5_digest_36 : decode cX5_digest 36 = .ok (.invokevirtual 312, 3) := by decide +kernel
theorem dX5_digest_39 : decode cX5_digest 39 = .ok (.lstore_n 1, 1) := by decide +kernel
theorem dX5_digest_40 : decode cX5_digest 40 = .ok (.iconst 0, 1) := by decide +kernel
theorem dX5_digest_41 : decode cX5_digest 41 = .ok (.istore_n 3, 1) := by decide +kernel
theorem dX5_digest_42 : decode cX5_digest 42 = .ok (.iload_n 3, 1) := by decide +kernel
theorem dX5_digest_43 : decode cX5_digest 43 = .ok (.iconst 3, 1) := by decide +kernel
theorem dX5_digest_44 : decode cX5_digest 44 = .ok (.if_icmp .ge 38, 3) := by decide +kernel
theorem dX5_digest_47 : decode cX5_digest 47 = .ok (.ldc2_w 310, 3) := by decide +kernel
theorem dX5_digest_50 : decode cX5_digest 50 = .ok (.lload_n 1, 1) := by decide +kernel
theorem dX5_digest_51 : decode cX5_digest 51 = .ok (.lmul, 1) := by decide +kernel
theorem dX5_digest_52 : decode cX5_digest 52 = .ok (.aload_n 0, 1) := by decide +kernel
theorem dX5_digest_53 : decode cX5_digest 53 = .ok (.iload_n 3, 1) := by decide +kernel
theorem dX5_digest_54 : decode cX5_digest 54 = .ok (.invokevirtual 204, 3) := by decide +kernel
theorem dX5_digest_57 : decode cX5_digest 57 = .ok (.ifCond .eq 15, 3) := by decide +kernel
theorem dX5_digest_60 : decode cX5_digest 60 = .ok (.aload_n 0, 1) := by decide +kernel
theorem dX5_digest_61 : decode cX5_digest 61 = .ok (.getfield 49, 3) := by decide +kernel
theorem dX5_digest_64 : decode cX5_digest 64 = .ok (.iload_n 3, 1) := by decide +kernel
theorem dX5_digest_65 : decode cX5_digest 65 = .ok (.aaload, 1) := by decide +kernel
theorem dX5_digest_66 : decode cX5_digest 66 = .ok (.getfield 153, 3) := by decide +kernel
theorem dX5_digest_69 : decode cX5_digest 69 = .ok (.goto 4, 3) := by decide +kernel
theorem dX5_digest_72 : decode cX5_digest 72 = .ok (.iconst (-1), 1) := by decide +kernel
theorem dX5_digest_73 : decode cX5_digest 73 = .ok (.i2l, 1) := by decide +kernel
theorem dX5_digest_74 : decode cX5_digest 74 = .ok (.ladd, 1) := by decide +kernel
theorem dX5_digest_75 : decode cX5_digest 75 = .ok (.lstore_n 1, 1) := by decide +kernel
theorem dX5_digest_76 : decode cX5_digest 76 = .ok (.iinc 3 1, 3) := by decide +kernel
theorem dX5_digest_79 : decode cX5_digest 79 = .ok (.goto (-37), 3) := by decide +kernel
theorem dX5_digest_82 : decode cX5_digest 82 = .ok (.aload_n 0, 1) := by decide +kernel
theorem dX5_digest_83 : decode cX5_digest 83 = .ok (.getfield 14, 3) := by decide +kernel
theorem dX5_digest_86 : decode cX5_digest 86 = .ok (.lload_n 1, 1) := by decide +kernel
theorem dX5_digest_87 : decode cX5_digest 87 = .ok (.invokevirtual 316, 3) := by decide +kernel
theorem dX5_digest_90 : decode cX5_digest 90 = .ok (.lstore_n 1, 1) := by decide +kernel
theorem dX5_digest_91 : decode cX5_digest 91 = .ok (.aload_n 0, 1) := by decide +kernel
theorem dX5_digest_92 : decode cX5_digest 92 = .ok (.getfield 18, 3) := by decide +kernel
theorem dX5_digest_95 : decode cX5_digest 95 = .ok (.lload_n 1, 1) := by decide +kernel
theorem dX5_digest_96 : decode cX5_digest 96 = .ok (.invokevirtual 316, 3) := by decide +kernel
theorem dX5_digest_99 : decode cX5_digest 99 = .ok (.lreturn, 1) := by decide +kernel
set_option maxRecDepth 20000 in
theorem ggX5_howMany_J6_bitCount_0f7a4 : GoodIn wsX5_howMany wsJ6_bitCount_0f7a4 := goodIn_r _ [7, 8, 9, 10] (by decide +kernel) (by decide +kernel)
set_option maxRecDepth 20000 in
theorem gX5_howMany_J6_bitCount_0f7a4 : GoodIn wsX5_howMany (va_wsS RX5 171 yJ6_bitCount_0f7a4 wsJ6_bitCount_0f7a4) := goodIn_app (goodIn_of _ (by decide +kernel)) ggX5_howMany_J6_bitCount_0f7a4
set_option maxRecDepth 20000 in
theorem ggX5_howMany_X0_drifters : GoodIn wsX5_howMany wsX0_drifters := goodIn_r _ [15, 16, 17, 18, 19, 14, 20, 21, 22, 23, 24, 25, 26, 27, 28, 64, 65, 66, 67, 68, 69, 70, 71, 72, 73, 74, 75, 76, 77] (by decide +kernel) (by decide +kernel)
set_option maxRecDepth 20000 in
theorem gX5_howMany_X0_drifters : GoodIn wsX5_howMany (wsV RX5 317 RX0 yX0_drifters wsX0_drifters) := goodIn_app (goodIn_of _ (by decide +kernel)) ggX5_howMany_X0_drifters
set_option maxRecDepth 20000 in
theorem ggX5_howMany_X3_howManyThere : GoodIn wsX5_howMany wsX3_howManyThere := goodIn_r _ [33, 34, 35, 36, 37, 32, 38, 39, 40, 41, 42, 78, 79, 80] (by decide +kernel) (by decide +kernel)
set_option maxRecDepth 20000 in
theorem gX5_howMany_X3_howManyThere : GoodIn wsX5_howMany (wsV RX5 320 RX3 yX3_howManyThere wsX3_howManyThere) := goodIn_app (goodIn_of _ (by decide +kernel)) ggX5_howMany_X3_howManyThere
set_option maxRecDepth 20000 in
theorem ggX5_howMany_X5_keptChains : GoodIn wsX5_howMany wsX5_keptChains := goodIn_r _ [47, 48, 49, 50, 46, 51, 52, 53, 54, 55, 56, 57, 58, 59, 60, 61, 62, 63, 64, 65, 66, 67, 68, 69, 70, 71, 72, 73, 74, 75, 76, 77] (by decide +kernel) (by decide +kernel)
set_option maxRecDepth 20000 in
theorem gX5_howMany_X5_keptChains : GoodIn wsX5_howMany (wsV RX5 323 RX5 yX5_keptChains wsX5_keptChains) := goodIn_app (goodIn_of _ (by decide +kernel)) ggX5_howMany_X5_keptChains
theorem dX5_howMany_0 : decode cX5_howMany 0 = .ok (.iload_n 1, 1) := by decide +kernel
theorem dX5_howMany_1 : decode cX5_howMany 1 = .ok (.tableswitch 114 0 7 #[47, 55, 63, 74, 82, 90, 98, 106], 47) := by decide +kernel
theorem dX5_howMany_48 : decode cX5_howMany 48 = .ok (.aload_n 0, 1) := by decide +kernel
theorem dX5_howMany_49 : decode cX5_howMany 49 = .ok (.getfield 45, 3) := by decide +kernel
theorem dX5_howMany_52 : decode cX5_howMany 52 = .ok (.getfield 119, 3) := by decide +kernel
theorem dX5_howMany_55 : decode cX5_howMany 55 = .ok (.ireturn, 1) := by decide +kernel
theorem dX5_howMany_56 : decode cX5_howMany 56 = .ok (.aload_n 0, 1) := by decide +kernel
theorem dX5_howMany_57 : decode cX5_howMany 57 = .ok (.getfield 45, 3) := by decide +kernel
theorem dX5_howMany_60 : decode cX5_howMany 60 = .ok (.getfield 189, 3) := by decide +kernel
theorem dX5_howMany_63 : decode cX5_howMany 63 = .ok (.ireturn, 1) := by decide +kernel
theorem dX5_howMany_64 : decode cX5_howMany 64 = .ok (.aload_n 0, 1) := by decide +kernel
theorem dX5_howMany_65 : decode cX5_howMany 65 = .ok (.getfield 45, 3) := by decide +kernel
theorem dX5_howMany_68 : decode cX5_howMany 68 = .ok (.getfield 168, 3) := by decide +kernel
theorem dX5_howMany_71 : decode cX5_howMany 71 = .ok (.invokestatic 171, 3) := by decide +kernel
theorem dX5_howMany_74 : decode cX5_howMany 74 = .ok (.ireturn, 1) := by decide +kernel
theorem dX5_howMany_75 : decode cX5_howMany 75 = .ok (.aload_n 0, 1) := by decide +kernel
theorem dX5_howMany_76 : decode cX5_howMany 76 = .ok (.getfield 45, 3) := by decide +kernel
theorem dX5_howMany_79 : decode cX5_howMany 79 = .ok (.getfield 192, 3) := by decide +kernel
theorem dX5_howMany_82 : decode cX5_howMany 82 = .ok (.ireturn, 1) := by decide +kernel
theorem dX5_howMany_83 : decode cX5_howMany 83 = .ok (.aload_n 0, 1) := by decide +kernel
theorem dX5_howMany_84 : decode cX5_howMany 84 = .ok (.getfield 45, 3) := by decide +kernel
theorem dX5_howMany_87 : decode cX5_howMany 87 = .ok (.getfield 153, 3) := by decide +kernel
theorem dX5_howMany_90 : decode cX5_howMany 90 = .ok (.ireturn, 1) := by decide +kernel
theorem dX5_howMany_91 : decode cX5_howMany 91 = .ok (.aload_n 0, 1) := by decide +kernel
theorem dX5_howMany_92 : decode cX5_howMany 92 = .ok (.getfield 45, 3) := by decide +kernel
theorem dX5_howMany_95 : decode cX5_howMany 95 = .ok (.invokevirtual 317, 3) := by decide +kernel
theorem dX5_howMany_98 : decode cX5_howMany 98 = .ok (.ireturn, 1) := by decide +kernel
theorem dX5_howMany_99 : decode cX5_howMany 99 = .ok (.aload_n 0, 1) := by decide +kernel
theorem dX5_howMany_100 : decode cX5_howMany 100 = .ok (.getfield 14, 3) := by decide +kernel
theorem dX5_howMany_103 : decode cX5_howMany 103 = .ok (.invokevirtual 320, 3) := by decide +kernel
theorem dX5_howMany_106 : decode cX5_howMany 106 = .ok (.ireturn, 1) := by decide +kernel
theorem dX5_howMany_107 : decode cX5_howMany 107 = .ok (.aload_n 0, 1) := by decide +kernel
theorem dX5_howMany_108 : decode cX5_howMany 108 = .ok (.getfield 18, 3) := by decide +kernel
theorem dX5_howMany_111 : decode cX5_howMany 111 = .ok (.invokevirtual 320, 3) := by decide +kernel
theorem dX5_howMany_114 : decode cX5_howMany 114 = .ok (.ireturn, 1) := by decide +kernel
theorem dX5_howMany_115 : decode cX5_howMany 115 = .ok (.aload_n 0, 1) := by decide +kernel
theorem dX5_howMany_116 : decode cX5_howMany 116 = .ok (.invokevirtual 323, 3) := by decide +kernel
theorem dX5_howMany_119 : decode cX5_howMany 119 = .ok (.ireturn, 1) := by decide +kernel
set_option maxRecDepth 20000 in
theorem ggX5_keptChains_X5_isKept : GoodIn wsX5_keptChains wsX5_isKept := goodIn_r _ [5, 6, 7, 8, 4, 9, 10, 11, 12, 13, 14, 15, 16, 17, 18, 19, 20, 21, 22, 23, 24, 25, 26, 27, 28, 29, 30, 31] (by decide +kernel) (by decide +kernel)
set_option maxRecDepth 20000 in
theorem gX5_keptChains_X5_isKept : GoodIn wsX5_keptChains (wsV RX5 204 RX5 yX5_isKept wsX5_isKept) := goodIn_app (goodIn_of _ (by decide +kernel)) ggX5_keptChains_X5_isKept
theorem dX5_keptChains_0 : decode cX5_keptChains 0 = .ok (.iconst 0, 1) := by decide +kernel
theorem dX5_keptChains_1 : decode cX5_keptChains 1 = .ok (.istore_n 1, 1) := by decide +kernel
theorem dX5_keptChains_2 : decode cX5_keptChains 2 = .ok (.iconst 0, 1) := by decide +kernel
theorem dX5_keptChains_3 : decode cX5_keptChains 3 = .ok (.istore_n 2, 1) := by decide +kernel
theorem dX5_keptChains_4 : decode cX5_keptChains 4 = .ok (.iload_n 2, 1) := by decide +kernel
theorem dX5_keptChains_5 : decode cX5_keptChains 5 = .ok (.iconst 3, 1) := by decide +kernel
theorem dX5_keptChains_6 : decode cX5_keptChains 6 = .ok (.if_icmp .ge 20, 3) := by decide +kernel
theorem dX5_keptChains_9 : decode cX5_keptChains 9 = .ok (.aload_n 0, 1) := by decide +kernel
theorem dX5_keptChains_10 : decode cX5_keptChains 10 = .ok (.iload_n 2, 1) := by decide +kernel
theorem dX5_keptChains_11 : decode cX5_keptChains 11 = .ok (.invokevirtual 204, 3) := by decide +kernel
theorem dX5_keptChains_14 : decode cX5_keptChains 14 = .ok (.ifCond .eq 6, 3) := by decide +kernel
theorem dX5_keptChains_17 : decode cX5_keptChains 17 = .ok (.iinc 1 1, 3) := by decide +kernel
theorem dX5_keptChains_20 : decode cX5_keptChains 20 = .ok (.iinc 2 1, 3) := by decide +kernel
theorem dX5_keptChains_23 : decode cX5_keptChains 23 = .ok (.goto (-19), 3) := by decide +kernel
theorem dX5_keptChains_26 : decode cX5_keptChains 26 = .ok (.iload_n 1, 1) := by decide +kernel
theorem dX5_keptChains_27 : decode cX5_keptChains 27 = .ok (.ireturn, 1) := by decide +kernel
set_option maxRecDepth 20000 in
theorem ggX5_missingRefused_X3_isNumber : GoodIn wsX5_missingRefused wsX3_isNumber := goodIn_r _ [6, 7, 28, 29, 30] (by decide +kernel) (by decide +kernel)
set_option maxRecDepth 20000 in
theorem gX5_missingRefused_X3_isNumber : GoodIn wsX5_missingRefused (wsV RX5 57 RX3 yX3_isNumber wsX3_isNumber) := goodIn_app (goodIn_of _ (by decide +kernel)) ggX5_missingRefused_X3_isNumber
set_option maxRecDepth 20000 in
theorem ggX5_missingRefused_X3_isThere : GoodIn wsX5_missingRefused wsX3_isThere := goodIn_r _ [11, 7, 12, 3, 4, 5, 6, 28, 29, 30] (by decide +kernel) (by decide +kernel)
set_option maxRecDepth 20000 in
theorem gX5_missingRefused_X3_isThere : GoodIn wsX5_missingRefused (wsV RX5 92 RX3 yX3_isThere wsX3_isThere) := goodIn_app (goodIn_of _ (by decide +kernel)) ggX5_missingRefused_X3_isThere
set_option maxRecDepth 20000 in
theorem ggX5_missingRefused_X4_found : GoodIn wsX5_missingRefused wsX4_found := goodIn_r _ [17, 18, 19, 31, 32, 33, 34, 35] (by decide +kernel) (by decide +kernel)
set_option maxRecDepth 20000 in
theorem gX5_missingRefused_X4_found : GoodIn wsX5_missingRefused (wsV RX5 61 RX4 yX4_found wsX4_found) := goodIn_app (goodIn_of _ (by decide +kernel)) ggX5_missingRefused_X4_found
theorem dX5_missingRefused_0 : decode cX5_missingRefused 0 = .ok (.aload_n 1, 1) := by decide +kernel
theorem dX5_missingRefused_1 : decode cX5_missingRefused 1 = .ok (.iload_n 2, 1) := by decide +kernel
theorem dX5_missingRefused_2 : decode cX5_missingRefused 2 = .ok (.invokevirtual 57, 3) := by decide +kernel
theorem dX5_missingRefused_5 : decode cX5_missingRefused 5 = .ok (.ifCond .ne 5, 3) := by decide +kernel
theorem dX5_missingRefused_8 : decode cX5_missingRefused 8 = .ok (.iconst (-1), 1) := by decide +kernel
theorem dX5_missingRefused_9 : decode cX5_missingRefused 9 = .ok (.ireturn, 1) := by decide +kernel
theorem dX5_missingRefused_10 : decode cX5_missingRefused 10 = .ok (.aload_n 1, 1) := by decide +kernel
theorem dX5_missingRefused_11 : decode cX5_missingRefused 11 = .ok (.iload_n 2, 1) := by decide +kernel
theorem dX5_missingRefused_12 : decode cX5_missingRefused 12 = .ok (.invokevirtual 92, 3) := by decide +kernel
theorem dX5_missingRefused_15 : decode cX5_missingRefused 15 = .ok (.ifCond .eq 7, 3) := by decide +kernel
theorem dX5_missingRefused_18 : decode cX5_missingRefused 18 = .ok (.iconst 0, 1) := by decide +kernel
theorem dX5_missingRefused_19 : decode cX5_missingRefused 19 = .ok (.goto 11, 3) := by decide +kernel
theorem dX5_missingRefused_22 : decode cX5_missingRefused 22 = .ok (.aload_n 0, 1) := by decide +kernel
theorem dX5_missingRefused_23 : decode cX5_missingRefused 23 = .ok (.getfield 24, 3) := by decide +kernel
theorem dX5_missingRefused_26 : decode cX5_missingRefused 26 = .ok (.iconst 1, 1) := by decide +kernel
theorem dX5_missingRefused_27 : decode cX5_missingRefused 27 = .ok (.invokevirtual 61, 3) := by decide +kernel
theorem dX5_missingRefused_30 : decode cX5_missingRefused 30 = .ok (.ireturn, 1) := by decide +kernel
set_option maxRecDepth 20000 in
theorem ggX5_placeRefused_X5_missingRefused : GoodIn wsX5_placeRefused wsX5_missingRefused := goodIn_r _ [6, 1, 7, 8, 9, 10, 11, 12, 13, 14, 15, 16, 17, 18, 19, 20, 21, 22, 23, 24, 29, 30, 31, 32, 33, 34, 35, 36, 37, 38, 39, 40, 41, 42, 43, 44] (by decide +kernel) (by decide +kernel)
set_option maxRecDepth 20000 in
theorem gX5_placeRefused_X5_missingRefused : GoodIn wsX5_placeRefused (wsV RX5 84 RX5 yX5_missingRefused wsX5_missingRefused) := goodIn_app (goodIn_of _ (by decide +kernel)) ggX5_placeRefused_X5_missingRefused
set_option maxRecDepth 20000 in
theorem ggX5_placeRefused_X3_holds : GoodIn wsX5_placeRefused wsX3_holds := goodIn_r _ [28, 12, 17, 8, 9, 10, 11, 37, 38, 39] (by decide +kernel) (by decide +kernel)
set_option maxRecDepth 20000 in
theorem gX5_placeRefused_X3_holds : GoodIn wsX5_placeRefused (wsV RX5 326 RX3 yX3_holds wsX3_holds) := goodIn_app (goodIn_of _ (by decide +kernel)) ggX5_placeRefused_X3_holds
set_option maxRecDepth 20000 in
theorem ggX5_placeRefused_X4_found : GoodIn wsX5_placeRefused wsX4_found := goodIn_r _ [22, 23, 24, 40, 41, 42, 43, 44] (by decide +kernel) (by decide +kernel)
set_option maxRecDepth 20000 in
theorem gX5_placeRefused_X4_found : GoodIn wsX5_placeRefused (wsV RX5 61 RX4 yX4_found wsX4_found) := goodIn_app (goodIn_of _ (by decide +kernel)) ggX5_placeRefused_X4_found
theorem dX5_placeRefused_0 : decode cX5_placeRefused 0 = .ok (.aload_n 0, 1) := by decide +kernel
theorem dX5_placeRefused_1 : decode cX5_placeRefused 1 = .ok (.aload_n 1, 1) := by decide +kernel
theorem dX5_placeRefused_2 : decode cX5_placeRefused 2 = .ok (.iload_n 2, 1) := by decide +kernel
theorem dX5_placeRefused_3 : decode cX5_placeRefused 3 = .ok (.invokevirtual 84, 3) := by decide +kernel
theorem dX5_placeRefused_6 : decode cX5_placeRefused 6 = .ok (.istore 4, 2) := by decide +kernel
theorem dX5_placeRefused_8 : decode cX5_placeRefused 8 = .ok (.iload 4, 2) := by decide +kernel
theorem dX5_placeRefused_10 : decode cX5_placeRefused 10 = .ok (.ifCond .eq 6, 3) := by decide +kernel
theorem dX5_placeRefused_13 : decode cX5_placeRefused 13 = .ok (.iload 4, 2) := by decide +kernel
theorem dX5_placeRefused_15 : decode cX5_placeRefused 15 = .ok (.ireturn, 1) := by decide +kernel
theorem dX5_placeRefused_16 : decode cX5_placeRefused 16 = .ok (.aload_n 1, 1) := by decide +kernel
theorem dX5_placeRefused_17 : decode cX5_placeRefused 17 = .ok (.iload_n 2, 1) := by decide +kernel
theorem dX5_placeRefused_18 : decode cX5_placeRefused 18 = .ok (.iload_n 3, 1) := by decide +kernel
theorem dX5_placeRefused_19 : decode cX5_placeRefused 19 = .ok (.invokevirtual 326, 3) := by decide +kernel
theorem dX5_placeRefused_22 : decode cX5_placeRefused 22 = .ok (.ifCond .eq 7, 3) := by decide +kernel
theorem dX5_placeRefused_25 : decode cX5_placeRefused 25 = .ok (.iconst 0, 1) := by decide +kernel
theorem dX5_placeRefused_26 : decode cX5_placeRefused 26 = .ok (.goto 11, 3) := by decide +kernel
theorem dX5_placeRefused_29 : decode cX5_placeRefused 29 = .ok (.aload_n 0, 1) := by decide +kernel
theorem dX5_placeRefused_30 : decode cX5_placeRefused 30 = .ok (.getfield 24, 3) := by decide +kernel
theorem dX5_placeRefused_33 : decode cX5_placeRefused 33 = .ok (.iconst 2, 1) := by decide +kernel
theorem dX5_placeRefused_34 : decode cX5_placeRefused 34 = .ok (.invokevirtual 61, 3) := by decide +kernel
theorem dX5_placeRefused_37 : decode cX5_placeRefused 37 = .ok (.ireturn, 1) := by decide +kernel
set_option maxRecDepth 20000 in
theorem ggX5_foursRefused_X3_isNumber : GoodIn wsX5_foursRefused wsX3_isNumber := goodIn_r _ [8, 9, 77, 78, 79] (by decide +kernel) (by decide +kernel)
set_option maxRecDepth 20000 in
theorem gX5_foursRefused_X3_isNumber : GoodIn wsX5_foursRefused (wsV RX5 57 RX3 yX3_isNumber wsX3_isNumber) := goodIn_app (goodIn_of _ (by decide +kernel)) ggX5_foursRefused_X3_isNumber
set_option maxRecDepth 20000 in
theorem ggX5_foursRefused_X3_isThere : GoodIn wsX5_foursRefused wsX3_isThere := goodIn_r _ [13, 9, 14, 5, 6, 7, 8, 77, 78, 79] (by decide +kernel) (by decide +kernel)
set_option maxRecDepth 20000 in
theorem gX5_foursRefused_X3_isThere : GoodIn wsX5_foursRefused (wsV RX5 92 RX3 yX3_isThere wsX3_isThere) := goodIn_app (goodIn_of _ (by decide +kernel)) ggX5_foursRefused_X3_isThere
set_option maxRecDepth 20000 in
theorem ggX5_foursRefused_X4_found : GoodIn wsX5_foursRefused wsX4_found := goodIn_r _ [19, 20, 21, 80, 81, 82, 83, 84] (by decide +kernel) (by decide +kernel)
set_option maxRecDepth 20000 in
theorem gX5_foursRefused_X4_found : GoodIn wsX5_foursRefused (wsV RX5 61 RX4 yX4_found wsX4_found) := goodIn_app (goodIn_of _ (by decide +kernel)) ggX5_foursRefused_X4_found
set_option maxRecDepth 20000 in
theorem ggX5_foursRefused_X3_sizeOf : GoodIn wsX5_foursRefused wsX3_sizeOf := goodIn_r _ [25, 9, 14, 5, 6, 7, 8, 77, 78, 79] (by decide +kernel) (by decide +kernel)
set_option maxRecDepth 20000 in
theorem gX5_foursRefused_X3_sizeOf : GoodIn wsX5_foursRefused (wsV RX5 103 RX3 yX3_sizeOf wsX3_sizeOf) := goodIn_app (goodIn_of _ (by decide +kernel)) ggX5_foursRefused_X3_sizeOf
set_option maxRecDepth 20000 in
theorem ggX5_foursRefused_X5_areFours : GoodIn wsX5_foursRefused wsX5_areFours := goodIn_r _ [30, 1, 2, 22, 23, 24, 7, 25, 9, 14, 5, 6, 8, 31, 32, 33, 34, 35, 36, 37, 38, 39, 40, 41, 29, 42, 43, 44, 45, 46, 47, 48, 49, 50, 51, 52, 53, 54, 55, 56, 57, 58, 59, 60, 61, 62, 77, 78, 79, 63, 64, 65, 66, 67, 68, 69, 70, 71, 72, 73, 74, 75, 76] (by decide +kernel) (by decide +kernel)
set_option maxRecDepth 20000 in
theorem gX5_foursRefused_X5_areFours : GoodIn wsX5_foursRefused (wsV RX5 329 RX5 yX5_areFours wsX5_areFours) := goodIn_app (goodIn_of _ (by decide +kernel)) ggX5_foursRefused_X5_areFours
theorem dX5_foursRefused_0 : decode cX5_foursRefused 0 = .ok (.aload_n 0, 1) := by decide +kernel
theorem dX5_foursRefused_1 : decode cX5_foursRefused 1 = .ok (.getfield 14, 3) := by decide +kernel
theorem dX5_foursRefused_4 : decode cX5_foursRefused 4 = .ok (.iload_n 1, 1) := by decide +kernel
theorem dX5_foursRefused_5 : decode cX5_foursRefused 5 = .ok (.invokevirtual 57, 3) := by decide +kernel
theorem dX5_foursRefused_8 : decode cX5_foursRefused 8 = .ok (.ifCond .ne 5, 3) := by decide +kernel
theorem dX5_foursRefused_11 : decode cX5_foursRefused 11 = .ok (.iconst (-1), 1) := by decide +kernel
theorem dX5_foursRefused_12 : decode cX5_foursRefused 12 = .ok (.ireturn, 1) := by decide +kernel
theorem dX5_foursRefused_13 : decode cX5_foursRefused 13 = .ok (.aload_n 0, 1) := by decide +kernel
theorem dX5_foursRefused_14 : decode cX5_foursRefused 14 = .ok (.getfield 45, 3) := by decide +kernel
theorem dX5_foursRefused_17 : decode cX5_foursRefused 17 = .ok (.getfield 119, 3) := by decide +kernel
theorem dX5_foursRefused_20 : decode cX5_foursRefused 20 = .ok (.ifCond .ne 6, 3) := by decide +kernel
theorem dX5_foursRefused_23 : decode cX5_foursRefused 23 = .ok (.bipush (-4), 2) := by decide +kernel
theorem dX5_foursRefused_25 : decode cX5_foursRefused 25 = .ok (.ireturn, 1) := by decide +kernel
theorem dX5_foursRefused_26 : decode cX5_foursRefused 26 = .ok (.aload_n 0, 1) := by decide +kernel
theorem dX5_foursRefused_27 : decode cX5_foursRefused 27 = .ok (.getfield 14, 3) := by decide +kernel
theorem dX5_foursRefused_30 : decode cX5_foursRefused 30 = .ok (.iload_n 1, 1) := by decide +kernel
theorem dX5_foursRefused_31 : decode cX5_foursRefused 31 = .ok (.invokevirtual 92, 3) := by decide +kernel
theorem dX5_foursRefused_34 : decode cX5_foursRefused 34 = .ok (.ifCond .ne 12, 3) := by decide +kernel
theorem dX5_foursRefused_37 : decode cX5_foursRefused 37 = .ok (.aload_n 0, 1) := by decide +kernel
theorem dX5_foursRefused_38 : decode cX5_foursRefused 38 = .ok (.getfield 24, 3) := by decide +kernel
theorem dX5_foursRefused_41 : decode cX5_foursRefused 41 = .ok (.iconst 1, 1) := by decide +kernel
theorem dX5_foursRefused_42 : decode cX5_foursRefused 42 = .ok (.invokevirtual 61, 3) := by decide +kernel
theorem dX5_foursRefused_45 : decode cX5_foursRefused 45 = .ok (.ireturn, 1) := by decide +kernel
theorem dX5_foursRefused_46 : decode cX5_foursRefused 46 = .ok (.aload_n 0, 1) := by decide +kernel
theorem dX5_foursRefused_47 : decode cX5_foursRefused 47 = .ok (.getfield 14, 3) := by decide +kernel
theorem dX5_foursRefused_50 : decode cX5_foursRefused 50 = .ok (.iload_n 1, 1) := by decide +kernel
theorem dX5_foursRefused_51 : decode cX5_foursRefused 51 = .ok (.invokevirtual 103, 3) := by decide +kernel
theorem dX5_foursRefused_54 : decode cX5_foursRefused 54 = .ok (.iconst 4, 1) := by decide +kernel
theorem dX5_foursRefused_55 : decode cX5_foursRefused 55 = .ok (.irem, 1) := by decide +kernel
theorem dX5_foursRefused_56 : decode cX5_foursRefused 56 = .ok (.ifCond .eq 12, 3) := by decide +kernel
theorem dX5_foursRefused_59 : decode cX5_foursRefused 59 = .ok (.aload_n 0, 1) := by decide +kernel
theorem dX5_foursRefused_60 : decode cX5_foursRefused 60 = .ok (.getfield 24, 3) := by decide +kernel
theorem dX5_foursRefused_63 : decode cX5_foursRefused 63 = .ok (.iconst 5, 1) := by decide +kernel
theorem dX5_foursRefused_64 : decode cX5_foursRefused 64 = .ok (.invokevirtual 61, 3) := by decide +kernel
theorem dX5_foursRefused_67 : decode cX5_foursRefused 67 = .ok (.ireturn, 1) := by decide +kernel
theorem dX5_foursRefused_68 : decode cX5_foursRefused 68 = .ok (.aload_n 0, 1) := by decide +kernel
theorem dX5_foursRefused_69 : decode cX5_foursRefused 69 = .ok (.iload_n 1, 1) := by decide +kernel
theorem dX5_foursRefused_70 : decode cX5_foursRefused 70 = .ok (.invokevirtual 329, 3) := by decide +kernel
theorem dX5_foursRefused_73 : decode cX5_foursRefused 73 = .ok (.ifCond .eq 7, 3) := by decide +kernel
theorem dX5_foursRefused_76 : decode cX5_foursRefused 76 = .ok (.iconst 0, 1) := by decide +kernel
theorem dX5_foursRefused_77 : decode cX5_foursRefused 77 = .ok (.goto 11, 3) := by decide +kernel
theorem dX5_foursRefused_80 : decode cX5_foursRefused 80 = .ok (.aload_n 0, 1) := by decide +kernel
theorem dX5_foursRefused_81 : decode cX5_foursRefused 81 = .ok (.getfield 24, 3) := by decide +kernel
theorem dX5_foursRefused_84 : decode cX5_foursRefused 84 = .ok (.iconst 3, 1) := by decide +kernel
theorem dX5_foursRefused_85 : decode cX5_foursRefused 85 = .ok (.invokevirtual 61, 3) := by decide +kernel
theorem dX5_foursRefused_88 : decode cX5_foursRefused 88 = .ok (.ireturn, 1) := by decide +kernel
set_option maxRecDepth 20000 in
theorem ggX5_areFours_X3_sizeOf : GoodIn wsX5_areFours wsX3_sizeOf := goodIn_r _ [7, 8, 9, 10, 11, 6, 12, 46, 47, 48] (by decide +kernel) (by decide +kernel)
set_option maxRecDepth 20000 in
theorem gX5_areFours_X3_sizeOf : GoodIn wsX5_areFours (wsV RX5 103 RX3 yX3_sizeOf wsX3_sizeOf) := goodIn_app (goodIn_of _ (by decide +kernel)) ggX5_areFours_X3_sizeOf
set_option maxRecDepth 20000 in
theorem ggX5_areFours_X3_get : GoodIn wsX5_areFours wsX3_get := goodIn_r _ [16, 17, 18, 19, 20, 6, 21, 8, 9, 10, 11, 12, 46, 47, 48] (by decide +kernel) (by decide +kernel)
set_option maxRecDepth 20000 in
theorem gX5_areFours_X3_get : GoodIn wsX5_areFours (wsV RX5 73 RX3 yX3_get wsX3_get) := goodIn_app (goodIn_of _ (by decide +kernel)) ggX5_areFours_X3_get
set_option maxRecDepth 20000 in
theorem ggX5_areFours_X5_isTown : GoodIn wsX5_areFours wsX5_isTown := goodIn_r _ [25] (by decide +kernel) (by decide +kernel)
set_option maxRecDepth 20000 in
theorem gX5_areFours_X5_isTown : GoodIn wsX5_areFours (va_wsS RX5 176 yX5_isTown wsX5_isTown) := goodIn_app (goodIn_of _ (by decide +kernel)) ggX5_areFours_X5_isTown
set_option maxRecDepth 20000 in
theorem ggX5_areFours_X5_isDay : GoodIn wsX5_areFours wsX5_isDay := goodIn_r _ [28] (by decide +kernel) (by decide +kernel)
set_option maxRecDepth 20000 in
theorem gX5_areFours_X5_isDay : GoodIn wsX5_areFours (va_wsS RX5 179 yX5_isDay wsX5_isDay) := goodIn_app (goodIn_of _ (by decide +kernel)) ggX5_areFours_X5_isDay
set_option maxRecDepth 20000 in
theorem ggX5_areFours_X0_isPerson : GoodIn wsX5_areFours wsX0_isPerson := goodIn_r _ [33, 34, 49, 50, 51, 52, 53, 54, 55, 56, 57, 58, 59, 60, 61, 62] (by decide +kernel) (by decide +kernel)
set_option maxRecDepth 20000 in
theorem gX5_areFours_X0_isPerson : GoodIn wsX5_areFours (wsV RX5 122 RX0 yX0_isPerson wsX0_isPerson) := goodIn_app (goodIn_of _ (by decide +kernel)) ggX5_areFours_X0_isPerson
set_option maxRecDepth 20000 in
theorem ggX5_areFours_X5_isDeed : GoodIn wsX5_areFours wsX5_isDeed := goodIn_r _ [37] (by decide +kernel) (by decide +kernel)
set_option maxRecDepth 20000 in
theorem gX5_areFours_X5_isDeed : GoodIn wsX5_areFours (va_wsS RX5 229 yX5_isDeed wsX5_isDeed) := goodIn_app (goodIn_of _ (by decide +kernel)) ggX5_areFours_X5_isDeed
theorem dX5_areFours_0 : decode cX5_areFours 0 = .ok (.aload_n 0, 1) := by decide +kernel
theorem dX5_areFours_1 : decode cX5_areFours 1 = .ok (.getfield 14, 3) := by decide +kernel
theorem dX5_areFours_4 : decode cX5_areFours 4 = .ok (.iload_n 1, 1) := by decide +kernel
theorem dX5_areFours_5 : decode cX5_areFours 5 = .ok (.invokevirtual 103, 3) := by decide +kernel
theorem dX5_areFours_8 : decode cX5_areFours 8 = .ok (.iconst 4, 1) := by decide +kernel
theorem dX5_areFours_9 : decode cX5_areFours 9 = .ok (.idiv, 1) := by decide +kernel
theorem dX5_areFours_10 : decode cX5_areFours 10 = .ok (.istore_n 2, 1) := by decide +kernel
theorem dX5_areFours_11 : decode cX5_areFours 11 = .ok (.iconst 0, 1) := by decide +kernel
theorem dX5_areFours_12 : decode cX5_areFours 12 = .ok (.istore_n 3, 1) := by decide +kernel
theorem dX5_areFours_13 : decode cX5_areFours 13 = .ok (.iload_n 3, 1) := by decide +kernel
theorem dX5_areFours_14 : decode cX5_areFours 14 = .ok (.iload_n 2, 1) := by decide +kernel
theorem dX5_areFours_15 : decode cX5_areFours 15 = .ok (.if_icmp .ge 92, 3) := by decide +kernel
theorem dX5_areFours_18 : decode cX5_areFours 18 = .ok (.iload_n 3, 1) := by decide +kernel
theorem dX5_areFours_19 : decode cX5_areFours 19 = .ok (.iconst 4, 1) := by decide +kernel
theorem dX5_areFours_20 : decode cX5_areFours 20 = .ok (.imul, 1) := by decide +kernel
theorem dX5_areFours_21 : decode cX5_areFours 21 = .ok (.istore 4, 2) := by decide +kernel
theorem dX5_areFours_23 : decode cX5_areFours 23 = .ok (.aload_n 0, 1) := by decide +kernel
theorem dX5_areFours_24 : decode cX5_areFours 24 = .ok (.getfield 14, 3) := by decide +kernel
theorem dX5_areFours_27 : decode cX5_areFours 27 = .ok (.iload_n 1, 1) := by decide +kernel
theorem dX5_areFours_28 : decode cX5_areFours 28 = .ok (.iload 4, 2) := by decide +kernel
theorem dX5_areFours_30 : decode cX5_areFours 30 = .ok (.invokevirtual 73, 3) := by decide +kernel
theorem dX5_areFours_33 : decode cX5_areFours 33 = .ok (.invokestatic 176, 3) := by decide +kernel
theorem dX5_areFours_36 : decode cX5_areFours 36 = .ok (.ifCond .eq 21, 3) := by decide +kernel
theorem dX5_areFours_39 : decode cX5_areFours 39 = .ok (.aload_n 0, 1) := by decide +kernel
theorem dX5_areFours_40 : decode cX5_areFours 40 = .ok (.getfield 14, 3) := by decide +kernel
theorem dX5_areFours_43 : decode cX5_areFours 43 = .ok (.iload_n 1, 1) := by decide +kernel
theorem dX5_areFours_44 : decode cX5_areFours 44 = .ok (.iload 4, 2) := by decide +kernel
theorem dX5_areFours_46 : decode cX5_areFours 46 = .ok (.iconst 1, 1) := by decide +kernel
theorem dX5_areFours_47 : decode cX5_areFours 47 = .ok (.iadd, 1) := by decide +kernel
theorem dX5_areFours_48 : decode cX5_areFours 48 = .ok (.invokevirtual 73, 3) := by decide +kernel
theorem dX5_areFours_51 : decode cX5_areFours 51 = .ok (.invokestatic 179, 3) := by decide +kernel
theorem dX5_areFours_54 : decode cX5_areFours 54 = .ok (.ifCond .ne 5, 3) := by decide +kernel
theorem dX5_areFours_57 : decode cX5_areFours 57 = .ok (.iconst 0, 1) := by decide +kernel
theorem dX5_areFours_58 : decode cX5_areFours 58 = .ok (.ireturn, 1) := by decide +kernel
theorem dX5_areFours_59 : decode cX5_areFours 59 = .ok (.aload_n 0, 1) := by decide +kernel
theorem dX5_areFours_60 : decode cX5_areFours 60 = .ok (.getfield 45, 3) := by decide +kernel
theorem dX5_areFours_63 : decode cX5_areFours 63 = .ok (.aload_n 0, 1) := by decide +kernel
theorem dX5_areFours_64 : decode cX5_areFours 64 = .ok (.getfield 14, 3) := by decide +kernel
theorem dX5_areFours_67 : decode cX5_areFours 67 = .ok (.iload_n 1, 1) := by decide +kernel
theorem dX5_areFours_68 : decode cX5_areFours 68 = .ok (.iload 4, 2) := by decide +kernel
theorem dX5_areFours_70 : decode cX5_areFours 70 = .ok (.iconst 2, 1) := by decide +kernel
theorem dX5_areFours_71 : decode cX5_areFours 71 = .ok (.iadd, 1) := by decide +kernel
theorem dX5_areFours_72 : decode cX5_areFours 72 = .ok (.invokevirtual 73, 3) := by decide +kernel
theorem dX5_areFours_75 : decode cX5_areFours 75 = .ok (.invokevirtual 122, 3) := by decide +kernel
theorem dX5_areFours_78 : decode cX5_areFours 78 = .ok (.ifCond .eq 21, 3) := by decide +kernel
theorem dX5_areFours_81 : decode cX5_areFours 81 = .ok (.aload_n 0, 1) := by decide +kernel
theorem dX5_areFours_82 : decode cX5_areFours 82 = .ok (.getfield 14, 3) := by decide +kernel
theorem dX5_areFours_85 : decode cX5_areFours 85 = .ok (.iload_n 1, 1) := by decide +kernel
theorem dX5_areFours_86 : decode cX5_areFours 86 = .ok (.iload 4, 2) := by decide +kernel
theorem dX5_areFours_88 : decode cX5_areFours 88 = .ok (.iconst 3, 1) := by decide +kernel
theorem dX5_areFours_89 : decode cX5_areFours 89 = .ok (.iadd, 1) := by decide +kernel
theorem dX5_areFours_90 : decode cX5_areFours 90 = .ok (.invokevirtual 73, 3) := by decide +kernel
theorem dX5_areFours_93 : decode cX5_areFours 93 = .ok (.invokestatic 229, 3) := by decide +kernel
theorem dX5_areFours_96 : decode cX5_areFours 96 = .ok (.ifCond .ne 5, 3) := by decide +kernel
theorem dX5_areFours_99 : decode cX5_areFours 99 = .ok (.iconst 0, 1) := by decide +kernel
theorem dX5_areFours_100 : decode cX5_areFours 100 = .ok (.ireturn, 1) := by decide +kernel
theorem dX5_areFours_101 : decode cX5_areFours 101 = .ok (.iinc 3 1, 3) := by decide +kernel
theorem dX5_areFours_104 : decode cX5_areFours 104 = .ok (.goto (-91), 3) := by decide +kernel
theorem dX5_areFours_107 : decode cX5_areFours 107 = .ok (.iconst 1, 1) := by decide +kernel
theorem dX5_areFours_108 : decode cX5_areFours 108 = .ok (.ireturn, 1) := by decide +kernel
set_option maxRecDepth 20000 in
theorem ggX5_isKept_X5_isPlace : GoodIn wsX5_isKept wsX5_isPlace := goodIn_r _ [5] (by decide +kernel) (by decide +kernel)
set_option maxRecDepth 20000 in
theorem gX5_isKept_X5_isPlace : GoodIn wsX5_isKept (va_wsS RX5 201 yX5_isPlace wsX5_isPlace) := goodIn_app (goodIn_of _ (by decide +kernel)) ggX5_isKept_X5_isPlace
theorem dX5_isKept_0 : decode cX5_isKept 0 = .ok (.iload_n 1, 1) := by decide +kernel
theorem dX5_isKept_1 : decode cX5_isKept 1 = .ok (.invokestatic 201, 3) := by decide +kernel
theorem dX5_isKept_4 : decode cX5_isKept 4 = .ok (.ifCond .eq 19, 3) := by decide +kernel
theorem dX5_isKept_7 : decode cX5_isKept 7 = .ok (.aload_n 0, 1) := by decide +kernel
theorem dX5_isKept_8 : decode cX5_isKept 8 = .ok (.getfield 49, 3) := by decide +kernel
theorem dX5_isKept_11 : decode cX5_isKept 11 = .ok (.iload_n 1, 1) := by decide +kernel
theorem dX5_isKept_12 : decode cX5_isKept 12 = .ok (.aaload, 1) := by decide +kernel
theorem dX5_isKept_13 : decode cX5_isKept 13 = .ok (.getfield 119, 3) := by decide +kernel
theorem dX5_isKept_16 : decode cX5_isKept 16 = .ok (.ifCond .le 7, 3) := by decide +kernel
theorem dX5_isKept_19 : decode cX5_isKept 19 = .ok (.iconst 1, 1) := by decide +kernel
theorem dX5_isKept_20 : decode cX5_isKept 20 = .ok (.goto 4, 3) := by decide +kernel
theorem dX5_isKept_23 : decode cX5_isKept 23 = .ok (.iconst 0, 1) := by decide +kernel
theorem dX5_isKept_24 : decode cX5_isKept 24 = .ok (.ireturn, 1) := by decide +kernel
theorem dX5_isPlace_0 : decode cX5_isPlace 0 = .ok (.iload_n 0, 1) := by decide +kernel
theorem dX5_isPlace_1 : decode cX5_isPlace 1 = .ok (.ifCond .lt 12, 3) := by decide +kernel
theorem dX5_isPlace_4 : decode cX5_isPlace 4 = .ok (.iload_n 0, 1) := by decide +kernel
theorem dX5_isPlace_5 : decode cX5_isPlace 5 = .ok (.iconst 3, 1) := by decide +kernel
theorem dX5_isPlace_6 : decode cX5_isPlace 6 = .ok (.if_icmp .ge 7, 3) := by decide +kernel
theorem dX5_isPlace_9 : decode cX5_isPlace 9 = .ok (.iconst 1, 1) := by decide +kernel
theorem dX5_isPlace_10 : decode cX5_isPlace 10 = .ok (.goto 4, 3) := by decide +kernel
theorem dX5_isPlace_13 : decode cX5_isPlace 13 = .ok (.iconst 0, 1) := by decide +kernel
theorem dX5_isPlace_14 : decode cX5_isPlace 14 = .ok (.ireturn, 1) := by decide +kernel
theorem dX5_isTown_0 : decode cX5_isTown 0 = .ok (.iload_n 0, 1) := by decide +kernel
theorem dX5_isTown_1 : decode cX5_isTown 1 = .ok (.ifCond .lt 12, 3) := by decide +kernel
theorem dX5_isTown_4 : decode cX5_isTown 4 = .ok (.iload_n 0, 1) := by decide +kernel
theorem dX5_isTown_5 : decode cX5_isTown 5 = .ok (.iconst 5, 1) := by decide +kernel
theorem dX5_isTown_6 : decode cX5_isTown 6 = .ok (.if_icmp .ge 7, 3) := by decide +kernel
theorem dX5_isTown_9 : decode cX5_isTown 9 = .ok (.iconst 1, 1) := by decide +kernel
theorem dX5_isTown_10 : decode cX5_isTown 10 = .ok (.goto 4, 3) := by decide +kernel
theorem dX5_isTown_13 : decode cX5_isTown 13 = .ok (.iconst 0, 1) := by decide +kernel
theorem dX5_isTown_14 : decode cX5_isTown 14 = .ok (.ireturn, 1) := by decide +kernel
theorem dX5_isDay_0 : decode cX5_isDay 0 = .ok (.iload_n 0, 1) := by decide +kernel
theorem dX5_isDay_1 : decode cX5_isDay 1 = .ok (.ifCond .lt 13, 3) := by decide +kernel
theorem dX5_isDay_4 : decode cX5_isDay 4 = .ok (.iload_n 0, 1) := by decide +kernel
theorem dX5_isDay_5 : decode cX5_isDay 5 = .ok (.bipush 20, 2) := by decide +kernel
theorem dX5_isDay_7 : decode cX5_isDay 7 = .ok (.if_icmp .ge 7, 3) := by decide +kernel
theorem dX5_isDay_10 : decode cX5_isDay 10 = .ok (.iconst 1, 1) := by decide +kernel
theorem dX5_isDay_11 : decode cX5_isDay 11 = .ok (.goto 4, 3) := by decide +kernel
theorem dX5_isDay_14 : decode cX5_isDay 14 = .ok (.iconst 0, 1) := by decide +kernel
theorem dX5_isDay_15 : decode cX5_isDay 15 = .ok (.ireturn, 1) := by decide +kernel
theorem dX5_isDeed_0 : decode cX5_isDeed 0 = .ok (.iload_n 0, 1) := by decide +kernel
theorem dX5_isDeed_1 : decode cX5_isDeed 1 = .ok (.ifCond .lt 13, 3) := by decide +kernel
theorem dX5_isDeed_4 : decode cX5_isDeed 4 = .ok (.iload_n 0, 1) := by decide +kernel
theorem dX5_isDeed_5 : decode cX5_isDeed 5 = .ok (.bipush 10, 2) := by decide +kernel
theorem dX5_isDeed_7 : decode cX5_isDeed 7 = .ok (.if_icmp .ge 7, 3) := by decide +kernel
theorem dX5_isDeed_10 : decode cX5_isDeed 10 = .ok (.iconst 1, 1) := by decide +kernel
theorem dX5_isDeed_11 : decode cX5_isDeed 11 = .ok (.goto 4, 3) := by decide +kernel
theorem dX5_isDeed_14 : decode cX5_isDeed 14 = .ok (.iconst 0, 1) := by decide +kernel
theorem dX5_isDeed_15 : decode cX5_isDeed 15 = .ok (.ireturn, 1) := by decide +kernel
set_option maxRecDepth 20000 in
theorem ggX5_arePair_X5_isTown : GoodIn wsX5_arePair wsX5_isTown := goodIn_r _ [4] (by decide +kernel) (by decide +kernel)
set_option maxRecDepth 20000 in
theorem gX5_arePair_X5_isTown : GoodIn wsX5_arePair (va_wsS RX5 176 yX5_isTown wsX5_isTown) := goodIn_app (goodIn_of _ (by decide +kernel)) ggX5_arePair_X5_isTown
theorem dX5_arePair_0 : decode cX5_arePair 0 = .ok (.iload_n 0, 1) := by decide +kernel
theorem dX5_arePair_1 : decode cX5_arePair 1 = .ok (.invokestatic 176, 3) := by decide +kernel
theorem dX5_arePair_4 : decode cX5_arePair 4 = .ok (.ifCond .eq 19, 3) := by decide +kernel
theorem dX5_arePair_7 : decode cX5_arePair 7 = .ok (.iload_n 1, 1) := by decide +kernel
theorem dX5_arePair_8 : decode cX5_arePair 8 = .ok (.invokestatic 176, 3) := by decide +kernel
theorem dX5_arePair_11 : decode cX5_arePair 11 = .ok (.ifCond .eq 12, 3) := by decide +kernel
theorem dX5_arePair_14 : decode cX5_arePair 14 = .ok (.iload_n 0, 1) := by decide +kernel
theorem dX5_arePair_15 : decode cX5_arePair 15 = .ok (.iload_n 1, 1) := by decide +kernel
theorem dX5_arePair_16 : decode cX5_arePair 16 = .ok (.if_icmp .ge 7, 3) := by decide +kernel
theorem dX5_arePair_19 : decode cX5_arePair 19 = .ok (.iconst 1, 1) := by decide +kernel
theorem dX5_arePair_20 : decode cX5_arePair 20 = .ok (.goto 4, 3) := by decide +kernel
theorem dX5_arePair_23 : decode cX5_arePair 23 = .ok (.iconst 0, 1) := by decide +kernel
theorem dX5_arePair_24 : decode cX5_arePair 24 = .ok (.ireturn, 1) := by decide +kernel
theorem dX5_nextSet_0 : decode cX5_nextSet 0 = .ok (.iload_n 0, 1) := by decide +kernel
theorem dX5_nextSet_1 : decode cX5_nextSet 1 = .ok (.iload_n 1, 1) := by decide +kernel
theorem dX5_nextSet_2 : decode cX5_nextSet 2 = .ok (.isub, 1) := by decide +kernel
theorem dX5_nextSet_3 : decode cX5_nextSet 3 = .ok (.iload_n 1, 1) := by decide +kernel
theorem dX5_nextSet_4 : decode cX5_nextSet 4 = .ok (.iand, 1) := by decide +kernel
theorem dX5_nextSet_5 : decode cX5_nextSet 5 = .ok (.ireturn, 1) := by decide +kernel
theorem dX5_power_0 : decode cX5_power 0 = .ok (.lconst 1, 1) := by decide +kernel
theorem dX5_power_1 : decode cX5_power 1 = .ok (.lstore_n 2, 1) := by decide +kernel
theorem dX5_power_2 : decode cX5_power 2 = .ok (.iconst 0, 1) := by decide +kernel
theorem dX5_power_3 : decode cX5_power 3 = .ok (.istore 4, 2) := by decide +kernel
theorem dX5_power_5 : decode cX5_power 5 = .ok (.iload 4, 2) := by decide +kernel
theorem dX5_power_7 : decode cX5_power 7 = .ok (.iload_n 1, 1) := by decide +kernel
theorem dX5_power_8 : decode cX5_power 8 = .ok (.if_icmp .ge 14, 3) := by decide +kernel
theorem dX5_power_11 : decode cX5_power 11 = .ok (.lload_n 2, 1) := by decide +kernel
theorem dX5_power_12 : decode cX5_power 12 = .ok (.iload_n 0, 1) := by decide +kernel
theorem dX5_power_13 : decode cX5_power 13 = .ok (.i2l, 1) := by decide +kernel
theorem dX5_power_14 : decode cX5_power 14 = .ok (.lmul, 1) := by decide +kernel
theorem dX5_power_15 : decode cX5_power 15 = .ok (.lstore_n 2, 1) := by decide +kernel
theorem dX5_power_16 : decode cX5_power 16 = .ok (.iinc 4 1, 3) := by decide +kernel
theorem dX5_power_19 : decode cX5_power 19 = .ok (.goto (-14), 3) := by decide +kernel
theorem dX5_power_22 : decode cX5_power 22 = .ok (.lload_n 2, 1) := by decide +kernel
theorem dX5_power_23 : decode cX5_power 23 = .ok (.lreturn, 1) := by decide +kernel
theorem dX6_init_0 : decode cX6_init 0 = .ok (.aload_n 0, 1) := by decide +kernel
theorem dX6_init_1 : decode cX6_init 1 = .ok (.invokespecial 1, 3) := by decide +kernel
theorem dX6_init_4 : decode cX6_init 4 = .ok (.aload_n 0, 1) := by decide +kernel
theorem dX6_init_5 : decode cX6_init 5 = .ok (.bipush 6, 2) := by decide +kernel
theorem dX6_init_7 : decode cX6_init 7 = .ok (.newarray .int, 2) := by decide +kernel
theorem dX6_init_9 : decode cX6_init 9 = .ok (.putfield 7, 3) := by decide +kernel
