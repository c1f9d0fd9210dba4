theorem dX0_othersAlike_3 : decode cX0_othersAlike 3 = .ok (.istore_n 3, 1) := by decide +kernel
theorem dX0_othersAlike_4 : decode cX0_othersAlike 4 = .ok (.iload_n 3, 1) := by decide +kernel
theorem dX0_othersAlike_5 : decode cX0_othersAlike 5 = .ok (.aload_n 0, 1) := by decide +kernel
theorem dX0_othersAlike_6 : decode cX0_othersAlike 6 = .ok (.getfield 9, 3) := by decide +kernel
theorem dX0_othersAlike_9 : decode cX0_othersAlike 9 = .ok (.if_icmp .ge 40, 3) := by decide +kernel
theorem dX0_othersAlike_12 : decode cX0_othersAlike 12 = .ok (.iload_n 3, 1) := by decide +kernel
theorem dX0_othersAlike_13 : decode cX0_othersAlike 13 = .ok (.iload_n 1, 1) := by decide +kernel
theorem dX0_othersAlike_14 : decode cX0_othersAlike 14 = .ok (.if_icmp .eq 29, 3) := by decide +kernel
theorem dX0_othersAlike_17 : decode cX0_othersAlike 17 = .ok (.aload_n 0, 1) := by decide +kernel
theorem dX0_othersAlike_18 : decode cX0_othersAlike 18 = .ok (.iconst 0, 1) := by decide +kernel
theorem dX0_othersAlike_19 : decode cX0_othersAlike 19 = .ok (.aload_n 0, 1) := by decide +kernel
theorem dX0_othersAlike_20 : decode cX0_othersAlike 20 = .ok (.getfield 21, 3) := by decide +kernel
theorem dX0_othersAlike_23 : decode cX0_othersAlike 23 = .ok (.iload_n 3, 1) := by decide +kernel
theorem dX0_othersAlike_24 : decode cX0_othersAlike 24 = .ok (.invokevirtual 75, 3) := by decide +kernel
theorem dX0_othersAlike_27 : decode cX0_othersAlike 27 = .ok (.aload_n 0, 1) := by decide +kernel
theorem dX0_othersAlike_28 : decode cX0_othersAlike 28 = .ok (.iconst 0, 1) := by decide +kernel
theorem dX0_othersAlike_29 : decode cX0_othersAlike 29 = .ok (.aload_n 0, 1) := by decide +kernel
theorem dX0_othersAlike_30 : decode cX0_othersAlike 30 = .ok (.getfield 21, 3) := by decide +kernel
theorem dX0_othersAlike_33 : decode cX0_othersAlike 33 = .ok (.iload_n 1, 1) := by decide +kernel
theorem dX0_othersAlike_34 : decode cX0_othersAlike 34 = .ok (.invokevirtual 75, 3) := by decide +kernel
theorem dX0_othersAlike_37 : decode cX0_othersAlike 37 = .ok (.if_icmp .ne 6, 3) := by decide +kernel
theorem dX0_othersAlike_40 : decode cX0_othersAlike 40 = .ok (.iinc 2 1, 3) := by decide +kernel
theorem dX0_othersAlike_43 : decode cX0_othersAlike 43 = .ok (.iinc 3 1, 3) := by decide +kernel
theorem dX0_othersAlike_46 : decode cX0_othersAlike 46 = .ok (.goto (-42), 3) := by decide +kernel
theorem dX0_othersAlike_49 : decode cX0_othersAlike 49 = .ok (.iload_n 2, 1) := by decide +kernel
theorem dX0_othersAlike_50 : decode cX0_othersAlike 50 = .ok (.ireturn, 1) := by decide +kernel
set_option maxRecDepth 20000 in
theorem ggX0_noughtDays_X0_done : GoodIn wsX0_noughtDays wsX0_done := goodIn_r _ [5, 6, 7, 8, 4, 9, 10, 11, 12, 13, 14, 15, 16, 17, 18, 19, 20, 21, 22, 23, 24, 25, 26, 27, 28, 29, 30, 31, 32, 33, 34, 35, 36, 37, 38, 39, 40, 41, 42, 43, 44, 45, 46, 47, 48, 49, 50, 51, 52, 53, 54, 55, 56, 57, 58, 59, 60, 61, 62, 63, 64, 65, 66, 67, 68, 69] (by decide +kernel) (by decide +kernel)
set_option maxRecDepth 20000 in
theorem gX0_noughtDays_X0_done : GoodIn wsX0_noughtDays (wsV RX0 75 RX0 yX0_done wsX0_done) := goodIn_app (goodIn_of _ (by decide +kernel)) ggX0_noughtDays_X0_done
theorem dX0_noughtDays_0 : decode cX0_noughtDays 0 = .ok (.iconst 0, 1) := by decide +kernel
theorem dX0_noughtDays_1 : decode cX0_noughtDays 1 = .ok (.istore_n 2, 1) := by decide +kernel
theorem dX0_noughtDays_2 : decode cX0_noughtDays 2 = .ok (.iconst 0, 1) := by decide +kernel
theorem dX0_noughtDays_3 : decode cX0_noughtDays 3 = .ok (.istore_n 3, 1) := by decide +kernel
theorem dX0_noughtDays_4 : decode cX0_noughtDays 4 = .ok (.iload_n 3, 1) := by decide +kernel
theorem dX0_noughtDays_5 : decode cX0_noughtDays 5 = .ok (.bipush 20, 2) := by decide +kernel
theorem dX0_noughtDays_7 : decode cX0_noughtDays 7 = .ok (.if_icmp .ge 22, 3) := by decide +kernel
theorem dX0_noughtDays_10 : decode cX0_noughtDays 10 = .ok (.aload_n 0, 1) := by decide +kernel
theorem dX0_noughtDays_11 : decode cX0_noughtDays 11 = .ok (.iconst 0, 1) := by decide +kernel
theorem dX0_noughtDays_12 : decode cX0_noughtDays 12 = .ok (.iload_n 3, 1) := by decide +kernel
theorem dX0_noughtDays_13 : decode cX0_noughtDays 13 = .ok (.iload_n 1, 1) := by decide +kernel
theorem dX0_noughtDays_14 : decode cX0_noughtDays 14 = .ok (.invokevirtual 75, 3) := by decide +kernel
theorem dX0_noughtDays_17 : decode cX0_noughtDays 17 = .ok (.ifCond .ne 6, 3) := by decide +kernel
theorem dX0_noughtDays_20 : decode cX0_noughtDays 20 = .ok (.iinc 2 1, 3) := by decide +kernel
theorem dX0_noughtDays_23 : decode cX0_noughtDays 23 = .ok (.iinc 3 1, 3) := by decide +kernel
theorem dX0_noughtDays_26 : decode cX0_noughtDays 26 = .ok (.goto (-22), 3) := by decide +kernel
theorem dX0_noughtDays_29 : decode cX0_noughtDays 29 = .ok (.iload_n 2, 1) := by decide +kernel
theorem dX0_noughtDays_30 : decode cX0_noughtDays 30 = .ok (.ireturn, 1) := by decide +kernel
theorem dX1_init_0 : decode cX1_init 0 = .ok (.aload_n 0, 1) := by decide +kernel
theorem dX1_init_1 : decode cX1_init 1 = .ok (.invokespecial 3, 3) := by decide +kernel
theorem dX1_init_4 : decode cX1_init 4 = .ok (.aload_n 0, 1) := by decide +kernel
theorem dX1_init_5 : decode cX1_init 5 = .ok (.lconst 0, 1) := by decide +kernel
theorem dX1_init_6 : decode cX1_init 6 = .ok (.putfield 9, 3) := by decide +kernel
theorem dX1_init_9 : decode cX1_init 9 = .ok (.aload_n 0, 1) := by decide +kernel
theorem dX1_init_10 : decode cX1_init 10 = .ok (.bipush (-9), 2) := by decide +kernel
theorem dX1_init_12 : decode cX1_init 12 = .ok (.putfield 15, 3) := by decide +kernel
theorem dX1_init_15 : decode cX1_init 15 = .ok (.aload_n 0, 1) := by decide +kernel
theorem dX1_init_16 : decode cX1_init 16 = .ok (.iconst 0, 1) := by decide +kernel
theorem dX1_init_17 : decode cX1_init 17 = .ok (.putfield 19, 3) := by decide +kernel
theorem dX1_init_20 : decode cX1_init 20 = .ok (.aload_n 0, 1) := by decide +kernel
theorem dX1_init_21 : decode cX1_init 21 = .ok (.iconst 0, 1) := by decide +kernel
theorem dX1_init_22 : decode cX1_init 22 = .ok (.putfield 22, 3) := by decide +kernel
theorem dX1_init_25 : decode cX1_init 25 = .ok (.return_, 1) := by decide +kernel
set_option maxRecDepth 20000 in
theorem ggX1_find_X0_unmended : GoodIn wsX1_find wsX0_unmended := goodIn_r _ [9, 10, 11, 112, 113, 114, 115, 116, 117, 118, 119, 120, 121, 122, 123, 124, 125] (by decide +kernel) (by decide +kernel)
set_option maxRecDepth 20000 in
theorem gX1_find_X0_unmended : GoodIn wsX1_find (wsV RX1 25 RX0 yX0_unmended wsX0_unmended) := goodIn_app (goodIn_of _ (by decide +kernel)) ggX1_find_X0_unmended
set_option maxRecDepth 20000 in
theorem ggX1_find_X1_onTheWays : GoodIn wsX1_find wsX1_onTheWays := goodIn_r _ [15, 16, 17, 18, 19, 20, 21, 22, 23, 24, 25, 26, 27, 28, 29, 30, 31, 32, 33, 34, 35, 36, 37, 8, 38, 10, 39, 40, 41, 42, 43, 44, 45, 5, 6, 7, 9, 11, 126, 127, 128, 112, 113, 114, 115, 116, 117, 118, 119, 120, 121, 122, 123, 124, 125] (by decide +kernel) (by decide +kernel)
set_option maxRecDepth 20000 in
theorem gX1_find_X1_onTheWays : GoodIn wsX1_find (va_wsS RX1 31 yX1_onTheWays wsX1_onTheWays) := goodIn_app (goodIn_of _ (by decide +kernel)) ggX1_find_X1_onTheWays
set_option maxRecDepth 20000 in
theorem ggX1_find_J6_bitCount_0f7a4 : GoodIn wsX1_find wsJ6_bitCount_0f7a4 := goodIn_r _ [49, 50, 51, 52] (by decide +kernel) (by decide +kernel)
set_option maxRecDepth 20000 in
theorem gX1_find_J6_bitCount_0f7a4 : GoodIn wsX1_find (va_wsS RX1 35 yJ6_bitCount_0f7a4 wsJ6_bitCount_0f7a4) := goodIn_app (goodIn_of _ (by decide +kernel)) ggX1_find_J6_bitCount_0f7a4
set_option maxRecDepth 20000 in
theorem ggX1_find_X1_isAllAsTold : GoodIn wsX1_find wsX1_isAllAsTold := goodIn_r _ [56, 16, 17, 18, 19, 20, 21, 22, 23, 24, 25, 57, 58, 59, 14, 60, 26, 27, 28, 29, 30, 31, 32, 33, 34, 61, 62, 63, 8, 64, 65, 66, 67, 68, 69, 70, 71, 72, 73, 74, 75, 76, 77, 78, 79, 80, 81, 82, 83, 10, 84, 39, 40, 41, 42, 43, 44, 45, 85, 86, 87, 88, 89, 90, 91, 92, 93, 94, 95, 96, 97, 126, 127, 128, 112, 113, 114, 115, 116, 117, 118, 119, 120, 121, 122, 123, 124, 125] (by decide +kernel) (by decide +kernel)
set_option maxRecDepth 20000 in
theorem gX1_find_X1_isAllAsTold : GoodIn wsX1_find (wsV RX1 41 RX1 yX1_isAllAsTold wsX1_isAllAsTold) := goodIn_app (goodIn_of _ (by decide +kernel)) ggX1_find_X1_isAllAsTold
set_option maxRecDepth 20000 in
theorem ggX1_find_X1_add : GoodIn wsX1_find wsX1_add := goodIn_r _ [101, 1, 2, 3, 4, 108, 109, 110, 111] (by decide +kernel) (by decide +kernel)
set_option maxRecDepth 20000 in
theorem gX1_find_X1_add : GoodIn wsX1_find (wsV RX1 45 RX1 yX1_add wsX1_add) := goodIn_app (goodIn_of _ (by decide +kernel)) ggX1_find_X1_add
set_option maxRecDepth 20000 in
theorem ggX1_find_X5_nextSet : GoodIn wsX1_find wsX5_nextSet := goodIn_r _ [103] (by decide +kernel) (by decide +kernel)
set_option maxRecDepth 20000 in
theorem gX1_find_X5_nextSet_n49 : GoodIn wsX1_find (wsX5_nextSet) := ggX1_find_X5_nextSet
set_option maxRecDepth 20000 in
theorem ggX1_find_X1_addFree : GoodIn wsX1_find wsX1_addFree := goodIn_r _ [107, 1, 4, 46, 47, 48, 49, 50, 51, 52, 108, 109, 110, 111] (by decide +kernel) (by decide +kernel)
set_option maxRecDepth 20000 in
theorem gX1_find_X1_addFree : GoodIn wsX1_find (wsV RX1 53 RX1 yX1_addFree wsX1_addFree) := goodIn_app (goodIn_of _ (by decide +kernel)) ggX1_find_X1_addFree
theorem dX1_find_0 : decode cX1_find 0 = .ok (.aload_n 0, 1) := by decide +kernel
theorem dX1_find_1 : decode cX1_find 1 = .ok (.lconst 0, 1) := by decide +kernel
theorem dX1_find_2 : decode cX1_find 2 = .ok (.putfield 9, 3) := by decide +kernel
theorem dX1_find_5 : decode cX1_find 5 = .ok (.aload_n 0, 1) := by decide +kernel
theorem dX1_find_6 : decode cX1_find 6 = .ok (.bipush (-9), 2) := by decide +kernel
theorem dX1_find_8 : decode cX1_find 8 = .ok (.putfield 15, 3) := by decide +kernel
theorem dX1_find_11 : decode cX1_find 11 = .ok (.aload_n 0, 1) := by decide +kernel
theorem dX1_find_12 : decode cX1_find 12 = .ok (.aload_n 1, 1) := by decide +kernel
theorem dX1_find_13 : decode cX1_find 13 = .ok (.invokevirtual 25, 3) := by decide +kernel
theorem dX1_find_16 : decode cX1_find 16 = .ok (.putfield 19, 3) := by decide +kernel
theorem dX1_find_19 : decode cX1_find 19 = .ok (.aload_n 0, 1) := by decide +kernel
theorem dX1_find_20 : decode cX1_find 20 = .ok (.iconst 0, 1) := by decide +kernel
theorem dX1_find_21 : decode cX1_find 21 = .ok (.putfield 22, 3) := by decide +kernel
theorem dX1_find_24 : decode cX1_find 24 = .ok (.aload_n 1, 1) := by decide +kernel
theorem dX1_find_25 : decode cX1_find 25 = .ok (.aload_n 2, 1) := by decide +kernel
theorem dX1_find_26 : decode cX1_find 26 = .ok (.iload_n 3, 1) := by decide +kernel
theorem dX1_find_27 : decode cX1_find 27 = .ok (.invokestatic 31, 3) := by decide +kernel
theorem dX1_find_30 : decode cX1_find 30 = .ok (.istore 4, 2) := by decide +kernel
theorem dX1_find_32 : decode cX1_find 32 = .ok (.iconst 0, 1) := by decide +kernel
theorem dX1_find_33 : decode cX1_find 33 = .ok (.istore 5, 2) := by decide +kernel
theorem dX1_find_35 : decode cX1_find 35 = .ok (.iconst 0, 1) := by decide +kernel
theorem dX1_find_36 : decode cX1_find 36 = .ok (.istore 6, 2) := by decide +kernel
theorem dX1_find_38 : decode cX1_find 38 = .ok (.iload 6, 2) := by decide +kernel
theorem dX1_find_40 : decode cX1_find 40 = .ok (.iconst 1, 1) := by decide +kernel
theorem dX1_find_41 : decode cX1_find 41 = .ok (.iload 4, 2) := by decide +kernel
theorem dX1_find_43 : decode cX1_find 43 = .ok (.invokestatic 35, 3) := by decide +kernel
theorem dX1_find_46 : decode cX1_find 46 = .ok (.ishl, 1) := by decide +kernel
theorem dX1_find_47 : decode cX1_find 47 = .ok (.if_icmp .ge 36, 3) := by decide +kernel
theorem dX1_find_50 : decode cX1_find 50 = .ok (.aload_n 0, 1) := by decide +kernel
theorem dX1_find_51 : decode cX1_find 51 = .ok (.aload_n 1, 1) := by decide +kernel
theorem dX1_find_52 : decode cX1_find 52 = .ok (.aload_n 2, 1) := by decide +kernel
theorem dX1_find_53 : decode cX1_find 53 = .ok (.iload_n 3, 1) := by decide +kernel
theorem dX1_find_54 : decode cX1_find 54 = .ok (.iload 5, 2) := by decide +kernel
theorem dX1_find_56 : decode cX1_find 56 = .ok (.invokevirtual 41, 3) := by decide +kernel
theorem dX1_find_59 : decode cX1_find 59 = .ok (.ifCond .eq 9, 3) := by decide +kernel
theorem dX1_find_62 : decode cX1_find 62 = .ok (.aload_n 0, 1) := by decide +kernel
theorem dX1_find_63 : decode cX1_find 63 = .ok (.iload 5, 2) := by decide +kernel
theorem dX1_find_65 : decode cX1_find 65 = .ok (.invokevirtual 45, 3) := by decide +kernel
theorem dX1_find_68 : decode cX1_find 68 = .ok (.iload 5, 2) := by decide +kernel
theorem dX1_find_70 : decode cX1_find 70 = .ok (.iload 4, 2) := by decide +kernel
theorem dX1_find_72 : decode cX1_find 72 = .ok (.invokestatic 49, 3) := by decide +kernel
theorem dX1_find_75 : decode cX1_find 75 = .ok (.istore 5, 2) := by decide +kernel
theorem dX1_find_77 : decode cX1_find 77 = .ok (.iinc 6 1, 3) := by decide +kernel
theorem dX1_find_80 : decode cX1_find 80 = .ok (.goto (-42), 3) := by decide +kernel
theorem dX1_find_83 : decode cX1_find 83 = .ok (.aload_n 0, 1) := by decide +kernel
theorem dX1_find_84 : decode cX1_find 84 = .ok (.aload_n 1, 1) := by decide +kernel
theorem dX1_find_85 : decode cX1_find 85 = .ok (.invokevirtual 25, 3) := by decide +kernel
theorem dX1_find_88 : decode cX1_find 88 = .ok (.iload 4, 2) := by decide +kernel
theorem dX1_find_90 : decode cX1_find 90 = .ok (.iconst (-1), 1) := by decide +kernel
theorem dX1_find_91 : decode cX1_find 91 = .ok (.ixor, 1) := by decide +kernel
theorem dX1_find_92 : decode cX1_find 92 = .ok (.iand, 1) := by decide +kernel
theorem dX1_find_93 : decode cX1_find 93 = .ok (.invokevirtual 53, 3) := by decide +kernel
theorem dX1_find_96 : decode cX1_find 96 = .ok (.return_, 1) := by decide +kernel
theorem dX1_add_0 : decode cX1_add 0 = .ok (.aload_n 0, 1) := by decide +kernel
theorem dX1_add_1 : decode cX1_add 1 = .ok (.aload_n 0, 1) := by decide +kernel
theorem dX1_add_2 : decode cX1_add 2 = .ok (.getfield 9, 3) := by decide +kernel
theorem dX1_add_5 : decode cX1_add 5 = .ok (.lconst 0, 1) := by decide +kernel
theorem dX1_add_6 : decode cX1_add 6 = .ok (.lcmp, 1) := by decide +kernel
theorem dX1_add_7 : decode cX1_add 7 = .ok (.ifCond .ne 7, 3) := by decide +kernel
theorem dX1_add_10 : decode cX1_add 10 = .ok (.iload_n 1, 1) := by decide +kernel
theorem dX1_add_11 : decode cX1_add 11 = .ok (.goto 7, 3) := by decide +kernel
theorem dX1_add_14 : decode cX1_add 14 = .ok (.aload_n 0, 1) := by decide +kernel
theorem dX1_add_15 : decode cX1_add 15 = .ok (.getfield 15, 3) := by decide +kernel
theorem dX1_add_18 : decode cX1_add 18 = .ok (.putfield 15, 3) := by decide +kernel
theorem dX1_add_21 : decode cX1_add 21 = .ok (.aload_n 0, 1) := by decide +kernel
theorem dX1_add_22 : decode cX1_add 22 = .ok (.dup, 1) := by decide +kernel
theorem dX1_add_23 : decode cX1_add 23 = .ok (.getfield 9, 3) := by decide +kernel
theorem dX1_add_26 : decode cX1_add 26 = .ok (.lconst 1, 1) := by decide +kernel
theorem dX1_add_27 : decode cX1_add 27 = .ok (.ladd, 1) := by decide +kernel
theorem dX1_add_28 : decode cX1_add 28 = .ok (.putfield 9, 3) := by decide +kernel
theorem dX1_add_31 : decode cX1_add 31 = .ok (.aload_n 0, 1) := by decide +kernel
theorem dX1_add_32 : decode cX1_add 32 = .ok (.dup, 1) := by decide +kernel
theorem dX1_add_33 : decode cX1_add 33 = .ok (.getfield 19, 3) := by decide +kernel
theorem dX1_add_36 : decode cX1_add 36 = .ok (.iload_n 1, 1) := by decide +kernel
theorem dX1_add_37 : decode cX1_add 37 = .ok (.iand, 1) := by decide +kernel
theorem dX1_add_38 : decode cX1_add 38 = .ok (.putfield 19, 3) := by decide +kernel
theorem dX1_add_41 : decode cX1_add 41 = .ok (.aload_n 0, 1) := by decide +kernel
theorem dX1_add_42 : decode cX1_add 42 = .ok (.dup, 1) := by decide +kernel
theorem dX1_add_43 : decode cX1_add 43 = .ok (.getfield 22, 3) := by decide +kernel
theorem dX1_add_46 : decode cX1_add 46 = .ok (.iload_n 1, 1) := by decide +kernel
theorem dX1_add_47 : decode cX1_add 47 = .ok (.ior, 1) := by decide +kernel
theorem dX1_add_48 : decode cX1_add 48 = .ok (.putfield 22, 3) := by decide +kernel
theorem dX1_add_51 : decode cX1_add 51 = .ok (.return_, 1) := by decide +kernel
set_option maxRecDepth 20000 in
theorem ggX1_addFree_J6_bitCount_0f7a4 : GoodIn wsX1_addFree wsJ6_bitCount_0f7a4 := goodIn_r _ [6, 7, 8, 9] (by decide +kernel) (by decide +kernel)
set_option maxRecDepth 20000 in
theorem gX1_addFree_J6_bitCount_0f7a4 : GoodIn wsX1_addFree (va_wsS RX1 35 yJ6_bitCount_0f7a4 wsJ6_bitCount_0f7a4) := goodIn_app (goodIn_of _ (by decide +kernel)) ggX1_addFree_J6_bitCount_0f7a4
theorem dX1_addFree_0 : decode cX1_addFree 0 = .ok (.aload_n 0, 1) := by decide +kernel
theorem dX1_addFree_1 : decode cX1_addFree 1 = .ok (.getfield 9, 3) := by decide +kernel
theorem dX1_addFree_4 : decode cX1_addFree 4 = .ok (.lconst 0, 1) := by decide +kernel
theorem dX1_addFree_5 : decode cX1_addFree 5 = .ok (.lcmp, 1) := by decide +kernel
theorem dX1_addFree_6 : decode cX1_addFree 6 = .ok (.ifCond .le 26, 3) := by decide +kernel
theorem dX1_addFree_9 : decode cX1_addFree 9 = .ok (.aload_n 0, 1) := by decide +kernel
theorem dX1_addFree_10 : decode cX1_addFree 10 = .ok (.dup, 1) := by decide +kernel
theorem dX1_addFree_11 : decode cX1_addFree 11 = .ok (.getfield 9, 3) := by decide +kernel
theorem dX1_addFree_14 : decode cX1_addFree 14 = .ok (.iload_n 1, 1) := by decide +kernel
theorem dX1_addFree_15 : decode cX1_addFree 15 = .ok (.invokestatic 35, 3) := by decide +kernel
theorem dX1_addFree_18 : decode cX1_addFree 18 = .ok (.lshl, 1) := by decide +kernel
theorem dX1_addFree_19 : decode cX1_addFree 19 = .ok (.putfield 9, 3) := by decide +kernel
theorem dX1_addFree_22 : decode cX1_addFree 22 = .ok (.aload_n 0, 1) := by decide +kernel
theorem dX1_addFree_23 : decode cX1_addFree 23 = .ok (.dup, 1) := by decide +kernel
theorem dX1_addFree_24 : decode cX1_addFree 24 = .ok (.getfield 22, 3) := by decide +kernel
theorem dX1_addFree_27 : decode cX1_addFree 27 = .ok (.iload_n 1, 1) := by decide +kernel
theorem dX1_addFree_28 : decode cX1_addFree 28 = .ok (.ior, 1) := by decide +kernel
theorem dX1_addFree_29 : decode cX1_addFree 29 = .ok (.putfield 22, 3) := by decide +kernel
theorem dX1_addFree_32 : decode cX1_addFree 32 = .ok (.return_, 1) := by decide +kernel
set_option maxRecDepth 20000 in
theorem ggX1_onTheWays_X3_sizeOf : GoodIn wsX1_onTheWays wsX3_sizeOf := goodIn_r _ [5, 6, 7, 8, 9, 4, 10, 38, 39, 40] (by decide +kernel) (by decide +kernel)
set_option maxRecDepth 20000 in
theorem gX1_onTheWays_X3_sizeOf : GoodIn wsX1_onTheWays (wsV RX1 56 RX3 yX3_sizeOf wsX3_sizeOf) := goodIn_app (goodIn_of _ (by decide +kernel)) ggX1_onTheWays_X3_sizeOf
set_option maxRecDepth 20000 in
theorem ggX1_onTheWays_X3_get : GoodIn wsX1_onTheWays wsX3_get := goodIn_r _ [14, 15, 16, 17, 18, 4, 19, 6, 7, 8, 9, 10, 38, 39, 40] (by decide +kernel) (by decide +kernel)
set_option maxRecDepth 20000 in
theorem gX1_onTheWays_X3_get : GoodIn wsX1_onTheWays (wsV RX1 61 RX3 yX3_get wsX3_get) := goodIn_app (goodIn_of _ (by decide +kernel)) ggX1_onTheWays_X3_get
set_option maxRecDepth 20000 in
theorem ggX1_onTheWays_X0_onTheWay : GoodIn wsX1_onTheWays wsX0_onTheWay := goodIn_r _ [24, 25, 26, 27, 28, 23, 29, 30, 31, 32, 41, 42, 43, 44, 45, 46, 47, 48, 49, 50, 51, 52, 53, 54] (by decide +kernel) (by decide +kernel)
set_option maxRecDepth 20000 in
theorem gX1_onTheWays_X0_onTheWay : GoodIn wsX1_onTheWays (wsV RX1 64 RX0 yX0_onTheWay wsX0_onTheWay) := goodIn_app (goodIn_of _ (by decide +kernel)) ggX1_onTheWays_X0_onTheWay
set_option maxRecDepth 20000 in
theorem ggX1_onTheWays_X0_unmended : GoodIn wsX1_onTheWays wsX0_unmended := goodIn_r _ [36, 25, 37, 41, 42, 43, 44, 45, 46, 47, 48, 49, 50, 51, 52, 53, 54] (by decide +kernel) (by decide +kernel)
set_option maxRecDepth 20000 in
theorem gX1_onTheWays_X0_unmended : GoodIn wsX1_onTheWays (wsV RX1 25 RX0 yX0_unmended wsX0_unmended) := goodIn_app (goodIn_of _ (by decide +kernel)) ggX1_onTheWays_X0_unmended
theorem dX1_onTheWays_0 : decode cX1_onTheWays 0 = .ok (.iconst 0, 1) := by decide +kernel
theorem dX1_onTheWays_1 : decode cX1_onTheWays 1 = .ok (.istore_n 3, 1) := by decide +kernel
theorem dX1_onTheWays_2 : decode cX1_onTheWays 2 = .ok (.aload_n 1, 1) := by decide +kernel
theorem dX1_onTheWays_3 : decode cX1_onTheWays 3 = .ok (.iload_n 2, 1) := by decide +kernel
theorem dX1_onTheWays_4 : decode cX1_onTheWays 4 = .ok (.invokevirtual 56, 3) := by decide +kernel
theorem dX1_onTheWays_7 : decode cX1_onTheWays 7 = .ok (.iconst 4, 1) := by decide +kernel
theorem dX1_onTheWays_8 : decode cX1_onTheWays 8 = .ok (.idiv, 1) := by decide +kernel
theorem dX1_onTheWays_9 : decode cX1_onTheWays 9 = .ok (.istore 4, 2) := by decide +kernel
theorem dX1_onTheWays_11 : decode cX1_onTheWays 11 = .ok (.iconst 0, 1) := by decide +kernel
theorem dX1_onTheWays_12 : decode cX1_onTheWays 12 = .ok (.istore 5, 2) := by decide +kernel
theorem dX1_onTheWays_14 : decode cX1_onTheWays 14 = .ok (.iload 5, 2) := by decide +kernel
theorem dX1_onTheWays_16 : decode cX1_onTheWays 16 = .ok (.iload 4, 2) := by decide +kernel
theorem dX1_onTheWays_18 : decode cX1_onTheWays 18 = .ok (.if_icmp .ge 47, 3) := by decide +kernel
theorem dX1_onTheWays_21 : decode cX1_onTheWays 21 = .ok (.iload 5, 2) := by decide +kernel
theorem dX1_onTheWays_23 : decode cX1_onTheWays 23 = .ok (.iconst 4, 1) := by decide +kernel
theorem dX1_onTheWays_24 : decode cX1_onTheWays 24 = .ok (.imul, 1) := by decide +kernel
theorem dX1_onTheWays_25 : decode cX1_onTheWays 25 = .ok (.istore 6, 2) := by decide +kernel
theorem dX1_onTheWays_27 : decode cX1_onTheWays 27 = .ok (.iload_n 3, 1) := by decide +kernel
theorem dX1_onTheWays_28 : decode cX1_onTheWays 28 = .ok (.aload_n 0, 1) := by decide +kernel
theorem dX1_onTheWays_29 : decode cX1_onTheWays 29 = .ok (.aload_n 1, 1) := by decide +kernel
theorem dX1_onTheWays_30 : decode cX1_onTheWays 30 = .ok (.iload_n 2, 1) := by decide +kernel
theorem dX1_onTheWays_31 : decode cX1_onTheWays 31 = .ok (.iload 6, 2) := by decide +kernel
theorem dX1_onTheWays_33 : decode cX1_onTheWays 33 = .ok (.invokevirtual 61, 3) := by decide +kernel
theorem dX1_onTheWays_36 : decode cX1_onTheWays 36 = .ok (.aload_n 1, 1) := by decide +kernel
theorem dX1_onTheWays_37 : decode cX1_onTheWays 37 = .ok (.iload_n 2, 1) := by decide +kernel
theorem dX1_onTheWays_38 : decode cX1_onTheWays 38 = .ok (.iload 6, 2) := by decide +kernel
theorem dX1_onTheWays_40 : decode cX1_onTheWays 40 = .ok (.iconst 1, 1) := by decide +kernel
theorem dX1_onTheWays_41 : decode cX1_onTheWays 41 = .ok (.iadd, 1) := by decide +kernel
theorem dX1_onTheWays_42 : decode cX1_onTheWays 42 = .ok (.invokevirtual 61, 3) := by decide +kernel
theorem dX1_onTheWays_45 : decode cX1_onTheWays 45 = .ok (.aload_n 1, 1) := by decide +kernel
theorem dX1_onTheWays_46 : decode cX1_onTheWays 46 = .ok (.iload_n 2, 1) := by decide +kernel
theorem dX1_onTheWays_47 : decode cX1_onTheWays 47 = .ok (.iload 6, 2) := by decide +kernel
theorem dX1_onTheWays_49 : decode cX1_onTheWays 49 = .ok (.iconst 2, 1) := by decide +kernel
theorem dX1_onTheWays_50 : decode cX1_onTheWays 50 = .ok (.iadd, 1) := by decide +kernel
theorem dX1_onTheWays_51 : decode cX1_onTheWays 51 = .ok (.invokevirtual 61, 3) := by decide +kernel
theorem dX1_onTheWays_54 : decode cX1_onTheWays 54 = .ok (.invokevirtual 64, 3) := by decide +kernel
theorem dX1_onTheWays_57 : decode cX1_onTheWays 57 = .ok (.ior, 1) := by decide +kernel
theorem dX1_onTheWays_58 : decode cX1_onTheWays 58 = .ok (.istore_n 3, 1) := by decide +kernel
theorem dX1_onTheWays_59 : decode cX1_onTheWays 59 = .ok (.iinc 5 1, 3) := by decide +kernel
theorem dX1_onTheWays_62 : decode cX1_onTheWays 62 = .ok (.goto (-48), 3) := by decide +kernel
theorem dX1_onTheWays_65 : decode cX1_onTheWays 65 = .ok (.iload_n 3, 1) := by decide +kernel
theorem dX1_onTheWays_66 : decode cX1_onTheWays 66 = .ok (.aload_n 0, 1) := by decide +kernel
theorem dX1_onTheWays_67 : decode cX1_onTheWays 67 = .ok (.invokevirtual 25, 3) := by decide +kernel
theorem dX1_onTheWays_70 : decode cX1_onTheWays 70 = .ok (.iand, 1) := by decide +kernel
theorem dX1_onTheWays_71 : decode cX1_onTheWays 71 = .ok (.ireturn, 1) := by decide +kernel
set_option maxRecDepth 20000 in
theorem ggX1_isAllAsTold_X3_sizeOf : GoodIn wsX1_isAllAsTold wsX3_sizeOf := goodIn_r _ [5, 6, 7, 8, 9, 4, 10, 71, 72, 73] (by decide +kernel) (by decide +kernel)
set_option maxRecDepth 20000 in
theorem gX1_isAllAsTold_X3_sizeOf : GoodIn wsX1_isAllAsTold (wsV RX1 56 RX3 yX3_sizeOf wsX3_sizeOf) := goodIn_app (goodIn_of _ (by decide +kernel)) ggX1_isAllAsTold_X3_sizeOf
set_option maxRecDepth 20000 in
theorem ggX1_isAllAsTold_X1_isAsTold : GoodIn wsX1_isAllAsTold wsX1_isAsTold := goodIn_r _ [15, 16, 17, 18, 4, 19, 20, 21, 22, 23, 24, 6, 7, 8, 9, 10, 25, 26, 27, 28, 29, 30, 31, 32, 33, 34, 35, 36, 37, 38, 39, 40, 41, 42, 43, 44, 45, 46, 47, 48, 49, 50, 51, 52, 53, 54, 55, 56, 57, 58, 59, 60, 61, 62, 63, 64, 65, 66, 67, 68, 69, 70, 71, 72, 73, 74, 75, 76, 77, 78, 79, 80, 81, 82, 83, 84, 85, 86, 87] (by decide +kernel) (by decide +kernel)
set_option maxRecDepth 20000 in
theorem gX1_isAllAsTold_X1_isAsTold : GoodIn wsX1_isAllAsTold (wsV RX1 68 RX1 yX1_isAsTold wsX1_isAsTold) := goodIn_app (goodIn_of _ (by decide +kernel)) ggX1_isAllAsTold_X1_isAsTold
theorem dX1_isAllAsTold_0 : decode cX1_isAllAsTold 0 = .ok (.aload_n 2, 1) := by decide +kernel
theorem dX1_isAllAsTold_1 : decode cX1_isAllAsTold 1 = .ok (.iload_n 3, 1) := by decide +kernel
theorem dX1_isAllAsTold_2 : decode cX1_isAllAsTold 2 = .ok (.invokevirtual 56, 3) := by decide +kernel
theorem dX1_isAllAsTold_5 : decode cX1_isAllAsTold 5 = .ok (.iconst 4, 1) := by decide +kernel
theorem dX1_isAllAsTold_6 : decode cX1_isAllAsTold 6 = .ok (.idiv, 1) := by decide +kernel
theorem dX1_isAllAsTold_7 : decode cX1_isAllAsTold 7 = .ok (.istore 5, 2) := by decide +kernel
theorem dX1_isAllAsTold_9 : decode cX1_isAllAsTold 9 = .ok (.iconst 0, 1) := by decide +kernel
theorem dX1_isAllAsTold_10 : decode cX1_isAllAsTold 10 = .ok (.istore 6, 2) := by decide +kernel
theorem dX1_isAllAsTold_12 : decode cX1_isAllAsTold 12 = .ok (.iload 6, 2) := by decide +kernel
theorem dX1_isAllAsTold_14 : decode cX1_isAllAsTold 14 = .ok (.iload 5, 2) := by decide +kernel
theorem dX1_isAllAsTold_16 : decode cX1_isAllAsTold 16 = .ok (.if_icmp .ge 25, 3) := by decide +kernel
theorem dX1_isAllAsTold_19 : decode cX1_isAllAsTold 19 = .ok (.aload_n 0, 1) := by decide +kernel
theorem dX1_isAllAsTold_20 : decode cX1_isAllAsTold 20 = .ok (.aload_n 1, 1) := by decide +kernel
theorem dX1_isAllAsTold_21 : decode cX1_isAllAsTold 21 = .ok (.aload_n 2, 1) := by decide +kernel
theorem dX1_isAllAsTold_22 : decode cX1_isAllAsTold 22 = .ok (.iload_n 3, 1) := by decide +kernel
theorem dX1_isAllAsTold_23 : decode cX1_isAllAsTold 23 = .ok (.iload 6, 2) := by decide +kernel
theorem dX1_isAllAsTold_25 : decode cX1_isAllAsTold 25 = .ok (.iload 4, 2) := by decide +kernel
theorem dX1_isAllAsTold_27 : decode cX1_isAllAsTold 27 = .ok (.invokevirtual 68, 3) := by decide +kernel
theorem dX1_isAllAsTold_30 : decode cX1_isAllAsTold 30 = .ok (.ifCond .ne 5, 3) := by decide +kernel
theorem dX1_isAllAsTold_33 : decode cX1_isAllAsTold 33 = .ok (.iconst 0, 1) := by decide +kernel
theorem dX1_isAllAsTold_34 : decode cX1_isAllAsTold 34 = .ok (.ireturn, 1) := by decide +kernel
theorem dX1_isAllAsTold_35 : decode cX1_isAllAsTold 35 = .ok (.iinc 6 1, 3) := by decide +kernel
theorem dX1_isAllAsTold_38 : decode cX1_isAllAsTold 38 = .ok (.goto (-26), 3) := by decide +kernel
theorem dX1_isAllAsTold_41 : decode cX1_isAllAsTold 41 = .ok (.iconst 1, 1) := by decide +kernel
theorem dX1_isAllAsTold_42 : decode cX1_isAllAsTold 42 = .ok (.ireturn, 1) := by decide +kernel
set_option maxRecDepth 20000 in
theorem ggX1_isAsTold_X3_get : GoodIn wsX1_isAsTold wsX3_get := goodIn_r _ [5, 6, 7, 8, 9, 4, 10, 11, 12, 13, 14, 15, 62, 63, 64] (by decide +kernel) (by decide +kernel)
set_option maxRecDepth 20000 in
theorem gX1_isAsTold_X3_get : GoodIn wsX1_isAsTold (wsV RX1 61 RX3 yX3_get wsX3_get) := goodIn_app (goodIn_of _ (by decide +kernel)) ggX1_isAsTold_X3_get
set_option maxRecDepth 20000 in
theorem ggX1_isAsTold_X0_doneIf : GoodIn wsX1_isAsTold wsX0_doneIf := goodIn_r _ [20, 21, 22, 23, 19, 24, 25, 26, 27, 28, 29, 30, 31, 32, 33, 34, 35, 36, 37, 38, 39, 40, 41, 42, 43, 44, 45, 46, 47, 48, 49, 50, 51, 52, 53, 54, 55, 56, 57, 58, 59, 60, 61, 65, 66, 67, 68, 69, 70, 71, 72, 73, 74, 75, 76, 77, 78] (by decide +kernel) (by decide +kernel)
set_option maxRecDepth 20000 in
theorem gX1_isAsTold_X0_doneIf : GoodIn wsX1_isAsTold (wsV RX1 72 RX0 yX0_doneIf wsX0_doneIf) := goodIn_app (goodIn_of _ (by decide +kernel)) ggX1_isAsTold_X0_doneIf
theorem dX1_isAsTold_0 : decode cX1_isAsTold 0 = .ok (.iload 4, 2) := by decide +kernel
theorem dX1_isAsTold_2 : decode cX1_isAsTold 2 = .ok (.iconst 4, 1) := by decide +kernel
theorem dX1_isAsTold_3 : decode cX1_isAsTold 3 = .ok (.imul, 1) := by decide +kernel
theorem dX1_isAsTold_4 : decode cX1_isAsTold 4 = .ok (.istore 6, 2) := by decide +kernel
theorem dX1_isAsTold_6 : decode cX1_isAsTold 6 = .ok (.aload_n 1, 1) := by decide +kernel
theorem dX1_isAsTold_7 : decode cX1_isAsTold 7 = .ok (.aload_n 2, 1) := by decide +kernel
theorem dX1_isAsTold_8 : decode cX1_isAsTold 8 = .ok (.iload_n 3, 1) := by decide +kernel
theorem dX1_isAsTold_9 : decode cX1_isAsTold 9 = .ok (.iload 6, 2) := by decide +kernel
theorem dX1_isAsTold_11 : decode cX1_isAsTold 11 = .ok (.invokevirtual 61, 3) := by decide +kernel
theorem dX1_isAsTold_14 : decode cX1_isAsTold 14 = .ok (.aload_n 2, 1) := by decide +kernel
theorem dX1_isAsTold_15 : decode cX1_isAsTold 15 = .ok (.iload_n 3, 1) := by decide +kernel
theorem dX1_isAsTold_16 : decode cX1_isAsTold 16 = .ok (.iload 6, 2) := by decide +kernel
theorem dX1_isAsTold_18 : decode cX1_isAsTold 18 = .ok (.iconst 1, 1) := by decide +kernel
theorem dX1_isAsTold_19 : decode cX1_isAsTold 19 = .ok (.iadd, 1) := by decide +kernel
theorem dX1_isAsTold_20 : decode cX1_isAsTold 20 = .ok (.invokevirtual 61, 3) := by decide +kernel
theorem dX1_isAsTold_23 : decode cX1_isAsTold 23 = .ok (.aload_n 2, 1) := by decide +kernel
theorem dX1_isAsTold_24 : decode cX1_isAsTold 24 = .ok (.iload_n 3, 1) := by decide +kernel
theorem dX1_isAsTold_25 : decode cX1_isAsTold 25 = .ok (.iload 6, 2) := by decide +kernel
theorem dX1_isAsTold_27 : decode cX1_isAsTold 27 = .ok (.iconst 2, 1) := by decide +kernel
theorem dX1_isAsTold_28 : decode cX1_isAsTold 28 = .ok (.iadd, 1) := by decide +kernel
theorem dX1_isAsTold_29 : decode cX1_isAsTold 29 = .ok (.invokevirtual 61, 3) := by decide +kernel
theorem dX1_isAsTold_32 : decode cX1_isAsTold 32 = .ok (.iload 5, 2) := by decide +kernel
theorem dX1_isAsTold_34 : decode cX1_isAsTold 34 = .ok (.invokevirtual 72, 3) := by decide +kernel
theorem dX1_isAsTold_37 : decode cX1_isAsTold 37 = .ok (.istore 7, 2) := by decide +kernel
theorem dX1_isAsTold_39 : decode cX1_isAsTold 39 = .ok (.iload 7, 2) := by decide +kernel
theorem dX1_isAsTold_41 : decode cX1_isAsTold 41 = .ok (.aload_n 2, 1) := by decide +kernel
theorem dX1_isAsTold_42 : decode cX1_isAsTold 42 = .ok (.iload_n 3, 1) := by decide +kernel
theorem dX1_isAsTold_43 : decode cX1_isAsTold 43 = .ok (.iload 6, 2) := by decide +kernel
theorem dX1_isAsTold_45 : decode cX1_isAsTold 45 = .ok (.iconst 3, 1) := by decide +kernel
theorem dX1_isAsTold_46 : decode cX1_isAsTold 46 = .ok (.iadd, 1) := by decide +kernel
theorem dX1_isAsTold_47 : decode cX1_isAsTold 47 = .ok (.invokevirtual 61, 3) := by decide +kernel
theorem dX1_isAsTold_50 : decode cX1_isAsTold 50 = .ok (.if_icmp .ne 7, 3) := by decide +kernel
theorem dX1_isAsTold_53 : decode cX1_isAsTold 53 = .ok (.iconst 1, 1) := by decide +kernel
theorem dX1_isAsTold_54 : decode cX1_isAsTold 54 = .ok (.goto 4, 3) := by decide +kernel
theorem dX1_isAsTold_57 : decode cX1_isAsTold 57 = .ok (.iconst 0, 1) := by decide +kernel
theorem dX1_isAsTold_58 : decode cX1_isAsTold 58 = .ok (.ireturn, 1) := by decide +kernel
set_option maxRecDepth 20000 in
theorem ggX2_init_X0_init : GoodIn wsX2_init wsX0_init := goodIn_r _ [9, 10, 2, 3, 11, 12, 13, 14, 15, 16, 17, 18, 19, 20, 21, 22, 23, 24, 25, 26, 27, 28, 29, 30, 31, 32, 33, 34, 35, 36, 37, 38, 39] (by decide +kernel) (by decide +kernel)
set_option maxRecDepth 20000 in
theorem gX2_init_X0_init_n11 : GoodIn wsX2_init (wsX0_init) := ggX2_init_X0_init
theorem dX2_init_0 : decode cX2_init 0 = .ok (.aload_n 0, 1) := by decide +kernel
theorem dX2_init_1 : decode cX2_init 1 = .ok (.invokespecial 3, 3) := by decide +kernel
theorem dX2_init_4 : decode cX2_init 4 = .ok (.aload_n 0, 1) := by decide +kernel
theorem dX2_init_5 : decode cX2_init 5 = .ok (.new 9, 3) := by decide +kernel
theorem dX2_init_8 : decode cX2_init 8 = .ok (.dup, 1) := by decide +kernel
theorem dX2_init_9 : decode cX2_init 9 = .ok (.invokespecial 11, 3) := by decide +kernel
theorem dX2_init_12 : decode cX2_init 12 = .ok (.putfield 12, 3) := by decide +kernel
theorem dX2_init_15 : decode cX2_init 15 = .ok (.return_, 1) := by decide +kernel
set_option maxRecDepth 20000 in
theorem ggX2_read_X0_clear : GoodIn wsX2_read wsX0_clear := goodIn_r _ [6, 7, 8, 9, 10, 11, 63, 64, 65, 66, 67, 68, 69, 70, 71, 72, 73, 74, 75, 76] (by decide +kernel) (by decide +kernel)
set_option maxRecDepth 20000 in
theorem gX2_read_X0_clear : GoodIn wsX2_read (wsV RX2 18 RX0 yX0_clear wsX0_clear) := goodIn_app (goodIn_of _ (by decide +kernel)) ggX2_read_X0_clear
set_option maxRecDepth 20000 in
theorem ggX2_read_X3_sizeOf : GoodIn wsX2_read wsX3_sizeOf := goodIn_r _ [16, 17, 18, 19, 20, 15, 21, 77, 78, 79] (by decide +kernel) (by decide +kernel)
set_option maxRecDepth 20000 in
theorem gX2_read_X3_sizeOf : GoodIn wsX2_read (wsV RX2 21 RX3 yX3_sizeOf wsX3_sizeOf) := goodIn_app (goodIn_of _ (by decide +kernel)) ggX2_read_X3_sizeOf
set_option maxRecDepth 20000 in
theorem ggX2_read_X3_get : GoodIn wsX2_read wsX3_get := goodIn_r _ [25, 26, 27, 28, 29, 15, 30, 17, 18, 19, 20, 21, 77, 78, 79] (by decide +kernel) (by decide +kernel)
set_option maxRecDepth 20000 in
theorem gX2_read_X3_get : GoodIn wsX2_read (wsV RX2 27 RX3 yX3_get wsX3_get) := goodIn_app (goodIn_of _ (by decide +kernel)) ggX2_read_X3_get
set_option maxRecDepth 20000 in
theorem ggX2_read_X2_readError : GoodIn wsX2_read wsX2_readError := goodIn_r _ [35, 1, 36, 37, 34, 38, 22, 23, 24, 15, 25, 26, 27, 28, 29, 30, 17, 18, 19, 20, 21, 39, 40, 41, 42, 5, 43, 8, 44, 45, 46, 47, 62, 63, 64, 65, 66, 67, 68, 69, 70, 71, 72, 73, 74, 75, 76, 77, 78, 79] (by decide +kernel) (by decide +kernel)
set_option maxRecDepth 20000 in
theorem gX2_read_X2_readError : GoodIn wsX2_read (wsV RX2 31 RX2 yX2_readError wsX2_readError) := goodIn_app (goodIn_of _ (by decide +kernel)) ggX2_read_X2_readError
set_option maxRecDepth 20000 in
theorem ggX2_read_X2_readPerson : GoodIn wsX2_read wsX2_readPerson := goodIn_r _ [51, 1, 22, 23, 24, 15, 25, 26, 27, 28, 29, 30, 17, 18, 19, 20, 21, 52, 53, 34, 54, 36, 37, 38, 39, 55, 56, 57, 5, 58, 7, 59, 60, 61, 62, 63, 64, 65, 66, 67, 68, 69, 70, 71, 72, 73, 74, 75, 76, 77, 78, 79] (by decide +kernel) (by decide +kernel)
set_option maxRecDepth 20000 in
theorem gX2_read_X2_readPerson : GoodIn wsX2_read (wsV RX2 35 RX2 yX2_readPerson wsX2_readPerson) := goodIn_app (goodIn_of _ (by decide +kernel)) ggX2_read_X2_readPerson
theorem dX2_read_0 : decode cX2_read 0 = .ok (.aload_n 0, 1) := by decide +kernel
theorem dX2_read_1 : decode cX2_read 1 = .ok (.getfield 12, 3) := by decide +kernel
theorem dX2_read_4 : decode cX2_read 4 = .ok (.invokevirtual 18, 3) := by decide +kernel
theorem dX2_read_7 : decode cX2_read 7 = .ok (.aload_n 1, 1) := by decide +kernel
theorem dX2_read_8 : decode cX2_read 8 = .ok (.iload_n 2, 1) := by decide +kernel
theorem dX2_read_9 : decode cX2_read 9 = .ok (.invokevirtual 21, 3) := by decide +kernel
theorem dX2_read_12 : decode cX2_read 12 = .ok (.istore_n 3, 1) := by decide +kernel
theorem dX2_read_13 : decode cX2_read 13 = .ok (.iconst 0, 1) := by decide +kernel
theorem dX2_read_14 : decode cX2_read 14 = .ok (.istore 4, 2) := by decide +kernel
theorem dX2_read_16 : decode cX2_read 16 = .ok (.iconst 0, 1) := by decide +kernel
theorem dX2_read_17 : decode cX2_read 17 = .ok (.istore 5, 2) := by decide +kernel
theorem dX2_read_19 : decode cX2_read 19 = .ok (.iload 5, 2) := by decide +kernel
theorem dX2_read_21 : decode cX2_read 21 = .ok (.bipush 60, 2) := by decide +kernel
theorem dX2_read_23 : decode cX2_read 23 = .ok (.if_icmp .gt 87, 3) := by decide +kernel
theorem dX2_read_26 : decode cX2_read 26 = .ok (.iload 4, 2) := by decide +kernel
theorem dX2_read_28 : decode cX2_read 28 = .ok (.iload_n 3, 1) := by decide +kernel
theorem dX2_read_29 : decode cX2_read 29 = .ok (.if_icmp .ge 81, 3) := by decide +kernel
theorem dX2_read_32 : decode cX2_read 32 = .ok (.aload_n 1, 1) := by decide +kernel
theorem dX2_read_33 : decode cX2_read 33 = .ok (.iload_n 2, 1) := by decide +kernel
theorem dX2_read_34 : decode cX2_read 34 = .ok (.iload 4, 2) := by decide +kernel
theorem dX2_read_36 : decode cX2_read 36 = .ok (.invokevirtual 27, 3) := by decide +kernel
theorem dX2_read_39 : decode cX2_read 39 = .ok (.istore 6, 2) := by decide +kernel
theorem dX2_read_41 : decode cX2_read 41 = .ok (.bipush (-9), 2) := by decide +kernel
theorem dX2_read_43 : decode cX2_read 43 = .ok (.istore 7, 2) := by decide +kernel
theorem dX2_read_45 : decode cX2_read 45 = .ok (.iload 6, 2) := by decide +kernel
theorem dX2_read_47 : decode cX2_read 47 = .ok (.bipush 32, 2) := by decide +kernel
theorem dX2_read_49 : decode cX2_read 49 = .ok (.if_icmp .ne 9, 3) := by decide +kernel
theorem dX2_read_52 : decode cX2_read 52 = .ok (.iinc 4 1, 3) := by decide +kernel
theorem dX2_read_55 : decode cX2_read 55 = .ok (.goto 39, 3) := by decide +kernel
theorem dX2_read_58 : decode cX2_read 58 = .ok (.iload 6, 2) := by decide +kernel
theorem dX2_read_60 : decode cX2_read 60 = .ok (.bipush 120, 2) := by decide +kernel
theorem dX2_read_62 : decode cX2_read 62 = .ok (.if_icmp .ne 19, 3) := by decide +kernel
theorem dX2_read_65 : decode cX2_read 65 = .ok (.aload_n 0, 1) := by decide +kernel
theorem dX2_read_66 : decode cX2_read 66 = .ok (.aload_n 1, 1) := by decide +kernel
theorem dX2_read_67 : decode cX2_read 67 = .ok (.iload_n 2, 1) := by decide +kernel
theorem dX2_read_68 : decode cX2_read 68 = .ok (.iload 4, 2) := by decide +kernel
theorem dX2_read_70 : decode cX2_read 70 = .ok (.invokevirtual 31, 3) := by decide +kernel
theorem dX2_read_73 : decode cX2_read 73 = .ok (.istore 7, 2) := by decide +kernel
theorem dX2_read_75 : decode cX2_read 75 = .ok (.iinc 4 5, 3) := by decide +kernel
theorem dX2_read_78 : decode cX2_read 78 = .ok (.goto 16, 3) := by decide +kernel
theorem dX2_read_81 : decode cX2_read 81 = .ok (.aload_n 0, 1) := by decide +kernel
theorem dX2_read_82 : decode cX2_read 82 = .ok (.aload_n 1, 1) := by decide +kernel
theorem dX2_read_83 : decode cX2_read 83 = .ok (.iload_n 2, 1) := by decide +kernel
theorem dX2_read_84 : decode cX2_read 84 = .ok (.iload 4, 2) := by decide +kernel
theorem dX2_read_86 : decode cX2_read 86 = .ok (.invokevirtual 35, 3) := by decide +kernel
theorem dX2_read_89 : decode cX2_read 89 = .ok (.istore 7, 2) := by decide +kernel
theorem dX2_read_91 : decode cX2_read 91 = .ok (.iinc 4 3, 3) := by decide +kernel
theorem dX2_read_94 : decode cX2_read 94 = .ok (.iload 7, 2) := by decide +kernel
theorem dX2_read_96 : decode cX2_read 96 = .ok (.bipush (-9), 2) := by decide +kernel
theorem dX2_read_98 : decode cX2_read 98 = .ok (.if_icmp .eq 6, 3) := by decide +kernel
theorem dX2_read_101 : decode cX2_read 101 = .ok (.iload 7, 2) := by decide +kernel
theorem dX2_read_103 : decode cX2_read 103 = .ok (.ireturn, 1) := by decide +kernel
theorem dX2_read_104 : decode cX2_read 104 = .ok (.iinc 5 1, 3) := by decide +kernel
theorem dX2_read_107 : decode cX2_read 107 = .ok (.goto (-88), 3) := by decide +kernel
theorem dX2_read_110 : decode cX2_read 110 = .ok (.aload_n 0, 1) := by decide +kernel
theorem dX2_read_111 : decode cX2_read 111 = .ok (.getfield 12, 3) := by decide +kernel
theorem dX2_read_114 : decode cX2_read 114 = .ok (.getfield 38, 3) := by decide +kernel
theorem dX2_read_117 : decode cX2_read 117 = .ok (.ifCond .le 8, 3) := by decide +kernel
theorem dX2_read_120 : decode cX2_read 120 = .ok (.bipush (-9), 2) := by decide +kernel
theorem dX2_read_122 : decode cX2_read 122 = .ok (.goto 4, 3) := by decide +kernel
theorem dX2_read_125 : decode cX2_read 125 = .ok (.iload_n 3, 1) := by decide +kernel
theorem dX2_read_126 : decode cX2_read 126 = .ok (.ireturn, 1) := by decide +kernel
set_option maxRecDepth 20000 in
theorem ggX2_readPerson_X3_get : GoodIn wsX2_readPerson wsX3_get := goodIn_r _ [6, 7, 8, 9, 10, 5, 11, 12, 13, 14, 15, 16, 49, 50, 51] (by decide +kernel) (by decide +kernel)
set_option maxRecDepth 20000 in
theorem gX2_readPerson_X3_get : GoodIn wsX2_readPerson (wsV RX2 27 RX3 yX3_get wsX3_get) := goodIn_app (goodIn_of _ (by decide +kernel)) ggX2_readPerson_X3_get
set_option maxRecDepth 20000 in
theorem ggX2_readPerson_X2_kindOf : GoodIn wsX2_readPerson wsX2_kindOf := goodIn_r _ [20] (by decide +kernel) (by decide +kernel)
set_option maxRecDepth 20000 in
theorem gX2_readPerson_X2_kindOf : GoodIn wsX2_readPerson (va_wsS RX2 42 yX2_kindOf wsX2_kindOf) := goodIn_app (goodIn_of _ (by decide +kernel)) ggX2_readPerson_X2_kindOf
set_option maxRecDepth 20000 in
theorem ggX2_readPerson_X2_figure : GoodIn wsX2_readPerson wsX2_figure := goodIn_r _ [23, 2, 3, 4, 5, 6, 7, 8, 9, 10, 11, 12, 13, 14, 15, 16, 24, 49, 50, 51] (by decide +kernel) (by decide +kernel)
set_option maxRecDepth 20000 in
theorem gX2_readPerson_X2_figure : GoodIn wsX2_readPerson (va_wsS RX2 48 yX2_figure wsX2_figure) := goodIn_app (goodIn_of _ (by decide +kernel)) ggX2_readPerson_X2_figure
set_option maxRecDepth 20000 in
theorem ggX2_readPerson_X0_addPerson : GoodIn wsX2_readPerson wsX0_addPerson := goodIn_r _ [29, 30, 31, 32, 33, 35, 36, 37, 38, 39, 40, 41, 42, 43, 44, 45, 46, 47, 48] (by decide +kernel) (by decide +kernel)
set_option maxRecDepth 20000 in
theorem gX2_readPerson_X0_addPerson : GoodIn wsX2_readPerson (wsV RX2 52 RX0 yX0_addPerson wsX0_addPerson) := goodIn_app (goodIn_of _ (by decide +kernel)) ggX2_readPerson_X0_addPerson
theorem dX2_readPerson_0 : decode cX2_readPerson 0 = .ok (.aload_n 1, 1) := by decide +kernel
theorem dX2_readPerson_1 : decode cX2_readPerson 1 = .ok (.iload_n 2, 1) := by decide +kernel
theorem dX2_readPerson_2 : decode cX2_readPerson 2 = .ok (.iload_n 3, 1) := by decide +kernel
theorem dX2_readPerson_3 : decode cX2_readPerson 3 = .ok (.invokevirtual 27, 3) := by decide +kernel
theorem dX2_readPerson_6 : decode cX2_readPerson 6 = .ok (.invokestatic 42, 3) := by decide +kernel
theorem dX2_readPerson_9 : decode cX2_readPerson 9 = .ok (.istore 4, 2) := by decide +kernel
theorem dX2_readPerson_11 : decode cX2_readPerson 11 = .ok (.iload 4, 2) := by decide +kernel
theorem dX2_readPerson_13 : decode cX2_readPerson 13 = .ok (.bipush (-9), 2) := by decide +kernel
theorem dX2_readPerson_15 : decode cX2_readPerson 15 = .ok (.if_icmp .eq 24, 3) := by decide +kernel
theorem dX2_readPerson_18 : decode cX2_readPerson 18 = .ok (.aload_n 0, 1) := by decide +kernel
theorem dX2_readPerson_19 : decode cX2_readPerson 19 = .ok (.getfield 12, 3) := by decide +kernel
theorem dX2_readPerson_22 : decode cX2_readPerson 22 = .ok (.getfield 45, 3) := by decide +kernel
theorem dX2_readPerson_25 : decode cX2_readPerson 25 = .ok (.ifCond .gt 14, 3) := by decide +kernel
theorem dX2_readPerson_28 : decode cX2_readPerson 28 = .ok (.aload_n 0, 1) := by decide +kernel
theorem dX2_readPerson_29 : decode cX2_readPerson 29 = .ok (.getfield 12, 3) := by decide +kernel
theorem dX2_readPerson_32 : decode cX2_readPerson 32 = .ok (.getfield 38, 3) := by decide +kernel
theorem dX2_readPerson_35 : decode cX2_readPerson 35 = .ok (.iconst 5, 1) := by decide +kernel
theorem dX2_readPerson_36 : decode cX2_readPerson 36 = .ok (.if_icmp .lt 5, 3) := by decide +kernel
theorem dX2_readPerson_39 : decode cX2_readPerson 39 = .ok (.iload_n 3, 1) := by decide +kernel
theorem dX2_readPerson_40 : decode cX2_readPerson 40 = .ok (.ireturn, 1) := by decide +kernel
theorem dX2_readPerson_41 : decode cX2_readPerson 41 = .ok (.aload_n 1, 1) := by decide +kernel
theorem dX2_readPerson_42 : decode cX2_readPerson 42 = .ok (.iload_n 2, 1) := by decide +kernel
theorem dX2_readPerson_43 : decode cX2_readPerson 43 = .ok (.iload_n 3, 1) := by decide +kernel
theorem dX2_readPerson_44 : decode cX2_readPerson 44 = .ok (.iconst 1, 1) := by decide +kernel
theorem dX2_readPerson_45 : decode cX2_readPerson 45 = .ok (.iadd, 1) := by decide +kernel
theorem dX2_readPerson_46 : decode cX2_readPerson 46 = .ok (.bipush 48, 2) := by decide +kernel
theorem dX2_readPerson_48 : decode cX2_readPerson 48 = .ok (.bipush 10, 2) := by decide +kernel
theorem dX2_readPerson_50 : decode cX2_readPerson 50 = .ok (.invokestatic 48, 3) := by decide +kernel
theorem dX2_readPerson_53 : decode cX2_readPerson 53 = .ok (.istore 5, 2) := by decide +kernel
theorem dX2_readPerson_55 : decode cX2_readPerson 55 = .ok (.iload 5, 2) := by decide +kernel
theorem dX2_readPerson_57 : decode cX2_readPerson 57 = .ok (.bipush (-9), 2) := by decide +kernel
theorem dX2_readPerson_59 : decode cX2_readPerson 59 = .ok (.if_icmp .ne 7, 3) := by decide +kernel
theorem dX2_readPerson_62 : decode cX2_readPerson 62 = .ok (.iload_n 3, 1) := by decide +kernel
theorem dX2_readPerson_63 : decode cX2_readPerson 63 = .ok (.iconst 1, 1) := by decide +kernel
theorem dX2_readPerson_64 : decode cX2_readPerson 64 = .ok (.iadd, 1) := by decide +kernel
theorem dX2_readPerson_65 : decode cX2_readPerson 65 = .ok (.ireturn, 1) := by decide +kernel
theorem dX2_readPerson_66 : decode cX2_readPerson 66 = .ok (.aload_n 1, 1) := by decide +kernel
theorem dX2_readPerson_67 : decode cX2_readPerson 67 = .ok (.iload_n 2, 1) := by decide +kernel
theorem dX2_readPerson_68 : decode cX2_readPerson 68 = .ok (.iload_n 3, 1) := by decide +kernel
theorem dX2_readPerson_69 : decode cX2_readPerson 69 = .ok (.iconst 2, 1) := by decide +kernel
theorem dX2_readPerson_70 : decode cX2_readPerson 70 = .ok (.iadd, 1) := by decide +kernel
theorem dX2_readPerson_71 : decode cX2_readPerson 71 = .ok (.bipush 48, 2) := by decide +kernel
theorem dX2_readPerson_73 : decode cX2_readPerson 73 = .ok (.bipush 10, 2) := by decide +kernel
theorem dX2_readPerson_75 : decode cX2_readPerson 75 = .ok (.invokestatic 48, 3) := by decide +kernel
theorem dX2_readPerson_78 : decode cX2_readPerson 78 = .ok (.istore 6, 2) := by decide +kernel
theorem dX2_readPerson_80 : decode cX2_readPerson 80 = .ok (.iload 6, 2) := by decide +kernel
theorem dX2_readPerson_82 : decode cX2_readPerson 82 = .ok (.bipush (-9), 2) := by decide +kernel
theorem dX2_readPerson_84 : decode cX2_readPerson 84 = .ok (.if_icmp .ne 7, 3) := by decide +kernel
theorem dX2_readPerson_87 : decode cX2_readPerson 87 = .ok (.iload_n 3, 1) := by decide +kernel
theorem dX2_readPerson_88 : decode cX2_readPerson 88 = .ok (.iconst 2, 1) := by decide +kernel
theorem dX2_readPerson_89 : decode cX2_readPerson 89 = .ok (.iadd, 1) := by decide +kernel
theorem dX2_readPerson_90 : decode cX2_readPerson 90 = .ok (.ireturn, 1) := by decide +kernel
theorem dX2_readPerson_91 : decode cX2_readPerson 91 = .ok (.aload_n 0, 1) := by decide +kernel
theorem dX2_readPerson_92 : decode cX2_readPerson 92 = .ok (.getfield 12, 3) := by decide +kernel
theorem dX2_readPerson_95 : decode cX2_readPerson 95 = .ok (.iload 4, 2) := by decide +kernel
theorem dX2_readPerson_97 : decode cX2_readPerson 97 = .ok (.iload 5, 2) := by decide +kernel
theorem dX2_readPerson_99 : decode cX2_readPerson 99 = .ok (.iload 6, 2) := by decide +kernel
theorem dX2_readPerson_101 : decode cX2_readPerson 101 = .ok (.invokevirtual 52, 3) := by decide +kernel
theorem dX2_readPerson_104 : decode cX2_readPerson 104 = .ok (.bipush (-9), 2) := by decide +kernel
theorem dX2_readPerson_106 : decode cX2_readPerson 106 = .ok (.ireturn, 1) := by decide +kernel
set_option maxRecDepth 20000 in
theorem ggX2_readError_X2_figure : GoodIn wsX2_readError wsX2_figure := goodIn_r _ [5, 6, 7, 8, 9, 10, 11, 12, 13, 14, 15, 16, 17, 18, 19, 20, 21, 47, 48, 49] (by decide +kernel) (by decide +kernel)
set_option maxRecDepth 20000 in
theorem gX2_readError_X2_figure : GoodIn wsX2_readError (va_wsS RX2 48 yX2_figure wsX2_figure) := goodIn_app (goodIn_of _ (by decide +kernel)) ggX2_readError_X2_figure
set_option maxRecDepth 20000 in
theorem ggX2_readError_X0_addError : GoodIn wsX2_readError wsX0_addError := goodIn_r _ [26, 27, 28, 29, 30, 31, 33, 34, 35, 36, 37, 38, 39, 40, 41, 42, 43, 44, 45, 46] (by decide +kernel) (by decide +kernel)
set_option maxRecDepth 20000 in
theorem gX2_readError_X0_addError : GoodIn wsX2_readError (wsV RX2 56 RX0 yX0_addError wsX0_addError) := goodIn_app (goodIn_of _ (by decide +kernel)) ggX2_readError_X0_addError
theorem dX2_readError_0 : decode cX2_readError 0 = .ok (.aload_n 0, 1) := by decide +kernel
theorem dX2_readError_1 : decode cX2_readError 1 = .ok (.getfield 12, 3) := by decide +kernel
theorem dX2_readError_4 : decode cX2_readError 4 = .ok (.getfield 38, 3) := by decide +kernel
theorem dX2_readError_7 : decode cX2_readError 7 = .ok (.ifCond .eq 15, 3) := by decide +kernel
theorem dX2_readError_10 : decode cX2_readError 10 = .ok (.aload_n 0, 1) := by decide +kernel
theorem dX2_readError_11 : decode cX2_readError 11 = .ok (.getfield 12, 3) := by decide +kernel
theorem dX2_readError_14 : decode cX2_readError 14 = .ok (.getfield 45, 3) := by decide +kernel
theorem dX2_readError_17 : decode cX2_readError 17 = .ok (.bipush 6, 2) := by decide +kernel
theorem dX2_readError_19 : decode cX2_readError 19 = .ok (.if_icmp .lt 5, 3) := by decide +kernel
theorem dX2_readError_22 : decode cX2_readError 22 = .ok (.iload_n 3, 1) := by decide +kernel
theorem dX2_readError_23 : decode cX2_readError 23 = .ok (.ireturn, 1) := by decide +kernel
theorem dX2_readError_24 : decode cX2_readError 24 = .ok (.aload_n 1, 1) := by decide +kernel
theorem dX2_readError_25 : decode cX2_readError 25 = .ok (.iload_n 2, 1) := by decide +kernel
theorem dX2_readError_26 : decode cX2_readError 26 = .ok (.iload_n 3, 1) := by decide +kernel
theorem dX2_readError_27 : decode cX2_readError 27 = .ok (.iconst 1, 1) := by decide +kernel
theorem dX2_readError_28 : decode cX2_readError 28 = .ok (.iadd, 1) := by decide +kernel
theorem dX2_readError_29 : decode cX2_readError 29 = .ok (.bipush 48, 2) := by decide +kernel
theorem dX2_readError_31 : decode cX2_readError 31 = .ok (.iconst 5, 1) := by decide +kernel
theorem dX2_readError_32 : decode cX2_readError 32 = .ok (.invokestatic 48, 3) := by decide +kernel
theorem dX2_readError_35 : decode cX2_readError 35 = .ok (.istore 4, 2) := by decide +kernel
theorem dX2_readError_37 : decode cX2_readError 37 = .ok (.iload 4, 2) := by decide +kernel
theorem dX2_readError_39 : decode cX2_readError 39 = .ok (.bipush (-9), 2) := by decide +kernel
theorem dX2_readError_41 : decode cX2_readError 41 = .ok (.if_icmp .ne 7, 3) := by decide +kernel
theorem dX2_readError_44 : decode cX2_readError 44 = .ok (.iload_n 3, 1) := by decide +kernel
theorem dX2_readError_45 : decode cX2_readError 45 = .ok (.iconst 1, 1) := by decide +kernel
theorem dX2_readError_46 : decode cX2_readError 46 = .ok (.iadd, 1) := by decide +kernel
theorem dX2_readError_47 : decode cX2_readError 47 = .ok (.ireturn, 1) := by decide +kernel
theorem dX2_readError_48 : decode cX2_readError 48 = .ok (.aload_n 1, 1) := by decide +kernel
theorem dX2_readError_49 : decode cX2_readError 49 = .ok (.iload_n 2, 1) := by decide +kernel
theorem dX2_readError_50 : decode cX2_readError 50 = .ok (.iload_n 3, 1) := by decide +kernel
theorem dX2_readError_51 : decode cX2_readError 51 = .ok (.iconst 2, 1) := by decide +kernel
theorem dX2_readError_52 : decode cX2_readError 52 = .ok (.iadd, 1) := by decide +kernel
theorem dX2_readError_53 : decode cX2_readError 53 = .ok (.bipush 65, 2) := by decide +kernel
theorem dX2_readError_55 : decode cX2_readError 55 = .ok (.bipush 20, 2) := by decide +kernel
theorem dX2_readError_57 : decode cX2_readError 57 = .ok (.invokestatic 48, 3) := by decide +kernel
theorem dX2_readError_60 : decode cX2_readError 60 = .ok (.istore 5, 2) := by decide +kernel
theorem dX2_readError_62 : decode cX2_readError 62 = .ok (.iload 5, 2) := by decide +kernel
theorem dX2_readError_64 : decode cX2_readError 64 = .ok (.bipush (-9), 2) := by decide +kernel
theorem dX2_readError_66 : decode cX2_readError 66 = .ok (.if_icmp .ne 7, 3) := by decide +kernel
theorem dX2_readError_69 : decode cX2_readError 69 = .ok (.iload_n 3, 1) := by decide +kernel
theorem dX2_readError_70 : decode cX2_readError 70 = .ok (.iconst 2, 1) := by decide +kernel
theorem dX2_readError_71 : decode cX2_readError 71 = .ok (.iadd, 1) := by decide +kernel
theorem dX2_readError_72 : decode cX2_readError 72 = .ok (.ireturn, 1) := by decide +kernel
theorem dX2_readError_73 : decode cX2_readError 73 = .ok (.aload_n 1, 1) := by decide +kernel
theorem dX2_readError_74 : decode cX2_readError 74 = .ok (.iload_n 2, 1) := by decide +kernel
theorem dX2_readError_75 : decode cX2_readError 75 = .ok (.iload_n 3, 1) := by decide +kernel
theorem dX2_readError_76 : decode cX2_readError 76 = .ok (.iconst 3, 1) := by decide +kernel
theorem dX2_readError_77 : decode cX2_readError 77 = .ok (.iadd, 1) := by decide +kernel
theorem dX2_readError_78 : decode cX2_readError 78 = .ok (.bipush 48, 2) := by decide +kernel
theorem dX2_readError_80 : decode cX2_readError 80 = .ok (.aload_n 0, 1) := by decide +kernel
theorem dX2_readError_81 : decode cX2_readError 81 = .ok (.getfield 12, 3) := by decide +kernel
theorem dX2_readError_84 : decode cX2_readError 84 = .ok (.getfield 38, 3) := by decide +kernel
theorem dX2_readError_87 : decode cX2_readError 87 = .ok (.invokestatic 48, 3) := by decide +kernel
theorem dX2_readError_90 : decode cX2_readError 90 = .ok (.istore 6, 2) := by decide +kernel
theorem dX2_readError_92 : decode cX2_readError 92 = .ok (.iload 6, 2) := by decide +kernel
theorem dX2_readError_94 : decode cX2_readError 94 = .ok (.bipush (-9), 2) := by decide +kernel
theorem dX2_readError_96 : decode cX2_readError 96 = .ok (.if_icmp .ne 7, 3) := by decide +kernel
theorem dX2_readError_99 : decode cX2_readError 99 = .ok (.iload_n 3, 1) := by decide +kernel
theorem dX2_readError_100 : decode cX2_readError 100 = .ok (.iconst 3, 1) := by decide +kernel
theorem dX2_readError_101 : decode cX2_readError 101 = .ok (.iadd, 1) := by decide +kernel
theorem dX2_readError_102 : decode cX2_readError 102 = .ok (.ireturn, 1) := by decide +kernel
theorem dX2_readError_103 : decode cX2_readError 103 = .ok (.aload_n 1, 1) := by decide +kernel
theorem dX2_readError_104 : decode cX2_readError 104 = .ok (.iload_n 2, 1) := by decide +kernel
theorem dX2_readError_105 : decode cX2_readError 105 = .ok (.iload_n 3, 1) := by decide +kernel
theorem dX2_readError_106 : decode cX2_readError 106 = .ok (.iconst 4, 1) := by decide +kernel
theorem dX2_readError_107 : decode cX2_readError 107 = .ok (.iadd, 1) := by decide +kernel
theorem dX2_readError_108 : decode cX2_readError 108 = .ok (.bipush 48, 2) := by decide +kernel
theorem dX2_readError_110 : decode cX2_readError 110 = .ok (.bipush 10, 2) := by decide +kernel
theorem dX2_readError_112 : decode cX2_readError 112 = .ok (.invokestatic 48, 3) := by decide +kernel
theorem dX2_readError_115 : decode cX2_readError 115 = .ok (.istore 7, 2) := by decide +kernel
theorem dX2_readError_117 : decode cX2_readError 117 = .ok (.iload 7, 2) := by decide +kernel
theorem dX2_readError_119 : decode cX2_readError 119 = .ok (.bipush (-9), 2) := by decide +kernel
theorem dX2_readError_121 : decode cX2_readError 121 = .ok (.if_icmp .eq 8, 3) := by decide +kernel
theorem dX2_readError_124 : decode cX2_readError 124 = .ok (.iload 7, 2) := by decide +kernel
theorem dX2_readError_126 : decode cX2_readError 126 = .ok (.ifCond .ne 7, 3) := by decide +kernel
theorem dX2_readError_129 : decode cX2_readError 129 = .ok (.iload_n 3, 1) := by decide +kernel
theorem dX2_readError_130 : decode cX2_readError 130 = .ok (.iconst 4, 1) := by decide +kernel
theorem dX2_readError_131 : decode cX2_readError 131 = .ok (.iadd, 1) := by decide +kernel
theorem dX2_readError_132 : decode cX2_readError 132 = .ok (.ireturn, 1) := by decide +kernel
theorem dX2_readError_133 : decode cX2_readError 133 = .ok (.aload_n 0, 1) := by decide +kernel
theorem dX2_readError_134 : decode cX2_readError 134 = .ok (.getfield 12, 3) := by decide +kernel
theorem dX2_readError_137 : decode cX2_readError 137 = .ok (.iload 4, 2) := by decide +kernel
theorem dX2_readError_139 : decode cX2_readError 139 = .ok (.iload 5, 2) := by decide +kernel
theorem dX2_readError_141 : decode cX2_readError 141 = .ok (.iload 6, 2) := by decide +kernel
theorem dX2_readError_143 : decode cX2_readError 143 = .ok (.iload 7, 2) := by decide +kernel
theorem dX2_readError_145 : decode cX2_readError 145 = .ok (.invokevirtual 56, 3) := by decide +kernel
theorem dX2_readError_148 : decode cX2_readError 148 = .ok (.bipush (-9), 2) := by decide +kernel
theorem dX2_readError_150 : decode cX2_readError 150 = .ok (.ireturn, 1) := by decide +kernel
theorem dX2_kindOf_0 : decode cX2_kindOf 0 = .ok (.iconst 0, 1) := by decide +kernel
theorem dX2_kindOf_1 : decode cX2_kindOf 1 = .ok (.istore_n 1, 1) := by decide +kernel
theorem dX2_kindOf_2 : decode cX2_kindOf 2 = .ok (.iload_n 1, 1) := by decide +kernel
theorem dX2_kindOf_3 : decode cX2_kindOf 3 = .ok (.bipush 6, 2) := by decide +kernel
theorem dX2_kindOf_5 : decode cX2_kindOf 5 = .ok (.if_icmp .ge 20, 3) := by decide +kernel
theorem dX2_kindOf_8 : decode cX2_kindOf 8 = .ok (.getstatic 60, 3) := by decide +kernel
theorem dX2_kindOf_11 : decode cX2_kindOf 11 = .ok (.iload_n 1, 1) := by decide +kernel
theorem dX2_kindOf_12 : decode cX2_kindOf 12 = .ok (.iaload, 1) := by decide +kernel
theorem dX2_kindOf_13 : decode cX2_kindOf 13 = .ok (.iload_n 0, 1) := by decide +kernel
theorem dX2_kindOf_14 : decode cX2_kindOf 14 = .ok (.if_icmp .ne 5, 3) := by decide +kernel
theorem dX2_kindOf_17 : decode cX2_kindOf 17 = .ok (.iload_n 1, 1) := by decide +kernel
theorem dX2_kindOf_18 : decode cX2_kindOf 18 = .ok (.ireturn, 1) := by decide +kernel
theorem dX2_kindOf_19 : decode cX2_kindOf 19 = .ok (.iinc 1 1, 3) := by decide +kernel
theorem dX2_kindOf_22 : decode cX2_kindOf 22 = .ok (.goto (-20), 3) := by decide +kernel
theorem dX2_kindOf_25 : decode cX2_kindOf 25 = .ok (.bipush (-9), 2) := by decide +kernel
theorem dX2_kindOf_27 : decode cX2_kindOf 27 = .ok (.ireturn, 1) := by decide +kernel
set_option maxRecDepth 20000 in
theorem ggX2_figure_X3_get : GoodIn wsX2_figure wsX3_get := goodIn_r _ [5, 6, 7, 8, 9, 4, 10, 11, 12, 13, 14, 15, 17, 18, 19] (by decide +kernel) (by decide +kernel)
set_option maxRecDepth 20000 in
theorem gX2_figure_X3_get : GoodIn wsX2_figure (wsV RX2 27 RX3 yX3_get wsX3_get) := goodIn_app (goodIn_of _ (by decide +kernel)) ggX2_figure_X3_get
set_option maxRecDepth 20000 in
theorem ggX2_figure_X3_holds : GoodIn wsX2_figure wsX3_holds := goodIn_r _ [10, 11, 12, 13, 14, 4, 15, 17, 18, 19] (by decide +kernel) (by decide +kernel)
set_option maxRecDepth 20000 in
theorem gX2_figure_X3_holds : GoodIn wsX2_figure (wsV RX2 64 RX3 yX3_holds wsX3_holds) := goodIn_app (goodIn_of _ (by decide +kernel)) ggX2_figure_X3_holds
theorem dX2_figure_0 : decode cX2_figure 0 = .ok (.aload_n 0, 1) := by decide +kernel
theorem dX2_figure_1 : decode cX2_figure 1 = .ok (.iload_n 1, 1) := by decide +kernel
theorem dX2_figure_2 : decode cX2_figure 2 = .ok (.iload_n 2, 1) := by decide +kernel
theorem dX2_figure_3 : decode cX2_figure 3 = .ok (.invokevirtual 27, 3) := by decide +kernel
theorem dX2_figure_6 : decode cX2_figure 6 = .ok (.iload_n 3, 1) := by decide +kernel
theorem dX2_figure_7 : decode cX2_figure 7 = .ok (.isub, 1) := by decide +kernel
theorem dX2_figure_8 : decode cX2_figure 8 = .ok (.istore 5, 2) := by decide +kernel
theorem dX2_figure_10 : decode cX2_figure 10 = .ok (.aload_n 0, 1) := by decide +kernel
theorem dX2_figure_11 : decode cX2_figure 11 = .ok (.iload_n 1, 1) := by decide +kernel
theorem dX2_figure_12 : decode cX2_figure 12 = .ok (.iload_n 2, 1) := by decide +kernel
theorem dX2_figure_13 : decode cX2_figure 13 = .ok (.invokevirtual 64, 3) := by decide +kernel
theorem dX2_figure_16 : decode cX2_figure 16 = .ok (.ifCond .eq 20, 3) := by decide +kernel
theorem dX2_figure_19 : decode cX2_figure 19 = .ok (.iload 5, 2) := by decide +kernel
theorem dX2_figure_21 : decode cX2_figure 21 = .ok (.ifCond .lt 15, 3) := by decide +kernel
theorem dX2_figure_24 : decode cX2_figure 24 = .ok (.iload 5, 2) := by decide +kernel
theorem dX2_figure_26 : decode cX2_figure 26 = .ok (.iload 4, 2) := by decide +kernel
theorem dX2_figure_28 : decode cX2_figure 28 = .ok (.if_icmp .ge 8, 3) := by decide +kernel
theorem dX2_figure_31 : decode cX2_figure 31 = .ok (.iload 5, 2) := by decide +kernel
theorem dX2_figure_33 : decode cX2_figure 33 = .ok (.goto 5, 3) := by decide +kernel
theorem dX2_figure_36 : decode cX2_figure 36 = .ok (.bipush (-9), 2) := by decide +kernel
theorem dX2_figure_38 : decode cX2_figure 38 = .ok (.ireturn, 1) := by decide +kernel
theorem dX3_init_0 : decode cX3_init 0 = .ok (.aload_n 0, 1) := by decide +kernel
theorem dX3_init_1 : decode cX3_init 1 = .ok (.invokespecial 3, 3) := by decide +kernel
theorem dX3_init_4 : decode cX3_init 4 = .ok (.aload_n 0, 1) := by decide +kernel
theorem dX3_init_5 : decode cX3_init 5 = .ok (.iload_n 2, 1) := by decide +kernel
theorem dX3_init_6 : decode cX3_init 6 = .ok (.iconst 0, 1) := by decide +kernel
theorem dX3_init_7 : decode cX3_init 7 = .ok (.invokestatic 9, 3) := by decide +kernel
theorem dX3_init_10 : decode cX3_init 10 = .ok (.putfield 15, 3) := by decide +kernel
theorem dX3_init_13 : decode cX3_init 13 = .ok (.aload_n 0, 1) := by decide +kernel
theorem dX3_init_14 : decode cX3_init 14 = .ok (.iload_n 1, 1) := by decide +kernel
theorem dX3_init_15 : decode cX3_init 15 = .ok (.iconst 0, 1) := by decide +kernel
theorem dX3_init_16 : decode cX3_init 16 = .ok (.invokestatic 9, 3) := by decide +kernel
theorem dX3_init_19 : decode cX3_init 19 = .ok (.iload_n 2, 1) := by decide +kernel
theorem dX3_init_20 : decode cX3_init 20 = .ok (.iconst 0, 1) := by decide +kernel
theorem dX3_init_21 : decode cX3_init 21 = .ok (.invokestatic 9, 3) := by decide +kernel
theorem dX3_init_24 : decode cX3_init 24 = .ok (.multianewarray 21 2, 4) := by decide +kernel
theorem dX3_init_28 : decode cX3_init 28 = .ok (.putfield 23, 3) := by decide +kernel
theorem dX3_init_31 : decode cX3_init 31 = .ok (.aload_n 0, 1) := by decide +kernel
theorem dX3_init_32 : decode cX3_init 32 = .ok (.iload_n 1, 1) := by decide +kernel
theorem dX3_init_33 : decode cX3_init 33 = .ok (.iconst 0, 1) := by decide +kernel
theorem dX3_init_34 : decode cX3_init 34 = .ok (.invokestatic 9, 3) := by decide +kernel
theorem dX3_init_37 : decode cX3_init 37 = .ok (.newarray .int, 2) := by decide +kernel
theorem dX3_init_39 : decode cX3_init 39 = .ok (.putfield 26, 3) := by decide +kernel
theorem dX3_init_42 : decode cX3_init 42 = .ok (.iconst 0, 1) := by decide +kernel
theorem dX3_init_43 : decode cX3_init 43 = .ok (.istore_n 3, 1) := by decide +kernel
theorem dX3_init_44 : decode cX3_init 44 = .ok (.iload_n 3, 1) := by decide +kernel
theorem dX3_init_45 : decode cX3_init 45 = .ok (.aload_n 0, 1) := by decide +kernel
theorem dX3_init_46 : decode cX3_init 46 = .ok (.getfield 26, 3) := by decide +kernel
theorem dX3_init_49 : decode cX3_init 49 = .ok (.arraylength, 1) := by decide +kernel
theorem dX3_init_50 : decode cX3_init 50 = .ok (.if_icmp .ge 16, 3) := by decide +kernel
theorem dX3_init_53 : decode cX3_init 53 = .ok (.aload_n 0, 1) := by decide +kernel
theorem dX3_init_54 : decode cX3_init 54 = .ok (.getfield 26, 3) := by decide +kernel
theorem dX3_init_57 : decode cX3_init 57 = .ok (.iload_n 3, 1) := by decide +kernel
theorem dX3_init_58 : decode cX3_init 58 = .ok (.iconst (-1), 1) := by decide +kernel
theorem dX3_init_59 : decode cX3_init 59 = .ok (.iastore, 1) := by decide +kernel
theorem dX3_init_60 : decode cX3_init 60 = .ok (.iinc 3 1, 3) := by decide +kernel
theorem dX3_init_63 : decode cX3_init 63 = .ok (.goto (-19), 3) := by decide +kernel
theorem dX3_init_66 : decode cX3_init 66 = .ok (.return_, 1) := by decide +kernel
theorem dX3_isNumber_0 : decode cX3_isNumber 0 = .ok (.iload_n 1, 1) := by decide +kernel
theorem dX3_isNumber_1 : decode cX3_isNumber 1 = .ok (.ifCond .lt 16, 3) := by decide +kernel
theorem dX3_isNumber_4 : decode cX3_isNumber 4 = .ok (.iload_n 1, 1) := by decide +kernel
theorem dX3_isNumber_5 : decode cX3_isNumber 5 = .ok (.aload_n 0, 1) := by decide +kernel
theorem dX3_isNumber_6 : decode cX3_isNumber 6 = .ok (.getfield 26, 3) := by decide +kernel
theorem dX3_isNumber_9 : decode cX3_isNumber 9 = .ok (.arraylength, 1) := by decide +kernel
theorem dX3_isNumber_10 : decode cX3_isNumber 10 = .ok (.if_icmp .ge 7, 3) := by decide +kernel
theorem dX3_isNumber_13 : decode cX3_isNumber 13 = .ok (.iconst 1, 1) := by decide +kernel
theorem dX3_isNumber_14 : decode cX3_isNumber 14 = .ok (.goto 4, 3) := by decide +kernel
theorem dX3_isNumber_17 : decode cX3_isNumber 17 = .ok (.iconst 0, 1) := by decide +kernel
theorem dX3_isNumber_18 : decode cX3_isNumber 18 = .ok (.ireturn, 1) := by decide +kernel
set_option maxRecDepth 20000 in
theorem ggX3_isThere_X3_isNumber : GoodIn wsX3_isThere wsX3_isNumber := goodIn_r _ [6, 1, 7, 8, 9] (by decide +kernel) (by decide +kernel)
set_option maxRecDepth 20000 in
theorem gX3_isThere_X3_isNumber : GoodIn wsX3_isThere (wsV RX3 30 RX3 yX3_isNumber wsX3_isNumber) := goodIn_app (goodIn_of _ (by decide +kernel)) ggX3_isThere_X3_isNumber
theorem dX3_isThere_0 : decode cX3_isThere 0 = .ok (.aload_n 0, 1) := by decide +kernel
theorem dX3_isThere_1 : decode cX3_isThere 1 = .ok (.iload_n 1, 1) := by decide +kernel
theorem dX3_isThere_2 : decode cX3_isThere 2 = .ok (.invokevirtual 30, 3) := by decide +kernel
theorem dX3_isThere_5 : decode cX3_isThere 5 = .ok (.ifCond .eq 17, 3) := by decide +kernel
theorem dX3_isThere_8 : decode cX3_isThere 8 = .ok (.aload_n 0, 1) := by decide +kernel
theorem dX3_isThere_9 : decode cX3_isThere 9 = .ok (.getfield 26, 3) := by decide +kernel
theorem dX3_isThere_12 : decode cX3_isThere 12 = .ok (.iload_n 1, 1) := by decide +kernel
theorem dX3_isThere_13 : decode cX3_isThere 13 = .ok (.iaload, 1) := by decide +kernel
theorem dX3_isThere_14 : decode cX3_isThere 14 = .ok (.iconst (-1), 1) := by decide +kernel
theorem dX3_isThere_15 : decode cX3_isThere 15 = .ok (.if_icmp .eq 7, 3) := by decide +kernel
theorem dX3_isThere_18 : decode cX3_isThere 18 = .ok (.iconst 1, 1) := by decide +kernel
theorem dX3_isThere_19 : decode cX3_isThere 19 = .ok (.goto 4, 3) := by decide +kernel
theorem dX3_isThere_22 : decode cX3_isThere 22 = .ok (.iconst 0, 1) := by decide +kernel
theorem dX3_isThere_23 : decode cX3_isThere 23 = .ok (.ireturn, 1) := by decide +kernel
set_option maxRecDepth 20000 in
theorem ggX3_sizeOf_X3_isNumber : GoodIn wsX3_sizeOf wsX3_isNumber := goodIn_r _ [6, 1, 7, 8, 9] (by decide +kernel) (by decide +kernel)
set_option maxRecDepth 20000 in
theorem gX3_sizeOf_X3_isNumber : GoodIn wsX3_sizeOf (wsV RX3 30 RX3 yX3_isNumber wsX3_isNumber) := goodIn_app (goodIn_of _ (by decide +kernel)) ggX3_sizeOf_X3_isNumber
theorem dX3_sizeOf_0 : decode cX3_sizeOf 0 = .ok (.aload_n 0, 1) := by decide +kernel
theorem dX3_sizeOf_1 : decode cX3_sizeOf 1 = .ok (.iload_n 1, 1) := by decide +kernel
theorem dX3_sizeOf_2 : decode cX3_sizeOf 2 = .ok (.invokevirtual 30, 3) := by decide +kernel
theorem dX3_sizeOf_5 : decode cX3_sizeOf 5 = .ok (.ifCond .eq 12, 3) := by decide +kernel
theorem dX3_sizeOf_8 : decode cX3_sizeOf 8 = .ok (.aload_n 0, 1) := by decide +kernel
theorem dX3_sizeOf_9 : decode cX3_sizeOf 9 = .ok (.getfield 26, 3) := by decide +kernel
theorem dX3_sizeOf_12 : decode cX3_sizeOf 12 = .ok (.iload_n 1, 1) := by decide +kernel
theorem dX3_sizeOf_13 : decode cX3_sizeOf 13 = .ok (.iaload, 1) := by decide +kernel
theorem dX3_sizeOf_14 : decode cX3_sizeOf 14 = .ok (.goto 4, 3) := by decide +kernel
theorem dX3_sizeOf_17 : decode cX3_sizeOf 17 = .ok (.iconst (-1), 1) := by decide +kernel
theorem dX3_sizeOf_18 : decode cX3_sizeOf 18 = .ok (.ireturn, 1) := by decide +kernel
set_option maxRecDepth 20000 in
theorem ggX3_holds_X3_isNumber : GoodIn wsX3_holds wsX3_isNumber := goodIn_r _ [6, 1, 7, 8, 9] (by decide +kernel) (by decide +kernel)
set_option maxRecDepth 20000 in
theorem gX3_holds_X3_isNumber : GoodIn wsX3_holds (wsV RX3 30 RX3 yX3_isNumber wsX3_isNumber) := goodIn_app (goodIn_of _ (by decide +kernel)) ggX3_holds_X3_isNumber
theorem dX3_holds_0 : decode cX3_holds 0 = .ok (.aload_n 0, 1) := by decide +kernel
theorem dX3_holds_1 : decode cX3_holds 1 = .ok (.iload_n 1, 1) := by decide +kernel
theorem dX3_holds_2 : decode cX3_holds 2 = .ok (.invokevirtual 30, 3) := by decide +kernel
theorem dX3_holds_5 : decode cX3_holds 5 = .ok (.ifCond .eq 21, 3) := by decide +kernel
theorem dX3_holds_8 : decode cX3_holds 8 = .ok (.iload_n 2, 1) := by decide +kernel
theorem dX3_holds_9 : decode cX3_holds 9 = .ok (.ifCond .lt 17, 3) := by decide +kernel
theorem dX3_holds_12 : decode cX3_holds 12 = .ok (.iload_n 2, 1) := by decide +kernel
theorem dX3_holds_13 : decode cX3_holds 13 = .ok (.aload_n 0, 1) := by decide +kernel
theorem dX3_holds_14 : decode cX3_holds 14 = .ok (.getfield 26, 3) := by decide +kernel
theorem dX3_holds_17 : decode cX3_holds 17 = .ok (.iload_n 1, 1) := by decide +kernel
theorem dX3_holds_18 : decode cX3_holds 18 = .ok (.iaload, 1) := by decide +kernel
theorem dX3_holds_19 : decode cX3_holds 19 = .ok (.if_icmp .ge 7, 3) := by decide +kernel
theorem dX3_holds_22 : decode cX3_holds 22 = .ok (.iconst 1, 1) := by decide +kernel
theorem dX3_holds_23 : decode cX3_holds 23 = .ok (.goto 4, 3) := by decide +kernel
theorem dX3_holds_26 : decode cX3_holds 26 = .ok (.iconst 0, 1) := by decide +kernel
theorem dX3_holds_27 : decode cX3_holds 27 = .ok (.ireturn, 1) := by decide +kernel
set_option maxRecDepth 20000 in
theorem ggX3_holdsRun_X3_isThere : GoodIn wsX3_holdsRun wsX3_isThere := goodIn_r _ [6, 1, 7, 8, 9, 5, 10, 11, 12, 13] (by decide +kernel) (by decide +kernel)
set_option maxRecDepth 20000 in
theorem gX3_holdsRun_X3_isThere : GoodIn wsX3_holdsRun (wsV RX3 34 RX3 yX3_isThere wsX3_isThere) := goodIn_app (goodIn_of _ (by decide +kernel)) ggX3_holdsRun_X3_isThere
theorem dX3_holdsRun_0 : decode cX3_holdsRun 0 = .ok (.aload_n 0, 1) := by decide +kernel
theorem dX3_holdsRun_1 : decode cX3_holdsRun 1 = .ok (.iload_n 1, 1) := by decide +kernel
theorem dX3_holdsRun_2 : decode cX3_holdsRun 2 = .ok (.invokevirtual 34, 3) := by decide +kernel
theorem dX3_holdsRun_5 : decode cX3_holdsRun 5 = .ok (.ifCond .eq 37, 3) := by decide +kernel
theorem dX3_holdsRun_8 : decode cX3_holdsRun 8 = .ok (.iload_n 2, 1) := by decide +kernel
theorem dX3_holdsRun_9 : decode cX3_holdsRun 9 = .ok (.ifCond .lt 33, 3) := by decide +kernel
theorem dX3_holdsRun_12 : decode cX3_holdsRun 12 = .ok (.iload_n 3, 1) := by decide +kernel
theorem dX3_holdsRun_13 : decode cX3_holdsRun 13 = .ok (.ifCond .lt 29, 3) := by decide +kernel
theorem dX3_holdsRun_16 : decode cX3_holdsRun 16 = .ok (.iload_n 2, 1) := by decide +kernel
theorem dX3_holdsRun_17 : decode cX3_holdsRun 17 = .ok (.aload_n 0, 1) := by decide +kernel
theorem dX3_holdsRun_18 : decode cX3_holdsRun 18 = .ok (.getfield 26, 3) := by decide +kernel
theorem dX3_holdsRun_21 : decode cX3_holdsRun 21 = .ok (.iload_n 1, 1) := by decide +kernel
theorem dX3_holdsRun_22 : decode cX3_holdsRun 22 = .ok (.iaload, 1) := by decide +kernel
theorem dX3_holdsRun_23 : decode cX3_holdsRun 23 = .ok (.if_icmp .gt 19, 3) := by decide +kernel
theorem dX3_holdsRun_26 : decode cX3_holdsRun 26 = .ok (.iload_n 3, 1) := by decide +kernel
theorem dX3_holdsRun_27 : decode cX3_holdsRun 27 = .ok (.aload_n 0, 1) := by decide +kernel
theorem dX3_holdsRun_28 : decode cX3_holdsRun 28 = .ok (.getfield 26, 3) := by decide +kernel
theorem dX3_holdsRun_31 : decode cX3_holdsRun 31 = .ok (.iload_n 1, 1) := by decide +kernel
theorem dX3_holdsRun_32 : decode cX3_holdsRun 32 = .ok (.iaload, 1) := by decide +kernel
theorem dX3_holdsRun_33 : decode cX3_holdsRun 33 = .ok (.iload_n 2, 1) := by decide +kernel
theorem dX3_holdsRun_34 : decode cX3_holdsRun 34 = .ok (.isub, 1) := by decide +kernel
theorem dX3_holdsRun_35 : decode cX3_holdsRun 35 = .ok (.if_icmp .gt 7, 3) := by decide +kernel
theorem dX3_holdsRun_38 : decode cX3_holdsRun 38 = .ok (.iconst 1, 1) := by decide +kernel
theorem dX3_holdsRun_39 : decode cX3_holdsRun 39 = .ok (.goto 4, 3) := by decide +kernel
theorem dX3_holdsRun_42 : decode cX3_holdsRun 42 = .ok (.iconst 0, 1) := by decide +kernel
theorem dX3_holdsRun_43 : decode cX3_holdsRun 43 = .ok (.ireturn, 1) := by decide +kernel
set_option maxRecDepth 20000 in
theorem ggX3_get_X3_holds : GoodIn wsX3_get wsX3_holds := goodIn_r _ [6, 7, 8, 9, 10, 5, 11, 12, 13, 14] (by decide +kernel) (by decide +kernel)
set_option maxRecDepth 20000 in
theorem gX3_get_X3_holds : GoodIn wsX3_get (wsV RX3 37 RX3 yX3_holds wsX3_holds) := goodIn_app (goodIn_of _ (by decide +kernel)) ggX3_get_X3_holds
theorem dX3_get_0 : decode cX3_get 0 = .ok (.aload_n 0, 1) := by decide +kernel
theorem dX3_get_1 : decode cX3_get 1 = .ok (.iload_n 1, 1) := by decide +kernel
theorem dX3_get_2 : decode cX3_get 2 = .ok (.iload_n 2, 1) := by decide +kernel
theorem dX3_get_3 : decode cX3_get 3 = .ok (.invokevirtual 37, 3) := by decide +kernel
theorem dX3_get_6 : decode cX3_get 6 = .ok (.ifCond .eq 14, 3) := by decide +kernel
theorem dX3_get_9 : decode cX3_get 9 = .ok (.aload_n 0, 1) := by decide +kernel
theorem dX3_get_10 : decode cX3_get 10 = .ok (.getfield 23, 3) := by decide +kernel
theorem dX3_get_13 : decode cX3_get 13 = .ok (.iload_n 1, 1) := by decide +kernel
theorem dX3_get_14 : decode cX3_get 14 = .ok (.aaload, 1) := by decide +kernel
theorem dX3_get_15 : decode cX3_get 15 = .ok (.iload_n 2, 1) := by decide +kernel
theorem dX3_get_16 : decode cX3_get 16 = .ok (.iaload, 1) := by decide +kernel
theorem dX3_get_17 : decode cX3_get 17 = .ok (.goto 4, 3) := by decide +kernel
theorem dX3_get_20 : decode cX3_get 20 = .ok (.iconst 0, 1) := by decide +kernel
theorem dX3_get_21 : decode cX3_get 21 = .ok (.ireturn, 1) := by decide +kernel
set_option maxRecDepth 20000 in
theorem ggX3_set_X3_holds : GoodIn wsX3_set wsX3_holds := goodIn_r _ [6, 7, 8, 9, 10, 5, 11, 12, 13, 14] (by decide +kernel) (by decide +kernel)
set_option maxRecDepth 20000 in
theorem gX3_set_X3_holds : GoodIn wsX3_set (wsV RX3 37 RX3 yX3_holds wsX3_holds) := goodIn_app (goodIn_of _ (by decide +kernel)) ggX3_set_X3_holds
theorem dX3_set_0 : decode cX3_set 0 = .ok (.aload_n 0, 1) := by decide +kernel
theorem dX3_set_1 : decode cX3_set 1 = .ok (.iload_n 1, 1) := by decide +kernel
theorem dX3_set_2 : decode cX3_set 2 = .ok (.iload_n 2, 1) := by decide +kernel
theorem dX3_set_3 : decode cX3_set 3 = .ok (.invokevirtual 37, 3) := by decide +kernel
theorem dX3_set_6 : decode cX3_set 6 = .ok (.ifCond .eq 12, 3) := by decide +kernel
theorem dX3_set_9 : decode cX3_set 9 = .ok (.aload_n 0, 1) := by decide +kernel
theorem dX3_set_10 : decode cX3_set 10 = .ok (.getfield 23, 3) := by decide +kernel
theorem dX3_set_13 : decode cX3_set 13 = .ok (.iload_n 1, 1) := by decide +kernel
theorem dX3_set_14 : decode cX3_set 14 = .ok (.aaload, 1) := by decide +kernel
theorem dX3_set_15 : decode cX3_set 15 = .ok (.iload_n 2, 1) := by decide +kernel
theorem dX3_set_16 : decode cX3_set 16 = .ok (.iload_n 3, 1) := by decide +kernel
theorem dX3_set_17 : decode cX3_set 17 = .ok (.iastore, 1) := by decide +kernel
theorem dX3_set_18 : decode cX3_set 18 = .ok (.return_, 1) := by decide +kernel
set_option maxRecDepth 20000 in
theorem ggX3_make_X3_isNumber : GoodIn wsX3_make wsX3_isNumber := goodIn_r _ [8, 2, 9, 10, 11] (by decide +kernel) (by decide +kernel)
set_option maxRecDepth 20000 in
theorem gX3_make_X3_isNumber : GoodIn wsX3_make (wsV RX3 30 RX3 yX3_isNumber wsX3_isNumber) := goodIn_app (goodIn_of _ (by decide +kernel)) ggX3_make_X3_isNumber
theorem dX3_make_0 : decode cX3_make 0 = .ok (.aload_n 0, 1) := by decide +kernel
theorem dX3_make_1 : decode cX3_make 1 = .ok (.iload_n 1, 1) := by decide +kernel
theorem dX3_make_2 : decode cX3_make 2 = .ok (.invokevirtual 30, 3) := by decide +kernel
theorem dX3_make_5 : decode cX3_make 5 = .ok (.ifCond .eq 15, 3) := by decide +kernel
theorem dX3_make_8 : decode cX3_make 8 = .ok (.iload_n 2, 1) := by decide +kernel
theorem dX3_make_9 : decode cX3_make 9 = .ok (.ifCond .lt 11, 3) := by decide +kernel
theorem dX3_make_12 : decode cX3_make 12 = .ok (.iload_n 2, 1) := by decide +kernel
theorem dX3_make_13 : decode cX3_make 13 = .ok (.aload_n 0, 1) := by decide +kernel
theorem dX3_make_14 : decode cX3_make 14 = .ok (.getfield 15, 3) := by decide +kernel
theorem dX3_make_17 : decode cX3_make 17 = .ok (.if_icmp .le 4, 3) := by decide +kernel
theorem dX3_make_20 : decode cX3_make 20 = .ok (.return_, 1) := by decide +kernel
theorem dX3_make_21 : decode cX3_make 21 = .ok (.aload_n 0, 1) := by decide +kernel
theorem dX3_make_22 : decode cX3_make 22 = .ok (.getfield 26, 3) := by decide +kernel
theorem dX3_make_25 : decode cX3_make 25 = .ok (.iload_n 1, 1) := by decide +kernel
theorem dX3_make_26 : decode cX3_make 26 = .ok (.iload_n 2, 1) := by decide +kernel
theorem dX3_make_27 : decode cX3_make 27 = .ok (.iastore, 1) := by decide +kernel
theorem dX3_make_28 : decode cX3_make 28 = .ok (.iconst 0, 1) := by decide +kernel
theorem dX3_make_29 : decode cX3_make 29 = .ok (.istore 4, 2) := by decide +kernel
theorem dX3_make_31 : decode cX3_make 31 = .ok (.iload 4, 2) := by decide +kernel
theorem dX3_make_33 : decode cX3_make 33 = .ok (.iload_n 2, 1) := by decide +kernel
theorem dX3_make_34 : decode cX3_make 34 = .ok (.if_icmp .ge 19, 3) := by decide +kernel
theorem dX3_make_37 : decode cX3_make 37 = .ok (.aload_n 0, 1) := by decide +kernel
theorem dX3_make_38 : decode cX3_make 38 = .ok (.getfield 23, 3) := by decide +kernel
theorem dX3_make_41 : decode cX3_make 41 = .ok (.iload_n 1, 1) := by decide +kernel
theorem dX3_make_42 : decode cX3_make 42 = .ok (.aaload, 1) := by decide +kernel
theorem dX3_make_43 : decode cX3_make 43 = .ok (.iload 4, 2) := by decide +kernel
theorem dX3_make_45 : decode cX3_make 45 = .ok (.iload_n 3, 1) := by decide +kernel
theorem dX3_make_46 : decode cX3_make 46 = .ok (.iastore, 1) := by decide +kernel
theorem dX3_make_47 : decode cX3_make 47 = .ok (.iinc 4 1, 3) := by decide +kernel
theorem dX3_make_50 : decode cX3_make 50 = .ok (.goto (-19), 3) := by decide +kernel
theorem dX3_make_53 : decode cX3_make 53 = .ok (.return_, 1) := by decide +kernel
set_option maxRecDepth 20000 in
theorem ggX3_remove_X3_isNumber : GoodIn wsX3_remove wsX3_isNumber := goodIn_r _ [6, 1, 7, 8, 9] (by decide +kernel) (by decide +kernel)
set_option maxRecDepth 20000 in
theorem gX3_remove_X3_isNumber : GoodIn wsX3_remove (wsV RX3 30 RX3 yX3_isNumber wsX3_isNumber) := goodIn_app (goodIn_of _ (by decide +kernel)) ggX3_remove_X3_isNumber
theorem dX3_remove_0 : decode cX3_remove 0 = .ok (.aload_n 0, 1) := by decide +kernel
theorem dX3_remove_1 : decode cX3_remove 1 = .ok (.iload_n 1, 1) := by decide +kernel
theorem dX3_remove_2 : decode cX3_remove 2 = .ok (.invokevirtual 30, 3) := by decide +kernel
theorem dX3_remove_5 : decode cX3_remove 5 = .ok (.ifCond .eq 10, 3) := by decide +kernel
theorem dX3_remove_8 : decode cX3_remove 8 = .ok (.aload_n 0, 1) := by decide +kernel
theorem dX3_remove_9 : decode cX3_remove 9 = .ok (.getfield 26, 3) := by decide +kernel
theorem dX3_remove_12 : decode cX3_remove 12 = .ok (.iload_n 1, 1) := by decide +kernel
theorem dX3_remove_13 : decode cX3_remove 13 = .ok (.iconst (-1), 1) := by decide +kernel
theorem dX3_remove_14 : decode cX3_remove 14 = .ok (.iastore, 1) := by decide +kernel
theorem dX3_remove_15 : decode cX3_remove 15 = .ok (.return_, 1) := by decide +kernel
set_option maxRecDepth 20000 in
theorem ggX3_copyRun_X3_holdsRun : GoodIn wsX3_copyRun wsX3_holdsRun := goodIn_r _ [10, 11, 12, 13, 14, 9, 15, 16, 17, 18, 19, 20, 21, 22] (by decide +kernel) (by decide +kernel)
set_option maxRecDepth 20000 in
theorem gX3_copyRun_X3_holdsRun : GoodIn wsX3_copyRun (wsV RX3 41 RX3 yX3_holdsRun wsX3_holdsRun) := goodIn_app (goodIn_of _ (by decide +kernel)) ggX3_copyRun_X3_holdsRun
theorem dX3_copyRun_0 : decode cX3_copyRun 0 = .ok (.aload_n 0, 1) := by decide +kernel
theorem dX3_copyRun_1 : decode cX3_copyRun 1 = .ok (.iload_n 1, 1) := by decide +kernel
theorem dX3_copyRun_2 : decode cX3_copyRun 2 = .ok (.iload_n 2, 1) := by decide +kernel
theorem dX3_copyRun_3 : decode cX3_copyRun 3 = .ok (.iload 5, 2) := by decide +kernel
theorem dX3_copyRun_5 : decode cX3_copyRun 5 = .ok (.invokevirtual 41, 3) := by decide +kernel
theorem dX3_copyRun_8 : decode cX3_copyRun 8 = .ok (.ifCond .eq 35, 3) := by decide +kernel
theorem dX3_copyRun_11 : decode cX3_copyRun 11 = .ok (.aload_n 0, 1) := by decide +kernel
theorem dX3_copyRun_12 : decode cX3_copyRun 12 = .ok (.iload_n 3, 1) := by decide +kernel
theorem dX3_copyRun_13 : decode cX3_copyRun 13 = .ok (.iload 4, 2) := by decide +kernel
theorem dX3_copyRun_15 : decode cX3_copyRun 15 = .ok (.iload 5, 2) := by decide +kernel
theorem dX3_copyRun_17 : decode cX3_copyRun 17 = .ok (.invokevirtual 41, 3) := by decide +kernel
theorem dX3_copyRun_20 : decode cX3_copyRun 20 = .ok (.ifCond .eq 23, 3) := by decide +kernel
theorem dX3_copyRun_23 : decode cX3_copyRun 23 = .ok (.aload_n 0, 1) := by decide +kernel
theorem dX3_copyRun_24 : decode cX3_copyRun 24 = .ok (.getfield 23, 3) := by decide +kernel
theorem dX3_copyRun_27 : decode cX3_copyRun 27 = .ok (.iload_n 1, 1) := by decide +kernel
theorem dX3_copyRun_28 : decode cX3_copyRun 28 = .ok (.aaload, 1) := by decide +kernel
theorem dX3_copyRun_29 : decode cX3_copyRun 29 = .ok (.iload_n 2, 1) := by decide +kernel
theorem dX3_copyRun_30 : decode cX3_copyRun 30 = .ok (.aload_n 0, 1) := by decide +kernel
theorem dX3_copyRun_31 : decode cX3_copyRun 31 = .ok (.getfield 23, 3) := by decide +kernel
theorem dX3_copyRun_34 : decode cX3_copyRun 34 = .ok (.iload_n 3, 1) := by decide +kernel
theorem dX3_copyRun_35 : decode cX3_copyRun 35 = .ok (.aaload, 1) := by decide +kernel
theorem dX3_copyRun_36 : decode cX3_copyRun 36 = .ok (.iload 4, 2) := by decide +kernel
theorem dX3_copyRun_38 : decode cX3_copyRun 38 = .ok (.iload 5, 2) := by decide +kernel
theorem dX3_copyRun_40 : decode cX3_copyRun 40 = .ok (.invokestatic 45, 3) := by decide +kernel
theorem dX3_copyRun_43 : decode cX3_copyRun 43 = .ok (.return_, 1) := by decide +kernel
set_option maxRecDepth 20000 in
theorem ggX3_howManyThere_X3_isThere : GoodIn wsX3_howManyThere wsX3_isThere := goodIn_r _ [6, 1, 7, 8, 9, 5, 10, 11, 12, 13] (by decide +kernel) (by decide +kernel)
set_option maxRecDepth 20000 in
theorem gX3_howManyThere_X3_isThere : GoodIn wsX3_howManyThere (wsV RX3 34 RX3 yX3_isThere wsX3_isThere) := goodIn_app (goodIn_of _ (by decide +kernel)) ggX3_howManyThere_X3_isThere
theorem dX3_howManyThere_0 : decode cX3_howManyThere 0 = .ok (.iconst 0, 1) := by decide +kernel
theorem dX3_howManyThere_1 : decode cX3_howManyThere 1 = .ok (.istore_n 1, 1) := by decide +kernel
theorem dX3_howManyThere_2 : decode cX3_howManyThere 2 = .ok (.iconst 0, 1) := by decide +kernel
theorem dX3_howManyThere_3 : decode cX3_howManyThere 3 = .ok (.istore_n 2, 1) := by decide +kernel
theorem dX3_howManyThere_4 : decode cX3_howManyThere 4 = .ok (.iload_n 2, 1) := by decide +kernel
theorem dX3_howManyThere_5 : decode cX3_howManyThere 5 = .ok (.aload_n 0, 1) := by decide +kernel
theorem dX3_howManyThere_6 : decode cX3_howManyThere 6 = .ok (.getfield 26, 3) := by decide +kernel
theorem dX3_howManyThere_9 : decode cX3_howManyThere 9 = .ok (.arraylength, 1) := by decide +kernel
theorem dX3_howManyThere_10 : decode cX3_howManyThere 10 = .ok (.if_icmp .ge 20, 3) := by decide +kernel
theorem dX3_howManyThere_13 : decode cX3_howManyThere 13 = .ok (.aload_n 0, 1) := by decide +kernel
theorem dX3_howManyThere_14 : decode cX3_howManyThere 14 = .ok (.iload_n 2, 1) := by decide +kernel
theorem dX3_howManyThere_15 : decode cX3_howManyThere 15 = .ok (.invokevirtual 34, 3) := by decide +kernel
theorem dX3_howManyThere_18 : decode cX3_howManyThere 18 = .ok (.ifCond .eq 6, 3) := by decide +kernel
theorem dX3_howManyThere_21 : decode cX3_howManyThere 21 = .ok (.iinc 1 1, 3) := by decide +kernel
theorem dX3_howManyThere_24 : decode cX3_howManyThere 24 = .ok (.iinc 2 1, 3) := by decide +kernel
theorem dX3_howManyThere_27 : decode cX3_howManyThere 27 = .ok (.goto (-23), 3) := by decide +kernel
theorem dX3_howManyThere_30 : decode cX3_howManyThere 30 = .ok (.iload_n 1, 1) := by decide +kernel
theorem dX3_howManyThere_31 : decode cX3_howManyThere 31 = .ok (.ireturn, 1) := by decide +kernel
set_option maxRecDepth 20000 in
theorem ggX3_digestOn_X3_get : GoodIn wsX3_digestOn wsX3_get := goodIn_r _ [7, 8, 9, 10, 11, 6, 12, 1, 13, 14, 15, 16, 17, 18, 19] (by decide +kernel) (by decide +kernel)
set_option maxRecDepth 20000 in
theorem gX3_digestOn_X3_get : GoodIn wsX3_digestOn (wsV RX3 53 RX3 yX3_get wsX3_get) := goodIn_app (goodIn_of _ (by decide +kernel)) ggX3_digestOn_X3_get
theorem dX3_digestOn_0 : decode cX3_digestOn 0 = .ok (.lload_n 1, 1) := by decide +kernel
theorem dX3_digestOn_1 : decode cX3_digestOn 1 = .ok (.lstore_n 3, 1) := by decide +kernel
theorem dX3_digestOn_2 : decode cX3_digestOn 2 = .ok (.iconst 0, 1) := by decide +kernel
theorem dX3_digestOn_3 : decode cX3_digestOn 3 = .ok (.istore 5, 2) := by decide +kernel
theorem dX3_digestOn_5 : decode cX3_digestOn 5 = .ok (.iload 5, 2) := by decide +kernel
theorem dX3_digestOn_7 : decode cX3_digestOn 7 = .ok (.aload_n 0, 1) := by decide +kernel
theorem dX3_digestOn_8 : decode cX3_digestOn 8 = .ok (.getfield 26, 3) := by decide +kernel
theorem dX3_digestOn_11 : decode cX3_digestOn 11 = .ok (.arraylength, 1) := by decide +kernel
theorem dX3_digestOn_12 : decode cX3_digestOn 12 = .ok (.if_icmp .ge 61, 3) := by decide +kernel
theorem dX3_digestOn_15 : decode cX3_digestOn 15 = .ok (.ldc2_w 51, 3) := by decide +kernel
theorem dX3_digestOn_18 : decode cX3_digestOn 18 = .ok (.lload_n 3, 1) := by decide +kernel
theorem dX3_digestOn_19 : decode cX3_digestOn 19 = .ok (.lmul, 1) := by decide +kernel
theorem dX3_digestOn_20 : decode cX3_digestOn 20 = .ok (.aload_n 0, 1) := by decide +kernel
theorem dX3_digestOn_21 : decode cX3_digestOn 21 = .ok (.getfield 26, 3) := by decide +kernel
theorem dX3_digestOn_24 : decode cX3_digestOn 24 = .ok (.iload 5, 2) := by decide +kernel
theorem dX3_digestOn_26 : decode cX3_digestOn 26 = .ok (.iaload, 1) := by decide +kernel
theorem dX3_digestOn_27 : decode cX3_digestOn 27 = .ok (.i2l, 1) := by decide +kernel
theorem dX3_digestOn_28 : decode cX3_digestOn 28 = .ok (.ladd, 1) := by decide +kernel
theorem dX3_digestOn_29 : decode cX3_digestOn 29 = .ok (.lstore_n 3, 1) := by decide +kernel
theorem dX3_digestOn_30 : decode cX3_digestOn 30 = .ok (.iconst 0, 1) := by decide +kernel
theorem dX3_digestOn_31 : decode cX3_digestOn 31 = .ok (.istore 6, 2) := by decide +kernel
theorem dX3_digestOn_33 : decode cX3_digestOn 33 = .ok (.iload 6, 2) := by decide +kernel
theorem dX3_digestOn_35 : decode cX3_digestOn 35 = .ok (.aload_n 0, 1) := by decide +kernel
theorem dX3_digestOn_36 : decode cX3_digestOn 36 = .ok (.getfield 26, 3) := by decide +kernel
theorem dX3_digestOn_39 : decode cX3_digestOn 39 = .ok (.iload 5, 2) := by decide +kernel
theorem dX3_digestOn_41 : decode cX3_digestOn 41 = .ok (.iaload, 1) := by decide +kernel
theorem dX3_digestOn_42 : decode cX3_digestOn 42 = .ok (.if_icmp .ge 25, 3) := by decide +kernel
theorem dX3_digestOn_45 : decode cX3_digestOn 45 = .ok (.ldc2_w 51, 3) := by decide +kernel
theorem dX3_digestOn_48 : decode cX3_digestOn 48 = .ok (.lload_n 3, 1) := by decide +kernel
theorem dX3_digestOn_49 : decode cX3_digestOn 49 = .ok (.lmul, 1) := by decide +kernel
theorem dX3_digestOn_50 : decode cX3_digestOn 50 = .ok (.aload_n 0, 1) := by decide +kernel
theorem dX3_digestOn_51 : decode cX3_digestOn 51 = .ok (.iload 5, 2) := by decide +kernel
theorem dX3_digestOn_53 : decode cX3_digestOn 53 = .ok (.iload 6, 2) := by decide +kernel
theorem dX3_digestOn_55 : decode cX3_digestOn 55 = .ok (.invokevirtual 53, 3) := by decide +kernel
theorem dX3_digestOn_58 : decode cX3_digestOn 58 = .ok (.i2l, 1) := by decide +kernel
theorem dX3_digestOn_59 : decode cX3_digestOn 59 = .ok (.ladd, 1) := by decide +kernel
theorem dX3_digestOn_60 : decode cX3_digestOn 60 = .ok (.lstore_n 3, 1) := by decide +kernel
theorem dX3_digestOn_61 : decode cX3_digestOn 61 = .ok (.iinc 6 1, 3) := by decide +kernel
theorem dX3_digestOn_64 : decode cX3_digestOn 64 = .ok (.goto (-31), 3) := by decide +kernel
theorem dX3_digestOn_67 : decode cX3_digestOn 67 = .ok (.iinc 5 1, 3) := by decide +kernel
theorem dX3_digestOn_70 : decode cX3_digestOn 70 = .ok (.goto (-65), 3) := by decide +kernel
theorem dX3_digestOn_73 : decode cX3_digestOn 73 = .ok (.lload_n 3, 1) := by decide +kernel
theorem dX3_digestOn_74 : decode cX3_digestOn 74 = .ok (.lreturn, 1) := by decide +kernel
theorem dX4_init_0 : decode cX4_init 0 = .ok (.aload_n 0, 1) := by decide +kernel
theorem dX4_init_1 : decode cX4_init 1 = .ok (.invokespecial 3, 3) := by decide +kernel
theorem dX4_init_4 : decode cX4_init 4 = .ok (.aload_n 0, 1) := by decide +kernel
theorem dX4_init_5 : decode cX4_init 5 = .ok (.iconst 0, 1) := by decide +kernel
theorem dX4_init_6 : decode cX4_init 6 = .ok (.putfield 9, 3) := by decide +kernel
theorem dX4_init_9 : decode cX4_init 9 = .ok (.aload_n 0, 1) := by decide +kernel
theorem dX4_init_10 : decode cX4_init 10 = .ok (.lconst 0, 1) := by decide +kernel
theorem dX4_init_11 : decode cX4_init 11 = .ok (.putfield 15, 3) := by decide +kernel
theorem dX4_init_14 : decode cX4_init 14 = .ok (.aload_n 0, 1) := by decide +kernel
theorem dX4_init_15 : decode cX4_init 15 = .ok (.lconst 1, 1) := by decide +kernel
theorem dX4_init_16 : decode cX4_init 16 = .ok (.putfield 19, 3) := by decide +kernel
theorem dX4_init_19 : decode cX4_init 19 = .ok (.aload_n 0, 1) := by decide +kernel
theorem dX4_init_20 : decode cX4_init 20 = .ok (.iconst 0, 1) := by decide +kernel
theorem dX4_init_21 : decode cX4_init 21 = .ok (.putfield 22, 3) := by decide +kernel
theorem dX4_init_24 : decode cX4_init 24 = .ok (.aload_n 0, 1) := by decide +kernel
theorem dX4_init_25 : decode cX4_init 25 = .ok (.bipush 6, 2) := by decide +kernel
theorem dX4_init_27 : decode cX4_init 27 = .ok (.newarray .int, 2) := by decide +kernel
theorem dX4_init_29 : decode cX4_init 29 = .ok (.putfield 25, 3) := by decide +kernel
theorem dX4_init_32 : decode cX4_init 32 = .ok (.return_, 1) := by decide +kernel
theorem dX4_found_0 : decode cX4_found 0 = .ok (.aload_n 0, 1) := by decide +kernel
theorem dX4_found_1 : decode cX4_found 1 = .ok (.iload_n 1, 1) := by decide +kernel
theorem dX4_found_2 : decode cX4_found 2 = .ok (.putfield 22, 3) := by decide +kernel
theorem dX4_found_5 : decode cX4_found 5 = .ok (.iload_n 1, 1) := by decide +kernel
theorem dX4_found_6 : decode cX4_found 6 = .ok (.ifCond .lt 22, 3) := by decide +kernel
theorem dX4_found_9 : decode cX4_found 9 = .ok (.iload_n 1, 1) := by decide +kernel
theorem dX4_found_10 : decode cX4_found 10 = .ok (.aload_n 0, 1) := by decide +kernel
theorem dX4_found_11 : decode cX4_found 11 = .ok (.getfield 25, 3) := by decide +kernel
theorem dX4_found_14 : decode cX4_found 14 = .ok (.arraylength, 1) := by decide +kernel
theorem dX4_found_15 : decode cX4_found 15 = .ok (.if_icmp .ge 13, 3) := by decide +kernel
theorem dX4_found_18 : decode cX4_found 18 = .ok (.aload_n 0, 1) := by decide +kernel
theorem dX4_found_19 : decode cX4_found 19 = .ok (.getfield 25, 3) := by decide +kernel
theorem dX4_found_22 : decode cX4_found 22 = .ok (.iload_n 1, 1) := by decide +kernel
theorem dX4_found_23 : decode cX4_found 23 = .ok (.dup2, 1) := by decide +kernel
theorem dX4_found_24 : decode cX4_found 24 = .ok (.iaload, 1) := by decide +kernel
theorem dX4_found_25 : decode cX4_found 25 = .ok (.iconst 1, 1) := by decide +kernel
theorem dX4_found_26 : decode cX4_found 26 = .ok (.iadd, 1) := by decide +kernel
theorem dX4_found_27 : decode cX4_found 27 = .ok (.iastore, 1) := by decide +kernel
theorem dX4_found_28 : decode cX4_found 28 = .ok (.bipush (-3), 2) := by decide +kernel
theorem dX4_found_30 : decode cX4_found 30 = .ok (.ireturn, 1) := by decide +kernel
set_option maxRecDepth 20000 in
theorem ggX4_tell_X4_greatestShared : GoodIn wsX4_tell wsX4_greatestShared := goodIn_r _ [6] (by decide +kernel) (by decide +kernel)
set_option maxRecDepth 20000 in
theorem gX4_tell_X4_greatestShared : GoodIn wsX4_tell (va_wsS RX4 29 yX4_greatestShared wsX4_greatestShared) := goodIn_app (goodIn_of _ (by decide +kernel)) ggX4_tell_X4_greatestShared
theorem dX4_tell_0 : decode cX4_tell 0 = .ok (.lload_n 1, 1) := by decide +kernel
theorem dX4_tell_1 : decode cX4_tell 1 = .ok (.lload_n 3, 1) := by decide +kernel
theorem dX4_tell_2 : decode cX4_tell 2 = .ok (.invokestatic 29, 3) := by decide +kernel
theorem dX4_tell_5 : decode cX4_tell 5 = .ok (.lstore 5, 2) := by decide +kernel
theorem dX4_tell_7 : decode cX4_tell 7 = .ok (.lload 5, 2) := by decide +kernel
theorem dX4_tell_9 : decode cX4_tell 9 = .ok (.lconst 0, 1) := by decide +kernel
theorem dX4_tell_10 : decode cX4_tell 10 = .ok (.lcmp, 1) := by decide +kernel
theorem dX4_tell_11 : decode cX4_tell 11 = .ok (.ifCond .le 19, 3) := by decide +kernel
theorem dX4_tell_14 : decode cX4_tell 14 = .ok (.aload_n 0, 1) := by decide +kernel
theorem dX4_tell_15 : decode cX4_tell 15 = .ok (.lload_n 1, 1) := by decide +kernel
theorem dX4_tell_16 : decode cX4_tell 16 = .ok (.lload 5, 2) := by decide +kernel
theorem dX4_tell_18 : decode cX4_tell 18 = .ok (.ldiv, 1) := by decide +kernel
theorem dX4_tell_19 : decode cX4_tell 19 = .ok (.putfield 15, 3) := by decide +kernel
theorem dX4_tell_22 : decode cX4_tell 22 = .ok (.aload_n 0, 1) := by decide +kernel
theorem dX4_tell_23 : decode cX4_tell 23 = .ok (.lload_n 3, 1) := by decide +kernel
theorem dX4_tell_24 : decode cX4_tell 24 = .ok (.lload 5, 2) := by decide +kernel
theorem dX4_tell_26 : decode cX4_tell 26 = .ok (.ldiv, 1) := by decide +kernel
theorem dX4_tell_27 : decode cX4_tell 27 = .ok (.putfield 19, 3) := by decide +kernel
theorem dX4_tell_30 : decode cX4_tell 30 = .ok (.return_, 1) := by decide +kernel
theorem dX4_greatestShared_0 : decode cX4_greatestShared 0 = .ok (.lload_n 0, 1) := by decide +kernel
theorem dX4_greatestShared_1 : decode cX4_greatestShared 1 = .ok (.lstore 4, 2) := by decide +kernel
theorem dX4_greatestShared_3 : decode cX4_greatestShared 3 = .ok (.lload_n 2, 1) := by decide +kernel
theorem dX4_greatestShared_4 : decode cX4_greatestShared 4 = .ok (.lstore 6, 2) := by decide +kernel
theorem dX4_greatestShared_6 : decode cX4_greatestShared 6 = .ok (.iconst 0, 1) := by decide +kernel
theorem dX4_greatestShared_7 : decode cX4_greatestShared 7 = .ok (.istore 8, 2) := by decide +kernel
theorem dX4_greatestShared_9 : decode cX4_greatestShared 9 = .ok (.iload 8, 2) := by decide +kernel
theorem dX4_greatestShared_11 : decode cX4_greatestShared 11 = .ok (.bipush 100, 2) := by decide +kernel
theorem dX4_greatestShared_13 : decode cX4_greatestShared 13 = .ok (.if_icmp .ge 31, 3) := by decide +kernel
theorem dX4_greatestShared_16 : decode cX4_greatestShared 16 = .ok (.lload 6, 2) := by decide +kernel
theorem dX4_greatestShared_18 : decode cX4_greatestShared 18 = .ok (.lconst 0, 1) := by decide +kernel
theorem dX4_greatestShared_19 : decode cX4_greatestShared 19 = .ok (.lcmp, 1) := by decide +kernel
theorem dX4_greatestShared_20 : decode cX4_greatestShared 20 = .ok (.ifCond .eq 24, 3) := by decide +kernel
theorem dX4_greatestShared_23 : decode cX4_greatestShared 23 = .ok (.lload 4, 2) := by decide +kernel
theorem dX4_greatestShared_25 : decode cX4_greatestShared 25 = .ok (.lload 6, 2) := by decide +kernel
theorem dX4_greatestShared_27 : decode cX4_greatestShared 27 = .ok (.lrem, 1) := by decide +kernel
theorem dX4_greatestShared_28 : decode cX4_greatestShared 28 = .ok (.lstore 9, 2) := by decide +kernel
theorem dX4_greatestShared_30 : decode cX4_greatestShared 30 = .ok (.lload 6, 2) := by decide +kernel
theorem dX4_greatestShared_32 : decode cX4_greatestShared 32 = .ok (.lstore 4, 2) := by decide +kernel
theorem dX4_greatestShared_34 : decode cX4_greatestShared 34 = .ok (.lload 9, 2) := by decide +kernel
theorem dX4_greatestShared_36 : decode cX4_greatestShared 36 = .ok (.lstore 6, 2) := by decide +kernel
theorem dX4_greatestShared_38 : decode cX4_greatestShared 38 = .ok (.iinc 8 1, 3) := by decide +kernel
theorem dX4_greatestShared_41 : decode cX4_greatestShared 41 = .ok (.goto (-32), 3) := by decide +kernel
theorem dX4_greatestShared_44 : decode cX4_greatestShared 44 = .ok (.lload 4, 2) := by decide +kernel
theorem dX4_greatestShared_46 : decode cX4_greatestShared 46 = .ok (.lreturn, 1) := by decide +kernel
set_option maxRecDepth 20000 in
theorem ggX5_init_X3_init : GoodIn wsX5_init wsX3_init := goodIn_r _ [30, 31, 2, 3, 32, 33, 34, 35, 36, 37, 26, 38, 39, 77, 78, 79] (by decide +kernel) (by decide +kernel)
set_option maxRecDepth 20000 in
theorem gX5_init_X3_init : GoodIn wsX5_init (wsX3_init) := ggX5_init_X3_init
set_option maxRecDepth 20000 in
theorem ggX5_init_X4_init : GoodIn wsX5_init wsX4_init := goodIn_r _ [41, 42, 2, 3, 43, 44, 45, 46, 26, 47, 88, 89, 90, 91, 92] (by decide +kernel) (by decide +kernel)
set_option maxRecDepth 20000 in
theorem gX5_init_X4_init_n23 : GoodIn wsX5_init (wsX4_init) := ggX5_init_X4_init
set_option maxRecDepth 20000 in
theorem ggX5_init_X2_init : GoodIn wsX5_init wsX2_init := goodIn_r _ [49, 50, 2, 3, 51, 22, 23, 52, 53, 54, 55, 56, 57, 58, 59, 60, 26, 61, 62, 63, 64, 65, 66, 67, 68, 69, 98, 99, 100, 101, 102, 103, 104, 105, 106, 107, 108, 109, 110, 111, 93] (by decide +kernel) (by decide +kernel)
set_option maxRecDepth 20000 in
theorem gX5_init_X2_init_n30 : GoodIn wsX5_init (wsX2_init) := ggX5_init_X2_init
set_option maxRecDepth 20000 in
theorem ggX5_init_X1_init : GoodIn wsX5_init wsX1_init := goodIn_r _ [71, 72, 2, 3, 73, 74, 75, 76, 94, 95, 96, 97] (by decide +kernel) (by decide +kernel)
set_option maxRecDepth 20000 in
theorem gX5_init_X1_init_n37 : GoodIn wsX5_init (wsX1_init) := ggX5_init_X1_init
set_option maxRecDepth 20000 in
theorem ggX5_init_X0_init : GoodIn wsX5_init wsX0_init := goodIn_r _ [54, 55, 2, 3, 56, 57, 58, 59, 60, 26, 61, 62, 63, 64, 65, 66, 67, 68, 69, 98, 99, 100, 101, 102, 103, 104, 105, 106, 107, 108, 109, 110, 111] (by decide +kernel) (by decide +kernel)
set_option maxRecDepth 20000 in
theorem gX5_init_X0_init_n44 : GoodIn wsX5_init (wsX0_init) := ggX5_init_X0_init
theorem dX5_init_0 : decode cX5_init 0 = .ok (.aload_n 0, 1) := by decide +kernel
theorem dX5_init_1 : decode cX5_init 1 = .ok (.invokespecial 3, 3) := by decide +kernel
theorem dX5_init_4 : decode cX5_init 4 = .ok (.aload_n 0, 1) := by decide +kernel
theorem dX5_init_5 : decode cX5_init 5 = .ok (.new 9, 3) := by decide +kernel
theorem dX5_init_8 : decode cX5_init 8 = .ok (.dup, 1) := by decide +kernel
theorem dX5_init_9 : decode cX5_init 9 = .ok (.bipush 6, 2) := by decide +kernel
theorem dX5_init_11 : decode cX5_init 11 = .ok (.bipush 40, 2) := by decide +kernel
theorem dX5_init_13 : decode cX5_init 13 = .ok (.invokespecial 11, 3) := by decide +kernel
theorem dX5_init_16 : decode cX5_init 16 = .ok (.putfield 14, 3) := by decide +kernel
theorem dX5_init_19 : decode cX5_init 19 = .ok (.aload_n 0, 1) := by decide +kernel
theorem dX5_init_20 : decode cX5_init 20 = .ok (.new 9, 3) := by decide +kernel
theorem dX5_init_23 : decode cX5_init 23 = .ok (.dup, 1) := by decide +kernel
theorem dX5_init_24 : decode cX5_init 24 = .ok (.iconst 4, 1) := by decide +kernel
theorem dX5_init_25 : decode cX5_init 25 = .ok (.bipush 60, 2) := by decide +kernel
theorem dX5_init_27 : decode cX5_init 27 = .ok (.invokespecial 11, 3) := by decide +kernel
theorem dX5_init_30 : decode cX5_init 30 = .ok (.putfield 18, 3) := by decide +kernel
theorem dX5_init_33 : decode cX5_init 33 = .ok (.aload_n 0, 1) := by decide +kernel
theorem dX5_init_34 : decode cX5_init 34 = .ok (.new 21, 3) := by decide +kernel
theorem dX5_init_37 : decode cX5_init 37 = .ok (.dup, 1) := by decide +kernel
theorem dX5_init_38 : decode cX5_init 38 = .ok (.invokespecial 23, 3) := by decide +kernel
theorem dX5_init_41 : decode cX5_init 41 = .ok (.putfield 24, 3) := by decide +kernel
theorem dX5_init_44 : decode cX5_init 44 = .ok (.aload_n 0, 1) := by decide +kernel
theorem dX5_init_45 : decode cX5_init 45 = .ok (.new 28, 3) := by decide +kernel
theorem dX5_init_48 : decode cX5_init 48 = .ok (.dup, 1) := by decide +kernel
theorem dX5_init_49 : decode cX5_init 49 = .ok (.invokespecial 30, 3) := by decide +kernel
theorem dX5_init_52 : decode cX5_init 52 = .ok (.putfield 31, 3) := by decide +kernel
theorem dX5_init_55 : decode cX5_init 55 = .ok (.aload_n 0, 1) := by decide +kernel
theorem dX5_init_56 : decode cX5_init 56 = .ok (.new 35, 3) := by decide +kernel
theorem dX5_init_59 : decode cX5_init 59 = .ok (.dup, 1) := by decide +kernel
theorem dX5_init_60 : decode cX5_init 60 = .ok (.invokespecial 37, 3) := by decide +kernel
theorem dX5_init_63 : decode cX5_init 63 = .ok (.putfield 38, 3) := by decide +kernel
theorem dX5_init_66 : decode cX5_init 66 = .ok (.aload_n 0, 1) := by decide +kernel
theorem dX5_init_67 : decode cX5_init 67 = .ok (.new 42, 3) := by decide +kernel
theorem dX5_init_70 : decode cX5_init 70 = .ok (.dup, 1) := by decide +kernel
theorem dX5_init_71 : decode cX5_init 71 = .ok (.invokespecial 44, 3) := by decide +kernel
theorem dX5_init_74 : decode cX5_init 74 = .ok (.putfield 45, 3) := by decide +kernel
theorem dX5_init_77 : decode cX5_init 77 = .ok (.aload_n 0, 1) := by decide +kernel
theorem dX5_init_78 : decode cX5_init 78 = .ok (.iconst 3, 1) := by decide +kernel
theorem dX5_init_79 : decode cX5_init 79 = .ok (.anewarray 42, 3) := by decide +kernel
theorem dX5_init_82 : decode cX5_init 82 = .ok (.putfield 49, 3) := by decide +kernel
theorem dX5_init_85 : decode cX5_init 85 = .ok (.aload_n 0, 1) := by decide +kernel
theorem dX5_init_86 : decode cX5_init 86 = .ok (.bipush 50, 2) := by decide +kernel
theorem dX5_init_88 : decode cX5_init 88 = .ok (.newarray .int, 2) := by decide +kernel
theorem dX5_init_90 : decode cX5_init 90 = .ok (.putfield 53, 3) := by decide +kernel
theorem dX5_init_93 : decode cX5_init 93 = .ok (.iconst 0, 1) := by decide +kernel
theorem dX5_init_94 : decode cX5_init 94 = .ok (.istore_n 1, 1) := by decide +kernel
theorem dX5_init_95 : decode cX5_init 95 = .ok (.iload_n 1, 1) := by decide +kernel
theorem dX5_init_96 : decode cX5_init 96 = .ok (.iconst 3, 1) := by decide +kernel
theorem dX5_init_97 : decode cX5_init 97 = .ok (.if_icmp .ge 22, 3) := by decide +kernel
theorem dX5_init_100 : decode cX5_init 100 = .ok (.aload_n 0, 1) := by decide +kernel
theorem dX5_init_101 : decode cX5_init 101 = .ok (.getfield 49, 3) := by decide +kernel
theorem dX5_init_104 : decode cX5_init 104 = .ok (.iload_n 1, 1) := by decide +kernel
theorem dX5_init_105 : decode cX5_init 105 = .ok (.new 42, 3) := by decide +kernel
theorem dX5_init_108 : decode cX5_init 108 = .ok (.dup, 1) := by decide +kernel
theorem dX5_init_109 : decode cX5_init 109 = .ok (.invokespecial 44, 3) := by decide +kernel
theorem dX5_init_112 : decode cX5_init 112 = .ok (.aastore, 1) := by decide +kernel
theorem dX5_init_113 : decode cX5_init 113 = .ok (.iinc 1 1, 3) := by decide +kernel
theorem dX5_init_116 : decode cX5_init 116 = .ok (.goto (-21), 3) := by decide +kernel
theorem dX5_init_119 : decode cX5_init 119 = .ok (.return_, 1) := by decide +kernel
set_option maxRecDepth 20000 in
theorem ggX5_row_X3_isNumber : GoodIn wsX5_row wsX3_isNumber := goodIn_r _ [7, 8, 31, 32, 33] (by decide +kernel) (by decide +kernel)
set_option maxRecDepth 20000 in
theorem gX5_row_X3_isNumber : GoodIn wsX5_row (wsV RX5 57 RX3 yX3_isNumber wsX3_isNumber) := goodIn_app (goodIn_of _ (by decide +kernel)) ggX5_row_X3_isNumber
set_option maxRecDepth 20000 in
theorem ggX5_row_X4_found : GoodIn wsX5_row wsX4_found := goodIn_r _ [13, 14, 15, 34, 35, 36, 37, 38] (by decide +kernel) (by decide +kernel)
set_option maxRecDepth 20000 in
theorem gX5_row_X4_found : GoodIn wsX5_row (wsV RX5 61 RX4 yX4_found wsX4_found) := goodIn_app (goodIn_of _ (by decide +kernel)) ggX5_row_X4_found
set_option maxRecDepth 20000 in
theorem ggX5_row_X3_make : GoodIn wsX5_row wsX3_make := goodIn_r _ [19, 20, 8, 21, 22, 4, 5, 6, 7, 31, 32, 33] (by decide +kernel) (by decide +kernel)
set_option maxRecDepth 20000 in
theorem gX5_row_X3_make : GoodIn wsX5_row (wsV RX5 65 RX3 yX3_make wsX3_make) := goodIn_app (goodIn_of _ (by decide +kernel)) ggX5_row_X3_make
theorem dX5_row_0 : decode cX5_row 0 = .ok (.aload_n 0, 1) := by decide +kernel
theorem dX5_row_1 : decode cX5_row 1 = .ok (.getfield 14, 3) := by decide +kernel
theorem dX5_row_4 : decode cX5_row 4 = .ok (.iload_n 1, 1) := by decide +kernel
theorem dX5_row_5 : decode cX5_row 5 = .ok (.invokevirtual 57, 3) := by decide +kernel
theorem dX5_row_8 : decode cX5_row 8 = .ok (.ifCond .eq 9, 3) := by decide +kernel
theorem dX5_row_11 : decode cX5_row 11 = .ok (.iload_n 2, 1) := by decide +kernel
theorem dX5_row_12 : decode cX5_row 12 = .ok (.bipush 40, 2) := by decide +kernel
theorem dX5_row_14 : decode cX5_row 14 = .ok (.if_icmp .le 5, 3) := by decide +kernel
theorem dX5_row_17 : decode cX5_row 17 = .ok (.iconst (-1), 1) := by decide +kernel
theorem dX5_row_18 : decode cX5_row 18 = .ok (.ireturn, 1) := by decide +kernel
theorem dX5_row_19 : decode cX5_row 19 = .ok (.iload_n 2, 1) := by decide +kernel
theorem dX5_row_20 : decode cX5_row 20 = .ok (.ifCond .ge 12, 3) := by decide +kernel
theorem dX5_row_23 : decode cX5_row 23 = .ok (.aload_n 0, 1) := by decide +kernel
theorem dX5_row_24 : decode cX5_row 24 = .ok (.getfield 24, 3) := by decide +kernel
theorem dX5_row_27 : decode cX5_row 27 = .ok (.iconst 5, 1) := by decide +kernel
theorem dX5_row_28 : decode cX5_row 28 = .ok (.invokevirtual 61, 3) := by decide +kernel
theorem dX5_row_31 : decode cX5_row 31 = .ok (.ireturn, 1) := by decide +kernel
theorem dX5_row_32 : decode cX5_row 32 = .ok (.aload_n 0, 1) := by decide +kernel
theorem dX5_row_33 : decode cX5_row 33 = .ok (.getfield 14, 3) := by decide +kernel
theorem dX5_row_36 : decode cX5_row 36 = .ok (.iload_n 1, 1) := by decide +kernel
theorem dX5_row_37 : decode cX5_row 37 = .ok (.iload_n 2, 1) := by decide +kernel
theorem dX5_row_38 : decode cX5_row 38 = .ok (.iconst 0, 1) := by decide +kernel
theorem dX5_row_39 : decode cX5_row 39 = .ok (.invokevirtual 65, 3) := by decide +kernel
theorem dX5_row_42 : decode cX5_row 42 = .ok (.iload_n 2, 1) := by decide +kernel
theorem dX5_row_43 : decode cX5_row 43 = .ok (.ireturn, 1) := by decide +kernel
set_option maxRecDepth 20000 in
theorem ggX5_lay_X5_placeRefused : GoodIn wsX5_lay wsX5_placeRefused := goodIn_r _ [7, 2, 8, 9, 10, 6, 11, 12, 13, 14, 15, 16, 17, 18, 19, 20, 21, 22, 23, 24, 25, 26, 27, 28, 29, 30, 31, 32, 33, 44, 45, 46, 47, 48, 49, 50, 51, 57, 58, 59, 52, 53, 54, 55, 56] (by decide +kernel) (by decide +kernel)
set_option maxRecDepth 20000 in
theorem gX5_lay_X5_placeRefused : GoodIn wsX5_lay (wsV RX5 69 RX5 yX5_placeRefused wsX5_placeRefused) := goodIn_app (goodIn_of _ (by decide +kernel)) ggX5_lay_X5_placeRefused
set_option maxRecDepth 20000 in
theorem ggX5_lay_X3_get : GoodIn wsX5_lay wsX3_get := goodIn_r _ [37, 38, 39, 31, 32, 15, 33, 17, 22, 13, 14, 16, 57, 58, 59] (by decide +kernel) (by decide +kernel)
set_option maxRecDepth 20000 in
theorem gX5_lay_X3_get : GoodIn wsX5_lay (wsV RX5 73 RX3 yX3_get wsX3_get) := goodIn_app (goodIn_of _ (by decide +kernel)) ggX5_lay_X3_get
set_option maxRecDepth 20000 in
theorem ggX5_lay_X3_set : GoodIn wsX5_lay wsX3_set := goodIn_r _ [43, 38, 39, 31, 32, 15, 33, 17, 22, 13, 14, 16, 57, 58, 59] (by decide +kernel) (by decide +kernel)
set_option maxRecDepth 20000 in
theorem gX5_lay_X3_set : GoodIn wsX5_lay (wsV RX5 81 RX3 yX3_set wsX3_set) := goodIn_app (goodIn_of _ (by decide +kernel)) ggX5_lay_X3_set
theorem dX5_lay_0 : decode cX5_lay 0 = .ok (.aload_n 0, 1) := by decide +kernel
theorem dX5_lay_1 : decode cX5_lay 1 = .ok (.aload_n 0, 1) := by decide +kernel
theorem dX5_lay_2 : decode cX5_lay 2 = .ok (.getfield 14, 3) := by decide +kernel
theorem dX5_lay_5 : decode cX5_lay 5 = .ok (.iload_n 1, 1) := by decide +kernel
theorem dX5_lay_6 : decode cX5_lay 6 = .ok (.iload_n 2, 1) := by decide +kernel
theorem dX5_lay_7 : decode cX5_lay 7 = .ok (.invokevirtual 69, 3) := by decide +kernel
theorem dX5_lay_10 : decode cX5_lay 10 = .ok (.istore 4, 2) := by decide +kernel
theorem dX5_lay_12 : decode cX5_lay 12 = .ok (.iload 4, 2) := by decide +kernel
theorem dX5_lay_14 : decode cX5_lay 14 = .ok (.ifCond .eq 6, 3) := by decide +kernel
theorem dX5_lay_17 : decode cX5_lay 17 = .ok (.iload 4, 2) := by decide +kernel
theorem dX5_lay_19 : decode cX5_lay 19 = .ok (.ireturn, 1) := by decide +kernel
theorem dX5_lay_20 : decode cX5_lay 20 = .ok (.aload_n 0, 1) := by decide +kernel
theorem dX5_lay_21 : decode cX5_lay 21 = .ok (.getfield 24, 3) := by decide +kernel
theorem dX5_lay_24 : decode cX5_lay 24 = .ok (.aload_n 0, 1) := by decide +kernel
theorem dX5_lay_25 : decode cX5_lay 25 = .ok (.getfield 14, 3) := by decide +kernel
theorem dX5_lay_28 : decode cX5_lay 28 = .ok (.iload_n 1, 1) := by decide +kernel
theorem dX5_lay_29 : decode cX5_lay 29 = .ok (.iload_n 2, 1) := by decide +kernel
theorem dX5_lay_30 : decode cX5_lay 30 = .ok (.invokevirtual 73, 3) := by decide +kernel
theorem dX5_lay_33 : decode cX5_lay 33 = .ok (.putfield 77, 3) := by decide +kernel
theorem dX5_lay_36 : decode cX5_lay 36 = .ok (.aload_n 0, 1) := by decide +kernel
theorem dX5_lay_37 : decode cX5_lay 37 = .ok (.getfield 14, 3) := by decide +kernel
theorem dX5_lay_40 : decode cX5_lay 40 = .ok (.iload_n 1, 1) := by decide +kernel
theorem dX5_lay_41 : decode cX5_lay 41 = .ok (.iload_n 2, 1) := by decide +kernel
theorem dX5_lay_42 : decode cX5_lay 42 = .ok (.iload_n 3, 1) := by decide +kernel
theorem dX5_lay_43 : decode cX5_lay 43 = .ok (.invokevirtual 81, 3) := by decide +kernel
theorem dX5_lay_46 : decode cX5_lay 46 = .ok (.iconst 1, 1) := by decide +kernel
