theorem dX5_lay_47 : decode cX5_lay 47 = .ok (.ireturn, 1) := by decide +kernel
set_option maxRecDepth 20000 in
theorem ggX5_at_X5_placeRefused : GoodIn wsX5_at wsX5_placeRefused := goodIn_r _ [7, 2, 8, 9, 10, 6, 11, 12, 13, 14, 15, 16, 17, 18, 19, 20, 21, 22, 23, 24, 25, 26, 27, 28, 29, 30, 31, 32, 33, 40, 41, 42, 43, 44, 45, 46, 47, 53, 54, 55, 48, 49, 50, 51, 52] (by decide +kernel) (by decide +kernel)
set_option maxRecDepth 20000 in
theorem gX5_at_X5_placeRefused : GoodIn wsX5_at (wsV RX5 69 RX5 yX5_placeRefused wsX5_placeRefused) := goodIn_app (goodIn_of _ (by decide +kernel)) ggX5_at_X5_placeRefused
set_option maxRecDepth 20000 in
theorem ggX5_at_X3_get : GoodIn wsX5_at wsX3_get := goodIn_r _ [37, 38, 39, 31, 32, 15, 33, 17, 22, 13, 14, 16, 53, 54, 55] (by decide +kernel) (by decide +kernel)
set_option maxRecDepth 20000 in
theorem gX5_at_X3_get : GoodIn wsX5_at (wsV RX5 73 RX3 yX3_get wsX3_get) := goodIn_app (goodIn_of _ (by decide +kernel)) ggX5_at_X3_get
theorem dX5_at_0 : decode cX5_at 0 = .ok (.aload_n 0, 1) := by decide +kernel
theorem dX5_at_1 : decode cX5_at 1 = .ok (.aload_n 0, 1) := by decide +kernel
theorem dX5_at_2 : decode cX5_at 2 = .ok (.getfield 14, 3) := by decide +kernel
theorem dX5_at_5 : decode cX5_at 5 = .ok (.iload_n 1, 1) := by decide +kernel
theorem dX5_at_6 : decode cX5_at 6 = .ok (.iload_n 2, 1) := by decide +kernel
theorem dX5_at_7 : decode cX5_at 7 = .ok (.invokevirtual 69, 3) := by decide +kernel
theorem dX5_at_10 : decode cX5_at 10 = .ok (.istore_n 3, 1) := by decide +kernel
theorem dX5_at_11 : decode cX5_at 11 = .ok (.iload_n 3, 1) := by decide +kernel
theorem dX5_at_12 : decode cX5_at 12 = .ok (.ifCond .eq 5, 3) := by decide +kernel
theorem dX5_at_15 : decode cX5_at 15 = .ok (.iload_n 3, 1) := by decide +kernel
theorem dX5_at_16 : decode cX5_at 16 = .ok (.ireturn, 1) := by decide +kernel
theorem dX5_at_17 : decode cX5_at 17 = .ok (.aload_n 0, 1) := by decide +kernel
theorem dX5_at_18 : decode cX5_at 18 = .ok (.getfield 24, 3) := by decide +kernel
theorem dX5_at_21 : decode cX5_at 21 = .ok (.aload_n 0, 1) := by decide +kernel
theorem dX5_at_22 : decode cX5_at 22 = .ok (.getfield 14, 3) := by decide +kernel
theorem dX5_at_25 : decode cX5_at 25 = .ok (.iload_n 1, 1) := by decide +kernel
theorem dX5_at_26 : decode cX5_at 26 = .ok (.iload_n 2, 1) := by decide +kernel
theorem dX5_at_27 : decode cX5_at 27 = .ok (.invokevirtual 73, 3) := by decide +kernel
theorem dX5_at_30 : decode cX5_at 30 = .ok (.putfield 77, 3) := by decide +kernel
theorem dX5_at_33 : decode cX5_at 33 = .ok (.iconst 1, 1) := by decide +kernel
theorem dX5_at_34 : decode cX5_at 34 = .ok (.ireturn, 1) := by decide +kernel
set_option maxRecDepth 20000 in
theorem ggX5_tear_X5_missingRefused : GoodIn wsX5_tear wsX5_missingRefused := goodIn_r _ [6, 7, 8, 9, 10, 11, 12, 13, 14, 15, 16, 17, 18, 19, 20, 21, 22, 23, 24, 25, 30, 31, 32, 33, 34, 35, 36, 37, 38, 39, 40, 41, 42, 43, 44, 45] (by decide +kernel) (by decide +kernel)
set_option maxRecDepth 20000 in
theorem gX5_tear_X5_missingRefused : GoodIn wsX5_tear (wsV RX5 84 RX5 yX5_missingRefused wsX5_missingRefused) := goodIn_app (goodIn_of _ (by decide +kernel)) ggX5_tear_X5_missingRefused
set_option maxRecDepth 20000 in
theorem ggX5_tear_X3_remove : GoodIn wsX5_tear wsX3_remove := goodIn_r _ [29, 13, 18, 9, 10, 11, 12, 38, 39, 40] (by decide +kernel) (by decide +kernel)
set_option maxRecDepth 20000 in
theorem gX5_tear_X3_remove : GoodIn wsX5_tear (wsV RX5 88 RX3 yX3_remove wsX3_remove) := goodIn_app (goodIn_of _ (by decide +kernel)) ggX5_tear_X3_remove
theorem dX5_tear_0 : decode cX5_tear 0 = .ok (.aload_n 0, 1) := by decide +kernel
theorem dX5_tear_1 : decode cX5_tear 1 = .ok (.aload_n 0, 1) := by decide +kernel
theorem dX5_tear_2 : decode cX5_tear 2 = .ok (.getfield 14, 3) := by decide +kernel
theorem dX5_tear_5 : decode cX5_tear 5 = .ok (.iload_n 1, 1) := by decide +kernel
theorem dX5_tear_6 : decode cX5_tear 6 = .ok (.invokevirtual 84, 3) := by decide +kernel
theorem dX5_tear_9 : decode cX5_tear 9 = .ok (.istore_n 2, 1) := by decide +kernel
theorem dX5_tear_10 : decode cX5_tear 10 = .ok (.iload_n 2, 1) := by decide +kernel
theorem dX5_tear_11 : decode cX5_tear 11 = .ok (.ifCond .eq 5, 3) := by decide +kernel
theorem dX5_tear_14 : decode cX5_tear 14 = .ok (.iload_n 2, 1) := by decide +kernel
theorem dX5_tear_15 : decode cX5_tear 15 = .ok (.ireturn, 1) := by decide +kernel
theorem dX5_tear_16 : decode cX5_tear 16 = .ok (.aload_n 0, 1) := by decide +kernel
theorem dX5_tear_17 : decode cX5_tear 17 = .ok (.getfield 14, 3) := by decide +kernel
theorem dX5_tear_20 : decode cX5_tear 20 = .ok (.iload_n 1, 1) := by decide +kernel
theorem dX5_tear_21 : decode cX5_tear 21 = .ok (.invokevirtual 88, 3) := by decide +kernel
theorem dX5_tear_24 : decode cX5_tear 24 = .ok (.iconst 1, 1) := by decide +kernel
theorem dX5_tear_25 : decode cX5_tear 25 = .ok (.ireturn, 1) := by decide +kernel
set_option maxRecDepth 20000 in
theorem ggX5_copy_X3_isNumber : GoodIn wsX5_copy wsX3_isNumber := goodIn_r _ [7, 8, 44, 45, 46] (by decide +kernel) (by decide +kernel)
set_option maxRecDepth 20000 in
theorem gX5_copy_X3_isNumber : GoodIn wsX5_copy (wsV RX5 57 RX3 yX3_isNumber wsX3_isNumber) := goodIn_app (goodIn_of _ (by decide +kernel)) ggX5_copy_X3_isNumber
set_option maxRecDepth 20000 in
theorem ggX5_copy_X4_found : GoodIn wsX5_copy wsX4_found := goodIn_r _ [13, 14, 15, 47, 48, 49, 50, 51] (by decide +kernel) (by decide +kernel)
set_option maxRecDepth 20000 in
theorem gX5_copy_X4_found : GoodIn wsX5_copy (wsV RX5 61 RX4 yX4_found wsX4_found) := goodIn_app (goodIn_of _ (by decide +kernel)) ggX5_copy_X4_found
set_option maxRecDepth 20000 in
theorem ggX5_copy_X3_isThere : GoodIn wsX5_copy wsX3_isThere := goodIn_r _ [19, 8, 20, 4, 5, 6, 7, 44, 45, 46] (by decide +kernel) (by decide +kernel)
set_option maxRecDepth 20000 in
theorem gX5_copy_X3_isThere : GoodIn wsX5_copy (wsV RX5 92 RX3 yX3_isThere wsX3_isThere) := goodIn_app (goodIn_of _ (by decide +kernel)) ggX5_copy_X3_isThere
set_option maxRecDepth 20000 in
theorem ggX5_copy_X3_holdsRun : GoodIn wsX5_copy wsX3_holdsRun := goodIn_r _ [24, 8, 25, 17, 18, 6, 19, 20, 4, 5, 7, 44, 45, 46] (by decide +kernel) (by decide +kernel)
set_option maxRecDepth 20000 in
theorem gX5_copy_X3_holdsRun : GoodIn wsX5_copy (wsV RX5 95 RX3 yX3_holdsRun wsX3_holdsRun) := goodIn_app (goodIn_of _ (by decide +kernel)) ggX5_copy_X3_holdsRun
set_option maxRecDepth 20000 in
theorem ggX5_copy_X3_copyRun : GoodIn wsX5_copy wsX3_copyRun := goodIn_r _ [29, 30, 31, 32, 33, 34, 35, 22, 23, 6, 24, 8, 25, 17, 18, 19, 20, 4, 5, 7, 44, 45, 46] (by decide +kernel) (by decide +kernel)
set_option maxRecDepth 20000 in
theorem gX5_copy_X3_copyRun : GoodIn wsX5_copy (wsV RX5 99 RX3 yX3_copyRun wsX3_copyRun) := goodIn_app (goodIn_of _ (by decide +kernel)) ggX5_copy_X3_copyRun
theorem dX5_copy_0 : decode cX5_copy 0 = .ok (.aload_n 0, 1) := by decide +kernel
theorem dX5_copy_1 : decode cX5_copy 1 = .ok (.getfield 14, 3) := by decide +kernel
theorem dX5_copy_4 : decode cX5_copy 4 = .ok (.iload_n 1, 1) := by decide +kernel
theorem dX5_copy_5 : decode cX5_copy 5 = .ok (.invokevirtual 57, 3) := by decide +kernel
theorem dX5_copy_8 : decode cX5_copy 8 = .ok (.ifCond .eq 14, 3) := by decide +kernel
theorem dX5_copy_11 : decode cX5_copy 11 = .ok (.aload_n 0, 1) := by decide +kernel
theorem dX5_copy_12 : decode cX5_copy 12 = .ok (.getfield 14, 3) := by decide +kernel
theorem dX5_copy_15 : decode cX5_copy 15 = .ok (.iload_n 3, 1) := by decide +kernel
theorem dX5_copy_16 : decode cX5_copy 16 = .ok (.invokevirtual 57, 3) := by decide +kernel
theorem dX5_copy_19 : decode cX5_copy 19 = .ok (.ifCond .ne 5, 3) := by decide +kernel
theorem dX5_copy_22 : decode cX5_copy 22 = .ok (.iconst (-1), 1) := by decide +kernel
theorem dX5_copy_23 : decode cX5_copy 23 = .ok (.ireturn, 1) := by decide +kernel
theorem dX5_copy_24 : decode cX5_copy 24 = .ok (.iload 5, 2) := by decide +kernel
theorem dX5_copy_26 : decode cX5_copy 26 = .ok (.ifCond .ge 12, 3) := by decide +kernel
theorem dX5_copy_29 : decode cX5_copy 29 = .ok (.aload_n 0, 1) := by decide +kernel
theorem dX5_copy_30 : decode cX5_copy 30 = .ok (.getfield 24, 3) := by decide +kernel
theorem dX5_copy_33 : decode cX5_copy 33 = .ok (.iconst 5, 1) := by decide +kernel
theorem dX5_copy_34 : decode cX5_copy 34 = .ok (.invokevirtual 61, 3) := by decide +kernel
theorem dX5_copy_37 : decode cX5_copy 37 = .ok (.ireturn, 1) := by decide +kernel
theorem dX5_copy_38 : decode cX5_copy 38 = .ok (.aload_n 0, 1) := by decide +kernel
theorem dX5_copy_39 : decode cX5_copy 39 = .ok (.getfield 14, 3) := by decide +kernel
theorem dX5_copy_42 : decode cX5_copy 42 = .ok (.iload_n 1, 1) := by decide +kernel
theorem dX5_copy_43 : decode cX5_copy 43 = .ok (.invokevirtual 92, 3) := by decide +kernel
theorem dX5_copy_46 : decode cX5_copy 46 = .ok (.ifCond .eq 14, 3) := by decide +kernel
theorem dX5_copy_49 : decode cX5_copy 49 = .ok (.aload_n 0, 1) := by decide +kernel
theorem dX5_copy_50 : decode cX5_copy 50 = .ok (.getfield 14, 3) := by decide +kernel
theorem dX5_copy_53 : decode cX5_copy 53 = .ok (.iload_n 3, 1) := by decide +kernel
theorem dX5_copy_54 : decode cX5_copy 54 = .ok (.invokevirtual 92, 3) := by decide +kernel
theorem dX5_copy_57 : decode cX5_copy 57 = .ok (.ifCond .ne 12, 3) := by decide +kernel
theorem dX5_copy_60 : decode cX5_copy 60 = .ok (.aload_n 0, 1) := by decide +kernel
theorem dX5_copy_61 : decode cX5_copy 61 = .ok (.getfield 24, 3) := by decide +kernel
theorem dX5_copy_64 : decode cX5_copy 64 = .ok (.iconst 1, 1) := by decide +kernel
theorem dX5_copy_65 : decode cX5_copy 65 = .ok (.invokevirtual 61, 3) := by decide +kernel
theorem dX5_copy_68 : decode cX5_copy 68 = .ok (.ireturn, 1) := by decide +kernel
theorem dX5_copy_69 : decode cX5_copy 69 = .ok (.aload_n 0, 1) := by decide +kernel
theorem dX5_copy_70 : decode cX5_copy 70 = .ok (.getfield 14, 3) := by decide +kernel
theorem dX5_copy_73 : decode cX5_copy 73 = .ok (.iload_n 1, 1) := by decide +kernel
theorem dX5_copy_74 : decode cX5_copy 74 = .ok (.iload_n 2, 1) := by decide +kernel
theorem dX5_copy_75 : decode cX5_copy 75 = .ok (.iload 5, 2) := by decide +kernel
theorem dX5_copy_77 : decode cX5_copy 77 = .ok (.invokevirtual 95, 3) := by decide +kernel
theorem dX5_copy_80 : decode cX5_copy 80 = .ok (.ifCond .eq 18, 3) := by decide +kernel
theorem dX5_copy_83 : decode cX5_copy 83 = .ok (.aload_n 0, 1) := by decide +kernel
theorem dX5_copy_84 : decode cX5_copy 84 = .ok (.getfield 14, 3) := by decide +kernel
theorem dX5_copy_87 : decode cX5_copy 87 = .ok (.iload_n 3, 1) := by decide +kernel
theorem dX5_copy_88 : decode cX5_copy 88 = .ok (.iload 4, 2) := by decide +kernel
theorem dX5_copy_90 : decode cX5_copy 90 = .ok (.iload 5, 2) := by decide +kernel
theorem dX5_copy_92 : decode cX5_copy 92 = .ok (.invokevirtual 95, 3) := by decide +kernel
theorem dX5_copy_95 : decode cX5_copy 95 = .ok (.ifCond .ne 12, 3) := by decide +kernel
theorem dX5_copy_98 : decode cX5_copy 98 = .ok (.aload_n 0, 1) := by decide +kernel
theorem dX5_copy_99 : decode cX5_copy 99 = .ok (.getfield 24, 3) := by decide +kernel
theorem dX5_copy_102 : decode cX5_copy 102 = .ok (.iconst 2, 1) := by decide +kernel
theorem dX5_copy_103 : decode cX5_copy 103 = .ok (.invokevirtual 61, 3) := by decide +kernel
theorem dX5_copy_106 : decode cX5_copy 106 = .ok (.ireturn, 1) := by decide +kernel
theorem dX5_copy_107 : decode cX5_copy 107 = .ok (.aload_n 0, 1) := by decide +kernel
theorem dX5_copy_108 : decode cX5_copy 108 = .ok (.getfield 14, 3) := by decide +kernel
theorem dX5_copy_111 : decode cX5_copy 111 = .ok (.iload_n 1, 1) := by decide +kernel
theorem dX5_copy_112 : decode cX5_copy 112 = .ok (.iload_n 2, 1) := by decide +kernel
theorem dX5_copy_113 : decode cX5_copy 113 = .ok (.iload_n 3, 1) := by decide +kernel
theorem dX5_copy_114 : decode cX5_copy 114 = .ok (.iload 4, 2) := by decide +kernel
theorem dX5_copy_116 : decode cX5_copy 116 = .ok (.iload 5, 2) := by decide +kernel
theorem dX5_copy_118 : decode cX5_copy 118 = .ok (.invokevirtual 99, 3) := by decide +kernel
theorem dX5_copy_121 : decode cX5_copy 121 = .ok (.iconst 1, 1) := by decide +kernel
theorem dX5_copy_122 : decode cX5_copy 122 = .ok (.ireturn, 1) := by decide +kernel
set_option maxRecDepth 20000 in
theorem ggX5_mean_X5_missingRefused : GoodIn wsX5_mean wsX5_missingRefused := goodIn_r _ [7, 2, 8, 9, 10, 11, 12, 13, 14, 15, 16, 17, 18, 19, 20, 21, 22, 23, 24, 25, 39, 40, 41, 42, 43, 44, 45, 46, 52, 53, 54, 47, 48, 49, 50, 51] (by decide +kernel) (by decide +kernel)
set_option maxRecDepth 20000 in
theorem gX5_mean_X5_missingRefused : GoodIn wsX5_mean (wsV RX5 84 RX5 yX5_missingRefused wsX5_missingRefused) := goodIn_app (goodIn_of _ (by decide +kernel)) ggX5_mean_X5_missingRefused
set_option maxRecDepth 20000 in
theorem ggX5_mean_X3_sizeOf : GoodIn wsX5_mean wsX3_sizeOf := goodIn_r _ [29, 13, 18, 9, 10, 11, 12, 52, 53, 54] (by decide +kernel) (by decide +kernel)
set_option maxRecDepth 20000 in
theorem gX5_mean_X3_sizeOf : GoodIn wsX5_mean (wsV RX5 103 RX3 yX3_sizeOf wsX3_sizeOf) := goodIn_app (goodIn_of _ (by decide +kernel)) ggX5_mean_X3_sizeOf
set_option maxRecDepth 20000 in
theorem ggX5_mean_X4_found : GoodIn wsX5_mean wsX4_found := goodIn_r _ [23, 24, 25, 47, 48, 49, 50, 51] (by decide +kernel) (by decide +kernel)
set_option maxRecDepth 20000 in
theorem gX5_mean_X4_found : GoodIn wsX5_mean (wsV RX5 61 RX4 yX4_found wsX4_found) := goodIn_app (goodIn_of _ (by decide +kernel)) ggX5_mean_X4_found
set_option maxRecDepth 20000 in
theorem ggX5_mean_X3_get : GoodIn wsX5_mean wsX3_get := goodIn_r _ [33, 34, 35, 36, 37, 11, 38, 13, 18, 9, 10, 12, 52, 53, 54] (by decide +kernel) (by decide +kernel)
set_option maxRecDepth 20000 in
theorem gX5_mean_X3_get : GoodIn wsX5_mean (wsV RX5 73 RX3 yX3_get wsX3_get) := goodIn_app (goodIn_of _ (by decide +kernel)) ggX5_mean_X3_get
theorem dX5_mean_0 : decode cX5_mean 0 = .ok (.aload_n 0, 1) := by decide +kernel
theorem dX5_mean_1 : decode cX5_mean 1 = .ok (.aload_n 0, 1) := by decide +kernel
theorem dX5_mean_2 : decode cX5_mean 2 = .ok (.getfield 14, 3) := by decide +kernel
theorem dX5_mean_5 : decode cX5_mean 5 = .ok (.iload_n 1, 1) := by decide +kernel
theorem dX5_mean_6 : decode cX5_mean 6 = .ok (.invokevirtual 84, 3) := by decide +kernel
theorem dX5_mean_9 : decode cX5_mean 9 = .ok (.istore_n 2, 1) := by decide +kernel
theorem dX5_mean_10 : decode cX5_mean 10 = .ok (.iload_n 2, 1) := by decide +kernel
theorem dX5_mean_11 : decode cX5_mean 11 = .ok (.ifCond .eq 5, 3) := by decide +kernel
theorem dX5_mean_14 : decode cX5_mean 14 = .ok (.iload_n 2, 1) := by decide +kernel
theorem dX5_mean_15 : decode cX5_mean 15 = .ok (.ireturn, 1) := by decide +kernel
theorem dX5_mean_16 : decode cX5_mean 16 = .ok (.aload_n 0, 1) := by decide +kernel
theorem dX5_mean_17 : decode cX5_mean 17 = .ok (.getfield 14, 3) := by decide +kernel
theorem dX5_mean_20 : decode cX5_mean 20 = .ok (.iload_n 1, 1) := by decide +kernel
theorem dX5_mean_21 : decode cX5_mean 21 = .ok (.invokevirtual 103, 3) := by decide +kernel
theorem dX5_mean_24 : decode cX5_mean 24 = .ok (.istore_n 3, 1) := by decide +kernel
theorem dX5_mean_25 : decode cX5_mean 25 = .ok (.iload_n 3, 1) := by decide +kernel
theorem dX5_mean_26 : decode cX5_mean 26 = .ok (.iconst 1, 1) := by decide +kernel
theorem dX5_mean_27 : decode cX5_mean 27 = .ok (.if_icmp .ge 12, 3) := by decide +kernel
theorem dX5_mean_30 : decode cX5_mean 30 = .ok (.aload_n 0, 1) := by decide +kernel
theorem dX5_mean_31 : decode cX5_mean 31 = .ok (.getfield 24, 3) := by decide +kernel
theorem dX5_mean_34 : decode cX5_mean 34 = .ok (.iconst 4, 1) := by decide +kernel
theorem dX5_mean_35 : decode cX5_mean 35 = .ok (.invokevirtual 61, 3) := by decide +kernel
theorem dX5_mean_38 : decode cX5_mean 38 = .ok (.ireturn, 1) := by decide +kernel
theorem dX5_mean_39 : decode cX5_mean 39 = .ok (.lconst 0, 1) := by decide +kernel
theorem dX5_mean_40 : decode cX5_mean 40 = .ok (.lstore 4, 2) := by decide +kernel
theorem dX5_mean_42 : decode cX5_mean 42 = .ok (.iconst 0, 1) := by decide +kernel
theorem dX5_mean_43 : decode cX5_mean 43 = .ok (.istore 6, 2) := by decide +kernel
theorem dX5_mean_45 : decode cX5_mean 45 = .ok (.iload 6, 2) := by decide +kernel
theorem dX5_mean_47 : decode cX5_mean 47 = .ok (.iload_n 3, 1) := by decide +kernel
theorem dX5_mean_48 : decode cX5_mean 48 = .ok (.if_icmp .ge 25, 3) := by decide +kernel
theorem dX5_mean_51 : decode cX5_mean 51 = .ok (.lload 4, 2) := by decide +kernel
theorem dX5_mean_53 : decode cX5_mean 53 = .ok (.aload_n 0, 1) := by decide +kernel
theorem dX5_mean_54 : decode cX5_mean 54 = .ok (.getfield 14, 3) := by decide +kernel
theorem dX5_mean_57 : decode cX5_mean 57 = .ok (.iload_n 1, 1) := by decide +kernel
theorem dX5_mean_58 : decode cX5_mean 58 = .ok (.iload 6, 2) := by decide +kernel
theorem dX5_mean_60 : decode cX5_mean 60 = .ok (.invokevirtual 73, 3) := by decide +kernel
theorem dX5_mean_63 : decode cX5_mean 63 = .ok (.i2l, 1) := by decide +kernel
theorem dX5_mean_64 : decode cX5_mean 64 = .ok (.ladd, 1) := by decide +kernel
theorem dX5_mean_65 : decode cX5_mean 65 = .ok (.lstore 4, 2) := by decide +kernel
theorem dX5_mean_67 : decode cX5_mean 67 = .ok (.iinc 6 1, 3) := by decide +kernel
theorem dX5_mean_70 : decode cX5_mean 70 = .ok (.goto (-25), 3) := by decide +kernel
theorem dX5_mean_73 : decode cX5_mean 73 = .ok (.aload_n 0, 1) := by decide +kernel
theorem dX5_mean_74 : decode cX5_mean 74 = .ok (.getfield 24, 3) := by decide +kernel
theorem dX5_mean_77 : decode cX5_mean 77 = .ok (.lload 4, 2) := by decide +kernel
theorem dX5_mean_79 : decode cX5_mean 79 = .ok (.iload_n 3, 1) := by decide +kernel
theorem dX5_mean_80 : decode cX5_mean 80 = .ok (.i2l, 1) := by decide +kernel
theorem dX5_mean_81 : decode cX5_mean 81 = .ok (.ldiv, 1) := by decide +kernel
theorem dX5_mean_82 : decode cX5_mean 82 = .ok (.l2i, 1) := by decide +kernel
theorem dX5_mean_83 : decode cX5_mean 83 = .ok (.putfield 77, 3) := by decide +kernel
theorem dX5_mean_86 : decode cX5_mean 86 = .ok (.iconst 1, 1) := by decide +kernel
theorem dX5_mean_87 : decode cX5_mean 87 = .ok (.ireturn, 1) := by decide +kernel
set_option maxRecDepth 20000 in
theorem ggX5_text_X3_isNumber : GoodIn wsX5_text wsX3_isNumber := goodIn_r _ [7, 8, 31, 32, 33] (by decide +kernel) (by decide +kernel)
set_option maxRecDepth 20000 in
theorem gX5_text_X3_isNumber : GoodIn wsX5_text (wsV RX5 57 RX3 yX3_isNumber wsX3_isNumber) := goodIn_app (goodIn_of _ (by decide +kernel)) ggX5_text_X3_isNumber
set_option maxRecDepth 20000 in
theorem ggX5_text_X4_found : GoodIn wsX5_text wsX4_found := goodIn_r _ [13, 14, 15, 34, 35, 36, 37, 38] (by decide +kernel) (by decide +kernel)
set_option maxRecDepth 20000 in
theorem gX5_text_X4_found : GoodIn wsX5_text (wsV RX5 61 RX4 yX4_found wsX4_found) := goodIn_app (goodIn_of _ (by decide +kernel)) ggX5_text_X4_found
set_option maxRecDepth 20000 in
theorem ggX5_text_X3_make : GoodIn wsX5_text wsX3_make := goodIn_r _ [19, 20, 8, 21, 22, 4, 5, 6, 7, 31, 32, 33] (by decide +kernel) (by decide +kernel)
set_option maxRecDepth 20000 in
theorem gX5_text_X3_make : GoodIn wsX5_text (wsV RX5 65 RX3 yX3_make wsX3_make) := goodIn_app (goodIn_of _ (by decide +kernel)) ggX5_text_X3_make
theorem dX5_text_0 : decode cX5_text 0 = .ok (.aload_n 0, 1) := by decide +kernel
theorem dX5_text_1 : decode cX5_text 1 = .ok (.getfield 18, 3) := by decide +kernel
theorem dX5_text_4 : decode cX5_text 4 = .ok (.iload_n 1, 1) := by decide +kernel
theorem dX5_text_5 : decode cX5_text 5 = .ok (.invokevirtual 57, 3) := by decide +kernel
theorem dX5_text_8 : decode cX5_text 8 = .ok (.ifCond .eq 9, 3) := by decide +kernel
theorem dX5_text_11 : decode cX5_text 11 = .ok (.iload_n 2, 1) := by decide +kernel
theorem dX5_text_12 : decode cX5_text 12 = .ok (.bipush 60, 2) := by decide +kernel
theorem dX5_text_14 : decode cX5_text 14 = .ok (.if_icmp .le 5, 3) := by decide +kernel
theorem dX5_text_17 : decode cX5_text 17 = .ok (.iconst (-1), 1) := by decide +kernel
theorem dX5_text_18 : decode cX5_text 18 = .ok (.ireturn, 1) := by decide +kernel
theorem dX5_text_19 : decode cX5_text 19 = .ok (.iload_n 2, 1) := by decide +kernel
theorem dX5_text_20 : decode cX5_text 20 = .ok (.ifCond .ge 12, 3) := by decide +kernel
theorem dX5_text_23 : decode cX5_text 23 = .ok (.aload_n 0, 1) := by decide +kernel
theorem dX5_text_24 : decode cX5_text 24 = .ok (.getfield 24, 3) := by decide +kernel
theorem dX5_text_27 : decode cX5_text 27 = .ok (.iconst 5, 1) := by decide +kernel
theorem dX5_text_28 : decode cX5_text 28 = .ok (.invokevirtual 61, 3) := by decide +kernel
theorem dX5_text_31 : decode cX5_text 31 = .ok (.ireturn, 1) := by decide +kernel
theorem dX5_text_32 : decode cX5_text 32 = .ok (.aload_n 0, 1) := by decide +kernel
theorem dX5_text_33 : decode cX5_text 33 = .ok (.getfield 18, 3) := by decide +kernel
theorem dX5_text_36 : decode cX5_text 36 = .ok (.iload_n 1, 1) := by decide +kernel
theorem dX5_text_37 : decode cX5_text 37 = .ok (.iload_n 2, 1) := by decide +kernel
theorem dX5_text_38 : decode cX5_text 38 = .ok (.bipush 32, 2) := by decide +kernel
theorem dX5_text_40 : decode cX5_text 40 = .ok (.invokevirtual 65, 3) := by decide +kernel
theorem dX5_text_43 : decode cX5_text 43 = .ok (.iload_n 2, 1) := by decide +kernel
theorem dX5_text_44 : decode cX5_text 44 = .ok (.ireturn, 1) := by decide +kernel
set_option maxRecDepth 20000 in
theorem ggX5_put_X5_placeRefused : GoodIn wsX5_put wsX5_placeRefused := goodIn_r _ [6, 7, 8, 9, 10, 5, 11, 12, 13, 14, 15, 16, 17, 18, 19, 20, 21, 22, 23, 24, 25, 26, 27, 28, 29, 30, 31, 32, 33, 44, 45, 46, 47, 48, 49, 50, 51, 52, 53, 54, 55, 56, 57, 58, 59] (by decide +kernel) (by decide +kernel)
set_option maxRecDepth 20000 in
theorem gX5_put_X5_placeRefused : GoodIn wsX5_put (wsV RX5 69 RX5 yX5_placeRefused wsX5_placeRefused) := goodIn_app (goodIn_of _ (by decide +kernel)) ggX5_put_X5_placeRefused
set_option maxRecDepth 20000 in
theorem ggX5_put_X3_get : GoodIn wsX5_put wsX3_get := goodIn_r _ [37, 38, 39, 31, 32, 15, 33, 17, 22, 13, 14, 16, 52, 53, 54] (by decide +kernel) (by decide +kernel)
set_option maxRecDepth 20000 in
theorem gX5_put_X3_get : GoodIn wsX5_put (wsV RX5 73 RX3 yX3_get wsX3_get) := goodIn_app (goodIn_of _ (by decide +kernel)) ggX5_put_X3_get
set_option maxRecDepth 20000 in
theorem ggX5_put_X3_set : GoodIn wsX5_put wsX3_set := goodIn_r _ [43, 38, 39, 31, 32, 15, 33, 17, 22, 13, 14, 16, 52, 53, 54] (by decide +kernel) (by decide +kernel)
set_option maxRecDepth 20000 in
theorem gX5_put_X3_set : GoodIn wsX5_put (wsV RX5 81 RX3 yX3_set wsX3_set) := goodIn_app (goodIn_of _ (by decide +kernel)) ggX5_put_X3_set
theorem dX5_put_0 : decode cX5_put 0 = .ok (.aload_n 0, 1) := by decide +kernel
theorem dX5_put_1 : decode cX5_put 1 = .ok (.aload_n 0, 1) := by decide +kernel
theorem dX5_put_2 : decode cX5_put 2 = .ok (.getfield 18, 3) := by decide +kernel
theorem dX5_put_5 : decode cX5_put 5 = .ok (.iload_n 1, 1) := by decide +kernel
theorem dX5_put_6 : decode cX5_put 6 = .ok (.iload_n 2, 1) := by decide +kernel
theorem dX5_put_7 : decode cX5_put 7 = .ok (.invokevirtual 69, 3) := by decide +kernel
theorem dX5_put_10 : decode cX5_put 10 = .ok (.istore 4, 2) := by decide +kernel
theorem dX5_put_12 : decode cX5_put 12 = .ok (.iload 4, 2) := by decide +kernel
theorem dX5_put_14 : decode cX5_put 14 = .ok (.ifCond .eq 6, 3) := by decide +kernel
theorem dX5_put_17 : decode cX5_put 17 = .ok (.iload 4, 2) := by decide +kernel
theorem dX5_put_19 : decode cX5_put 19 = .ok (.ireturn, 1) := by decide +kernel
theorem dX5_put_20 : decode cX5_put 20 = .ok (.aload_n 0, 1) := by decide +kernel
theorem dX5_put_21 : decode cX5_put 21 = .ok (.getfield 18, 3) := by decide +kernel
theorem dX5_put_24 : decode cX5_put 24 = .ok (.iload_n 1, 1) := by decide +kernel
theorem dX5_put_25 : decode cX5_put 25 = .ok (.iload_n 2, 1) := by decide +kernel
theorem dX5_put_26 : decode cX5_put 26 = .ok (.invokevirtual 73, 3) := by decide +kernel
theorem dX5_put_29 : decode cX5_put 29 = .ok (.istore 5, 2) := by decide +kernel
theorem dX5_put_31 : decode cX5_put 31 = .ok (.aload_n 0, 1) := by decide +kernel
theorem dX5_put_32 : decode cX5_put 32 = .ok (.getfield 18, 3) := by decide +kernel
theorem dX5_put_35 : decode cX5_put 35 = .ok (.iload_n 1, 1) := by decide +kernel
theorem dX5_put_36 : decode cX5_put 36 = .ok (.iload_n 2, 1) := by decide +kernel
theorem dX5_put_37 : decode cX5_put 37 = .ok (.iload_n 3, 1) := by decide +kernel
theorem dX5_put_38 : decode cX5_put 38 = .ok (.i2b, 1) := by decide +kernel
theorem dX5_put_39 : decode cX5_put 39 = .ok (.invokevirtual 81, 3) := by decide +kernel
theorem dX5_put_42 : decode cX5_put 42 = .ok (.iload 5, 2) := by decide +kernel
theorem dX5_put_44 : decode cX5_put 44 = .ok (.sipush 1000, 3) := by decide +kernel
theorem dX5_put_47 : decode cX5_put 47 = .ok (.iadd, 1) := by decide +kernel
theorem dX5_put_48 : decode cX5_put 48 = .ok (.ireturn, 1) := by decide +kernel
set_option maxRecDepth 20000 in
theorem ggX5_fault_X5_missingRefused : GoodIn wsX5_fault wsX5_missingRefused := goodIn_r _ [7, 8, 9, 10, 11, 12, 13, 14, 15, 16, 17, 18, 19, 20, 21, 22, 23, 24, 25, 26, 86, 87, 88, 89, 90, 91, 92, 93, 94, 95, 96, 97, 98, 99, 100, 101] (by decide +kernel) (by decide +kernel)
set_option maxRecDepth 20000 in
theorem gX5_fault_X5_missingRefused : GoodIn wsX5_fault (wsV RX5 84 RX5 yX5_missingRefused wsX5_missingRefused) := goodIn_app (goodIn_of _ (by decide +kernel)) ggX5_fault_X5_missingRefused
set_option maxRecDepth 20000 in
theorem ggX5_fault_X2_read : GoodIn wsX5_fault wsX2_read := goodIn_r _ [31, 32, 33, 34, 35, 36, 37, 38, 39, 40, 41, 42, 43, 44, 45, 12, 46, 14, 19, 10, 11, 13, 47, 48, 49, 50, 51, 52, 53, 54, 55, 56, 57, 58, 30, 59, 60, 61, 62, 63, 64, 65, 66, 67, 68, 69, 70, 71, 72, 73, 74, 75, 76, 77, 78, 79, 80, 81, 82, 83, 84, 85, 102, 103, 104, 105, 106, 107, 108, 109, 110, 111, 112, 113, 114, 115, 116, 94, 95, 96] (by decide +kernel) (by decide +kernel)
set_option maxRecDepth 20000 in
theorem gX5_fault_X2_read : GoodIn wsX5_fault (wsV RX5 106 RX2 yX2_read wsX2_read) := goodIn_app (goodIn_of _ (by decide +kernel)) ggX5_fault_X2_read
theorem dX5_fault_0 : decode cX5_fault 0 = .ok (.aload_n 0, 1) := by decide +kernel
theorem dX5_fault_1 : decode cX5_fault 1 = .ok (.aload_n 0, 1) := by decide +kernel
theorem dX5_fault_2 : decode cX5_fault 2 = .ok (.getfield 18, 3) := by decide +kernel
theorem dX5_fault_5 : decode cX5_fault 5 = .ok (.iload_n 1, 1) := by decide +kernel
theorem dX5_fault_6 : decode cX5_fault 6 = .ok (.invokevirtual 84, 3) := by decide +kernel
theorem dX5_fault_9 : decode cX5_fault 9 = .ok (.istore_n 2, 1) := by decide +kernel
theorem dX5_fault_10 : decode cX5_fault 10 = .ok (.iload_n 2, 1) := by decide +kernel
theorem dX5_fault_11 : decode cX5_fault 11 = .ok (.ifCond .eq 5, 3) := by decide +kernel
theorem dX5_fault_14 : decode cX5_fault 14 = .ok (.iload_n 2, 1) := by decide +kernel
theorem dX5_fault_15 : decode cX5_fault 15 = .ok (.ireturn, 1) := by decide +kernel
theorem dX5_fault_16 : decode cX5_fault 16 = .ok (.aload_n 0, 1) := by decide +kernel
theorem dX5_fault_17 : decode cX5_fault 17 = .ok (.getfield 31, 3) := by decide +kernel
theorem dX5_fault_20 : decode cX5_fault 20 = .ok (.aload_n 0, 1) := by decide +kernel
theorem dX5_fault_21 : decode cX5_fault 21 = .ok (.getfield 18, 3) := by decide +kernel
theorem dX5_fault_24 : decode cX5_fault 24 = .ok (.iload_n 1, 1) := by decide +kernel
theorem dX5_fault_25 : decode cX5_fault 25 = .ok (.invokevirtual 106, 3) := by decide +kernel
theorem dX5_fault_28 : decode cX5_fault 28 = .ok (.ireturn, 1) := by decide +kernel
set_option maxRecDepth 20000 in
theorem ggX5_chain_X5_missingRefused : GoodIn wsX5_chain wsX5_missingRefused := goodIn_r _ [9, 10, 11, 12, 13, 14, 15, 16, 17, 18, 19, 20, 21, 22, 23, 24, 25, 26, 27, 28, 98, 99, 100, 101, 102, 103, 104, 105, 121, 122, 123, 124, 125, 126, 127, 128] (by decide +kernel) (by decide +kernel)
set_option maxRecDepth 20000 in
theorem gX5_chain_X5_missingRefused : GoodIn wsX5_chain (wsV RX5 84 RX5 yX5_missingRefused wsX5_missingRefused) := goodIn_app (goodIn_of _ (by decide +kernel)) ggX5_chain_X5_missingRefused
set_option maxRecDepth 20000 in
theorem ggX5_chain_X2_read : GoodIn wsX5_chain wsX2_read := goodIn_r _ [33, 34, 35, 36, 37, 38, 39, 40, 41, 42, 43, 44, 45, 46, 47, 14, 48, 16, 21, 12, 13, 15, 49, 50, 51, 52, 53, 54, 55, 56, 57, 58, 59, 60, 32, 61, 62, 63, 64, 65, 66, 67, 68, 69, 70, 71, 72, 73, 74, 75, 76, 77, 78, 79, 80, 81, 82, 83, 84, 85, 86, 87, 106, 107, 108, 109, 110, 111, 112, 113, 114, 115, 116, 117, 118, 119, 120, 121, 122, 123] (by decide +kernel) (by decide +kernel)
set_option maxRecDepth 20000 in
theorem gX5_chain_X2_read : GoodIn wsX5_chain (wsV RX5 106 RX2 yX2_read wsX2_read) := goodIn_app (goodIn_of _ (by decide +kernel)) ggX5_chain_X2_read
set_option maxRecDepth 20000 in
theorem ggX5_chain_X0_takeFrom : GoodIn wsX5_chain wsX0_takeFrom := goodIn_r _ [91, 40, 41, 42, 43, 44, 85, 92, 93, 94, 95, 86, 87, 70, 71, 72, 73, 96, 107, 108, 109, 110, 111, 112, 113, 114, 115, 116, 117, 118, 119, 120] (by decide +kernel) (by decide +kernel)
set_option maxRecDepth 20000 in
theorem gX5_chain_X0_takeFrom : GoodIn wsX5_chain (wsV RX5 112 RX0 yX0_takeFrom wsX0_takeFrom) := goodIn_app (goodIn_of _ (by decide +kernel)) ggX5_chain_X0_takeFrom
set_option maxRecDepth 20000 in
theorem ggX5_chain_X0_clear : GoodIn wsX5_chain wsX0_clear := goodIn_r _ [39, 40, 41, 42, 43, 44, 107, 108, 109, 110, 111, 112, 113, 114, 115, 116, 117, 118, 119, 120] (by decide +kernel) (by decide +kernel)
set_option maxRecDepth 20000 in
theorem gX5_chain_X0_clear : GoodIn wsX5_chain (wsV RX5 116 RX0 yX0_clear wsX0_clear) := goodIn_app (goodIn_of _ (by decide +kernel)) ggX5_chain_X0_clear
theorem dX5_chain_0 : decode cX5_chain 0 = .ok (.aload_n 0, 1) := by decide +kernel
theorem dX5_chain_1 : decode cX5_chain 1 = .ok (.aload_n 0, 1) := by decide +kernel
theorem dX5_chain_2 : decode cX5_chain 2 = .ok (.getfield 18, 3) := by decide +kernel
theorem dX5_chain_5 : decode cX5_chain 5 = .ok (.iload_n 1, 1) := by decide +kernel
theorem dX5_chain_6 : decode cX5_chain 6 = .ok (.invokevirtual 84, 3) := by decide +kernel
theorem dX5_chain_9 : decode cX5_chain 9 = .ok (.istore_n 2, 1) := by decide +kernel
theorem dX5_chain_10 : decode cX5_chain 10 = .ok (.iload_n 2, 1) := by decide +kernel
theorem dX5_chain_11 : decode cX5_chain 11 = .ok (.ifCond .eq 5, 3) := by decide +kernel
theorem dX5_chain_14 : decode cX5_chain 14 = .ok (.iload_n 2, 1) := by decide +kernel
theorem dX5_chain_15 : decode cX5_chain 15 = .ok (.ireturn, 1) := by decide +kernel
theorem dX5_chain_16 : decode cX5_chain 16 = .ok (.aload_n 0, 1) := by decide +kernel
theorem dX5_chain_17 : decode cX5_chain 17 = .ok (.getfield 31, 3) := by decide +kernel
theorem dX5_chain_20 : decode cX5_chain 20 = .ok (.aload_n 0, 1) := by decide +kernel
theorem dX5_chain_21 : decode cX5_chain 21 = .ok (.getfield 18, 3) := by decide +kernel
theorem dX5_chain_24 : decode cX5_chain 24 = .ok (.iload_n 1, 1) := by decide +kernel
theorem dX5_chain_25 : decode cX5_chain 25 = .ok (.invokevirtual 106, 3) := by decide +kernel
theorem dX5_chain_28 : decode cX5_chain 28 = .ok (.bipush (-9), 2) := by decide +kernel
theorem dX5_chain_30 : decode cX5_chain 30 = .ok (.if_icmp .eq 6, 3) := by decide +kernel
theorem dX5_chain_33 : decode cX5_chain 33 = .ok (.bipush (-4), 2) := by decide +kernel
theorem dX5_chain_35 : decode cX5_chain 35 = .ok (.ireturn, 1) := by decide +kernel
theorem dX5_chain_36 : decode cX5_chain 36 = .ok (.aload_n 0, 1) := by decide +kernel
theorem dX5_chain_37 : decode cX5_chain 37 = .ok (.getfield 45, 3) := by decide +kernel
theorem dX5_chain_40 : decode cX5_chain 40 = .ok (.aload_n 0, 1) := by decide +kernel
theorem dX5_chain_41 : decode cX5_chain 41 = .ok (.getfield 31, 3) := by decide +kernel
theorem dX5_chain_44 : decode cX5_chain 44 = .ok (.getfield 109, 3) := by decide +kernel
theorem dX5_chain_47 : decode cX5_chain 47 = .ok (.invokevirtual 112, 3) := by decide +kernel
theorem dX5_chain_50 : decode cX5_chain 50 = .ok (.iconst 0, 1) := by decide +kernel
theorem dX5_chain_51 : decode cX5_chain 51 = .ok (.istore_n 3, 1) := by decide +kernel
theorem dX5_chain_52 : decode cX5_chain 52 = .ok (.iload_n 3, 1) := by decide +kernel
theorem dX5_chain_53 : decode cX5_chain 53 = .ok (.iconst 3, 1) := by decide +kernel
theorem dX5_chain_54 : decode cX5_chain 54 = .ok (.if_icmp .ge 18, 3) := by decide +kernel
theorem dX5_chain_57 : decode cX5_chain 57 = .ok (.aload_n 0, 1) := by decide +kernel
theorem dX5_chain_58 : decode cX5_chain 58 = .ok (.getfield 49, 3) := by decide +kernel
theorem dX5_chain_61 : decode cX5_chain 61 = .ok (.iload_n 3, 1) := by decide +kernel
theorem dX5_chain_62 : decode cX5_chain 62 = .ok (.aaload, 1) := by decide +kernel
theorem dX5_chain_63 : decode cX5_chain 63 = .ok (.invokevirtual 116, 3) := by decide +kernel
theorem dX5_chain_66 : decode cX5_chain 66 = .ok (.iinc 3 1, 3) := by decide +kernel
theorem dX5_chain_69 : decode cX5_chain 69 = .ok (.goto (-17), 3) := by decide +kernel
theorem dX5_chain_72 : decode cX5_chain 72 = .ok (.aload_n 0, 1) := by decide +kernel
theorem dX5_chain_73 : decode cX5_chain 73 = .ok (.getfield 45, 3) := by decide +kernel
theorem dX5_chain_76 : decode cX5_chain 76 = .ok (.getfield 119, 3) := by decide +kernel
theorem dX5_chain_79 : decode cX5_chain 79 = .ok (.ireturn, 1) := by decide +kernel
set_option maxRecDepth 20000 in
theorem ggX5_person_X0_isPerson : GoodIn wsX5_person wsX0_isPerson := goodIn_r _ [7, 8, 77, 78, 79, 80, 81, 82, 83, 84, 85, 86, 87, 88, 89, 90] (by decide +kernel) (by decide +kernel)
set_option maxRecDepth 20000 in
theorem gX5_person_X0_isPerson : GoodIn wsX5_person (wsV RX5 122 RX0 yX0_isPerson wsX0_isPerson) := goodIn_app (goodIn_of _ (by decide +kernel)) ggX5_person_X0_isPerson
set_option maxRecDepth 20000 in
theorem ggX5_person_X0_personTrait : GoodIn wsX5_person wsX0_personTrait := goodIn_r _ [12, 13, 14, 15, 16, 17, 4, 5, 6, 7, 8, 18, 19, 20, 21, 22, 23, 24, 25, 26, 27, 28, 29, 30, 31, 32, 33, 34, 35, 36, 37, 38, 39, 40, 41, 42, 43, 44, 45, 46, 47, 48, 49, 50, 51, 52, 53, 54, 55, 56, 57, 58, 59, 60, 61, 62, 63, 77, 78, 79, 80, 81, 82, 83, 84, 85, 86, 87, 88, 89, 90] (by decide +kernel) (by decide +kernel)
set_option maxRecDepth 20000 in
theorem gX5_person_X0_personTrait : GoodIn wsX5_person (wsV RX5 125 RX0 yX0_personTrait wsX0_personTrait) := goodIn_app (goodIn_of _ (by decide +kernel)) ggX5_person_X0_personTrait
theorem dX5_person_0 : decode cX5_person 0 = .ok (.aload_n 0, 1) := by decide +kernel
theorem dX5_person_1 : decode cX5_person 1 = .ok (.getfield 45, 3) := by decide +kernel
theorem dX5_person_4 : decode cX5_person 4 = .ok (.iload_n 1, 1) := by decide +kernel
theorem dX5_person_5 : decode cX5_person 5 = .ok (.invokevirtual 122, 3) := by decide +kernel
theorem dX5_person_8 : decode cX5_person 8 = .ok (.ifCond .eq 12, 3) := by decide +kernel
theorem dX5_person_11 : decode cX5_person 11 = .ok (.iload_n 2, 1) := by decide +kernel
theorem dX5_person_12 : decode cX5_person 12 = .ok (.ifCond .lt 8, 3) := by decide +kernel
theorem dX5_person_15 : decode cX5_person 15 = .ok (.iload_n 2, 1) := by decide +kernel
theorem dX5_person_16 : decode cX5_person 16 = .ok (.iconst 5, 1) := by decide +kernel
theorem dX5_person_17 : decode cX5_person 17 = .ok (.if_icmp .lt 5, 3) := by decide +kernel
theorem dX5_person_20 : decode cX5_person 20 = .ok (.iconst (-1), 1) := by decide +kernel
theorem dX5_person_21 : decode cX5_person 21 = .ok (.ireturn, 1) := by decide +kernel
theorem dX5_person_22 : decode cX5_person 22 = .ok (.aload_n 0, 1) := by decide +kernel
theorem dX5_person_23 : decode cX5_person 23 = .ok (.getfield 24, 3) := by decide +kernel
theorem dX5_person_26 : decode cX5_person 26 = .ok (.aload_n 0, 1) := by decide +kernel
theorem dX5_person_27 : decode cX5_person 27 = .ok (.getfield 45, 3) := by decide +kernel
theorem dX5_person_30 : decode cX5_person 30 = .ok (.iload_n 1, 1) := by decide +kernel
theorem dX5_person_31 : decode cX5_person 31 = .ok (.iload_n 2, 1) := by decide +kernel
theorem dX5_person_32 : decode cX5_person 32 = .ok (.invokevirtual 125, 3) := by decide +kernel
theorem dX5_person_35 : decode cX5_person 35 = .ok (.putfield 77, 3) := by decide +kernel
theorem dX5_person_38 : decode cX5_person 38 = .ok (.iconst 1, 1) := by decide +kernel
theorem dX5_person_39 : decode cX5_person 39 = .ok (.ireturn, 1) := by decide +kernel
set_option maxRecDepth 20000 in
theorem ggX5_error_X0_isError : GoodIn wsX5_error wsX0_isError := goodIn_r _ [7, 8, 36, 37, 38, 39, 40, 41, 42, 43, 44, 45, 46, 47, 48, 49] (by decide +kernel) (by decide +kernel)
set_option maxRecDepth 20000 in
theorem gX5_error_X0_isError : GoodIn wsX5_error (wsV RX5 128 RX0 yX0_isError wsX0_isError) := goodIn_app (goodIn_of _ (by decide +kernel)) ggX5_error_X0_isError
set_option maxRecDepth 20000 in
theorem ggX5_error_X0_errorTrait : GoodIn wsX5_error wsX0_errorTrait := goodIn_r _ [12, 13, 14, 15, 16, 17, 4, 5, 6, 7, 8, 18, 19, 20, 21, 22, 36, 37, 38, 39, 40, 41, 42, 43, 44, 45, 46, 47, 48, 49] (by decide +kernel) (by decide +kernel)
set_option maxRecDepth 20000 in
theorem gX5_error_X0_errorTrait : GoodIn wsX5_error (wsV RX5 131 RX0 yX0_errorTrait wsX0_errorTrait) := goodIn_app (goodIn_of _ (by decide +kernel)) ggX5_error_X0_errorTrait
theorem dX5_error_0 : decode cX5_error 0 = .ok (.aload_n 0, 1) := by decide +kernel
theorem dX5_error_1 : decode cX5_error 1 = .ok (.getfield 45, 3) := by decide +kernel
theorem dX5_error_4 : decode cX5_error 4 = .ok (.iload_n 1, 1) := by decide +kernel
theorem dX5_error_5 : decode cX5_error 5 = .ok (.invokevirtual 128, 3) := by decide +kernel
theorem dX5_error_8 : decode cX5_error 8 = .ok (.ifCond .eq 12, 3) := by decide +kernel
theorem dX5_error_11 : decode cX5_error 11 = .ok (.iload_n 2, 1) := by decide +kernel
theorem dX5_error_12 : decode cX5_error 12 = .ok (.ifCond .lt 8, 3) := by decide +kernel
theorem dX5_error_15 : decode cX5_error 15 = .ok (.iload_n 2, 1) := by decide +kernel
theorem dX5_error_16 : decode cX5_error 16 = .ok (.iconst 5, 1) := by decide +kernel
theorem dX5_error_17 : decode cX5_error 17 = .ok (.if_icmp .lt 5, 3) := by decide +kernel
theorem dX5_error_20 : decode cX5_error 20 = .ok (.iconst (-1), 1) := by decide +kernel
theorem dX5_error_21 : decode cX5_error 21 = .ok (.ireturn, 1) := by decide +kernel
theorem dX5_error_22 : decode cX5_error 22 = .ok (.aload_n 0, 1) := by decide +kernel
theorem dX5_error_23 : decode cX5_error 23 = .ok (.getfield 24, 3) := by decide +kernel
theorem dX5_error_26 : decode cX5_error 26 = .ok (.aload_n 0, 1) := by decide +kernel
theorem dX5_error_27 : decode cX5_error 27 = .ok (.getfield 45, 3) := by decide +kernel
theorem dX5_error_30 : decode cX5_error 30 = .ok (.iload_n 1, 1) := by decide +kernel
theorem dX5_error_31 : decode cX5_error 31 = .ok (.iload_n 2, 1) := by decide +kernel
theorem dX5_error_32 : decode cX5_error 32 = .ok (.invokevirtual 131, 3) := by decide +kernel
theorem dX5_error_35 : decode cX5_error 35 = .ok (.putfield 77, 3) := by decide +kernel
theorem dX5_error_38 : decode cX5_error 38 = .ok (.iconst 1, 1) := by decide +kernel
theorem dX5_error_39 : decode cX5_error 39 = .ok (.ireturn, 1) := by decide +kernel
set_option maxRecDepth 20000 in
theorem ggX5_mark_X0_isPerson : GoodIn wsX5_mark wsX0_isPerson := goodIn_r _ [7, 8, 103, 104, 105, 106, 107, 108, 109, 110, 111, 112, 113, 114, 115, 116] (by decide +kernel) (by decide +kernel)
set_option maxRecDepth 20000 in
theorem gX5_mark_X0_isPerson : GoodIn wsX5_mark (wsV RX5 122 RX0 yX0_isPerson wsX0_isPerson) := goodIn_app (goodIn_of _ (by decide +kernel)) ggX5_mark_X0_isPerson
set_option maxRecDepth 20000 in
theorem ggX5_mark_X0_isOfKind : GoodIn wsX5_mark wsX0_isOfKind := goodIn_r _ [12, 13, 14, 4, 5, 6, 7, 8, 15, 16, 17, 103, 104, 105, 106, 107, 108, 109, 110, 111, 112, 113, 114, 115, 116] (by decide +kernel) (by decide +kernel)
set_option maxRecDepth 20000 in
theorem gX5_mark_X0_isOfKind : GoodIn wsX5_mark (wsV RX5 134 RX0 yX0_isOfKind wsX0_isOfKind) := goodIn_app (goodIn_of _ (by decide +kernel)) ggX5_mark_X0_isOfKind
set_option maxRecDepth 20000 in
theorem ggX5_mark_X4_found : GoodIn wsX5_mark wsX4_found := goodIn_r _ [22, 23, 24, 117, 118, 119, 120, 121] (by decide +kernel) (by decide +kernel)
set_option maxRecDepth 20000 in
theorem gX5_mark_X4_found : GoodIn wsX5_mark (wsV RX5 61 RX4 yX4_found wsX4_found) := goodIn_app (goodIn_of _ (by decide +kernel)) ggX5_mark_X4_found
set_option maxRecDepth 20000 in
theorem ggX5_mark_X0_drifted : GoodIn wsX5_mark wsX0_drifted := goodIn_r _ [28, 29, 30, 31, 6, 32, 33, 34, 35, 36, 37, 38, 39, 40, 41, 42, 43, 44, 45, 46, 47, 48, 49, 50, 51, 14, 4, 5, 7, 8, 52, 53, 54, 55, 56, 57, 58, 59, 60, 61, 62, 63, 64, 65, 66, 67, 68, 13, 69, 70, 15, 16, 17, 71, 72, 73, 74, 75, 76, 77, 103, 104, 105, 106, 107, 108, 109, 110, 111, 112, 113, 114, 115, 116] (by decide +kernel) (by decide +kernel)
set_option maxRecDepth 20000 in
theorem gX5_mark_X0_drifted : GoodIn wsX5_mark (wsV RX5 138 RX0 yX0_drifted wsX0_drifted) := goodIn_app (goodIn_of _ (by decide +kernel)) ggX5_mark_X0_drifted
set_option maxRecDepth 20000 in
theorem ggX5_mark_X0_idleDays : GoodIn wsX5_mark wsX0_idleDays := goodIn_r _ [81, 29, 30, 31, 6, 32, 33, 34, 35, 36, 37, 38, 39, 40, 41, 42, 43, 44, 45, 46, 47, 48, 49, 50, 51, 14, 4, 5, 7, 8, 52, 53, 54, 55, 56, 57, 58, 59, 60, 61, 62, 63, 64, 65, 66, 67, 68, 13, 69, 70, 15, 16, 17, 71, 72, 73, 103, 104, 105, 106, 107, 108, 109, 110, 111, 112, 113, 114, 115, 116] (by decide +kernel) (by decide +kernel)
set_option maxRecDepth 20000 in
theorem gX5_mark_X0_idleDays : GoodIn wsX5_mark (wsV RX5 141 RX0 yX0_idleDays wsX0_idleDays) := goodIn_app (goodIn_of _ (by decide +kernel)) ggX5_mark_X0_idleDays
set_option maxRecDepth 20000 in
theorem ggX5_mark_X0_likeTowns : GoodIn wsX5_mark wsX0_likeTowns := goodIn_r _ [85, 29, 30, 31, 6, 32, 33, 34, 35, 36, 37, 38, 39, 40, 41, 42, 43, 44, 45, 46, 47, 48, 49, 50, 51, 14, 4, 5, 7, 8, 52, 53, 54, 55, 56, 57, 58, 59, 60, 61, 62, 63, 64, 65, 66, 67, 68, 13, 69, 70, 15, 16, 17, 71, 72, 73, 103, 104, 105, 106, 107, 108, 109, 110, 111, 112, 113, 114, 115, 116] (by decide +kernel) (by decide +kernel)
set_option maxRecDepth 20000 in
theorem gX5_mark_X0_likeTowns : GoodIn wsX5_mark (wsV RX5 144 RX0 yX0_likeTowns wsX0_likeTowns) := goodIn_app (goodIn_of _ (by decide +kernel)) ggX5_mark_X0_likeTowns
set_option maxRecDepth 20000 in
theorem ggX5_mark_X0_othersAlike : GoodIn wsX5_mark wsX0_othersAlike := goodIn_r _ [89, 8, 90, 29, 30, 31, 6, 32, 33, 34, 35, 36, 37, 38, 39, 40, 41, 42, 43, 44, 45, 46, 47, 48, 49, 50, 51, 14, 4, 5, 7, 52, 53, 54, 55, 56, 57, 58, 59, 60, 61, 62, 63, 64, 65, 66, 67, 68, 13, 69, 70, 15, 16, 17, 71, 72, 73, 103, 104, 105, 106, 107, 108, 109, 110, 111, 112, 113, 114, 115, 116] (by decide +kernel) (by decide +kernel)
set_option maxRecDepth 20000 in
theorem gX5_mark_X0_othersAlike : GoodIn wsX5_mark (wsV RX5 147 RX0 yX0_othersAlike wsX0_othersAlike) := goodIn_app (goodIn_of _ (by decide +kernel)) ggX5_mark_X0_othersAlike
set_option maxRecDepth 20000 in
theorem ggX5_mark_X0_noughtDays : GoodIn wsX5_mark wsX0_noughtDays := goodIn_r _ [94, 29, 30, 31, 6, 32, 33, 34, 35, 36, 37, 38, 39, 40, 41, 42, 43, 44, 45, 46, 47, 48, 49, 50, 51, 14, 4, 5, 7, 8, 52, 53, 54, 55, 56, 57, 58, 59, 60, 61, 62, 63, 64, 65, 66, 67, 68, 13, 69, 70, 15, 16, 17, 71, 72, 73, 103, 104, 105, 106, 107, 108, 109, 110, 111, 112, 113, 114, 115, 116] (by decide +kernel) (by decide +kernel)
set_option maxRecDepth 20000 in
theorem gX5_mark_X0_noughtDays : GoodIn wsX5_mark (wsV RX5 150 RX0 yX0_noughtDays wsX0_noughtDays) := goodIn_app (goodIn_of _ (by decide +kernel)) ggX5_mark_X0_noughtDays
theorem dX5_mark_0 : decode cX5_mark 0 = .ok (.aload_n 0, 1) := by decide +kernel
theorem dX5_mark_1 : decode cX5_mark 1 = .ok (.getfield 45, 3) := by decide +kernel
theorem dX5_mark_4 : decode cX5_mark 4 = .ok (.iload_n 1, 1) := by decide +kernel
theorem dX5_mark_5 : decode cX5_mark 5 = .ok (.invokevirtual 122, 3) := by decide +kernel
theorem dX5_mark_8 : decode cX5_mark 8 = .ok (.ifCond .eq 14, 3) := by decide +kernel
theorem dX5_mark_11 : decode cX5_mark 11 = .ok (.iload_n 2, 1) := by decide +kernel
theorem dX5_mark_12 : decode cX5_mark 12 = .ok (.iconst 1, 1) := by decide +kernel
theorem dX5_mark_13 : decode cX5_mark 13 = .ok (.if_icmp .lt 9, 3) := by decide +kernel
theorem dX5_mark_16 : decode cX5_mark 16 = .ok (.iload_n 2, 1) := by decide +kernel
theorem dX5_mark_17 : decode cX5_mark 17 = .ok (.bipush 6, 2) := by decide +kernel
theorem dX5_mark_19 : decode cX5_mark 19 = .ok (.if_icmp .lt 5, 3) := by decide +kernel
theorem dX5_mark_22 : decode cX5_mark 22 = .ok (.iconst (-1), 1) := by decide +kernel
theorem dX5_mark_23 : decode cX5_mark 23 = .ok (.ireturn, 1) := by decide +kernel
theorem dX5_mark_24 : decode cX5_mark 24 = .ok (.aload_n 0, 1) := by decide +kernel
theorem dX5_mark_25 : decode cX5_mark 25 = .ok (.getfield 45, 3) := by decide +kernel
theorem dX5_mark_28 : decode cX5_mark 28 = .ok (.iload_n 1, 1) := by decide +kernel
theorem dX5_mark_29 : decode cX5_mark 29 = .ok (.iload_n 2, 1) := by decide +kernel
theorem dX5_mark_30 : decode cX5_mark 30 = .ok (.invokevirtual 134, 3) := by decide +kernel
theorem dX5_mark_33 : decode cX5_mark 33 = .ok (.ifCond .ne 12, 3) := by decide +kernel
theorem dX5_mark_36 : decode cX5_mark 36 = .ok (.aload_n 0, 1) := by decide +kernel
theorem dX5_mark_37 : decode cX5_mark 37 = .ok (.getfield 24, 3) := by decide +kernel
theorem dX5_mark_40 : decode cX5_mark 40 = .ok (.iconst 3, 1) := by decide +kernel
theorem dX5_mark_41 : decode cX5_mark 41 = .ok (.invokevirtual 61, 3) := by decide +kernel
theorem dX5_mark_44 : decode cX5_mark 44 = .ok (.ireturn, 1) := by decide +kernel
theorem dX5_mark_45 : decode cX5_mark 45 = .ok (.iload_n 2, 1) := by decide +kernel
theorem dX5_mark_46 : decode cX5_mark 46 = .ok (.tableswitch 66 1 4 #[30, 39, 48, 57], 30) := by decide +kernel
theorem dX5_mark_76 : decode cX5_mark 76 = .ok (.aload_n 0, 1) := by decide +kernel
theorem dX5_mark_77 : decode cX5_mark 77 = .ok (.getfield 45, 3) := by decide +kernel
theorem dX5_mark_80 : decode cX5_mark 80 = .ok (.iload_n 1, 1) := by decide +kernel
theorem dX5_mark_81 : decode cX5_mark 81 = .ok (.invokevirtual 138, 3) := by decide +kernel
theorem dX5_mark_84 : decode cX5_mark 84 = .ok (.ireturn, 1) := by decide +kernel
theorem dX5_mark_85 : decode cX5_mark 85 = .ok (.aload_n 0, 1) := by decide +kernel
theorem dX5_mark_86 : decode cX5_mark 86 = .ok (.getfield 45, 3) := by decide +kernel
theorem dX5_mark_89 : decode cX5_mark 89 = .ok (.iload_n 1, 1) := by decide +kernel
theorem dX5_mark_90 : decode cX5_mark 90 = .ok (.invokevirtual 141, 3) := by decide +kernel
theorem dX5_mark_93 : decode cX5_mark 93 = .ok (.ireturn, 1) := by decide +kernel
theorem dX5_mark_94 : decode cX5_mark 94 = .ok (.aload_n 0, 1) := by decide +kernel
theorem dX5_mark_95 : decode cX5_mark 95 = .ok (.getfield 45, 3) := by decide +kernel
theorem dX5_mark_98 : decode cX5_mark 98 = .ok (.iload_n 1, 1) := by decide +kernel
theorem dX5_mark_99 : decode cX5_mark 99 = .ok (.invokevirtual 144, 3) := by decide +kernel
theorem dX5_mark_102 : decode cX5_mark 102 = .ok (.ireturn, 1) := by decide +kernel
theorem dX5_mark_103 : decode cX5_mark 103 = .ok (.aload_n 0, 1) := by decide +kernel
theorem dX5_mark_104 : decode cX5_mark 104 = .ok (.getfield 45, 3) := by decide +kernel
theorem dX5_mark_107 : decode cX5_mark 107 = .ok (.iload_n 1, 1) := by decide +kernel
theorem dX5_mark_108 : decode cX5_mark 108 = .ok (.invokevirtual 147, 3) := by decide +kernel
theorem dX5_mark_111 : decode cX5_mark 111 = .ok (.ireturn, 1) := by decide +kernel
theorem dX5_mark_112 : decode cX5_mark 112 = .ok (.aload_n 0, 1) := by decide +kernel
theorem dX5_mark_113 : decode cX5_mark 113 = .ok (.getfield 45, 3) := by decide +kernel
theorem dX5_mark_116 : decode cX5_mark 116 = .ok (.iload_n 1, 1) := by decide +kernel
theorem dX5_mark_117 : decode cX5_mark 117 = .ok (.invokevirtual 150, 3) := by decide +kernel
theorem dX5_mark_120 : decode cX5_mark 120 = .ok (.ireturn, 1) := by decide +kernel
set_option maxRecDepth 20000 in
theorem ggX5_stride_X0_isPerson : GoodIn wsX5_stride wsX0_isPerson := goodIn_r _ [6, 7, 16, 17, 18, 19, 20, 21, 22, 23, 24, 25, 26, 27, 28, 29] (by decide +kernel) (by decide +kernel)
set_option maxRecDepth 20000 in
theorem gX5_stride_X0_isPerson : GoodIn wsX5_stride (wsV RX5 122 RX0 yX0_isPerson wsX0_isPerson) := goodIn_app (goodIn_of _ (by decide +kernel)) ggX5_stride_X0_isPerson
theorem dX5_stride_0 : decode cX5_stride 0 = .ok (.aload_n 0, 1) := by decide +kernel
theorem dX5_stride_1 : decode cX5_stride 1 = .ok (.getfield 45, 3) := by decide +kernel
theorem dX5_stride_4 : decode cX5_stride 4 = .ok (.iload_n 1, 1) := by decide +kernel
theorem dX5_stride_5 : decode cX5_stride 5 = .ok (.invokevirtual 122, 3) := by decide +kernel
theorem dX5_stride_8 : decode cX5_stride 8 = .ok (.ifCond .eq 13, 3) := by decide +kernel
theorem dX5_stride_11 : decode cX5_stride 11 = .ok (.iload_n 2, 1) := by decide +kernel
theorem dX5_stride_12 : decode cX5_stride 12 = .ok (.ifCond .lt 9, 3) := by decide +kernel
theorem dX5_stride_15 : decode cX5_stride 15 = .ok (.iload_n 2, 1) := by decide +kernel
theorem dX5_stride_16 : decode cX5_stride 16 = .ok (.bipush 10, 2) := by decide +kernel
theorem dX5_stride_18 : decode cX5_stride 18 = .ok (.if_icmp .lt 5, 3) := by decide +kernel
theorem dX5_stride_21 : decode cX5_stride 21 = .ok (.iconst (-1), 1) := by decide +kernel
theorem dX5_stride_22 : decode cX5_stride 22 = .ok (.ireturn, 1) := by decide +kernel
theorem dX5_stride_23 : decode cX5_stride 23 = .ok (.aload_n 0, 1) := by decide +kernel
theorem dX5_stride_24 : decode cX5_stride 24 = .ok (.getfield 45, 3) := by decide +kernel
theorem dX5_stride_27 : decode cX5_stride 27 = .ok (.getfield 153, 3) := by decide +kernel
theorem dX5_stride_30 : decode cX5_stride 30 = .ok (.ifCond .le 6, 3) := by decide +kernel
theorem dX5_stride_33 : decode cX5_stride 33 = .ok (.bipush (-4), 2) := by decide +kernel
theorem dX5_stride_35 : decode cX5_stride 35 = .ok (.ireturn, 1) := by decide +kernel
theorem dX5_stride_36 : decode cX5_stride 36 = .ok (.aload_n 0, 1) := by decide +kernel
theorem dX5_stride_37 : decode cX5_stride 37 = .ok (.getfield 45, 3) := by decide +kernel
theorem dX5_stride_40 : decode cX5_stride 40 = .ok (.getfield 156, 3) := by decide +kernel
theorem dX5_stride_43 : decode cX5_stride 43 = .ok (.iload_n 1, 1) := by decide +kernel
theorem dX5_stride_44 : decode cX5_stride 44 = .ok (.iaload, 1) := by decide +kernel
theorem dX5_stride_45 : decode cX5_stride 45 = .ok (.istore_n 3, 1) := by decide +kernel
theorem dX5_stride_46 : decode cX5_stride 46 = .ok (.aload_n 0, 1) := by decide +kernel
theorem dX5_stride_47 : decode cX5_stride 47 = .ok (.getfield 45, 3) := by decide +kernel
theorem dX5_stride_50 : decode cX5_stride 50 = .ok (.getfield 156, 3) := by decide +kernel
theorem dX5_stride_53 : decode cX5_stride 53 = .ok (.iload_n 1, 1) := by decide +kernel
theorem dX5_stride_54 : decode cX5_stride 54 = .ok (.iload_n 2, 1) := by decide +kernel
theorem dX5_stride_55 : decode cX5_stride 55 = .ok (.iastore, 1) := by decide +kernel
theorem dX5_stride_56 : decode cX5_stride 56 = .ok (.iload_n 3, 1) := by decide +kernel
theorem dX5_stride_57 : decode cX5_stride 57 = .ok (.ireturn, 1) := by decide +kernel
set_option maxRecDepth 20000 in
theorem ggX5_mend_X0_isError : GoodIn wsX5_mend wsX0_isError := goodIn_r _ [6, 7, 42, 43, 44, 45, 46, 47, 48, 49, 50, 51, 52, 53, 54, 55] (by decide +kernel) (by decide +kernel)
set_option maxRecDepth 20000 in
theorem gX5_mend_X0_isError : GoodIn wsX5_mend (wsV RX5 128 RX0 yX0_isError wsX0_isError) := goodIn_app (goodIn_of _ (by decide +kernel)) ggX5_mend_X0_isError
set_option maxRecDepth 20000 in
theorem ggX5_mend_X0_isMended : GoodIn wsX5_mend wsX0_isMended := goodIn_r _ [11, 12, 42, 43, 44, 45, 46, 47, 48, 49, 50, 51, 52, 53, 54, 55] (by decide +kernel) (by decide +kernel)
set_option maxRecDepth 20000 in
theorem gX5_mend_X0_isMended : GoodIn wsX5_mend (wsV RX5 159 RX0 yX0_isMended wsX0_isMended) := goodIn_app (goodIn_of _ (by decide +kernel)) ggX5_mend_X0_isMended
set_option maxRecDepth 20000 in
theorem ggX5_mend_X0_hasTurnsLeft : GoodIn wsX5_mend wsX0_hasTurnsLeft := goodIn_r _ [16, 17, 42, 43, 44, 45, 46, 47, 48, 49, 50, 51, 52, 53, 54, 55] (by decide +kernel) (by decide +kernel)
set_option maxRecDepth 20000 in
theorem gX5_mend_X0_hasTurnsLeft : GoodIn wsX5_mend (wsV RX5 162 RX0 yX0_hasTurnsLeft wsX0_hasTurnsLeft) := goodIn_app (goodIn_of _ (by decide +kernel)) ggX5_mend_X0_hasTurnsLeft
set_option maxRecDepth 20000 in
theorem ggX5_mend_X0_turnMended : GoodIn wsX5_mend wsX0_turnMended := goodIn_r _ [21, 12, 22, 23, 24, 5, 25, 17, 26, 42, 43, 44, 45, 46, 47, 48, 49, 50, 51, 52, 53, 54, 55] (by decide +kernel) (by decide +kernel)
set_option maxRecDepth 20000 in
theorem gX5_mend_X0_turnMended : GoodIn wsX5_mend (wsV RX5 165 RX0 yX0_turnMended wsX0_turnMended) := goodIn_app (goodIn_of _ (by decide +kernel)) ggX5_mend_X0_turnMended
set_option maxRecDepth 20000 in
theorem ggX5_mend_J6_bitCount_0f7a4 : GoodIn wsX5_mend wsJ6_bitCount_0f7a4 := goodIn_r _ [30, 31, 32, 33] (by decide +kernel) (by decide +kernel)
set_option maxRecDepth 20000 in
theorem gX5_mend_J6_bitCount_0f7a4 : GoodIn wsX5_mend (va_wsS RX5 171 yJ6_bitCount_0f7a4 wsJ6_bitCount_0f7a4) := goodIn_app (goodIn_of _ (by decide +kernel)) ggX5_mend_J6_bitCount_0f7a4
theorem dX5_mend_0 : decode cX5_mend 0 = .ok (.aload_n 0, 1) := by decide +kernel
theorem dX5_mend_1 : decode cX5_mend 1 = .ok (.getfield 45, 3) := by decide +kernel
theorem dX5_mend_4 : decode cX5_mend 4 = .ok (.iload_n 1, 1) := by decide +kernel
theorem dX5_mend_5 : decode cX5_mend 5 = .ok (.invokevirtual 128, 3) := by decide +kernel
theorem dX5_mend_8 : decode cX5_mend 8 = .ok (.ifCond .eq 12, 3) := by decide +kernel
theorem dX5_mend_11 : decode cX5_mend 11 = .ok (.iload_n 2, 1) := by decide +kernel
theorem dX5_mend_12 : decode cX5_mend 12 = .ok (.ifCond .lt 8, 3) := by decide +kernel
theorem dX5_mend_15 : decode cX5_mend 15 = .ok (.iload_n 2, 1) := by decide +kernel
theorem dX5_mend_16 : decode cX5_mend 16 = .ok (.iconst 1, 1) := by decide +kernel
theorem dX5_mend_17 : decode cX5_mend 17 = .ok (.if_icmp .le 5, 3) := by decide +kernel
theorem dX5_mend_20 : decode cX5_mend 20 = .ok (.iconst (-1), 1) := by decide +kernel
theorem dX5_mend_21 : decode cX5_mend 21 = .ok (.ireturn, 1) := by decide +kernel
theorem dX5_mend_22 : decode cX5_mend 22 = .ok (.aload_n 0, 1) := by decide +kernel
theorem dX5_mend_23 : decode cX5_mend 23 = .ok (.getfield 45, 3) := by decide +kernel
theorem dX5_mend_26 : decode cX5_mend 26 = .ok (.iload_n 1, 1) := by decide +kernel
theorem dX5_mend_27 : decode cX5_mend 27 = .ok (.invokevirtual 159, 3) := by decide +kernel
theorem dX5_mend_30 : decode cX5_mend 30 = .ok (.iload_n 2, 1) := by decide +kernel
theorem dX5_mend_31 : decode cX5_mend 31 = .ok (.iconst 1, 1) := by decide +kernel
theorem dX5_mend_32 : decode cX5_mend 32 = .ok (.if_icmp .ne 7, 3) := by decide +kernel
theorem dX5_mend_35 : decode cX5_mend 35 = .ok (.iconst 1, 1) := by decide +kernel
theorem dX5_mend_36 : decode cX5_mend 36 = .ok (.goto 4, 3) := by decide +kernel
theorem dX5_mend_39 : decode cX5_mend 39 = .ok (.iconst 0, 1) := by decide +kernel
theorem dX5_mend_40 : decode cX5_mend 40 = .ok (.if_icmp .ne 6, 3) := by decide +kernel
theorem dX5_mend_43 : decode cX5_mend 43 = .ok (.bipush (-4), 2) := by decide +kernel
theorem dX5_mend_45 : decode cX5_mend 45 = .ok (.ireturn, 1) := by decide +kernel
theorem dX5_mend_46 : decode cX5_mend 46 = .ok (.aload_n 0, 1) := by decide +kernel
theorem dX5_mend_47 : decode cX5_mend 47 = .ok (.getfield 45, 3) := by decide +kernel
theorem dX5_mend_50 : decode cX5_mend 50 = .ok (.iconst 1, 1) := by decide +kernel
theorem dX5_mend_51 : decode cX5_mend 51 = .ok (.invokevirtual 162, 3) := by decide +kernel
theorem dX5_mend_54 : decode cX5_mend 54 = .ok (.ifCond .ne 6, 3) := by decide +kernel
theorem dX5_mend_57 : decode cX5_mend 57 = .ok (.bipush (-2), 2) := by decide +kernel
theorem dX5_mend_59 : decode cX5_mend 59 = .ok (.ireturn, 1) := by decide +kernel
theorem dX5_mend_60 : decode cX5_mend 60 = .ok (.aload_n 0, 1) := by decide +kernel
theorem dX5_mend_61 : decode cX5_mend 61 = .ok (.getfield 45, 3) := by decide +kernel
theorem dX5_mend_64 : decode cX5_mend 64 = .ok (.iload_n 1, 1) := by decide +kernel
theorem dX5_mend_65 : decode cX5_mend 65 = .ok (.invokevirtual 165, 3) := by decide +kernel
theorem dX5_mend_68 : decode cX5_mend 68 = .ok (.aload_n 0, 1) := by decide +kernel
theorem dX5_mend_69 : decode cX5_mend 69 = .ok (.getfield 45, 3) := by decide +kernel
theorem dX5_mend_72 : decode cX5_mend 72 = .ok (.getfield 168, 3) := by decide +kernel
theorem dX5_mend_75 : decode cX5_mend 75 = .ok (.invokestatic 171, 3) := by decide +kernel
theorem dX5_mend_78 : decode cX5_mend 78 = .ok (.ireturn, 1) := by decide +kernel
set_option maxRecDepth 20000 in
theorem ggX5_err_X5_isTown : GoodIn wsX5_err wsX5_isTown := goodIn_r _ [5] (by decide +kernel) (by decide +kernel)
set_option maxRecDepth 20000 in
theorem gX5_err_X5_isTown : GoodIn wsX5_err (va_wsS RX5 176 yX5_isTown wsX5_isTown) := goodIn_app (goodIn_of _ (by decide +kernel)) ggX5_err_X5_isTown
set_option maxRecDepth 20000 in
theorem ggX5_err_X5_isDay : GoodIn wsX5_err wsX5_isDay := goodIn_r _ [8] (by decide +kernel) (by decide +kernel)
set_option maxRecDepth 20000 in
theorem gX5_err_X5_isDay : GoodIn wsX5_err (va_wsS RX5 179 yX5_isDay wsX5_isDay) := goodIn_app (goodIn_of _ (by decide +kernel)) ggX5_err_X5_isDay
set_option maxRecDepth 20000 in
theorem ggX5_err_X0_isPerson : GoodIn wsX5_err wsX0_isPerson := goodIn_r _ [13, 14, 50, 51, 52, 53, 54, 55, 56, 57, 58, 59, 60, 61, 62, 63] (by decide +kernel) (by decide +kernel)
set_option maxRecDepth 20000 in
theorem gX5_err_X0_isPerson : GoodIn wsX5_err (wsV RX5 122 RX0 yX0_isPerson wsX0_isPerson) := goodIn_app (goodIn_of _ (by decide +kernel)) ggX5_err_X0_isPerson
set_option maxRecDepth 20000 in
theorem ggX5_err_X0_hasErrorsLeft : GoodIn wsX5_err wsX0_hasErrorsLeft := goodIn_r _ [18, 19, 50, 51, 52, 53, 54, 55, 56, 57, 58, 59, 60, 61, 62, 63] (by decide +kernel) (by decide +kernel)
set_option maxRecDepth 20000 in
theorem gX5_err_X0_hasErrorsLeft : GoodIn wsX5_err (wsV RX5 182 RX0 yX0_hasErrorsLeft wsX0_hasErrorsLeft) := goodIn_app (goodIn_of _ (by decide +kernel)) ggX5_err_X0_hasErrorsLeft
set_option maxRecDepth 20000 in
theorem ggX5_err_X0_hasTurnsLeft : GoodIn wsX5_err wsX0_hasTurnsLeft := goodIn_r _ [23, 24, 50, 51, 52, 53, 54, 55, 56, 57, 58, 59, 60, 61, 62, 63] (by decide +kernel) (by decide +kernel)
set_option maxRecDepth 20000 in
theorem gX5_err_X0_hasTurnsLeft : GoodIn wsX5_err (wsV RX5 162 RX0 yX0_hasTurnsLeft wsX0_hasTurnsLeft) := goodIn_app (goodIn_of _ (by decide +kernel)) ggX5_err_X0_hasTurnsLeft
set_option maxRecDepth 20000 in
theorem ggX5_err_X0_turnErred : GoodIn wsX5_err wsX0_turnErred := goodIn_r _ [28, 29, 30, 31, 12, 32, 19, 33, 34, 35, 36, 37, 38, 39, 40, 24, 41, 50, 51, 52, 53, 54, 55, 56, 57, 58, 59, 60, 61, 62, 63] (by decide +kernel) (by decide +kernel)
set_option maxRecDepth 20000 in
theorem gX5_err_X0_turnErred : GoodIn wsX5_err (wsV RX5 185 RX0 yX0_turnErred wsX0_turnErred) := goodIn_app (goodIn_of _ (by decide +kernel)) ggX5_err_X0_turnErred
theorem dX5_err_0 : decode cX5_err 0 = .ok (.iload_n 1, 1) := by decide +kernel
theorem dX5_err_1 : decode cX5_err 1 = .ok (.ifCond .lt 14, 3) := by decide +kernel
theorem dX5_err_4 : decode cX5_err 4 = .ok (.iload_n 2, 1) := by decide +kernel
theorem dX5_err_5 : decode cX5_err 5 = .ok (.iconst 1, 1) := by decide +kernel
theorem dX5_err_6 : decode cX5_err 6 = .ok (.if_icmp .lt 9, 3) := by decide +kernel
theorem dX5_err_9 : decode cX5_err 9 = .ok (.iload_n 2, 1) := by decide +kernel
theorem dX5_err_10 : decode cX5_err 10 = .ok (.bipush 10, 2) := by decide +kernel
theorem dX5_err_12 : decode cX5_err 12 = .ok (.if_icmp .lt 5, 3) := by decide +kernel
theorem dX5_err_15 : decode cX5_err 15 = .ok (.iconst (-1), 1) := by decide +kernel
theorem dX5_err_16 : decode cX5_err 16 = .ok (.ireturn, 1) := by decide +kernel
theorem dX5_err_17 : decode cX5_err 17 = .ok (.iload_n 1, 1) := by decide +kernel
theorem dX5_err_18 : decode cX5_err 18 = .ok (.sipush 1000, 3) := by decide +kernel
theorem dX5_err_21 : decode cX5_err 21 = .ok (.idiv, 1) := by decide +kernel
theorem dX5_err_22 : decode cX5_err 22 = .ok (.istore_n 3, 1) := by decide +kernel
theorem dX5_err_23 : decode cX5_err 23 = .ok (.iload_n 1, 1) := by decide +kernel
theorem dX5_err_24 : decode cX5_err 24 = .ok (.sipush 1000, 3) := by decide +kernel
theorem dX5_err_27 : decode cX5_err 27 = .ok (.irem, 1) := by decide +kernel
theorem dX5_err_28 : decode cX5_err 28 = .ok (.bipush 10, 2) := by decide +kernel
theorem dX5_err_30 : decode cX5_err 30 = .ok (.idiv, 1) := by decide +kernel
theorem dX5_err_31 : decode cX5_err 31 = .ok (.istore 4, 2) := by decide +kernel
theorem dX5_err_33 : decode cX5_err 33 = .ok (.iload_n 1, 1) := by decide +kernel
theorem dX5_err_34 : decode cX5_err 34 = .ok (.bipush 10, 2) := by decide +kernel
theorem dX5_err_36 : decode cX5_err 36 = .ok (.irem, 1) := by decide +kernel
theorem dX5_err_37 : decode cX5_err 37 = .ok (.istore 5, 2) := by decide +kernel
theorem dX5_err_39 : decode cX5_err 39 = .ok (.iload_n 3, 1) := by decide +kernel
theorem dX5_err_40 : decode cX5_err 40 = .ok (.invokestatic 176, 3) := by decide +kernel
theorem dX5_err_43 : decode cX5_err 43 = .ok (.ifCond .eq 23, 3) := by decide +kernel
theorem dX5_err_46 : decode cX5_err 46 = .ok (.iload 4, 2) := by decide +kernel
theorem dX5_err_48 : decode cX5_err 48 = .ok (.invokestatic 179, 3) := by decide +kernel
theorem dX5_err_51 : decode cX5_err 51 = .ok (.ifCond .eq 15, 3) := by decide +kernel
theorem dX5_err_54 : decode cX5_err 54 = .ok (.aload_n 0, 1) := by decide +kernel
theorem dX5_err_55 : decode cX5_err 55 = .ok (.getfield 45, 3) := by decide +kernel
theorem dX5_err_58 : decode cX5_err 58 = .ok (.iload 5, 2) := by decide +kernel
theorem dX5_err_60 : decode cX5_err 60 = .ok (.invokevirtual 122, 3) := by decide +kernel
theorem dX5_err_63 : decode cX5_err 63 = .ok (.ifCond .ne 5, 3) := by decide +kernel
theorem dX5_err_66 : decode cX5_err 66 = .ok (.iconst (-1), 1) := by decide +kernel
theorem dX5_err_67 : decode cX5_err 67 = .ok (.ireturn, 1) := by decide +kernel
theorem dX5_err_68 : decode cX5_err 68 = .ok (.aload_n 0, 1) := by decide +kernel
theorem dX5_err_69 : decode cX5_err 69 = .ok (.getfield 45, 3) := by decide +kernel
theorem dX5_err_72 : decode cX5_err 72 = .ok (.iconst 1, 1) := by decide +kernel
theorem dX5_err_73 : decode cX5_err 73 = .ok (.invokevirtual 182, 3) := by decide +kernel
theorem dX5_err_76 : decode cX5_err 76 = .ok (.ifCond .eq 14, 3) := by decide +kernel
theorem dX5_err_79 : decode cX5_err 79 = .ok (.aload_n 0, 1) := by decide +kernel
theorem dX5_err_80 : decode cX5_err 80 = .ok (.getfield 45, 3) := by decide +kernel
theorem dX5_err_83 : decode cX5_err 83 = .ok (.iconst 1, 1) := by decide +kernel
theorem dX5_err_84 : decode cX5_err 84 = .ok (.invokevirtual 162, 3) := by decide +kernel
theorem dX5_err_87 : decode cX5_err 87 = .ok (.ifCond .ne 6, 3) := by decide +kernel
theorem dX5_err_90 : decode cX5_err 90 = .ok (.bipush (-2), 2) := by decide +kernel
theorem dX5_err_92 : decode cX5_err 92 = .ok (.ireturn, 1) := by decide +kernel
theorem dX5_err_93 : decode cX5_err 93 = .ok (.aload_n 0, 1) := by decide +kernel
theorem dX5_err_94 : decode cX5_err 94 = .ok (.getfield 45, 3) := by decide +kernel
theorem dX5_err_97 : decode cX5_err 97 = .ok (.iload_n 3, 1) := by decide +kernel
theorem dX5_err_98 : decode cX5_err 98 = .ok (.iload 4, 2) := by decide +kernel
theorem dX5_err_100 : decode cX5_err 100 = .ok (.iload 5, 2) := by decide +kernel
theorem dX5_err_102 : decode cX5_err 102 = .ok (.iload_n 2, 1) := by decide +kernel
theorem dX5_err_103 : decode cX5_err 103 = .ok (.invokevirtual 185, 3) := by decide +kernel
theorem dX5_err_106 : decode cX5_err 106 = .ok (.aload_n 0, 1) := by decide +kernel
theorem dX5_err_107 : decode cX5_err 107 = .ok (.getfield 45, 3) := by decide +kernel
theorem dX5_err_110 : decode cX5_err 110 = .ok (.getfield 189, 3) := by decide +kernel
theorem dX5_err_113 : decode cX5_err 113 = .ok (.iconst 1, 1) := by decide +kernel
theorem dX5_err_114 : decode cX5_err 114 = .ok (.isub, 1) := by decide +kernel
theorem dX5_err_115 : decode cX5_err 115 = .ok (.ireturn, 1) := by decide +kernel
set_option maxRecDepth 20000 in
theorem ggX5_day_X0_hasTurnsLeft : GoodIn wsX5_day wsX0_hasTurnsLeft := goodIn_r _ [6, 7, 26, 27, 28, 29, 30, 31, 32, 33, 34, 35, 36, 37, 38, 39] (by decide +kernel) (by decide +kernel)
set_option maxRecDepth 20000 in
theorem gX5_day_X0_hasTurnsLeft : GoodIn wsX5_day (wsV RX5 162 RX0 yX0_hasTurnsLeft wsX0_hasTurnsLeft) := goodIn_app (goodIn_of _ (by decide +kernel)) ggX5_day_X0_hasTurnsLeft
set_option maxRecDepth 20000 in
theorem ggX5_day_X0_turnDay : GoodIn wsX5_day wsX0_turnDay := goodIn_r _ [11, 12, 13, 14, 15, 5, 16, 7, 17, 26, 27, 28, 29, 30, 31, 32, 33, 34, 35, 36, 37, 38, 39] (by decide +kernel) (by decide +kernel)
set_option maxRecDepth 20000 in
theorem gX5_day_X0_turnDay : GoodIn wsX5_day (wsV RX5 195 RX0 yX0_turnDay wsX0_turnDay) := goodIn_app (goodIn_of _ (by decide +kernel)) ggX5_day_X0_turnDay
theorem dX5_day_0 : decode cX5_day 0 = .ok (.aload_n 0, 1) := by decide +kernel
theorem dX5_day_1 : decode cX5_day 1 = .ok (.getfield 45, 3) := by decide +kernel
theorem dX5_day_4 : decode cX5_day 4 = .ok (.getfield 119, 3) := by decide +kernel
theorem dX5_day_7 : decode cX5_day 7 = .ok (.ifCond .eq 15, 3) := by decide +kernel
theorem dX5_day_10 : decode cX5_day 10 = .ok (.aload_n 0, 1) := by decide +kernel
theorem dX5_day_11 : decode cX5_day 11 = .ok (.getfield 45, 3) := by decide +kernel
theorem dX5_day_14 : decode cX5_day 14 = .ok (.getfield 192, 3) := by decide +kernel
theorem dX5_day_17 : decode cX5_day 17 = .ok (.bipush 19, 2) := by decide +kernel
theorem dX5_day_19 : decode cX5_day 19 = .ok (.if_icmp .lt 6, 3) := by decide +kernel
theorem dX5_day_22 : decode cX5_day 22 = .ok (.bipush (-4), 2) := by decide +kernel
theorem dX5_day_24 : decode cX5_day 24 = .ok (.ireturn, 1) := by decide +kernel
theorem dX5_day_25 : decode cX5_day 25 = .ok (.aload_n 0, 1) := by decide +kernel
theorem dX5_day_26 : decode cX5_day 26 = .ok (.getfield 45, 3) := by decide +kernel
theorem dX5_day_29 : decode cX5_day 29 = .ok (.iconst 1, 1) := by decide +kernel
theorem dX5_day_30 : decode cX5_day 30 = .ok (.invokevirtual 162, 3) := by decide +kernel
theorem dX5_day_33 : decode cX5_day 33 = .ok (.ifCond .ne 6, 3) := by decide +kernel
theorem dX5_day_36 : decode cX5_day 36 = .ok (.bipush (-2), 2) := by decide +kernel
theorem dX5_day_38 : decode cX5_day 38 = .ok (.ireturn, 1) := by decide +kernel
theorem dX5_day_39 : decode cX5_day 39 = .ok (.aload_n 0, 1) := by decide +kernel
theorem dX5_day_40 : decode cX5_day 40 = .ok (.getfield 45, 3) := by decide +kernel
theorem dX5_day_43 : decode cX5_day 43 = .ok (.invokevirtual 195, 3) := by decide +kernel
theorem dX5_day_46 : decode cX5_day 46 = .ok (.aload_n 0, 1) := by decide +kernel
theorem dX5_day_47 : decode cX5_day 47 = .ok (.getfield 45, 3) := by decide +kernel
theorem dX5_day_50 : decode cX5_day 50 = .ok (.getfield 192, 3) := by decide +kernel
theorem dX5_day_53 : decode cX5_day 53 = .ok (.ireturn, 1) := by decide +kernel
set_option maxRecDepth 20000 in
theorem ggX5_undo_X0_turnBack : GoodIn wsX5_undo wsX0_turnBack := goodIn_r _ [6, 7, 8, 9, 10, 11, 20, 21, 22, 23, 24, 25, 26, 27, 28, 29, 30, 31, 32, 33] (by decide +kernel) (by decide +kernel)
set_option maxRecDepth 20000 in
theorem gX5_undo_X0_turnBack : GoodIn wsX5_undo (wsV RX5 198 RX0 yX0_turnBack wsX0_turnBack) := goodIn_app (goodIn_of _ (by decide +kernel)) ggX5_undo_X0_turnBack
theorem dX5_undo_0 : decode cX5_undo 0 = .ok (.iload_n 1, 1) := by decide +kernel
theorem dX5_undo_1 : decode cX5_undo 1 = .ok (.ifCond .lt 14, 3) := by decide +kernel
theorem dX5_undo_4 : decode cX5_undo 4 = .ok (.iload_n 1, 1) := by decide +kernel
theorem dX5_undo_5 : decode cX5_undo 5 = .ok (.aload_n 0, 1) := by decide +kernel
theorem dX5_undo_6 : decode cX5_undo 6 = .ok (.getfield 45, 3) := by decide +kernel
theorem dX5_undo_9 : decode cX5_undo 9 = .ok (.getfield 153, 3) := by decide +kernel
theorem dX5_undo_12 : decode cX5_undo 12 = .ok (.if_icmp .le 5, 3) := by decide +kernel
theorem dX5_undo_15 : decode cX5_undo 15 = .ok (.iconst (-1), 1) := by decide +kernel
theorem dX5_undo_16 : decode cX5_undo 16 = .ok (.ireturn, 1) := by decide +kernel
theorem dX5_undo_17 : decode cX5_undo 17 = .ok (.aload_n 0, 1) := by decide +kernel
theorem dX5_undo_18 : decode cX5_undo 18 = .ok (.getfield 45, 3) := by decide +kernel
theorem dX5_undo_21 : decode cX5_undo 21 = .ok (.getfield 153, 3) := by decide +kernel
theorem dX5_undo_24 : decode cX5_undo 24 = .ok (.iload_n 1, 1) := by decide +kernel
theorem dX5_undo_25 : decode cX5_undo 25 = .ok (.isub, 1) := by decide +kernel
theorem dX5_undo_26 : decode cX5_undo 26 = .ok (.istore_n 2, 1) := by decide +kernel
theorem dX5_undo_27 : decode cX5_undo 27 = .ok (.iconst 0, 1) := by decide +kernel
theorem dX5_undo_28 : decode cX5_undo 28 = .ok (.istore_n 3, 1) := by decide +kernel
theorem dX5_undo_29 : decode cX5_undo 29 = .ok (.iload_n 3, 1) := by decide +kernel
theorem dX5_undo_30 : decode cX5_undo 30 = .ok (.iload_n 2, 1) := by decide +kernel
theorem dX5_undo_31 : decode cX5_undo 31 = .ok (.if_icmp .ge 16, 3) := by decide +kernel
theorem dX5_undo_34 : decode cX5_undo 34 = .ok (.aload_n 0, 1) := by decide +kernel
theorem dX5_undo_35 : decode cX5_undo 35 = .ok (.getfield 45, 3) := by decide +kernel
theorem dX5_undo_38 : decode cX5_undo 38 = .ok (.invokevirtual 198, 3) := by decide +kernel
theorem dX5_undo_41 : decode cX5_undo 41 = .ok (.iinc 3 1, 3) := by decide +kernel
theorem dX5_undo_44 : decode cX5_undo 44 = .ok (.goto (-15), 3) := by decide +kernel
theorem dX5_undo_47 : decode cX5_undo 47 = .ok (.iload_n 2, 1) := by decide +kernel
theorem dX5_undo_48 : decode cX5_undo 48 = .ok (.ireturn, 1) := by decide +kernel
set_option maxRecDepth 20000 in
theorem ggX5_keep_X5_isPlace : GoodIn wsX5_keep wsX5_isPlace := goodIn_r _ [6] (by decide +kernel) (by decide +kernel)
set_option maxRecDepth 20000 in
theorem gX5_keep_X5_isPlace : GoodIn wsX5_keep (va_wsS RX5 201 yX5_isPlace wsX5_isPlace) := goodIn_app (goodIn_of _ (by decide +kernel)) ggX5_keep_X5_isPlace
set_option maxRecDepth 20000 in
theorem ggX5_keep_X0_takeFrom : GoodIn wsX5_keep wsX0_takeFrom := goodIn_r _ [11, 12, 13, 14, 15, 16, 17, 18, 19, 20, 21, 22, 23, 24, 25, 26, 27, 28, 37, 38, 39, 40, 41, 42, 43, 44, 45, 46, 47, 48, 49, 50] (by decide +kernel) (by decide +kernel)
set_option maxRecDepth 20000 in
theorem gX5_keep_X0_takeFrom : GoodIn wsX5_keep (wsV RX5 112 RX0 yX0_takeFrom wsX0_takeFrom) := goodIn_app (goodIn_of _ (by decide +kernel)) ggX5_keep_X0_takeFrom
theorem dX5_keep_0 : decode cX5_keep 0 = .ok (.iload_n 1, 1) := by decide +kernel
theorem dX5_keep_1 : decode cX5_keep 1 = .ok (.invokestatic 201, 3) := by decide +kernel
theorem dX5_keep_4 : decode cX5_keep 4 = .ok (.ifCond .ne 5, 3) := by decide +kernel
theorem dX5_keep_7 : decode cX5_keep 7 = .ok (.iconst (-1), 1) := by decide +kernel
theorem dX5_keep_8 : decode cX5_keep 8 = .ok (.ireturn, 1) := by decide +kernel
theorem dX5_keep_9 : decode cX5_keep 9 = .ok (.aload_n 0, 1) := by decide +kernel
theorem dX5_keep_10 : decode cX5_keep 10 = .ok (.getfield 45, 3) := by decide +kernel
theorem dX5_keep_13 : decode cX5_keep 13 = .ok (.getfield 119, 3) := by decide +kernel
theorem dX5_keep_16 : decode cX5_keep 16 = .ok (.ifCond .ne 6, 3) := by decide +kernel
theorem dX5_keep_19 : decode cX5_keep 19 = .ok (.bipush (-4), 2) := by decide +kernel
theorem dX5_keep_21 : decode cX5_keep 21 = .ok (.ireturn, 1) := by decide +kernel
theorem dX5_keep_22 : decode cX5_keep 22 = .ok (.aload_n 0, 1) := by decide +kernel
theorem dX5_keep_23 : decode cX5_keep 23 = .ok (.getfield 49, 3) := by decide +kernel
theorem dX5_keep_26 : decode cX5_keep 26 = .ok (.iload_n 1, 1) := by decide +kernel
theorem dX5_keep_27 : decode cX5_keep 27 = .ok (.aaload, 1) := by decide +kernel
theorem dX5_keep_28 : decode cX5_keep 28 = .ok (.aload_n 0, 1) := by decide +kernel
theorem dX5_keep_29 : decode cX5_keep 29 = .ok (.getfield 45, 3) := by decide +kernel
theorem dX5_keep_32 : decode cX5_keep 32 = .ok (.invokevirtual 112, 3) := by decide +kernel
theorem dX5_keep_35 : decode cX5_keep 35 = .ok (.aload_n 0, 1) := by decide +kernel
theorem dX5_keep_36 : decode cX5_keep 36 = .ok (.getfield 45, 3) := by decide +kernel
theorem dX5_keep_39 : decode cX5_keep 39 = .ok (.getfield 153, 3) := by decide +kernel
theorem dX5_keep_42 : decode cX5_keep 42 = .ok (.ireturn, 1) := by decide +kernel
set_option maxRecDepth 20000 in
theorem ggX5_on_X5_isPlace : GoodIn wsX5_on wsX5_isPlace := goodIn_r _ [7] (by decide +kernel) (by decide +kernel)
set_option maxRecDepth 20000 in
theorem gX5_on_X5_isPlace : GoodIn wsX5_on (va_wsS RX5 201 yX5_isPlace wsX5_isPlace) := goodIn_app (goodIn_of _ (by decide +kernel)) ggX5_on_X5_isPlace
set_option maxRecDepth 20000 in
theorem ggX5_on_X5_isKept : GoodIn wsX5_on wsX5_isKept := goodIn_r _ [11, 3, 4, 5, 6, 7, 41, 42, 43, 44, 45, 46, 47, 48, 49, 50, 51, 52, 53, 54, 55, 56, 57, 58, 59, 60, 61, 62] (by decide +kernel) (by decide +kernel)
set_option maxRecDepth 20000 in
theorem gX5_on_X5_isKept : GoodIn wsX5_on (wsV RX5 204 RX5 yX5_isKept wsX5_isKept) := goodIn_app (goodIn_of _ (by decide +kernel)) ggX5_on_X5_isKept
set_option maxRecDepth 20000 in
theorem ggX5_on_X4_found : GoodIn wsX5_on wsX4_found := goodIn_r _ [16, 17, 18, 63, 64, 65, 66, 67] (by decide +kernel) (by decide +kernel)
set_option maxRecDepth 20000 in
theorem gX5_on_X4_found : GoodIn wsX5_on (wsV RX5 61 RX4 yX4_found wsX4_found) := goodIn_app (goodIn_of _ (by decide +kernel)) ggX5_on_X4_found
set_option maxRecDepth 20000 in
theorem ggX5_on_X0_takeFrom : GoodIn wsX5_on wsX0_takeFrom := goodIn_r _ [23, 24, 25, 26, 27, 28, 29, 30, 31, 32, 33, 34, 35, 36, 37, 38, 39, 40, 49, 50, 51, 52, 53, 54, 55, 56, 57, 58, 59, 60, 61, 62] (by decide +kernel) (by decide +kernel)
set_option maxRecDepth 20000 in
theorem gX5_on_X0_takeFrom : GoodIn wsX5_on (wsV RX5 112 RX0 yX0_takeFrom wsX0_takeFrom) := goodIn_app (goodIn_of _ (by decide +kernel)) ggX5_on_X0_takeFrom
theorem dX5_on_0 : decode cX5_on 0 = .ok (.iload_n 1, 1) := by decide +kernel
theorem dX5_on_1 : decode cX5_on 1 = .ok (.invokestatic 201, 3) := by decide +kernel
theorem dX5_on_4 : decode cX5_on 4 = .ok (.ifCond .ne 5, 3) := by decide +kernel
theorem dX5_on_7 : decode cX5_on 7 = .ok (.iconst (-1), 1) := by decide +kernel
theorem dX5_on_8 : decode cX5_on 8 = .ok (.ireturn, 1) := by decide +kernel
theorem dX5_on_9 : decode cX5_on 9 = .ok (.aload_n 0, 1) := by decide +kernel
theorem dX5_on_10 : decode cX5_on 10 = .ok (.iload_n 1, 1) := by decide +kernel
theorem dX5_on_11 : decode cX5_on 11 = .ok (.invokevirtual 204, 3) := by decide +kernel
theorem dX5_on_14 : decode cX5_on 14 = .ok (.ifCond .ne 12, 3) := by decide +kernel
theorem dX5_on_17 : decode cX5_on 17 = .ok (.aload_n 0, 1) := by decide +kernel
theorem dX5_on_18 : decode cX5_on 18 = .ok (.getfield 24, 3) := by decide +kernel
theorem dX5_on_21 : decode cX5_on 21 = .ok (.iconst 1, 1) := by decide +kernel
theorem dX5_on_22 : decode cX5_on 22 = .ok (.invokevirtual 61, 3) := by decide +kernel
theorem dX5_on_25 : decode cX5_on 25 = .ok (.ireturn, 1) := by decide +kernel
theorem dX5_on_26 : decode cX5_on 26 = .ok (.aload_n 0, 1) := by decide +kernel
theorem dX5_on_27 : decode cX5_on 27 = .ok (.getfield 45, 3) := by decide +kernel
theorem dX5_on_30 : decode cX5_on 30 = .ok (.aload_n 0, 1) := by decide +kernel
theorem dX5_on_31 : decode cX5_on 31 = .ok (.getfield 49, 3) := by decide +kernel
theorem dX5_on_34 : decode cX5_on 34 = .ok (.iload_n 1, 1) := by decide +kernel
theorem dX5_on_35 : decode cX5_on 35 = .ok (.aaload, 1) := by decide +kernel
theorem dX5_on_36 : decode cX5_on 36 = .ok (.invokevirtual 112, 3) := by decide +kernel
theorem dX5_on_39 : decode cX5_on 39 = .ok (.aload_n 0, 1) := by decide +kernel
theorem dX5_on_40 : decode cX5_on 40 = .ok (.getfield 45, 3) := by decide +kernel
theorem dX5_on_43 : decode cX5_on 43 = .ok (.getfield 153, 3) := by decide +kernel
theorem dX5_on_46 : decode cX5_on 46 = .ok (.ireturn, 1) := by decide +kernel
set_option maxRecDepth 20000 in
theorem ggX5_does_X5_isTown : GoodIn wsX5_does wsX5_isTown := goodIn_r _ [5] (by decide +kernel) (by decide +kernel)
set_option maxRecDepth 20000 in
theorem gX5_does_X5_isTown : GoodIn wsX5_does (va_wsS RX5 176 yX5_isTown wsX5_isTown) := goodIn_app (goodIn_of _ (by decide +kernel)) ggX5_does_X5_isTown
set_option maxRecDepth 20000 in
theorem ggX5_does_X5_isDay : GoodIn wsX5_does wsX5_isDay := goodIn_r _ [8] (by decide +kernel) (by decide +kernel)
set_option maxRecDepth 20000 in
theorem gX5_does_X5_isDay : GoodIn wsX5_does (va_wsS RX5 179 yX5_isDay wsX5_isDay) := goodIn_app (goodIn_of _ (by decide +kernel)) ggX5_does_X5_isDay
set_option maxRecDepth 20000 in
theorem ggX5_does_X0_isPerson : GoodIn wsX5_does wsX0_isPerson := goodIn_r _ [13, 14, 68, 69, 70, 71, 72, 73, 74, 75, 76, 77, 78, 79, 80, 81] (by decide +kernel) (by decide +kernel)
set_option maxRecDepth 20000 in
theorem gX5_does_X0_isPerson : GoodIn wsX5_does (wsV RX5 122 RX0 yX0_isPerson wsX0_isPerson) := goodIn_app (goodIn_of _ (by decide +kernel)) ggX5_does_X0_isPerson
set_option maxRecDepth 20000 in
theorem ggX5_does_X0_done : GoodIn wsX5_does wsX0_done := goodIn_r _ [18, 19, 20, 21, 12, 22, 23, 24, 25, 26, 27, 28, 29, 30, 31, 32, 3, 4, 5, 7, 8, 33, 10, 11, 13, 14, 34, 35, 36, 37, 38, 39, 40, 41, 42, 43, 44, 45, 46, 47, 48, 49, 50, 51, 52, 53, 54, 55, 56, 57, 58, 59, 68, 69, 70, 71, 72, 73, 74, 75, 76, 77, 78, 79, 80, 81] (by decide +kernel) (by decide +kernel)
set_option maxRecDepth 20000 in
theorem gX5_does_X0_done : GoodIn wsX5_does (wsV RX5 207 RX0 yX0_done wsX0_done) := goodIn_app (goodIn_of _ (by decide +kernel)) ggX5_does_X0_done
theorem dX5_does_0 : decode cX5_does 0 = .ok (.iload_n 1, 1) := by decide +kernel
theorem dX5_does_1 : decode cX5_does 1 = .ok (.invokestatic 176, 3) := by decide +kernel
theorem dX5_does_4 : decode cX5_does 4 = .ok (.ifCond .eq 21, 3) := by decide +kernel
theorem dX5_does_7 : decode cX5_does 7 = .ok (.iload_n 2, 1) := by decide +kernel
theorem dX5_does_8 : decode cX5_does 8 = .ok (.invokestatic 179, 3) := by decide +kernel
theorem dX5_does_11 : decode cX5_does 11 = .ok (.ifCond .eq 14, 3) := by decide +kernel
theorem dX5_does_14 : decode cX5_does 14 = .ok (.aload_n 0, 1) := by decide +kernel
theorem dX5_does_15 : decode cX5_does 15 = .ok (.getfield 45, 3) := by decide +kernel
theorem dX5_does_18 : decode cX5_does 18 = .ok (.iload_n 3, 1) := by decide +kernel
theorem dX5_does_19 : decode cX5_does 19 = .ok (.invokevirtual 122, 3) := by decide +kernel
theorem dX5_does_22 : decode cX5_does 22 = .ok (.ifCond .ne 5, 3) := by decide +kernel
theorem dX5_does_25 : decode cX5_does 25 = .ok (.iconst (-1), 1) := by decide +kernel
theorem dX5_does_26 : decode cX5_does 26 = .ok (.ireturn, 1) := by decide +kernel
theorem dX5_does_27 : decode cX5_does 27 = .ok (.aload_n 0, 1) := by decide +kernel
theorem dX5_does_28 : decode cX5_does 28 = .ok (.getfield 45, 3) := by decide +kernel
theorem dX5_does_31 : decode cX5_does 31 = .ok (.iload_n 1, 1) := by decide +kernel
theorem dX5_does_32 : decode cX5_does 32 = .ok (.iload_n 2, 1) := by decide +kernel
theorem dX5_does_33 : decode cX5_does 33 = .ok (.iload_n 3, 1) := by decide +kernel
theorem dX5_does_34 : decode cX5_does 34 = .ok (.invokevirtual 207, 3) := by decide +kernel
theorem dX5_does_37 : decode cX5_does 37 = .ok (.ireturn, 1) := by decide +kernel
set_option maxRecDepth 20000 in
theorem ggX5_differ_X5_arePair : GoodIn wsX5_differ wsX5_arePair := goodIn_r _ [5, 6, 7, 4, 8] (by decide +kernel) (by decide +kernel)
set_option maxRecDepth 20000 in
theorem gX5_differ_X5_arePair : GoodIn wsX5_differ (va_wsS RX5 211 yX5_arePair wsX5_arePair) := goodIn_app (goodIn_of _ (by decide +kernel)) ggX5_differ_X5_arePair
set_option maxRecDepth 20000 in
theorem ggX5_differ_X5_isDay : GoodIn wsX5_differ wsX5_isDay := goodIn_r _ [11] (by decide +kernel) (by decide +kernel)
set_option maxRecDepth 20000 in
theorem gX5_differ_X5_isDay : GoodIn wsX5_differ (va_wsS RX5 179 yX5_isDay wsX5_isDay) := goodIn_app (goodIn_of _ (by decide +kernel)) ggX5_differ_X5_isDay
set_option maxRecDepth 20000 in
theorem ggX5_differ_X0_differing : GoodIn wsX5_differ wsX0_differing := goodIn_r _ [16, 17, 18, 19, 20, 15, 21, 22, 23, 24, 25, 26, 27, 28, 29, 30, 31, 32, 33, 34, 35, 7, 4, 8, 10, 11, 36, 37, 38, 39, 40, 41, 42, 43, 44, 45, 46, 47, 48, 49, 50, 51, 52, 53, 54, 55, 56, 57, 58, 59, 60, 61, 62, 63, 64, 65, 74, 75, 76, 77, 78, 79, 80, 81, 82, 83, 84, 85, 86, 87] (by decide +kernel) (by decide +kernel)
set_option maxRecDepth 20000 in
theorem gX5_differ_X0_differing : GoodIn wsX5_differ (wsV RX5 214 RX0 yX0_differing wsX0_differing) := goodIn_app (goodIn_of _ (by decide +kernel)) ggX5_differ_X0_differing
theorem dX5_differ_0 : decode cX5_differ 0 = .ok (.iload_n 1, 1) := by decide +kernel
theorem dX5_differ_1 : decode cX5_differ 1 = .ok (.iload_n 2, 1) := by decide +kernel
theorem dX5_differ_2 : decode cX5_differ 2 = .ok (.invokestatic 211, 3) := by decide +kernel
theorem dX5_differ_5 : decode cX5_differ 5 = .ok (.ifCond .eq 15, 3) := by decide +kernel
theorem dX5_differ_8 : decode cX5_differ 8 = .ok (.iload_n 3, 1) := by decide +kernel
theorem dX5_differ_9 : decode cX5_differ 9 = .ok (.invokestatic 179, 3) := by decide +kernel
theorem dX5_differ_12 : decode cX5_differ 12 = .ok (.ifCond .eq 8, 3) := by decide +kernel
theorem dX5_differ_15 : decode cX5_differ 15 = .ok (.iload_n 3, 1) := by decide +kernel
theorem dX5_differ_16 : decode cX5_differ 16 = .ok (.iload_n 2, 1) := by decide +kernel
theorem dX5_differ_17 : decode cX5_differ 17 = .ok (.if_icmp .ge 5, 3) := by decide +kernel
theorem dX5_differ_20 : decode cX5_differ 20 = .ok (.iconst (-1), 1) := by decide +kernel
theorem dX5_differ_21 : decode cX5_differ 21 = .ok (.ireturn, 1) := by decide +kernel
theorem dX5_differ_22 : decode cX5_differ 22 = .ok (.aload_n 0, 1) := by decide +kernel
theorem dX5_differ_23 : decode cX5_differ 23 = .ok (.getfield 45, 3) := by decide +kernel
theorem dX5_differ_26 : decode cX5_differ 26 = .ok (.iload_n 1, 1) := by decide +kernel
theorem dX5_differ_27 : decode cX5_differ 27 = .ok (.iload_n 2, 1) := by decide +kernel
theorem dX5_differ_28 : decode cX5_differ 28 = .ok (.iload_n 3, 1) := by decide +kernel
theorem dX5_differ_29 : decode cX5_differ 29 = .ok (.invokevirtual 214, 3) := by decide +kernel
theorem dX5_differ_32 : decode cX5_differ 32 = .ok (.ireturn, 1) := by decide +kernel
set_option maxRecDepth 20000 in
theorem ggX5_since_X5_arePair : GoodIn wsX5_since wsX5_arePair := goodIn_r _ [6, 7, 8, 5, 9] (by decide +kernel) (by decide +kernel)
set_option maxRecDepth 20000 in
theorem gX5_since_X5_arePair : GoodIn wsX5_since (va_wsS RX5 211 yX5_arePair wsX5_arePair) := goodIn_app (goodIn_of _ (by decide +kernel)) ggX5_since_X5_arePair
set_option maxRecDepth 20000 in
theorem ggX5_since_X0_isPerson : GoodIn wsX5_since wsX0_isPerson := goodIn_r _ [14, 15, 76, 77, 78, 79, 80, 81, 82, 83, 84, 85, 86, 87, 88, 89] (by decide +kernel) (by decide +kernel)
set_option maxRecDepth 20000 in
theorem gX5_since_X0_isPerson : GoodIn wsX5_since (wsV RX5 122 RX0 yX0_isPerson wsX0_isPerson) := goodIn_app (goodIn_of _ (by decide +kernel)) ggX5_since_X0_isPerson
set_option maxRecDepth 20000 in
theorem ggX5_since_X0_unmended : GoodIn wsX5_since wsX0_unmended := goodIn_r _ [19, 20, 21, 76, 77, 78, 79, 80, 81, 82, 83, 84, 85, 86, 87, 88, 89] (by decide +kernel) (by decide +kernel)
set_option maxRecDepth 20000 in
theorem gX5_since_X0_unmended : GoodIn wsX5_since (wsV RX5 217 RX0 yX0_unmended wsX0_unmended) := goodIn_app (goodIn_of _ (by decide +kernel)) ggX5_since_X0_unmended
set_option maxRecDepth 20000 in
theorem ggX5_since_X0_differs : GoodIn wsX5_since wsX0_differs := goodIn_r _ [25, 26, 27, 28, 13, 29, 30, 31, 32, 33, 8, 5, 9, 34, 35, 36, 11, 12, 14, 15, 37, 38, 39, 40, 41, 20, 42, 43, 44, 45, 46, 47, 48, 49, 50, 51, 52, 53, 54, 55, 56, 57, 58, 59, 60, 61, 62, 76, 77, 78, 79, 80, 81, 82, 83, 84, 85, 86, 87, 88, 89] (by decide +kernel) (by decide +kernel)
set_option maxRecDepth 20000 in
theorem gX5_since_X0_differs : GoodIn wsX5_since (wsV RX5 221 RX0 yX0_differs wsX0_differs) := goodIn_app (goodIn_of _ (by decide +kernel)) ggX5_since_X0_differs
theorem dX5_since_0 : decode cX5_since 0 = .ok (.iload_n 1, 1) := by decide +kernel
theorem dX5_since_1 : decode cX5_since 1 = .ok (.iload_n 2, 1) := by decide +kernel
theorem dX5_since_2 : decode cX5_since 2 = .ok (.invokestatic 211, 3) := by decide +kernel
theorem dX5_since_5 : decode cX5_since 5 = .ok (.ifCond .eq 14, 3) := by decide +kernel
theorem dX5_since_8 : decode cX5_since 8 = .ok (.aload_n 0, 1) := by decide +kernel
theorem dX5_since_9 : decode cX5_since 9 = .ok (.getfield 45, 3) := by decide +kernel
theorem dX5_since_12 : decode cX5_since 12 = .ok (.iload_n 3, 1) := by decide +kernel
theorem dX5_since_13 : decode cX5_since 13 = .ok (.invokevirtual 122, 3) := by decide +kernel
theorem dX5_since_16 : decode cX5_since 16 = .ok (.ifCond .ne 5, 3) := by decide +kernel
theorem dX5_since_19 : decode cX5_since 19 = .ok (.iconst (-1), 1) := by decide +kernel
theorem dX5_since_20 : decode cX5_since 20 = .ok (.ireturn, 1) := by decide +kernel
theorem dX5_since_21 : decode cX5_since 21 = .ok (.bipush (-9), 2) := by decide +kernel
theorem dX5_since_23 : decode cX5_since 23 = .ok (.istore 4, 2) := by decide +kernel
theorem dX5_since_25 : decode cX5_since 25 = .ok (.iconst 0, 1) := by decide +kernel
theorem dX5_since_26 : decode cX5_since 26 = .ok (.istore 5, 2) := by decide +kernel
theorem dX5_since_28 : decode cX5_since 28 = .ok (.iload_n 2, 1) := by decide +kernel
theorem dX5_since_29 : decode cX5_since 29 = .ok (.istore 6, 2) := by decide +kernel
theorem dX5_since_31 : decode cX5_since 31 = .ok (.iload 6, 2) := by decide +kernel
theorem dX5_since_33 : decode cX5_since 33 = .ok (.bipush 20, 2) := by decide +kernel
theorem dX5_since_35 : decode cX5_since 35 = .ok (.if_icmp .ge 48, 3) := by decide +kernel
theorem dX5_since_38 : decode cX5_since 38 = .ok (.aload_n 0, 1) := by decide +kernel
theorem dX5_since_39 : decode cX5_since 39 = .ok (.getfield 45, 3) := by decide +kernel
theorem dX5_since_42 : decode cX5_since 42 = .ok (.iload_n 1, 1) := by decide +kernel
theorem dX5_since_43 : decode cX5_since 43 = .ok (.iload_n 2, 1) := by decide +kernel
theorem dX5_since_44 : decode cX5_since 44 = .ok (.iload 6, 2) := by decide +kernel
theorem dX5_since_46 : decode cX5_since 46 = .ok (.iload_n 3, 1) := by decide +kernel
theorem dX5_since_47 : decode cX5_since 47 = .ok (.aload_n 0, 1) := by decide +kernel
theorem dX5_since_48 : decode cX5_since 48 = .ok (.getfield 45, 3) := by decide +kernel
theorem dX5_since_51 : decode cX5_since 51 = .ok (.invokevirtual 217, 3) := by decide +kernel
theorem dX5_since_54 : decode cX5_since 54 = .ok (.invokevirtual 221, 3) := by decide +kernel
theorem dX5_since_57 : decode cX5_since 57 = .ok (.ifCond .eq 20, 3) := by decide +kernel
theorem dX5_since_60 : decode cX5_since 60 = .ok (.iload 5, 2) := by decide +kernel
theorem dX5_since_62 : decode cX5_since 62 = .ok (.ifCond .ne 8, 3) := by decide +kernel
theorem dX5_since_65 : decode cX5_since 65 = .ok (.iload 6, 2) := by decide +kernel
theorem dX5_since_67 : decode cX5_since 67 = .ok (.goto 5, 3) := by decide +kernel
theorem dX5_since_70 : decode cX5_since 70 = .ok (.iload 4, 2) := by decide +kernel
theorem dX5_since_72 : decode cX5_since 72 = .ok (.istore 4, 2) := by decide +kernel
theorem dX5_since_74 : decode cX5_since 74 = .ok (.iinc 5 1, 3) := by decide +kernel
theorem dX5_since_77 : decode cX5_since 77 = .ok (.iinc 6 1, 3) := by decide +kernel
theorem dX5_since_80 : decode cX5_since 80 = .ok (.goto (-49), 3) := by decide +kernel
theorem dX5_since_83 : decode cX5_since 83 = .ok (.iload 5, 2) := by decide +kernel
theorem dX5_since_85 : decode cX5_since 85 = .ok (.ifCond .le 12, 3) := by decide +kernel
theorem dX5_since_88 : decode cX5_since 88 = .ok (.aload_n 0, 1) := by decide +kernel
theorem dX5_since_89 : decode cX5_since 89 = .ok (.getfield 24, 3) := by decide +kernel
theorem dX5_since_92 : decode cX5_since 92 = .ok (.iload 5, 2) := by decide +kernel
theorem dX5_since_94 : decode cX5_since 94 = .ok (.putfield 77, 3) := by decide +kernel
theorem dX5_since_97 : decode cX5_since 97 = .ok (.iload 4, 2) := by decide +kernel
theorem dX5_since_99 : decode cX5_since 99 = .ok (.ireturn, 1) := by decide +kernel
set_option maxRecDepth 20000 in
theorem ggX5_worst_X5_isDay : GoodIn wsX5_worst wsX5_isDay := goodIn_r _ [6] (by decide +kernel) (by decide +kernel)
set_option maxRecDepth 20000 in
theorem gX5_worst_X5_isDay : GoodIn wsX5_worst (va_wsS RX5 179 yX5_isDay wsX5_isDay) := goodIn_app (goodIn_of _ (by decide +kernel)) ggX5_worst_X5_isDay
set_option maxRecDepth 20000 in
theorem ggX5_worst_X0_differing : GoodIn wsX5_worst wsX0_differing := goodIn_r _ [11, 12, 13, 14, 15, 10, 16, 17, 18, 19, 20, 21, 22, 23, 24, 25, 26, 27, 28, 29, 30, 31, 5, 32, 4, 6, 33, 34, 35, 36, 37, 38, 39, 40, 41, 42, 43, 44, 45, 46, 47, 48, 49, 50, 51, 52, 53, 54, 55, 56, 57, 58, 59, 60, 61, 62, 78, 79, 80, 81, 82, 83, 84, 85, 86, 87, 88, 89, 90, 91] (by decide +kernel) (by decide +kernel)
set_option maxRecDepth 20000 in
theorem gX5_worst_X0_differing : GoodIn wsX5_worst (wsV RX5 214 RX0 yX0_differing wsX0_differing) := goodIn_app (goodIn_of _ (by decide +kernel)) ggX5_worst_X0_differing
set_option maxRecDepth 20000 in
theorem ggX5_worst_J6_bitCount_0f7a4 : GoodIn wsX5_worst wsJ6_bitCount_0f7a4 := goodIn_r _ [66, 67, 68, 69] (by decide +kernel) (by decide +kernel)
set_option maxRecDepth 20000 in
theorem gX5_worst_J6_bitCount_0f7a4 : GoodIn wsX5_worst (va_wsS RX5 171 yJ6_bitCount_0f7a4 wsJ6_bitCount_0f7a4) := goodIn_app (goodIn_of _ (by decide +kernel)) ggX5_worst_J6_bitCount_0f7a4
theorem dX5_worst_0 : decode cX5_worst 0 = .ok (.iload_n 1, 1) := by decide +kernel
theorem dX5_worst_1 : decode cX5_worst 1 = .ok (.invokestatic 179, 3) := by decide +kernel
theorem dX5_worst_4 : decode cX5_worst 4 = .ok (.ifCond .eq 8, 3) := by decide +kernel
theorem dX5_worst_7 : decode cX5_worst 7 = .ok (.iload_n 1, 1) := by decide +kernel
theorem dX5_worst_8 : decode cX5_worst 8 = .ok (.iconst 4, 1) := by decide +kernel
theorem dX5_worst_9 : decode cX5_worst 9 = .ok (.if_icmp .ge 5, 3) := by decide +kernel
theorem dX5_worst_12 : decode cX5_worst 12 = .ok (.iconst (-1), 1) := by decide +kernel
theorem dX5_worst_13 : decode cX5_worst 13 = .ok (.ireturn, 1) := by decide +kernel
theorem dX5_worst_14 : decode cX5_worst 14 = .ok (.aload_n 0, 1) := by decide +kernel
theorem dX5_worst_15 : decode cX5_worst 15 = .ok (.getfield 45, 3) := by decide +kernel
theorem dX5_worst_18 : decode cX5_worst 18 = .ok (.getfield 119, 3) := by decide +kernel
theorem dX5_worst_21 : decode cX5_worst 21 = .ok (.ifCond .ne 6, 3) := by decide +kernel
theorem dX5_worst_24 : decode cX5_worst 24 = .ok (.bipush (-4), 2) := by decide +kernel
theorem dX5_worst_26 : decode cX5_worst 26 = .ok (.ireturn, 1) := by decide +kernel
theorem dX5_worst_27 : decode cX5_worst 27 = .ok (.iconst 0, 1) := by decide +kernel
theorem dX5_worst_28 : decode cX5_worst 28 = .ok (.istore_n 2, 1) := by decide +kernel
theorem dX5_worst_29 : decode cX5_worst 29 = .ok (.iconst (-1), 1) := by decide +kernel
theorem dX5_worst_30 : decode cX5_worst 30 = .ok (.istore_n 3, 1) := by decide +kernel
theorem dX5_worst_31 : decode cX5_worst 31 = .ok (.iconst 1, 1) := by decide +kernel
theorem dX5_worst_32 : decode cX5_worst 32 = .ok (.istore 4, 2) := by decide +kernel
theorem dX5_worst_34 : decode cX5_worst 34 = .ok (.iload 4, 2) := by decide +kernel
theorem dX5_worst_36 : decode cX5_worst 36 = .ok (.iconst 5, 1) := by decide +kernel
theorem dX5_worst_37 : decode cX5_worst 37 = .ok (.if_icmp .ge 40, 3) := by decide +kernel
theorem dX5_worst_40 : decode cX5_worst 40 = .ok (.aload_n 0, 1) := by decide +kernel
theorem dX5_worst_41 : decode cX5_worst 41 = .ok (.getfield 45, 3) := by decide +kernel
theorem dX5_worst_44 : decode cX5_worst 44 = .ok (.iload 4, 2) := by decide +kernel
theorem dX5_worst_46 : decode cX5_worst 46 = .ok (.iconst 1, 1) := by decide +kernel
theorem dX5_worst_47 : decode cX5_worst 47 = .ok (.isub, 1) := by decide +kernel
theorem dX5_worst_48 : decode cX5_worst 48 = .ok (.iload 4, 2) := by decide +kernel
theorem dX5_worst_50 : decode cX5_worst 50 = .ok (.iload_n 1, 1) := by decide +kernel
theorem dX5_worst_51 : decode cX5_worst 51 = .ok (.invokevirtual 214, 3) := by decide +kernel
theorem dX5_worst_54 : decode cX5_worst 54 = .ok (.invokestatic 171, 3) := by decide +kernel
theorem dX5_worst_57 : decode cX5_worst 57 = .ok (.istore 5, 2) := by decide +kernel
theorem dX5_worst_59 : decode cX5_worst 59 = .ok (.iload 5, 2) := by decide +kernel
theorem dX5_worst_61 : decode cX5_worst 61 = .ok (.iload_n 3, 1) := by decide +kernel
theorem dX5_worst_62 : decode cX5_worst 62 = .ok (.if_icmp .le 9, 3) := by decide +kernel
theorem dX5_worst_65 : decode cX5_worst 65 = .ok (.iload 4, 2) := by decide +kernel
theorem dX5_worst_67 : decode cX5_worst 67 = .ok (.istore_n 2, 1) := by decide +kernel
theorem dX5_worst_68 : decode cX5_worst 68 = .ok (.iload 5, 2) := by decide +kernel
theorem dX5_worst_70 : decode cX5_worst 70 = .ok (.istore_n 3, 1) := by decide +kernel
theorem dX5_worst_71 : decode cX5_worst 71 = .ok (.iinc 4 1, 3) := by decide +kernel
theorem dX5_worst_74 : decode cX5_worst 74 = .ok (.goto (-40), 3) := by decide +kernel
theorem dX5_worst_77 : decode cX5_worst 77 = .ok (.aload_n 0, 1) := by decide +kernel
theorem dX5_worst_78 : decode cX5_worst 78 = .ok (.getfield 24, 3) := by decide +kernel
theorem dX5_worst_81 : decode cX5_worst 81 = .ok (.iload_n 3, 1) := by decide +kernel
theorem dX5_worst_82 : decode cX5_worst 82 = .ok (.putfield 77, 3) := by decide +kernel
theorem dX5_worst_85 : decode cX5_worst 85 = .ok (.iload_n 2, 1) := by decide +kernel
theorem dX5_worst_86 : decode cX5_worst 86 = .ok (.ireturn, 1) := by decide +kernel
set_option maxRecDepth 20000 in
theorem ggX5_source_X5_isTown : GoodIn wsX5_source wsX5_isTown := goodIn_r _ [5] (by decide +kernel) (by decide +kernel)
set_option maxRecDepth 20000 in
theorem gX5_source_X5_isTown : GoodIn wsX5_source (va_wsS RX5 176 yX5_isTown wsX5_isTown) := goodIn_app (goodIn_of _ (by decide +kernel)) ggX5_source_X5_isTown
set_option maxRecDepth 20000 in
theorem ggX5_source_X5_isDay : GoodIn wsX5_source wsX5_isDay := goodIn_r _ [8] (by decide +kernel) (by decide +kernel)
set_option maxRecDepth 20000 in
theorem gX5_source_X5_isDay : GoodIn wsX5_source (va_wsS RX5 179 yX5_isDay wsX5_isDay) := goodIn_app (goodIn_of _ (by decide +kernel)) ggX5_source_X5_isDay
set_option maxRecDepth 20000 in
theorem ggX5_source_X0_isPerson : GoodIn wsX5_source wsX0_isPerson := goodIn_r _ [13, 14, 70, 71, 72, 73, 74, 75, 76, 77, 78, 79, 80, 81, 82, 83] (by decide +kernel) (by decide +kernel)
set_option maxRecDepth 20000 in
theorem gX5_source_X0_isPerson : GoodIn wsX5_source (wsV RX5 122 RX0 yX0_isPerson wsX0_isPerson) := goodIn_app (goodIn_of _ (by decide +kernel)) ggX5_source_X0_isPerson
set_option maxRecDepth 20000 in
theorem ggX5_source_X0_unmended : GoodIn wsX5_source wsX0_unmended := goodIn_r _ [18, 19, 20, 70, 71, 72, 73, 74, 75, 76, 77, 78, 79, 80, 81, 82, 83] (by decide +kernel) (by decide +kernel)
set_option maxRecDepth 20000 in
theorem gX5_source_X0_unmended : GoodIn wsX5_source (wsV RX5 217 RX0 yX0_unmended wsX0_unmended) := goodIn_app (goodIn_of _ (by decide +kernel)) ggX5_source_X0_unmended
set_option maxRecDepth 20000 in
theorem ggX5_source_X0_done : GoodIn wsX5_source wsX0_done := goodIn_r _ [24, 25, 16, 17, 12, 18, 19, 20, 26, 27, 28, 29, 30, 31, 32, 33, 3, 4, 5, 7, 8, 34, 10, 11, 13, 14, 35, 36, 37, 38, 39, 40, 41, 42, 43, 44, 45, 46, 47, 48, 49, 50, 51, 52, 53, 54, 55, 56, 57, 58, 59, 60, 70, 71, 72, 73, 74, 75, 76, 77, 78, 79, 80, 81, 82, 83] (by decide +kernel) (by decide +kernel)
set_option maxRecDepth 20000 in
theorem gX5_source_X0_done : GoodIn wsX5_source (wsV RX5 207 RX0 yX0_done wsX0_done) := goodIn_app (goodIn_of _ (by decide +kernel)) ggX5_source_X0_done
set_option maxRecDepth 20000 in
theorem ggX5_source_X0_doneIf : GoodIn wsX5_source wsX0_doneIf := goodIn_r _ [29, 30, 31, 32, 12, 33, 3, 4, 5, 7, 8, 34, 10, 11, 13, 14, 35, 36, 37, 38, 39, 19, 40, 41, 42, 43, 44, 45, 46, 47, 48, 49, 50, 51, 52, 53, 54, 55, 56, 57, 58, 59, 60, 70, 71, 72, 73, 74, 75, 76, 77, 78, 79, 80, 81, 82, 83] (by decide +kernel) (by decide +kernel)
set_option maxRecDepth 20000 in
theorem gX5_source_X0_doneIf : GoodIn wsX5_source (wsV RX5 225 RX0 yX0_doneIf wsX0_doneIf) := goodIn_app (goodIn_of _ (by decide +kernel)) ggX5_source_X0_doneIf
theorem dX5_source_0 : decode cX5_source 0 = .ok (.iload_n 1, 1) := by decide +kernel
theorem dX5_source_1 : decode cX5_source 1 = .ok (.invokestatic 176, 3) := by decide +kernel
theorem dX5_source_4 : decode cX5_source 4 = .ok (.ifCond .eq 26, 3) := by decide +kernel
theorem dX5_source_7 : decode cX5_source 7 = .ok (.iload_n 2, 1) := by decide +kernel
theorem dX5_source_8 : decode cX5_source 8 = .ok (.invokestatic 179, 3) := by decide +kernel
theorem dX5_source_11 : decode cX5_source 11 = .ok (.ifCond .eq 19, 3) := by decide +kernel
theorem dX5_source_14 : decode cX5_source 14 = .ok (.iload_n 2, 1) := by decide +kernel
theorem dX5_source_15 : decode cX5_source 15 = .ok (.iload_n 1, 1) := by decide +kernel
theorem dX5_source_16 : decode cX5_source 16 = .ok (.if_icmp .lt 14, 3) := by decide +kernel
theorem dX5_source_19 : decode cX5_source 19 = .ok (.aload_n 0, 1) := by decide +kernel
theorem dX5_source_20 : decode cX5_source 20 = .ok (.getfield 45, 3) := by decide +kernel
theorem dX5_source_23 : decode cX5_source 23 = .ok (.iload_n 3, 1) := by decide +kernel
theorem dX5_source_24 : decode cX5_source 24 = .ok (.invokevirtual 122, 3) := by decide +kernel
theorem dX5_source_27 : decode cX5_source 27 = .ok (.ifCond .ne 5, 3) := by decide +kernel
theorem dX5_source_30 : decode cX5_source 30 = .ok (.iconst (-1), 1) := by decide +kernel
theorem dX5_source_31 : decode cX5_source 31 = .ok (.ireturn, 1) := by decide +kernel
theorem dX5_source_32 : decode cX5_source 32 = .ok (.aload_n 0, 1) := by decide +kernel
theorem dX5_source_33 : decode cX5_source 33 = .ok (.getfield 45, 3) := by decide +kernel
theorem dX5_source_36 : decode cX5_source 36 = .ok (.invokevirtual 217, 3) := by decide +kernel
theorem dX5_source_39 : decode cX5_source 39 = .ok (.istore 4, 2) := by decide +kernel
theorem dX5_source_41 : decode cX5_source 41 = .ok (.aload_n 0, 1) := by decide +kernel
theorem dX5_source_42 : decode cX5_source 42 = .ok (.getfield 45, 3) := by decide +kernel
theorem dX5_source_45 : decode cX5_source 45 = .ok (.iload_n 1, 1) := by decide +kernel
theorem dX5_source_46 : decode cX5_source 46 = .ok (.iload_n 2, 1) := by decide +kernel
theorem dX5_source_47 : decode cX5_source 47 = .ok (.iload_n 3, 1) := by decide +kernel
theorem dX5_source_48 : decode cX5_source 48 = .ok (.invokevirtual 207, 3) := by decide +kernel
theorem dX5_source_51 : decode cX5_source 51 = .ok (.istore 5, 2) := by decide +kernel
theorem dX5_source_53 : decode cX5_source 53 = .ok (.iconst 0, 1) := by decide +kernel
theorem dX5_source_54 : decode cX5_source 54 = .ok (.istore 6, 2) := by decide +kernel
theorem dX5_source_56 : decode cX5_source 56 = .ok (.iconst 0, 1) := by decide +kernel
theorem dX5_source_57 : decode cX5_source 57 = .ok (.istore 7, 2) := by decide +kernel
theorem dX5_source_59 : decode cX5_source 59 = .ok (.iload 7, 2) := by decide +kernel
theorem dX5_source_61 : decode cX5_source 61 = .ok (.aload_n 0, 1) := by decide +kernel
theorem dX5_source_62 : decode cX5_source 62 = .ok (.getfield 45, 3) := by decide +kernel
theorem dX5_source_65 : decode cX5_source 65 = .ok (.getfield 189, 3) := by decide +kernel
theorem dX5_source_68 : decode cX5_source 68 = .ok (.if_icmp .ge 52, 3) := by decide +kernel
theorem dX5_source_71 : decode cX5_source 71 = .ok (.iconst 1, 1) := by decide +kernel
theorem dX5_source_72 : decode cX5_source 72 = .ok (.iload 7, 2) := by decide +kernel
theorem dX5_source_74 : decode cX5_source 74 = .ok (.ishl, 1) := by decide +kernel
theorem dX5_source_75 : decode cX5_source 75 = .ok (.istore 8, 2) := by decide +kernel
theorem dX5_source_77 : decode cX5_source 77 = .ok (.iload 4, 2) := by decide +kernel
theorem dX5_source_79 : decode cX5_source 79 = .ok (.iload 8, 2) := by decide +kernel
theorem dX5_source_81 : decode cX5_source 81 = .ok (.iand, 1) := by decide +kernel
theorem dX5_source_82 : decode cX5_source 82 = .ok (.ifCond .eq 32, 3) := by decide +kernel
theorem dX5_source_85 : decode cX5_source 85 = .ok (.aload_n 0, 1) := by decide +kernel
theorem dX5_source_86 : decode cX5_source 86 = .ok (.getfield 45, 3) := by decide +kernel
theorem dX5_source_89 : decode cX5_source 89 = .ok (.iload_n 1, 1) := by decide +kernel
theorem dX5_source_90 : decode cX5_source 90 = .ok (.iload_n 2, 1) := by decide +kernel
theorem dX5_source_91 : decode cX5_source 91 = .ok (.iload_n 3, 1) := by decide +kernel
theorem dX5_source_92 : decode cX5_source 92 = .ok (.iload 4, 2) := by decide +kernel
theorem dX5_source_94 : decode cX5_source 94 = .ok (.iload 8, 2) := by decide +kernel
theorem dX5_source_96 : decode cX5_source 96 = .ok (.iconst (-1), 1) := by decide +kernel
theorem dX5_source_97 : decode cX5_source 97 = .ok (.ixor, 1) := by decide +kernel
theorem dX5_source_98 : decode cX5_source 98 = .ok (.iand, 1) := by decide +kernel
theorem dX5_source_99 : decode cX5_source 99 = .ok (.invokevirtual 225, 3) := by decide +kernel
theorem dX5_source_102 : decode cX5_source 102 = .ok (.iload 5, 2) := by decide +kernel
theorem dX5_source_104 : decode cX5_source 104 = .ok (.if_icmp .eq 10, 3) := by decide +kernel
theorem dX5_source_107 : decode cX5_source 107 = .ok (.iload 6, 2) := by decide +kernel
theorem dX5_source_109 : decode cX5_source 109 = .ok (.iload 8, 2) := by decide +kernel
theorem dX5_source_111 : decode cX5_source 111 = .ok (.ior, 1) := by decide +kernel
theorem dX5_source_112 : decode cX5_source 112 = .ok (.istore 6, 2) := by decide +kernel
theorem dX5_source_114 : decode cX5_source 114 = .ok (.iinc 7 1, 3) := by decide +kernel
theorem dX5_source_117 : decode cX5_source 117 = .ok (.goto (-58), 3) := by decide +kernel
theorem dX5_source_120 : decode cX5_source 120 = .ok (.iload 6, 2) := by decide +kernel
theorem dX5_source_122 : decode cX5_source 122 = .ok (.ireturn, 1) := by decide +kernel
set_option maxRecDepth 20000 in
theorem ggX5_together_X5_isTown : GoodIn wsX5_together wsX5_isTown := goodIn_r _ [6] (by decide +kernel) (by decide +kernel)
set_option maxRecDepth 20000 in
theorem gX5_together_X5_isTown : GoodIn wsX5_together (va_wsS RX5 176 yX5_isTown wsX5_isTown) := goodIn_app (goodIn_of _ (by decide +kernel)) ggX5_together_X5_isTown
set_option maxRecDepth 20000 in
theorem ggX5_together_X0_isPerson : GoodIn wsX5_together wsX0_isPerson := goodIn_r _ [11, 12, 73, 74, 75, 76, 77, 78, 79, 80, 81, 82, 83, 84, 85, 86] (by decide +kernel) (by decide +kernel)
set_option maxRecDepth 20000 in
theorem gX5_together_X0_isPerson : GoodIn wsX5_together (wsV RX5 122 RX0 yX0_isPerson wsX0_isPerson) := goodIn_app (goodIn_of _ (by decide +kernel)) ggX5_together_X0_isPerson
set_option maxRecDepth 20000 in
theorem ggX5_together_X0_done : GoodIn wsX5_together wsX0_done := goodIn_r _ [16, 17, 18, 19, 10, 20, 21, 22, 23, 24, 25, 26, 27, 28, 29, 30, 4, 5, 6, 31, 32, 33, 8, 9, 11, 12, 34, 35, 36, 37, 38, 39, 40, 41, 42, 43, 44, 45, 46, 47, 48, 49, 50, 51, 52, 53, 54, 55, 56, 57, 58, 59, 73, 74, 75, 76, 77, 78, 79, 80, 81, 82, 83, 84, 85, 86] (by decide +kernel) (by decide +kernel)
set_option maxRecDepth 20000 in
theorem gX5_together_X0_done : GoodIn wsX5_together (wsV RX5 207 RX0 yX0_done wsX0_done) := goodIn_app (goodIn_of _ (by decide +kernel)) ggX5_together_X0_done
theorem dX5_together_0 : decode cX5_together 0 = .ok (.iload_n 1, 1) := by decide +kernel
theorem dX5_together_1 : decode cX5_together 1 = .ok (.invokestatic 176, 3) := by decide +kernel
theorem dX5_together_4 : decode cX5_together 4 = .ok (.ifCond .eq 30, 3) := by decide +kernel
theorem dX5_together_7 : decode cX5_together 7 = .ok (.aload_n 0, 1) := by decide +kernel
theorem dX5_together_8 : decode cX5_together 8 = .ok (.getfield 45, 3) := by decide +kernel
theorem dX5_together_11 : decode cX5_together 11 = .ok (.iload_n 2, 1) := by decide +kernel
theorem dX5_together_12 : decode cX5_together 12 = .ok (.invokevirtual 122, 3) := by decide +kernel
theorem dX5_together_15 : decode cX5_together 15 = .ok (.ifCond .eq 19, 3) := by decide +kernel
theorem dX5_together_18 : decode cX5_together 18 = .ok (.aload_n 0, 1) := by decide +kernel
theorem dX5_together_19 : decode cX5_together 19 = .ok (.getfield 45, 3) := by decide +kernel
theorem dX5_together_22 : decode cX5_together 22 = .ok (.iload_n 3, 1) := by decide +kernel
theorem dX5_together_23 : decode cX5_together 23 = .ok (.invokevirtual 122, 3) := by decide +kernel
theorem dX5_together_26 : decode cX5_together 26 = .ok (.ifCond .eq 8, 3) := by decide +kernel
theorem dX5_together_29 : decode cX5_together 29 = .ok (.iload_n 2, 1) := by decide +kernel
theorem dX5_together_30 : decode cX5_together 30 = .ok (.iload_n 3, 1) := by decide +kernel
theorem dX5_together_31 : decode cX5_together 31 = .ok (.if_icmp .ne 5, 3) := by decide +kernel
theorem dX5_together_34 : decode cX5_together 34 = .ok (.iconst (-1), 1) := by decide +kernel
theorem dX5_together_35 : decode cX5_together 35 = .ok (.ireturn, 1) := by decide +kernel
theorem dX5_together_36 : decode cX5_together 36 = .ok (.bipush (-9), 2) := by decide +kernel
theorem dX5_together_38 : decode cX5_together 38 = .ok (.istore 4, 2) := by decide +kernel
theorem dX5_together_40 : decode cX5_together 40 = .ok (.iconst 0, 1) := by decide +kernel
theorem dX5_together_41 : decode cX5_together 41 = .ok (.istore 5, 2) := by decide +kernel
theorem dX5_together_43 : decode cX5_together 43 = .ok (.iload_n 1, 1) := by decide +kernel
theorem dX5_together_44 : decode cX5_together 44 = .ok (.istore 6, 2) := by decide +kernel
theorem dX5_together_46 : decode cX5_together 46 = .ok (.iload 6, 2) := by decide +kernel
theorem dX5_together_48 : decode cX5_together 48 = .ok (.bipush 20, 2) := by decide +kernel
theorem dX5_together_50 : decode cX5_together 50 = .ok (.if_icmp .ge 51, 3) := by decide +kernel
theorem dX5_together_53 : decode cX5_together 53 = .ok (.aload_n 0, 1) := by decide +kernel
theorem dX5_together_54 : decode cX5_together 54 = .ok (.getfield 45, 3) := by decide +kernel
theorem dX5_together_57 : decode cX5_together 57 = .ok (.iload_n 1, 1) := by decide +kernel
theorem dX5_together_58 : decode cX5_together 58 = .ok (.iload 6, 2) := by decide +kernel
theorem dX5_together_60 : decode cX5_together 60 = .ok (.iload_n 2, 1) := by decide +kernel
theorem dX5_together_61 : decode cX5_together 61 = .ok (.invokevirtual 207, 3) := by decide +kernel
theorem dX5_together_64 : decode cX5_together 64 = .ok (.aload_n 0, 1) := by decide +kernel
theorem dX5_together_65 : decode cX5_together 65 = .ok (.getfield 45, 3) := by decide +kernel
theorem dX5_together_68 : decode cX5_together 68 = .ok (.iload_n 1, 1) := by decide +kernel
theorem dX5_together_69 : decode cX5_together 69 = .ok (.iload 6, 2) := by decide +kernel
theorem dX5_together_71 : decode cX5_together 71 = .ok (.iload_n 3, 1) := by decide +kernel
theorem dX5_together_72 : decode cX5_together 72 = .ok (.invokevirtual 207, 3) := by decide +kernel
theorem dX5_together_75 : decode cX5_together 75 = .ok (.if_icmp .ne 20, 3) := by decide +kernel
theorem dX5_together_78 : decode cX5_together 78 = .ok (.iload 5, 2) := by decide +kernel
theorem dX5_together_80 : decode cX5_together 80 = .ok (.ifCond .ne 8, 3) := by decide +kernel
theorem dX5_together_83 : decode cX5_together 83 = .ok (.iload 6, 2) := by decide +kernel
theorem dX5_together_85 : decode cX5_together 85 = .ok (.goto 5, 3) := by decide +kernel
theorem dX5_together_88 : decode cX5_together 88 = .ok (.iload 4, 2) := by decide +kernel
theorem dX5_together_90 : decode cX5_together 90 = .ok (.istore 4, 2) := by decide +kernel
theorem dX5_together_92 : decode cX5_together 92 = .ok (.iinc 5 1, 3) := by decide +kernel
theorem dX5_together_95 : decode cX5_together 95 = .ok (.iinc 6 1, 3) := by decide +kernel
theorem dX5_together_98 : decode cX5_together 98 = .ok (.goto (-52), 3) := by decide +kernel
theorem dX5_together_101 : decode cX5_together 101 = .ok (.aload_n 0, 1) := by decide +kernel
theorem dX5_together_102 : decode cX5_together 102 = .ok (.getfield 24, 3) := by decide +kernel
theorem dX5_together_105 : decode cX5_together 105 = .ok (.iload 4, 2) := by decide +kernel
theorem dX5_together_107 : decode cX5_together 107 = .ok (.putfield 77, 3) := by decide +kernel
theorem dX5_together_110 : decode cX5_together 110 = .ok (.iload 5, 2) := by decide +kernel
theorem dX5_together_112 : decode cX5_together 112 = .ok (.ireturn, 1) := by decide +kernel
set_option maxRecDepth 20000 in
theorem ggX5_warn_X5_isTown : GoodIn wsX5_warn wsX5_isTown := goodIn_r _ [6] (by decide +kernel) (by decide +kernel)
set_option maxRecDepth 20000 in
theorem gX5_warn_X5_isTown : GoodIn wsX5_warn (va_wsS RX5 176 yX5_isTown wsX5_isTown) := goodIn_app (goodIn_of _ (by decide +kernel)) ggX5_warn_X5_isTown
set_option maxRecDepth 20000 in
theorem ggX5_warn_X5_isDay : GoodIn wsX5_warn wsX5_isDay := goodIn_r _ [9] (by decide +kernel) (by decide +kernel)
set_option maxRecDepth 20000 in
theorem gX5_warn_X5_isDay : GoodIn wsX5_warn (va_wsS RX5 179 yX5_isDay wsX5_isDay) := goodIn_app (goodIn_of _ (by decide +kernel)) ggX5_warn_X5_isDay
set_option maxRecDepth 20000 in
theorem ggX5_warn_X0_isPerson : GoodIn wsX5_warn wsX0_isPerson := goodIn_r _ [14, 15, 76, 77, 78, 79, 80, 81, 82, 83, 84, 85, 86, 87, 88, 89] (by decide +kernel) (by decide +kernel)
set_option maxRecDepth 20000 in
theorem gX5_warn_X0_isPerson : GoodIn wsX5_warn (wsV RX5 122 RX0 yX0_isPerson wsX0_isPerson) := goodIn_app (goodIn_of _ (by decide +kernel)) ggX5_warn_X0_isPerson
set_option maxRecDepth 20000 in
theorem ggX5_warn_X5_isDeed : GoodIn wsX5_warn wsX5_isDeed := goodIn_r _ [18] (by decide +kernel) (by decide +kernel)
set_option maxRecDepth 20000 in
theorem gX5_warn_X5_isDeed : GoodIn wsX5_warn (va_wsS RX5 229 yX5_isDeed wsX5_isDeed) := goodIn_app (goodIn_of _ (by decide +kernel)) ggX5_warn_X5_isDeed
set_option maxRecDepth 20000 in
theorem ggX5_warn_X0_done : GoodIn wsX5_warn wsX0_done := goodIn_r _ [22, 23, 24, 25, 13, 26, 27, 28, 29, 30, 31, 32, 33, 34, 35, 36, 4, 5, 6, 8, 9, 37, 11, 12, 14, 15, 38, 39, 40, 41, 42, 43, 44, 45, 46, 47, 48, 49, 50, 51, 52, 53, 54, 55, 56, 57, 58, 59, 60, 61, 62, 63, 76, 77, 78, 79, 80, 81, 82, 83, 84, 85, 86, 87, 88, 89] (by decide +kernel) (by decide +kernel)
set_option maxRecDepth 20000 in
theorem gX5_warn_X0_done : GoodIn wsX5_warn (wsV RX5 207 RX0 yX0_done wsX0_done) := goodIn_app (goodIn_of _ (by decide +kernel)) ggX5_warn_X0_done
set_option maxRecDepth 20000 in
theorem ggX5_warn_X0_doneIfWarned : GoodIn wsX5_warn wsX0_doneIfWarned := goodIn_r _ [67, 42, 33, 34, 35, 13, 36, 4, 5, 6, 8, 9, 37, 11, 12, 14, 15, 23, 24, 25, 26, 27, 28, 38, 39, 40, 41, 43, 44, 45, 46, 47, 48, 49, 50, 51, 52, 53, 54, 55, 56, 57, 58, 59, 60, 61, 62, 63, 76, 77, 78, 79, 80, 81, 82, 83, 84, 85, 86, 87, 88, 89] (by decide +kernel) (by decide +kernel)
set_option maxRecDepth 20000 in
theorem gX5_warn_X0_doneIfWarned : GoodIn wsX5_warn (wsV RX5 232 RX0 yX0_doneIfWarned wsX0_doneIfWarned) := goodIn_app (goodIn_of _ (by decide +kernel)) ggX5_warn_X0_doneIfWarned
theorem dX5_warn_0 : decode cX5_warn 0 = .ok (.iload_n 1, 1) := by decide +kernel
theorem dX5_warn_1 : decode cX5_warn 1 = .ok (.invokestatic 176, 3) := by decide +kernel
theorem dX5_warn_4 : decode cX5_warn 4 = .ok (.ifCond .eq 34, 3) := by decide +kernel
theorem dX5_warn_7 : decode cX5_warn 7 = .ok (.iload_n 1, 1) := by decide +kernel
