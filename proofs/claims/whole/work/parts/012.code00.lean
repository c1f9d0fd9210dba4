theorem dX0_init_0 : decode cX0_init 0 = .ok (.aload_n 0, 1) := by decide +kernel
theorem dX0_init_1 : decode cX0_init 1 = .ok (.invokespecial 3, 3) := by decide +kernel
theorem dX0_init_4 : decode cX0_init 4 = .ok (.aload_n 0, 1) := by decide +kernel
theorem dX0_init_5 : decode cX0_init 5 = .ok (.iconst 0, 1) := by decide +kernel
theorem dX0_init_6 : decode cX0_init 6 = .ok (.putfield 9, 3) := by decide +kernel
theorem dX0_init_9 : decode cX0_init 9 = .ok (.aload_n 0, 1) := by decide +kernel
theorem dX0_init_10 : decode cX0_init 10 = .ok (.iconst 0, 1) := by decide +kernel
theorem dX0_init_11 : decode cX0_init 11 = .ok (.putfield 15, 3) := by decide +kernel
theorem dX0_init_14 : decode cX0_init 14 = .ok (.aload_n 0, 1) := by decide +kernel
theorem dX0_init_15 : decode cX0_init 15 = .ok (.iconst 0, 1) := by decide +kernel
theorem dX0_init_16 : decode cX0_init 16 = .ok (.putfield 18, 3) := by decide +kernel
theorem dX0_init_19 : decode cX0_init 19 = .ok (.aload_n 0, 1) := by decide +kernel
theorem dX0_init_20 : decode cX0_init 20 = .ok (.iconst 0, 1) := by decide +kernel
theorem dX0_init_21 : decode cX0_init 21 = .ok (.putfield 21, 3) := by decide +kernel
theorem dX0_init_24 : decode cX0_init 24 = .ok (.aload_n 0, 1) := by decide +kernel
theorem dX0_init_25 : decode cX0_init 25 = .ok (.iconst 0, 1) := by decide +kernel
theorem dX0_init_26 : decode cX0_init 26 = .ok (.putfield 24, 3) := by decide +kernel
theorem dX0_init_29 : decode cX0_init 29 = .ok (.aload_n 0, 1) := by decide +kernel
theorem dX0_init_30 : decode cX0_init 30 = .ok (.iconst 5, 1) := by decide +kernel
theorem dX0_init_31 : decode cX0_init 31 = .ok (.newarray .int, 2) := by decide +kernel
theorem dX0_init_33 : decode cX0_init 33 = .ok (.putfield 27, 3) := by decide +kernel
theorem dX0_init_36 : decode cX0_init 36 = .ok (.aload_n 0, 1) := by decide +kernel
theorem dX0_init_37 : decode cX0_init 37 = .ok (.iconst 5, 1) := by decide +kernel
theorem dX0_init_38 : decode cX0_init 38 = .ok (.newarray .int, 2) := by decide +kernel
theorem dX0_init_40 : decode cX0_init 40 = .ok (.putfield 31, 3) := by decide +kernel
theorem dX0_init_43 : decode cX0_init 43 = .ok (.aload_n 0, 1) := by decide +kernel
theorem dX0_init_44 : decode cX0_init 44 = .ok (.iconst 5, 1) := by decide +kernel
theorem dX0_init_45 : decode cX0_init 45 = .ok (.newarray .int, 2) := by decide +kernel
theorem dX0_init_47 : decode cX0_init 47 = .ok (.putfield 34, 3) := by decide +kernel
theorem dX0_init_50 : decode cX0_init 50 = .ok (.aload_n 0, 1) := by decide +kernel
theorem dX0_init_51 : decode cX0_init 51 = .ok (.bipush 12, 2) := by decide +kernel
theorem dX0_init_53 : decode cX0_init 53 = .ok (.newarray .int, 2) := by decide +kernel
theorem dX0_init_55 : decode cX0_init 55 = .ok (.putfield 37, 3) := by decide +kernel
theorem dX0_init_58 : decode cX0_init 58 = .ok (.aload_n 0, 1) := by decide +kernel
theorem dX0_init_59 : decode cX0_init 59 = .ok (.bipush 12, 2) := by decide +kernel
theorem dX0_init_61 : decode cX0_init 61 = .ok (.newarray .int, 2) := by decide +kernel
theorem dX0_init_63 : decode cX0_init 63 = .ok (.putfield 40, 3) := by decide +kernel
theorem dX0_init_66 : decode cX0_init 66 = .ok (.aload_n 0, 1) := by decide +kernel
theorem dX0_init_67 : decode cX0_init 67 = .ok (.bipush 12, 2) := by decide +kernel
theorem dX0_init_69 : decode cX0_init 69 = .ok (.newarray .int, 2) := by decide +kernel
theorem dX0_init_71 : decode cX0_init 71 = .ok (.putfield 43, 3) := by decide +kernel
theorem dX0_init_74 : decode cX0_init 74 = .ok (.aload_n 0, 1) := by decide +kernel
theorem dX0_init_75 : decode cX0_init 75 = .ok (.bipush 12, 2) := by decide +kernel
theorem dX0_init_77 : decode cX0_init 77 = .ok (.newarray .int, 2) := by decide +kernel
theorem dX0_init_79 : decode cX0_init 79 = .ok (.putfield 46, 3) := by decide +kernel
theorem dX0_init_82 : decode cX0_init 82 = .ok (.aload_n 0, 1) := by decide +kernel
theorem dX0_init_83 : decode cX0_init 83 = .ok (.bipush 40, 2) := by decide +kernel
theorem dX0_init_85 : decode cX0_init 85 = .ok (.newarray .int, 2) := by decide +kernel
theorem dX0_init_87 : decode cX0_init 87 = .ok (.putfield 49, 3) := by decide +kernel
theorem dX0_init_90 : decode cX0_init 90 = .ok (.aload_n 0, 1) := by decide +kernel
theorem dX0_init_91 : decode cX0_init 91 = .ok (.iconst 5, 1) := by decide +kernel
theorem dX0_init_92 : decode cX0_init 92 = .ok (.newarray .int, 2) := by decide +kernel
theorem dX0_init_94 : decode cX0_init 94 = .ok (.putfield 52, 3) := by decide +kernel
theorem dX0_init_97 : decode cX0_init 97 = .ok (.return_, 1) := by decide +kernel
theorem dX0_clear_0 : decode cX0_clear 0 = .ok (.aload_n 0, 1) := by decide +kernel
theorem dX0_clear_1 : decode cX0_clear 1 = .ok (.iconst 0, 1) := by decide +kernel
theorem dX0_clear_2 : decode cX0_clear 2 = .ok (.putfield 9, 3) := by decide +kernel
theorem dX0_clear_5 : decode cX0_clear 5 = .ok (.aload_n 0, 1) := by decide +kernel
theorem dX0_clear_6 : decode cX0_clear 6 = .ok (.iconst 0, 1) := by decide +kernel
theorem dX0_clear_7 : decode cX0_clear 7 = .ok (.putfield 15, 3) := by decide +kernel
theorem dX0_clear_10 : decode cX0_clear 10 = .ok (.aload_n 0, 1) := by decide +kernel
theorem dX0_clear_11 : decode cX0_clear 11 = .ok (.iconst 0, 1) := by decide +kernel
theorem dX0_clear_12 : decode cX0_clear 12 = .ok (.putfield 18, 3) := by decide +kernel
theorem dX0_clear_15 : decode cX0_clear 15 = .ok (.aload_n 0, 1) := by decide +kernel
theorem dX0_clear_16 : decode cX0_clear 16 = .ok (.iconst 0, 1) := by decide +kernel
theorem dX0_clear_17 : decode cX0_clear 17 = .ok (.putfield 21, 3) := by decide +kernel
theorem dX0_clear_20 : decode cX0_clear 20 = .ok (.aload_n 0, 1) := by decide +kernel
theorem dX0_clear_21 : decode cX0_clear 21 = .ok (.iconst 0, 1) := by decide +kernel
theorem dX0_clear_22 : decode cX0_clear 22 = .ok (.putfield 24, 3) := by decide +kernel
theorem dX0_clear_25 : decode cX0_clear 25 = .ok (.return_, 1) := by decide +kernel
theorem dX0_takeFrom_0 : decode cX0_takeFrom 0 = .ok (.aload_n 1, 1) := by decide +kernel
theorem dX0_takeFrom_1 : decode cX0_takeFrom 1 = .ok (.ifnonnull 4, 3) := by decide +kernel
theorem dX0_takeFrom_4 : decode cX0_takeFrom 4 = .ok (.return_, 1) := by decide +kernel
theorem dX0_takeFrom_5 : decode cX0_takeFrom 5 = .ok (.aload_n 0, 1) := by decide +kernel
theorem dX0_takeFrom_6 : decode cX0_takeFrom 6 = .ok (.aload_n 1, 1) := by decide +kernel
theorem dX0_takeFrom_7 : decode cX0_takeFrom 7 = .ok (.getfield 9, 3) := by decide +kernel
theorem dX0_takeFrom_10 : decode cX0_takeFrom 10 = .ok (.putfield 9, 3) := by decide +kernel
theorem dX0_takeFrom_13 : decode cX0_takeFrom 13 = .ok (.aload_n 0, 1) := by decide +kernel
theorem dX0_takeFrom_14 : decode cX0_takeFrom 14 = .ok (.aload_n 1, 1) := by decide +kernel
theorem dX0_takeFrom_15 : decode cX0_takeFrom 15 = .ok (.getfield 15, 3) := by decide +kernel
theorem dX0_takeFrom_18 : decode cX0_takeFrom 18 = .ok (.putfield 15, 3) := by decide +kernel
theorem dX0_takeFrom_21 : decode cX0_takeFrom 21 = .ok (.aload_n 0, 1) := by decide +kernel
theorem dX0_takeFrom_22 : decode cX0_takeFrom 22 = .ok (.aload_n 1, 1) := by decide +kernel
theorem dX0_takeFrom_23 : decode cX0_takeFrom 23 = .ok (.getfield 18, 3) := by decide +kernel
theorem dX0_takeFrom_26 : decode cX0_takeFrom 26 = .ok (.putfield 18, 3) := by decide +kernel
theorem dX0_takeFrom_29 : decode cX0_takeFrom 29 = .ok (.aload_n 0, 1) := by decide +kernel
theorem dX0_takeFrom_30 : decode cX0_takeFrom 30 = .ok (.aload_n 1, 1) := by decide +kernel
theorem dX0_takeFrom_31 : decode cX0_takeFrom 31 = .ok (.getfield 21, 3) := by decide +kernel
theorem dX0_takeFrom_34 : decode cX0_takeFrom 34 = .ok (.putfield 21, 3) := by decide +kernel
theorem dX0_takeFrom_37 : decode cX0_takeFrom 37 = .ok (.aload_n 0, 1) := by decide +kernel
theorem dX0_takeFrom_38 : decode cX0_takeFrom 38 = .ok (.aload_n 1, 1) := by decide +kernel
theorem dX0_takeFrom_39 : decode cX0_takeFrom 39 = .ok (.getfield 24, 3) := by decide +kernel
theorem dX0_takeFrom_42 : decode cX0_takeFrom 42 = .ok (.putfield 24, 3) := by decide +kernel
theorem dX0_takeFrom_45 : decode cX0_takeFrom 45 = .ok (.aload_n 1, 1) := by decide +kernel
theorem dX0_takeFrom_46 : decode cX0_takeFrom 46 = .ok (.getfield 27, 3) := by decide +kernel
theorem dX0_takeFrom_49 : decode cX0_takeFrom 49 = .ok (.iconst 0, 1) := by decide +kernel
theorem dX0_takeFrom_50 : decode cX0_takeFrom 50 = .ok (.aload_n 0, 1) := by decide +kernel
theorem dX0_takeFrom_51 : decode cX0_takeFrom 51 = .ok (.getfield 27, 3) := by decide +kernel
theorem dX0_takeFrom_54 : decode cX0_takeFrom 54 = .ok (.iconst 0, 1) := by decide +kernel
theorem dX0_takeFrom_55 : decode cX0_takeFrom 55 = .ok (.iconst 5, 1) := by decide +kernel
theorem dX0_takeFrom_56 : decode cX0_takeFrom 56 = .ok (.invokestatic 55, 3) := by decide +kernel
theorem dX0_takeFrom_59 : decode cX0_takeFrom 59 = .ok (.aload_n 1, 1) := by decide +kernel
theorem dX0_takeFrom_60 : decode cX0_takeFrom 60 = .ok (.getfield 31, 3) := by decide +kernel
theorem dX0_takeFrom_63 : decode cX0_takeFrom 63 = .ok (.iconst 0, 1) := by decide +kernel
theorem dX0_takeFrom_64 : decode cX0_takeFrom 64 = .ok (.aload_n 0, 1) := by decide +kernel
theorem dX0_takeFrom_65 : decode cX0_takeFrom 65 = .ok (.getfield 31, 3) := by decide +kernel
theorem dX0_takeFrom_68 : decode cX0_takeFrom 68 = .ok (.iconst 0, 1) := by decide +kernel
theorem dX0_takeFrom_69 : decode cX0_takeFrom 69 = .ok (.iconst 5, 1) := by decide +kernel
theorem dX0_takeFrom_70 : decode cX0_takeFrom 70 = .ok (.invokestatic 55, 3) := by decide +kernel
theorem dX0_takeFrom_73 : decode cX0_takeFrom 73 = .ok (.aload_n 1, 1) := by decide +kernel
theorem dX0_takeFrom_74 : decode cX0_takeFrom 74 = .ok (.getfield 34, 3) := by decide +kernel
theorem dX0_takeFrom_77 : decode cX0_takeFrom 77 = .ok (.iconst 0, 1) := by decide +kernel
theorem dX0_takeFrom_78 : decode cX0_takeFrom 78 = .ok (.aload_n 0, 1) := by decide +kernel
theorem dX0_takeFrom_79 : decode cX0_takeFrom 79 = .ok (.getfield 34, 3) := by decide +kernel
theorem dX0_takeFrom_82 : decode cX0_takeFrom 82 = .ok (.iconst 0, 1) := by decide +kernel
theorem dX0_takeFrom_83 : decode cX0_takeFrom 83 = .ok (.iconst 5, 1) := by decide +kernel
theorem dX0_takeFrom_84 : decode cX0_takeFrom 84 = .ok (.invokestatic 55, 3) := by decide +kernel
theorem dX0_takeFrom_87 : decode cX0_takeFrom 87 = .ok (.aload_n 1, 1) := by decide +kernel
theorem dX0_takeFrom_88 : decode cX0_takeFrom 88 = .ok (.getfield 37, 3) := by decide +kernel
theorem dX0_takeFrom_91 : decode cX0_takeFrom 91 = .ok (.iconst 0, 1) := by decide +kernel
theorem dX0_takeFrom_92 : decode cX0_takeFrom 92 = .ok (.aload_n 0, 1) := by decide +kernel
theorem dX0_takeFrom_93 : decode cX0_takeFrom 93 = .ok (.getfield 37, 3) := by decide +kernel
theorem dX0_takeFrom_96 : decode cX0_takeFrom 96 = .ok (.iconst 0, 1) := by decide +kernel
theorem dX0_takeFrom_97 : decode cX0_takeFrom 97 = .ok (.bipush 12, 2) := by decide +kernel
theorem dX0_takeFrom_99 : decode cX0_takeFrom 99 = .ok (.invokestatic 55, 3) := by decide +kernel
theorem dX0_takeFrom_102 : decode cX0_takeFrom 102 = .ok (.aload_n 1, 1) := by decide +kernel
theorem dX0_takeFrom_103 : decode cX0_takeFrom 103 = .ok (.getfield 40, 3) := by decide +kernel
theorem dX0_takeFrom_106 : decode cX0_takeFrom 106 = .ok (.iconst 0, 1) := by decide +kernel
theorem dX0_takeFrom_107 : decode cX0_takeFrom 107 = .ok (.aload_n 0, 1) := by decide +kernel
theorem dX0_takeFrom_108 : decode cX0_takeFrom 108 = .ok (.getfield 40, 3) := by decide +kernel
theorem dX0_takeFrom_111 : decode cX0_takeFrom 111 = .ok (.iconst 0, 1) := by decide +kernel
theorem dX0_takeFrom_112 : decode cX0_takeFrom 112 = .ok (.bipush 12, 2) := by decide +kernel
theorem dX0_takeFrom_114 : decode cX0_takeFrom 114 = .ok (.invokestatic 55, 3) := by decide +kernel
theorem dX0_takeFrom_117 : decode cX0_takeFrom 117 = .ok (.aload_n 1, 1) := by decide +kernel
theorem dX0_takeFrom_118 : decode cX0_takeFrom 118 = .ok (.getfield 43, 3) := by decide +kernel
theorem dX0_takeFrom_121 : decode cX0_takeFrom 121 = .ok (.iconst 0, 1) := by decide +kernel
theorem dX0_takeFrom_122 : decode cX0_takeFrom 122 = .ok (.aload_n 0, 1) := by decide +kernel
theorem dX0_takeFrom_123 : decode cX0_takeFrom 123 = .ok (.getfield 43, 3) := by decide +kernel
theorem dX0_takeFrom_126 : decode cX0_takeFrom 126 = .ok (.iconst 0, 1) := by decide +kernel
theorem dX0_takeFrom_127 : decode cX0_takeFrom 127 = .ok (.bipush 12, 2) := by decide +kernel
theorem dX0_takeFrom_129 : decode cX0_takeFrom 129 = .ok (.invokestatic 55, 3) := by decide +kernel
theorem dX0_takeFrom_132 : decode cX0_takeFrom 132 = .ok (.aload_n 1, 1) := by decide +kernel
theorem dX0_takeFrom_133 : decode cX0_takeFrom 133 = .ok (.getfield 46, 3) := by decide +kernel
theorem dX0_takeFrom_136 : decode cX0_takeFrom 136 = .ok (.iconst 0, 1) := by decide +kernel
theorem dX0_takeFrom_137 : decode cX0_takeFrom 137 = .ok (.aload_n 0, 1) := by decide +kernel
theorem dX0_takeFrom_138 : decode cX0_takeFrom 138 = .ok (.getfield 46, 3) := by decide +kernel
theorem dX0_takeFrom_141 : decode cX0_takeFrom 141 = .ok (.iconst 0, 1) := by decide +kernel
theorem dX0_takeFrom_142 : decode cX0_takeFrom 142 = .ok (.bipush 12, 2) := by decide +kernel
theorem dX0_takeFrom_144 : decode cX0_takeFrom 144 = .ok (.invokestatic 55, 3) := by decide +kernel
theorem dX0_takeFrom_147 : decode cX0_takeFrom 147 = .ok (.aload_n 1, 1) := by decide +kernel
theorem dX0_takeFrom_148 : decode cX0_takeFrom 148 = .ok (.getfield 49, 3) := by decide +kernel
theorem dX0_takeFrom_151 : decode cX0_takeFrom 151 = .ok (.iconst 0, 1) := by decide +kernel
theorem dX0_takeFrom_152 : decode cX0_takeFrom 152 = .ok (.aload_n 0, 1) := by decide +kernel
theorem dX0_takeFrom_153 : decode cX0_takeFrom 153 = .ok (.getfield 49, 3) := by decide +kernel
theorem dX0_takeFrom_156 : decode cX0_takeFrom 156 = .ok (.iconst 0, 1) := by decide +kernel
theorem dX0_takeFrom_157 : decode cX0_takeFrom 157 = .ok (.bipush 40, 2) := by decide +kernel
theorem dX0_takeFrom_159 : decode cX0_takeFrom 159 = .ok (.invokestatic 55, 3) := by decide +kernel
theorem dX0_takeFrom_162 : decode cX0_takeFrom 162 = .ok (.return_, 1) := by decide +kernel
theorem dX0_isPerson_0 : decode cX0_isPerson 0 = .ok (.iload_n 1, 1) := by decide +kernel
theorem dX0_isPerson_1 : decode cX0_isPerson 1 = .ok (.ifCond .lt 15, 3) := by decide +kernel
theorem dX0_isPerson_4 : decode cX0_isPerson 4 = .ok (.iload_n 1, 1) := by decide +kernel
theorem dX0_isPerson_5 : decode cX0_isPerson 5 = .ok (.aload_n 0, 1) := by decide +kernel
theorem dX0_isPerson_6 : decode cX0_isPerson 6 = .ok (.getfield 9, 3) := by decide +kernel
theorem dX0_isPerson_9 : decode cX0_isPerson 9 = .ok (.if_icmp .ge 7, 3) := by decide +kernel
theorem dX0_isPerson_12 : decode cX0_isPerson 12 = .ok (.iconst 1, 1) := by decide +kernel
theorem dX0_isPerson_13 : decode cX0_isPerson 13 = .ok (.goto 4, 3) := by decide +kernel
theorem dX0_isPerson_16 : decode cX0_isPerson 16 = .ok (.iconst 0, 1) := by decide +kernel
theorem dX0_isPerson_17 : decode cX0_isPerson 17 = .ok (.ireturn, 1) := by decide +kernel
theorem dX0_isError_0 : decode cX0_isError 0 = .ok (.iload_n 1, 1) := by decide +kernel
theorem dX0_isError_1 : decode cX0_isError 1 = .ok (.ifCond .lt 15, 3) := by decide +kernel
theorem dX0_isError_4 : decode cX0_isError 4 = .ok (.iload_n 1, 1) := by decide +kernel
theorem dX0_isError_5 : decode cX0_isError 5 = .ok (.aload_n 0, 1) := by decide +kernel
theorem dX0_isError_6 : decode cX0_isError 6 = .ok (.getfield 15, 3) := by decide +kernel
theorem dX0_isError_9 : decode cX0_isError 9 = .ok (.if_icmp .ge 7, 3) := by decide +kernel
theorem dX0_isError_12 : decode cX0_isError 12 = .ok (.iconst 1, 1) := by decide +kernel
theorem dX0_isError_13 : decode cX0_isError 13 = .ok (.goto 4, 3) := by decide +kernel
theorem dX0_isError_16 : decode cX0_isError 16 = .ok (.iconst 0, 1) := by decide +kernel
theorem dX0_isError_17 : decode cX0_isError 17 = .ok (.ireturn, 1) := by decide +kernel
theorem dX0_isMended_0 : decode cX0_isMended 0 = .ok (.aload_n 0, 1) := by decide +kernel
theorem dX0_isMended_1 : decode cX0_isMended 1 = .ok (.getfield 18, 3) := by decide +kernel
theorem dX0_isMended_4 : decode cX0_isMended 4 = .ok (.iload_n 1, 1) := by decide +kernel
theorem dX0_isMended_5 : decode cX0_isMended 5 = .ok (.ishr, 1) := by decide +kernel
theorem dX0_isMended_6 : decode cX0_isMended 6 = .ok (.iconst 1, 1) := by decide +kernel
theorem dX0_isMended_7 : decode cX0_isMended 7 = .ok (.iand, 1) := by decide +kernel
theorem dX0_isMended_8 : decode cX0_isMended 8 = .ok (.ifCond .eq 7, 3) := by decide +kernel
theorem dX0_isMended_11 : decode cX0_isMended 11 = .ok (.iconst 1, 1) := by decide +kernel
theorem dX0_isMended_12 : decode cX0_isMended 12 = .ok (.goto 4, 3) := by decide +kernel
theorem dX0_isMended_15 : decode cX0_isMended 15 = .ok (.iconst 0, 1) := by decide +kernel
theorem dX0_isMended_16 : decode cX0_isMended 16 = .ok (.ireturn, 1) := by decide +kernel
set_option maxRecDepth 20000 in
theorem ggX0_isOfKind_X0_isPerson : GoodIn wsX0_isOfKind wsX0_isPerson := goodIn_r _ [6, 7, 11, 12, 13, 14, 15, 16, 17, 18, 19, 20, 21, 22, 23, 24] (by decide +kernel) (by decide +kernel)
set_option maxRecDepth 20000 in
theorem gX0_isOfKind_X0_isPerson : GoodIn wsX0_isOfKind (wsV RX0 61 RX0 yX0_isPerson wsX0_isPerson) := goodIn_app (goodIn_of _ (by decide +kernel)) ggX0_isOfKind_X0_isPerson
set_option maxRecDepth 20000 in
theorem ggX0_isOfKind_X0_isAlso : GoodIn wsX0_isOfKind wsX0_isAlso := goodIn_r _ [10] (by decide +kernel) (by decide +kernel)
set_option maxRecDepth 20000 in
theorem gX0_isOfKind_X0_isAlso : GoodIn wsX0_isOfKind (va_wsS RX0 65 yX0_isAlso wsX0_isAlso) := goodIn_app (goodIn_of _ (by decide +kernel)) ggX0_isOfKind_X0_isAlso
theorem dX0_isOfKind_0 : decode cX0_isOfKind 0 = .ok (.aload_n 0, 1) := by decide +kernel
theorem dX0_isOfKind_1 : decode cX0_isOfKind 1 = .ok (.iload_n 1, 1) := by decide +kernel
theorem dX0_isOfKind_2 : decode cX0_isOfKind 2 = .ok (.invokevirtual 61, 3) := by decide +kernel
theorem dX0_isOfKind_5 : decode cX0_isOfKind 5 = .ok (.ifCond .eq 20, 3) := by decide +kernel
theorem dX0_isOfKind_8 : decode cX0_isOfKind 8 = .ok (.aload_n 0, 1) := by decide +kernel
theorem dX0_isOfKind_9 : decode cX0_isOfKind 9 = .ok (.getfield 27, 3) := by decide +kernel
theorem dX0_isOfKind_12 : decode cX0_isOfKind 12 = .ok (.iload_n 1, 1) := by decide +kernel
theorem dX0_isOfKind_13 : decode cX0_isOfKind 13 = .ok (.iaload, 1) := by decide +kernel
theorem dX0_isOfKind_14 : decode cX0_isOfKind 14 = .ok (.iload_n 2, 1) := by decide +kernel
theorem dX0_isOfKind_15 : decode cX0_isOfKind 15 = .ok (.invokestatic 65, 3) := by decide +kernel
theorem dX0_isOfKind_18 : decode cX0_isOfKind 18 = .ok (.ifCond .eq 7, 3) := by decide +kernel
theorem dX0_isOfKind_21 : decode cX0_isOfKind 21 = .ok (.iconst 1, 1) := by decide +kernel
theorem dX0_isOfKind_22 : decode cX0_isOfKind 22 = .ok (.goto 4, 3) := by decide +kernel
theorem dX0_isOfKind_25 : decode cX0_isOfKind 25 = .ok (.iconst 0, 1) := by decide +kernel
theorem dX0_isOfKind_26 : decode cX0_isOfKind 26 = .ok (.ireturn, 1) := by decide +kernel
theorem dX0_isAlso_0 : decode cX0_isAlso 0 = .ok (.iload_n 0, 1) := by decide +kernel
theorem dX0_isAlso_1 : decode cX0_isAlso 1 = .ok (.istore_n 2, 1) := by decide +kernel
theorem dX0_isAlso_2 : decode cX0_isAlso 2 = .ok (.iconst 0, 1) := by decide +kernel
theorem dX0_isAlso_3 : decode cX0_isAlso 3 = .ok (.istore_n 3, 1) := by decide +kernel
theorem dX0_isAlso_4 : decode cX0_isAlso 4 = .ok (.iload_n 3, 1) := by decide +kernel
theorem dX0_isAlso_5 : decode cX0_isAlso 5 = .ok (.bipush 6, 2) := by decide +kernel
theorem dX0_isAlso_7 : decode cX0_isAlso 7 = .ok (.if_icmp .ge 32, 3) := by decide +kernel
theorem dX0_isAlso_10 : decode cX0_isAlso 10 = .ok (.iload_n 2, 1) := by decide +kernel
theorem dX0_isAlso_11 : decode cX0_isAlso 11 = .ok (.ifCond .lt 28, 3) := by decide +kernel
theorem dX0_isAlso_14 : decode cX0_isAlso 14 = .ok (.iload_n 2, 1) := by decide +kernel
theorem dX0_isAlso_15 : decode cX0_isAlso 15 = .ok (.bipush 6, 2) := by decide +kernel
theorem dX0_isAlso_17 : decode cX0_isAlso 17 = .ok (.if_icmp .ge 22, 3) := by decide +kernel
theorem dX0_isAlso_20 : decode cX0_isAlso 20 = .ok (.iload_n 2, 1) := by decide +kernel
theorem dX0_isAlso_21 : decode cX0_isAlso 21 = .ok (.iload_n 1, 1) := by decide +kernel
theorem dX0_isAlso_22 : decode cX0_isAlso 22 = .ok (.if_icmp .ne 5, 3) := by decide +kernel
theorem dX0_isAlso_25 : decode cX0_isAlso 25 = .ok (.iconst 1, 1) := by decide +kernel
theorem dX0_isAlso_26 : decode cX0_isAlso 26 = .ok (.ireturn, 1) := by decide +kernel
theorem dX0_isAlso_27 : decode cX0_isAlso 27 = .ok (.getstatic 69, 3) := by decide +kernel
theorem dX0_isAlso_30 : decode cX0_isAlso 30 = .ok (.iload_n 2, 1) := by decide +kernel
theorem dX0_isAlso_31 : decode cX0_isAlso 31 = .ok (.iaload, 1) := by decide +kernel
theorem dX0_isAlso_32 : decode cX0_isAlso 32 = .ok (.istore_n 2, 1) := by decide +kernel
theorem dX0_isAlso_33 : decode cX0_isAlso 33 = .ok (.iinc 3 1, 3) := by decide +kernel
theorem dX0_isAlso_36 : decode cX0_isAlso 36 = .ok (.goto (-32), 3) := by decide +kernel
theorem dX0_isAlso_39 : decode cX0_isAlso 39 = .ok (.iconst 0, 1) := by decide +kernel
theorem dX0_isAlso_40 : decode cX0_isAlso 40 = .ok (.ireturn, 1) := by decide +kernel
theorem dX0_hasErrorsLeft_0 : decode cX0_hasErrorsLeft 0 = .ok (.iload_n 1, 1) := by decide +kernel
theorem dX0_hasErrorsLeft_1 : decode cX0_hasErrorsLeft 1 = .ok (.bipush 12, 2) := by decide +kernel
theorem dX0_hasErrorsLeft_3 : decode cX0_hasErrorsLeft 3 = .ok (.aload_n 0, 1) := by decide +kernel
theorem dX0_hasErrorsLeft_4 : decode cX0_hasErrorsLeft 4 = .ok (.getfield 15, 3) := by decide +kernel
theorem dX0_hasErrorsLeft_7 : decode cX0_hasErrorsLeft 7 = .ok (.isub, 1) := by decide +kernel
theorem dX0_hasErrorsLeft_8 : decode cX0_hasErrorsLeft 8 = .ok (.if_icmp .gt 7, 3) := by decide +kernel
theorem dX0_hasErrorsLeft_11 : decode cX0_hasErrorsLeft 11 = .ok (.iconst 1, 1) := by decide +kernel
theorem dX0_hasErrorsLeft_12 : decode cX0_hasErrorsLeft 12 = .ok (.goto 4, 3) := by decide +kernel
theorem dX0_hasErrorsLeft_15 : decode cX0_hasErrorsLeft 15 = .ok (.iconst 0, 1) := by decide +kernel
theorem dX0_hasErrorsLeft_16 : decode cX0_hasErrorsLeft 16 = .ok (.ireturn, 1) := by decide +kernel
theorem dX0_hasTurnsLeft_0 : decode cX0_hasTurnsLeft 0 = .ok (.iload_n 1, 1) := by decide +kernel
theorem dX0_hasTurnsLeft_1 : decode cX0_hasTurnsLeft 1 = .ok (.bipush 40, 2) := by decide +kernel
theorem dX0_hasTurnsLeft_3 : decode cX0_hasTurnsLeft 3 = .ok (.aload_n 0, 1) := by decide +kernel
theorem dX0_hasTurnsLeft_4 : decode cX0_hasTurnsLeft 4 = .ok (.getfield 24, 3) := by decide +kernel
theorem dX0_hasTurnsLeft_7 : decode cX0_hasTurnsLeft 7 = .ok (.isub, 1) := by decide +kernel
theorem dX0_hasTurnsLeft_8 : decode cX0_hasTurnsLeft 8 = .ok (.if_icmp .gt 7, 3) := by decide +kernel
theorem dX0_hasTurnsLeft_11 : decode cX0_hasTurnsLeft 11 = .ok (.iconst 1, 1) := by decide +kernel
theorem dX0_hasTurnsLeft_12 : decode cX0_hasTurnsLeft 12 = .ok (.goto 4, 3) := by decide +kernel
theorem dX0_hasTurnsLeft_15 : decode cX0_hasTurnsLeft 15 = .ok (.iconst 0, 1) := by decide +kernel
theorem dX0_hasTurnsLeft_16 : decode cX0_hasTurnsLeft 16 = .ok (.ireturn, 1) := by decide +kernel
theorem dX0_unmended_0 : decode cX0_unmended 0 = .ok (.iconst 1, 1) := by decide +kernel
theorem dX0_unmended_1 : decode cX0_unmended 1 = .ok (.aload_n 0, 1) := by decide +kernel
theorem dX0_unmended_2 : decode cX0_unmended 2 = .ok (.getfield 15, 3) := by decide +kernel
theorem dX0_unmended_5 : decode cX0_unmended 5 = .ok (.ishl, 1) := by decide +kernel
theorem dX0_unmended_6 : decode cX0_unmended 6 = .ok (.iconst 1, 1) := by decide +kernel
theorem dX0_unmended_7 : decode cX0_unmended 7 = .ok (.isub, 1) := by decide +kernel
theorem dX0_unmended_8 : decode cX0_unmended 8 = .ok (.aload_n 0, 1) := by decide +kernel
theorem dX0_unmended_9 : decode cX0_unmended 9 = .ok (.getfield 18, 3) := by decide +kernel
theorem dX0_unmended_12 : decode cX0_unmended 12 = .ok (.iconst (-1), 1) := by decide +kernel
theorem dX0_unmended_13 : decode cX0_unmended 13 = .ok (.ixor, 1) := by decide +kernel
theorem dX0_unmended_14 : decode cX0_unmended 14 = .ok (.iand, 1) := by decide +kernel
theorem dX0_unmended_15 : decode cX0_unmended 15 = .ok (.ireturn, 1) := by decide +kernel
set_option maxRecDepth 20000 in
theorem ggX0_drifters_X0_isOfKind : GoodIn wsX0_drifters wsX0_isOfKind := goodIn_r _ [6, 7, 8, 9, 10, 5, 11, 1, 12, 13, 14, 15, 16, 17, 18, 19, 20, 21, 22, 23, 24, 25, 26, 27, 28] (by decide +kernel) (by decide +kernel)
set_option maxRecDepth 20000 in
theorem gX0_drifters_X0_isOfKind : GoodIn wsX0_drifters (wsV RX0 72 RX0 yX0_isOfKind wsX0_isOfKind) := goodIn_app (goodIn_of _ (by decide +kernel)) ggX0_drifters_X0_isOfKind
theorem dX0_drifters_0 : decode cX0_drifters 0 = .ok (.iconst 0, 1) := by decide +kernel
theorem dX0_drifters_1 : decode cX0_drifters 1 = .ok (.istore_n 1, 1) := by decide +kernel
theorem dX0_drifters_2 : decode cX0_drifters 2 = .ok (.iconst 0, 1) := by decide +kernel
theorem dX0_drifters_3 : decode cX0_drifters 3 = .ok (.istore_n 2, 1) := by decide +kernel
theorem dX0_drifters_4 : decode cX0_drifters 4 = .ok (.iload_n 2, 1) := by decide +kernel
theorem dX0_drifters_5 : decode cX0_drifters 5 = .ok (.aload_n 0, 1) := by decide +kernel
theorem dX0_drifters_6 : decode cX0_drifters 6 = .ok (.getfield 9, 3) := by decide +kernel
theorem dX0_drifters_9 : decode cX0_drifters 9 = .ok (.if_icmp .ge 21, 3) := by decide +kernel
theorem dX0_drifters_12 : decode cX0_drifters 12 = .ok (.aload_n 0, 1) := by decide +kernel
theorem dX0_drifters_13 : decode cX0_drifters 13 = .ok (.iload_n 2, 1) := by decide +kernel
theorem dX0_drifters_14 : decode cX0_drifters 14 = .ok (.iconst 1, 1) := by decide +kernel
theorem dX0_drifters_15 : decode cX0_drifters 15 = .ok (.invokevirtual 72, 3) := by decide +kernel
theorem dX0_drifters_18 : decode cX0_drifters 18 = .ok (.ifCond .eq 6, 3) := by decide +kernel
theorem dX0_drifters_21 : decode cX0_drifters 21 = .ok (.iinc 1 1, 3) := by decide +kernel
theorem dX0_drifters_24 : decode cX0_drifters 24 = .ok (.iinc 2 1, 3) := by decide +kernel
theorem dX0_drifters_27 : decode cX0_drifters 27 = .ok (.goto (-23), 3) := by decide +kernel
theorem dX0_drifters_30 : decode cX0_drifters 30 = .ok (.iload_n 1, 1) := by decide +kernel
theorem dX0_drifters_31 : decode cX0_drifters 31 = .ok (.ireturn, 1) := by decide +kernel
set_option maxRecDepth 20000 in
theorem ggX0_personTrait_X0_isPerson : GoodIn wsX0_personTrait wsX0_isPerson := goodIn_r _ [9, 10, 57, 58, 59, 60, 61, 62, 63, 64, 65, 66, 67, 68, 69, 70] (by decide +kernel) (by decide +kernel)
set_option maxRecDepth 20000 in
theorem gX0_personTrait_X0_isPerson : GoodIn wsX0_personTrait (wsV RX0 61 RX0 yX0_isPerson wsX0_isPerson) := goodIn_app (goodIn_of _ (by decide +kernel)) ggX0_personTrait_X0_isPerson
set_option maxRecDepth 20000 in
theorem ggX0_personTrait_X0_done : GoodIn wsX0_personTrait wsX0_done := goodIn_r _ [14, 15, 16, 17, 8, 18, 19, 20, 21, 22, 23, 24, 25, 26, 27, 28, 29, 30, 31, 32, 33, 5, 6, 7, 9, 10, 34, 35, 36, 37, 38, 39, 40, 41, 42, 43, 44, 45, 46, 47, 48, 49, 50, 1, 2, 3, 51, 52, 53, 54, 55, 56, 57, 58, 59, 60, 61, 62, 63, 64, 65, 66, 67, 68, 69, 70] (by decide +kernel) (by decide +kernel)
set_option maxRecDepth 20000 in
theorem gX0_personTrait_X0_done : GoodIn wsX0_personTrait (wsV RX0 75 RX0 yX0_done wsX0_done) := goodIn_app (goodIn_of _ (by decide +kernel)) ggX0_personTrait_X0_done
theorem dX0_personTrait_0 : decode cX0_personTrait 0 = .ok (.aload_n 0, 1) := by decide +kernel
theorem dX0_personTrait_1 : decode cX0_personTrait 1 = .ok (.iload_n 1, 1) := by decide +kernel
theorem dX0_personTrait_2 : decode cX0_personTrait 2 = .ok (.invokevirtual 61, 3) := by decide +kernel
theorem dX0_personTrait_5 : decode cX0_personTrait 5 = .ok (.ifCond .ne 6, 3) := by decide +kernel
theorem dX0_personTrait_8 : decode cX0_personTrait 8 = .ok (.bipush (-9), 2) := by decide +kernel
theorem dX0_personTrait_10 : decode cX0_personTrait 10 = .ok (.ireturn, 1) := by decide +kernel
theorem dX0_personTrait_11 : decode cX0_personTrait 11 = .ok (.iload_n 2, 1) := by decide +kernel
theorem dX0_personTrait_12 : decode cX0_personTrait 12 = .ok (.tableswitch 64 0 3 #[32, 39, 46, 53], 32) := by decide +kernel
theorem dX0_personTrait_44 : decode cX0_personTrait 44 = .ok (.aload_n 0, 1) := by decide +kernel
theorem dX0_personTrait_45 : decode cX0_personTrait 45 = .ok (.getfield 27, 3) := by decide +kernel
theorem dX0_personTrait_48 : decode cX0_personTrait 48 = .ok (.iload_n 1, 1) := by decide +kernel
theorem dX0_personTrait_49 : decode cX0_personTrait 49 = .ok (.iaload, 1) := by decide +kernel
theorem dX0_personTrait_50 : decode cX0_personTrait 50 = .ok (.ireturn, 1) := by decide +kernel
theorem dX0_personTrait_51 : decode cX0_personTrait 51 = .ok (.aload_n 0, 1) := by decide +kernel
theorem dX0_personTrait_52 : decode cX0_personTrait 52 = .ok (.getfield 31, 3) := by decide +kernel
theorem dX0_personTrait_55 : decode cX0_personTrait 55 = .ok (.iload_n 1, 1) := by decide +kernel
theorem dX0_personTrait_56 : decode cX0_personTrait 56 = .ok (.iaload, 1) := by decide +kernel
theorem dX0_personTrait_57 : decode cX0_personTrait 57 = .ok (.ireturn, 1) := by decide +kernel
theorem dX0_personTrait_58 : decode cX0_personTrait 58 = .ok (.aload_n 0, 1) := by decide +kernel
theorem dX0_personTrait_59 : decode cX0_personTrait 59 = .ok (.getfield 34, 3) := by decide +kernel
theorem dX0_personTrait_62 : decode cX0_personTrait 62 = .ok (.iload_n 1, 1) := by decide +kernel
theorem dX0_personTrait_63 : decode cX0_personTrait 63 = .ok (.iaload, 1) := by decide +kernel
theorem dX0_personTrait_64 : decode cX0_personTrait 64 = .ok (.ireturn, 1) := by decide +kernel
theorem dX0_personTrait_65 : decode cX0_personTrait 65 = .ok (.aload_n 0, 1) := by decide +kernel
theorem dX0_personTrait_66 : decode cX0_personTrait 66 = .ok (.iconst 0, 1) := by decide +kernel
theorem dX0_personTrait_67 : decode cX0_personTrait 67 = .ok (.aload_n 0, 1) := by decide +kernel
theorem dX0_personTrait_68 : decode cX0_personTrait 68 = .ok (.getfield 21, 3) := by decide +kernel
theorem dX0_personTrait_71 : decode cX0_personTrait 71 = .ok (.iload_n 1, 1) := by decide +kernel
theorem dX0_personTrait_72 : decode cX0_personTrait 72 = .ok (.invokevirtual 75, 3) := by decide +kernel
theorem dX0_personTrait_75 : decode cX0_personTrait 75 = .ok (.ireturn, 1) := by decide +kernel
theorem dX0_personTrait_76 : decode cX0_personTrait 76 = .ok (.aload_n 0, 1) := by decide +kernel
theorem dX0_personTrait_77 : decode cX0_personTrait 77 = .ok (.iconst 4, 1) := by decide +kernel
theorem dX0_personTrait_78 : decode cX0_personTrait 78 = .ok (.aload_n 0, 1) := by decide +kernel
theorem dX0_personTrait_79 : decode cX0_personTrait 79 = .ok (.getfield 21, 3) := by decide +kernel
theorem dX0_personTrait_82 : decode cX0_personTrait 82 = .ok (.iload_n 1, 1) := by decide +kernel
theorem dX0_personTrait_83 : decode cX0_personTrait 83 = .ok (.invokevirtual 75, 3) := by decide +kernel
theorem dX0_personTrait_86 : decode cX0_personTrait 86 = .ok (.ireturn, 1) := by decide +kernel
set_option maxRecDepth 20000 in
theorem ggX0_errorTrait_X0_isError : GoodIn wsX0_errorTrait wsX0_isError := goodIn_r _ [9, 10, 16, 17, 18, 19, 20, 21, 22, 23, 24, 25, 26, 27, 28, 29] (by decide +kernel) (by decide +kernel)
set_option maxRecDepth 20000 in
theorem gX0_errorTrait_X0_isError : GoodIn wsX0_errorTrait (wsV RX0 79 RX0 yX0_isError wsX0_isError) := goodIn_app (goodIn_of _ (by decide +kernel)) ggX0_errorTrait_X0_isError
set_option maxRecDepth 20000 in
theorem ggX0_errorTrait_X0_isMended : GoodIn wsX0_errorTrait wsX0_isMended := goodIn_r _ [14, 15, 16, 17, 18, 19, 20, 21, 22, 23, 24, 25, 26, 27, 28, 29] (by decide +kernel) (by decide +kernel)
set_option maxRecDepth 20000 in
theorem gX0_errorTrait_X0_isMended : GoodIn wsX0_errorTrait (wsV RX0 82 RX0 yX0_isMended wsX0_isMended) := goodIn_app (goodIn_of _ (by decide +kernel)) ggX0_errorTrait_X0_isMended
theorem dX0_errorTrait_0 : decode cX0_errorTrait 0 = .ok (.aload_n 0, 1) := by decide +kernel
theorem dX0_errorTrait_1 : decode cX0_errorTrait 1 = .ok (.iload_n 1, 1) := by decide +kernel
theorem dX0_errorTrait_2 : decode cX0_errorTrait 2 = .ok (.invokevirtual 79, 3) := by decide +kernel
theorem dX0_errorTrait_5 : decode cX0_errorTrait 5 = .ok (.ifCond .ne 6, 3) := by decide +kernel
theorem dX0_errorTrait_8 : decode cX0_errorTrait 8 = .ok (.bipush (-9), 2) := by decide +kernel
theorem dX0_errorTrait_10 : decode cX0_errorTrait 10 = .ok (.ireturn, 1) := by decide +kernel
theorem dX0_errorTrait_11 : decode cX0_errorTrait 11 = .ok (.iload_n 2, 1) := by decide +kernel
theorem dX0_errorTrait_12 : decode cX0_errorTrait 12 = .ok (.tableswitch 60 0 3 #[32, 39, 46, 53], 32) := by decide +kernel
theorem dX0_errorTrait_44 : decode cX0_errorTrait 44 = .ok (.aload_n 0, 1) := by decide +kernel
theorem dX0_errorTrait_45 : decode cX0_errorTrait 45 = .ok (.getfield 37, 3) := by decide +kernel
theorem dX0_errorTrait_48 : decode cX0_errorTrait 48 = .ok (.iload_n 1, 1) := by decide +kernel
theorem dX0_errorTrait_49 : decode cX0_errorTrait 49 = .ok (.iaload, 1) := by decide +kernel
theorem dX0_errorTrait_50 : decode cX0_errorTrait 50 = .ok (.ireturn, 1) := by decide +kernel
theorem dX0_errorTrait_51 : decode cX0_errorTrait 51 = .ok (.aload_n 0, 1) := by decide +kernel
theorem dX0_errorTrait_52 : decode cX0_errorTrait 52 = .ok (.getfield 40, 3) := by decide +kernel
theorem dX0_errorTrait_55 : decode cX0_errorTrait 55 = .ok (.iload_n 1, 1) := by decide +kernel
theorem dX0_errorTrait_56 : decode cX0_errorTrait 56 = .ok (.iaload, 1) := by decide +kernel
theorem dX0_errorTrait_57 : decode cX0_errorTrait 57 = .ok (.ireturn, 1) := by decide +kernel
theorem dX0_errorTrait_58 : decode cX0_errorTrait 58 = .ok (.aload_n 0, 1) := by decide +kernel
theorem dX0_errorTrait_59 : decode cX0_errorTrait 59 = .ok (.getfield 43, 3) := by decide +kernel
theorem dX0_errorTrait_62 : decode cX0_errorTrait 62 = .ok (.iload_n 1, 1) := by decide +kernel
theorem dX0_errorTrait_63 : decode cX0_errorTrait 63 = .ok (.iaload, 1) := by decide +kernel
theorem dX0_errorTrait_64 : decode cX0_errorTrait 64 = .ok (.ireturn, 1) := by decide +kernel
theorem dX0_errorTrait_65 : decode cX0_errorTrait 65 = .ok (.aload_n 0, 1) := by decide +kernel
theorem dX0_errorTrait_66 : decode cX0_errorTrait 66 = .ok (.getfield 46, 3) := by decide +kernel
theorem dX0_errorTrait_69 : decode cX0_errorTrait 69 = .ok (.iload_n 1, 1) := by decide +kernel
theorem dX0_errorTrait_70 : decode cX0_errorTrait 70 = .ok (.iaload, 1) := by decide +kernel
theorem dX0_errorTrait_71 : decode cX0_errorTrait 71 = .ok (.ireturn, 1) := by decide +kernel
theorem dX0_errorTrait_72 : decode cX0_errorTrait 72 = .ok (.aload_n 0, 1) := by decide +kernel
theorem dX0_errorTrait_73 : decode cX0_errorTrait 73 = .ok (.iload_n 1, 1) := by decide +kernel
theorem dX0_errorTrait_74 : decode cX0_errorTrait 74 = .ok (.invokevirtual 82, 3) := by decide +kernel
theorem dX0_errorTrait_77 : decode cX0_errorTrait 77 = .ok (.ifCond .eq 7, 3) := by decide +kernel
theorem dX0_errorTrait_80 : decode cX0_errorTrait 80 = .ok (.iconst 1, 1) := by decide +kernel
theorem dX0_errorTrait_81 : decode cX0_errorTrait 81 = .ok (.goto 4, 3) := by decide +kernel
theorem dX0_errorTrait_84 : decode cX0_errorTrait 84 = .ok (.iconst 0, 1) := by decide +kernel
theorem dX0_errorTrait_85 : decode cX0_errorTrait 85 = .ok (.ireturn, 1) := by decide +kernel
set_option maxRecDepth 20000 in
theorem ggX0_digestOn_X0_personTrait : GoodIn wsX0_digestOn wsX0_personTrait := goodIn_r _ [8, 9, 10, 11, 12, 13, 14, 15, 7, 16, 1, 17, 18, 19, 20, 21, 22, 23, 24, 3, 25, 26, 27, 28, 29, 30, 31, 32, 33, 34, 35, 36, 37, 38, 39, 40, 41, 42, 43, 44, 45, 46, 47, 48, 49, 50, 51, 52, 53, 54, 55, 56, 57, 58, 59, 60, 61, 74, 75, 76, 77, 78, 79, 80, 81, 82, 83, 84, 85, 86, 87] (by decide +kernel) (by decide +kernel)
set_option maxRecDepth 20000 in
theorem gX0_digestOn_X0_personTrait : GoodIn wsX0_digestOn (wsV RX0 87 RX0 yX0_personTrait wsX0_personTrait) := goodIn_app (goodIn_of _ (by decide +kernel)) ggX0_digestOn_X0_personTrait
set_option maxRecDepth 20000 in
theorem ggX0_digestOn_X0_errorTrait : GoodIn wsX0_digestOn wsX0_errorTrait := goodIn_r _ [65, 50, 51, 49, 44, 66, 67, 68, 7, 69, 3, 70, 71, 72, 73, 25, 74, 75, 76, 77, 78, 79, 80, 81, 82, 83, 84, 85, 86, 87] (by decide +kernel) (by decide +kernel)
set_option maxRecDepth 20000 in
theorem gX0_digestOn_X0_errorTrait : GoodIn wsX0_digestOn (wsV RX0 91 RX0 yX0_errorTrait wsX0_errorTrait) := goodIn_app (goodIn_of _ (by decide +kernel)) ggX0_digestOn_X0_errorTrait
theorem dX0_digestOn_0 : decode cX0_digestOn 0 = .ok (.lload_n 1, 1) := by decide +kernel
theorem dX0_digestOn_1 : decode cX0_digestOn 1 = .ok (.lstore_n 3, 1) := by decide +kernel
theorem dX0_digestOn_2 : decode cX0_digestOn 2 = .ok (.iconst 0, 1) := by decide +kernel
theorem dX0_digestOn_3 : decode cX0_digestOn 3 = .ok (.istore 5, 2) := by decide +kernel
theorem dX0_digestOn_5 : decode cX0_digestOn 5 = .ok (.iload 5, 2) := by decide +kernel
theorem dX0_digestOn_7 : decode cX0_digestOn 7 = .ok (.aload_n 0, 1) := by decide +kernel
theorem dX0_digestOn_8 : decode cX0_digestOn 8 = .ok (.getfield 9, 3) := by decide +kernel
theorem dX0_digestOn_11 : decode cX0_digestOn 11 = .ok (.if_icmp .ge 40, 3) := by decide +kernel
theorem dX0_digestOn_14 : decode cX0_digestOn 14 = .ok (.iconst 0, 1) := by decide +kernel
theorem dX0_digestOn_15 : decode cX0_digestOn 15 = .ok (.istore 6, 2) := by decide +kernel
theorem dX0_digestOn_17 : decode cX0_digestOn 17 = .ok (.iload 6, 2) := by decide +kernel
theorem dX0_digestOn_19 : decode cX0_digestOn 19 = .ok (.iconst 5, 1) := by decide +kernel
theorem dX0_digestOn_20 : decode cX0_digestOn 20 = .ok (.if_icmp .ge 25, 3) := by decide +kernel
theorem dX0_digestOn_23 : decode cX0_digestOn 23 = .ok (.ldc2_w 85, 3) := by decide +kernel
theorem dX0_digestOn_26 : decode cX0_digestOn 26 = .ok (.lload_n 3, 1) := by decide +kernel
theorem dX0_digestOn_27 : decode cX0_digestOn 27 = .ok (.lmul, 1) := by decide +kernel
theorem dX0_digestOn_28 : decode cX0_digestOn 28 = .ok (.aload_n 0, 1) := by decide +kernel
theorem dX0_digestOn_29 : decode cX0_digestOn 29 = .ok (.iload 5, 2) := by decide +kernel
theorem dX0_digestOn_31 : decode cX0_digestOn 31 = .ok (.iload 6, 2) := by decide +kernel
theorem dX0_digestOn_33 : decode cX0_digestOn 33 = .ok (.invokevirtual 87, 3) := by decide +kernel
theorem dX0_digestOn_36 : decode cX0_digestOn 36 = .ok (.i2l, 1) := by decide +kernel
theorem dX0_digestOn_37 : decode cX0_digestOn 37 = .ok (.ladd, 1) := by decide +kernel
theorem dX0_digestOn_38 : decode cX0_digestOn 38 = .ok (.lstore_n 3, 1) := by decide +kernel
theorem dX0_digestOn_39 : decode cX0_digestOn 39 = .ok (.iinc 6 1, 3) := by decide +kernel
theorem dX0_digestOn_42 : decode cX0_digestOn 42 = .ok (.goto (-25), 3) := by decide +kernel
theorem dX0_digestOn_45 : decode cX0_digestOn 45 = .ok (.iinc 5 1, 3) := by decide +kernel
theorem dX0_digestOn_48 : decode cX0_digestOn 48 = .ok (.goto (-43), 3) := by decide +kernel
theorem dX0_digestOn_51 : decode cX0_digestOn 51 = .ok (.iconst 0, 1) := by decide +kernel
theorem dX0_digestOn_52 : decode cX0_digestOn 52 = .ok (.istore 5, 2) := by decide +kernel
theorem dX0_digestOn_54 : decode cX0_digestOn 54 = .ok (.iload 5, 2) := by decide +kernel
theorem dX0_digestOn_56 : decode cX0_digestOn 56 = .ok (.aload_n 0, 1) := by decide +kernel
theorem dX0_digestOn_57 : decode cX0_digestOn 57 = .ok (.getfield 15, 3) := by decide +kernel
theorem dX0_digestOn_60 : decode cX0_digestOn 60 = .ok (.if_icmp .ge 40, 3) := by decide +kernel
theorem dX0_digestOn_63 : decode cX0_digestOn 63 = .ok (.iconst 0, 1) := by decide +kernel
theorem dX0_digestOn_64 : decode cX0_digestOn 64 = .ok (.istore 6, 2) := by decide +kernel
theorem dX0_digestOn_66 : decode cX0_digestOn 66 = .ok (.iload 6, 2) := by decide +kernel
theorem dX0_digestOn_68 : decode cX0_digestOn 68 = .ok (.iconst 5, 1) := by decide +kernel
theorem dX0_digestOn_69 : decode cX0_digestOn 69 = .ok (.if_icmp .ge 25, 3) := by decide +kernel
theorem dX0_digestOn_72 : decode cX0_digestOn 72 = .ok (.ldc2_w 85, 3) := by decide +kernel
theorem dX0_digestOn_75 : decode cX0_digestOn 75 = .ok (.lload_n 3, 1) := by decide +kernel
theorem dX0_digestOn_76 : decode cX0_digestOn 76 = .ok (.lmul, 1) := by decide +kernel
theorem dX0_digestOn_77 : decode cX0_digestOn 77 = .ok (.aload_n 0, 1) := by decide +kernel
theorem dX0_digestOn_78 : decode cX0_digestOn 78 = .ok (.iload 5, 2) := by decide +kernel
theorem dX0_digestOn_80 : decode cX0_digestOn 80 = .ok (.iload 6, 2) := by decide +kernel
theorem dX0_digestOn_82 : decode cX0_digestOn 82 = .ok (.invokevirtual 91, 3) := by decide +kernel
theorem dX0_digestOn_85 : decode cX0_digestOn 85 = .ok (.i2l, 1) := by decide +kernel
theorem dX0_digestOn_86 : decode cX0_digestOn 86 = .ok (.ladd, 1) := by decide +kernel
theorem dX0_digestOn_87 : decode cX0_digestOn 87 = .ok (.lstore_n 3, 1) := by decide +kernel
theorem dX0_digestOn_88 : decode cX0_digestOn 88 = .ok (.iinc 6 1, 3) := by decide +kernel
theorem dX0_digestOn_91 : decode cX0_digestOn 91 = .ok (.goto (-25), 3) := by decide +kernel
theorem dX0_digestOn_94 : decode cX0_digestOn 94 = .ok (.iinc 5 1, 3) := by decide +kernel
theorem dX0_digestOn_97 : decode cX0_digestOn 97 = .ok (.goto (-43), 3) := by decide +kernel
theorem dX0_digestOn_100 : decode cX0_digestOn 100 = .ok (.lload_n 3, 1) := by decide +kernel
theorem dX0_digestOn_101 : decode cX0_digestOn 101 = .ok (.lreturn, 1) := by decide +kernel
theorem dX0_addPerson_0 : decode cX0_addPerson 0 = .ok (.aload_n 0, 1) := by decide +kernel
theorem dX0_addPerson_1 : decode cX0_addPerson 1 = .ok (.getfield 9, 3) := by decide +kernel
theorem dX0_addPerson_4 : decode cX0_addPerson 4 = .ok (.iconst 5, 1) := by decide +kernel
theorem dX0_addPerson_5 : decode cX0_addPerson 5 = .ok (.if_icmp .lt 4, 3) := by decide +kernel
theorem dX0_addPerson_8 : decode cX0_addPerson 8 = .ok (.return_, 1) := by decide +kernel
theorem dX0_addPerson_9 : decode cX0_addPerson 9 = .ok (.aload_n 0, 1) := by decide +kernel
theorem dX0_addPerson_10 : decode cX0_addPerson 10 = .ok (.getfield 27, 3) := by decide +kernel
theorem dX0_addPerson_13 : decode cX0_addPerson 13 = .ok (.aload_n 0, 1) := by decide +kernel
theorem dX0_addPerson_14 : decode cX0_addPerson 14 = .ok (.getfield 9, 3) := by decide +kernel
theorem dX0_addPerson_17 : decode cX0_addPerson 17 = .ok (.iload_n 1, 1) := by decide +kernel
theorem dX0_addPerson_18 : decode cX0_addPerson 18 = .ok (.iastore, 1) := by decide +kernel
theorem dX0_addPerson_19 : decode cX0_addPerson 19 = .ok (.aload_n 0, 1) := by decide +kernel
theorem dX0_addPerson_20 : decode cX0_addPerson 20 = .ok (.getfield 31, 3) := by decide +kernel
theorem dX0_addPerson_23 : decode cX0_addPerson 23 = .ok (.aload_n 0, 1) := by decide +kernel
theorem dX0_addPerson_24 : decode cX0_addPerson 24 = .ok (.getfield 9, 3) := by decide +kernel
theorem dX0_addPerson_27 : decode cX0_addPerson 27 = .ok (.iload_n 2, 1) := by decide +kernel
theorem dX0_addPerson_28 : decode cX0_addPerson 28 = .ok (.iastore, 1) := by decide +kernel
theorem dX0_addPerson_29 : decode cX0_addPerson 29 = .ok (.aload_n 0, 1) := by decide +kernel
theorem dX0_addPerson_30 : decode cX0_addPerson 30 = .ok (.getfield 34, 3) := by decide +kernel
theorem dX0_addPerson_33 : decode cX0_addPerson 33 = .ok (.aload_n 0, 1) := by decide +kernel
theorem dX0_addPerson_34 : decode cX0_addPerson 34 = .ok (.getfield 9, 3) := by decide +kernel
theorem dX0_addPerson_37 : decode cX0_addPerson 37 = .ok (.iload_n 3, 1) := by decide +kernel
theorem dX0_addPerson_38 : decode cX0_addPerson 38 = .ok (.iastore, 1) := by decide +kernel
theorem dX0_addPerson_39 : decode cX0_addPerson 39 = .ok (.aload_n 0, 1) := by decide +kernel
theorem dX0_addPerson_40 : decode cX0_addPerson 40 = .ok (.dup, 1) := by decide +kernel
theorem dX0_addPerson_41 : decode cX0_addPerson 41 = .ok (.getfield 9, 3) := by decide +kernel
theorem dX0_addPerson_44 : decode cX0_addPerson 44 = .ok (.iconst 1, 1) := by decide +kernel
theorem dX0_addPerson_45 : decode cX0_addPerson 45 = .ok (.iadd, 1) := by decide +kernel
theorem dX0_addPerson_46 : decode cX0_addPerson 46 = .ok (.putfield 9, 3) := by decide +kernel
theorem dX0_addPerson_49 : decode cX0_addPerson 49 = .ok (.return_, 1) := by decide +kernel
theorem dX0_addError_0 : decode cX0_addError 0 = .ok (.aload_n 0, 1) := by decide +kernel
theorem dX0_addError_1 : decode cX0_addError 1 = .ok (.getfield 15, 3) := by decide +kernel
theorem dX0_addError_4 : decode cX0_addError 4 = .ok (.bipush 12, 2) := by decide +kernel
theorem dX0_addError_6 : decode cX0_addError 6 = .ok (.if_icmp .lt 4, 3) := by decide +kernel
theorem dX0_addError_9 : decode cX0_addError 9 = .ok (.return_, 1) := by decide +kernel
theorem dX0_addError_10 : decode cX0_addError 10 = .ok (.aload_n 0, 1) := by decide +kernel
theorem dX0_addError_11 : decode cX0_addError 11 = .ok (.getfield 37, 3) := by decide +kernel
theorem dX0_addError_14 : decode cX0_addError 14 = .ok (.aload_n 0, 1) := by decide +kernel
theorem dX0_addError_15 : decode cX0_addError 15 = .ok (.getfield 15, 3) := by decide +kernel
theorem dX0_addError_18 : decode cX0_addError 18 = .ok (.iload_n 1, 1) := by decide +kernel
theorem dX0_addError_19 : decode cX0_addError 19 = .ok (.iastore, 1) := by decide +kernel
theorem dX0_addError_20 : decode cX0_addError 20 = .ok (.aload_n 0, 1) := by decide +kernel
theorem dX0_addError_21 : decode cX0_addError 21 = .ok (.getfield 40, 3) := by decide +kernel
theorem dX0_addError_24 : decode cX0_addError 24 = .ok (.aload_n 0, 1) := by decide +kernel
theorem dX0_addError_25 : decode cX0_addError 25 = .ok (.getfield 15, 3) := by decide +kernel
theorem dX0_addError_28 : decode cX0_addError 28 = .ok (.iload_n 2, 1) := by decide +kernel
theorem dX0_addError_29 : decode cX0_addError 29 = .ok (.iastore, 1) := by decide +kernel
theorem dX0_addError_30 : decode cX0_addError 30 = .ok (.aload_n 0, 1) := by decide +kernel
theorem dX0_addError_31 : decode cX0_addError 31 = .ok (.getfield 43, 3) := by decide +kernel
theorem dX0_addError_34 : decode cX0_addError 34 = .ok (.aload_n 0, 1) := by decide +kernel
theorem dX0_addError_35 : decode cX0_addError 35 = .ok (.getfield 15, 3) := by decide +kernel
theorem dX0_addError_38 : decode cX0_addError 38 = .ok (.iload_n 3, 1) := by decide +kernel
theorem dX0_addError_39 : decode cX0_addError 39 = .ok (.iastore, 1) := by decide +kernel
theorem dX0_addError_40 : decode cX0_addError 40 = .ok (.aload_n 0, 1) := by decide +kernel
theorem dX0_addError_41 : decode cX0_addError 41 = .ok (.getfield 46, 3) := by decide +kernel
theorem dX0_addError_44 : decode cX0_addError 44 = .ok (.aload_n 0, 1) := by decide +kernel
theorem dX0_addError_45 : decode cX0_addError 45 = .ok (.getfield 15, 3) := by decide +kernel
theorem dX0_addError_48 : decode cX0_addError 48 = .ok (.iload 4, 2) := by decide +kernel
theorem dX0_addError_50 : decode cX0_addError 50 = .ok (.iastore, 1) := by decide +kernel
theorem dX0_addError_51 : decode cX0_addError 51 = .ok (.aload_n 0, 1) := by decide +kernel
theorem dX0_addError_52 : decode cX0_addError 52 = .ok (.dup, 1) := by decide +kernel
theorem dX0_addError_53 : decode cX0_addError 53 = .ok (.getfield 15, 3) := by decide +kernel
theorem dX0_addError_56 : decode cX0_addError 56 = .ok (.iconst 1, 1) := by decide +kernel
theorem dX0_addError_57 : decode cX0_addError 57 = .ok (.iadd, 1) := by decide +kernel
theorem dX0_addError_58 : decode cX0_addError 58 = .ok (.putfield 15, 3) := by decide +kernel
theorem dX0_addError_61 : decode cX0_addError 61 = .ok (.return_, 1) := by decide +kernel
set_option maxRecDepth 20000 in
theorem ggX0_turnMended_X0_addTurn : GoodIn wsX0_turnMended wsX0_addTurn := goodIn_r _ [6, 7, 8, 9, 10, 11, 12, 13, 14, 15, 16, 17, 18, 19, 20, 21, 22] (by decide +kernel) (by decide +kernel)
set_option maxRecDepth 20000 in
theorem gX0_turnMended_X0_addTurn : GoodIn wsX0_turnMended (wsV RX0 94 RX0 yX0_addTurn wsX0_addTurn) := goodIn_app (goodIn_of _ (by decide +kernel)) ggX0_turnMended_X0_addTurn
theorem dX0_turnMended_0 : decode cX0_turnMended 0 = .ok (.aload_n 0, 1) := by decide +kernel
theorem dX0_turnMended_1 : decode cX0_turnMended 1 = .ok (.dup, 1) := by decide +kernel
theorem dX0_turnMended_2 : decode cX0_turnMended 2 = .ok (.getfield 18, 3) := by decide +kernel
theorem dX0_turnMended_5 : decode cX0_turnMended 5 = .ok (.iconst 1, 1) := by decide +kernel
theorem dX0_turnMended_6 : decode cX0_turnMended 6 = .ok (.iload_n 1, 1) := by decide +kernel
theorem dX0_turnMended_7 : decode cX0_turnMended 7 = .ok (.ishl, 1) := by decide +kernel
theorem dX0_turnMended_8 : decode cX0_turnMended 8 = .ok (.ixor, 1) := by decide +kernel
theorem dX0_turnMended_9 : decode cX0_turnMended 9 = .ok (.putfield 18, 3) := by decide +kernel
theorem dX0_turnMended_12 : decode cX0_turnMended 12 = .ok (.aload_n 0, 1) := by decide +kernel
theorem dX0_turnMended_13 : decode cX0_turnMended 13 = .ok (.iload_n 1, 1) := by decide +kernel
theorem dX0_turnMended_14 : decode cX0_turnMended 14 = .ok (.invokevirtual 94, 3) := by decide +kernel
theorem dX0_turnMended_17 : decode cX0_turnMended 17 = .ok (.return_, 1) := by decide +kernel
set_option maxRecDepth 20000 in
theorem ggX0_turnErred_X0_addError : GoodIn wsX0_turnErred wsX0_addError := goodIn_r _ [5, 6, 7, 8, 9, 10, 17, 18, 19, 20, 21, 22, 23, 24, 25, 26, 27, 28, 29, 30] (by decide +kernel) (by decide +kernel)
set_option maxRecDepth 20000 in
theorem gX0_turnErred_X0_addError : GoodIn wsX0_turnErred (wsV RX0 98 RX0 yX0_addError wsX0_addError) := goodIn_app (goodIn_of _ (by decide +kernel)) ggX0_turnErred_X0_addError
set_option maxRecDepth 20000 in
theorem ggX0_turnErred_X0_addTurn : GoodIn wsX0_turnErred wsX0_addTurn := goodIn_r _ [14, 15, 16, 17, 18, 19, 20, 21, 22, 23, 24, 25, 26, 27, 28, 29, 30] (by decide +kernel) (by decide +kernel)
set_option maxRecDepth 20000 in
theorem gX0_turnErred_X0_addTurn : GoodIn wsX0_turnErred (wsV RX0 94 RX0 yX0_addTurn wsX0_addTurn) := goodIn_app (goodIn_of _ (by decide +kernel)) ggX0_turnErred_X0_addTurn
theorem dX0_turnErred_0 : decode cX0_turnErred 0 = .ok (.aload_n 0, 1) := by decide +kernel
theorem dX0_turnErred_1 : decode cX0_turnErred 1 = .ok (.iload_n 1, 1) := by decide +kernel
theorem dX0_turnErred_2 : decode cX0_turnErred 2 = .ok (.iload_n 2, 1) := by decide +kernel
theorem dX0_turnErred_3 : decode cX0_turnErred 3 = .ok (.iload_n 3, 1) := by decide +kernel
theorem dX0_turnErred_4 : decode cX0_turnErred 4 = .ok (.iload 4, 2) := by decide +kernel
theorem dX0_turnErred_6 : decode cX0_turnErred 6 = .ok (.invokevirtual 98, 3) := by decide +kernel
theorem dX0_turnErred_9 : decode cX0_turnErred 9 = .ok (.aload_n 0, 1) := by decide +kernel
theorem dX0_turnErred_10 : decode cX0_turnErred 10 = .ok (.bipush (-2), 2) := by decide +kernel
theorem dX0_turnErred_12 : decode cX0_turnErred 12 = .ok (.invokevirtual 94, 3) := by decide +kernel
theorem dX0_turnErred_15 : decode cX0_turnErred 15 = .ok (.return_, 1) := by decide +kernel
set_option maxRecDepth 20000 in
theorem ggX0_turnDay_X0_addTurn : GoodIn wsX0_turnDay wsX0_addTurn := goodIn_r _ [6, 7, 8, 9, 10, 11, 12, 13, 14, 15, 16, 17, 18, 19, 20, 21, 22] (by decide +kernel) (by decide +kernel)
set_option maxRecDepth 20000 in
theorem gX0_turnDay_X0_addTurn : GoodIn wsX0_turnDay (wsV RX0 94 RX0 yX0_addTurn wsX0_addTurn) := goodIn_app (goodIn_of _ (by decide +kernel)) ggX0_turnDay_X0_addTurn
theorem dX0_turnDay_0 : decode cX0_turnDay 0 = .ok (.aload_n 0, 1) := by decide +kernel
theorem dX0_turnDay_1 : decode cX0_turnDay 1 = .ok (.dup, 1) := by decide +kernel
theorem dX0_turnDay_2 : decode cX0_turnDay 2 = .ok (.getfield 21, 3) := by decide +kernel
theorem dX0_turnDay_5 : decode cX0_turnDay 5 = .ok (.iconst 1, 1) := by decide +kernel
theorem dX0_turnDay_6 : decode cX0_turnDay 6 = .ok (.iadd, 1) := by decide +kernel
theorem dX0_turnDay_7 : decode cX0_turnDay 7 = .ok (.putfield 21, 3) := by decide +kernel
theorem dX0_turnDay_10 : decode cX0_turnDay 10 = .ok (.aload_n 0, 1) := by decide +kernel
theorem dX0_turnDay_11 : decode cX0_turnDay 11 = .ok (.iconst (-1), 1) := by decide +kernel
theorem dX0_turnDay_12 : decode cX0_turnDay 12 = .ok (.invokevirtual 94, 3) := by decide +kernel
theorem dX0_turnDay_15 : decode cX0_turnDay 15 = .ok (.return_, 1) := by decide +kernel
theorem dX0_addTurn_0 : decode cX0_addTurn 0 = .ok (.aload_n 0, 1) := by decide +kernel
theorem dX0_addTurn_1 : decode cX0_addTurn 1 = .ok (.getfield 24, 3) := by decide +kernel
theorem dX0_addTurn_4 : decode cX0_addTurn 4 = .ok (.bipush 40, 2) := by decide +kernel
theorem dX0_addTurn_6 : decode cX0_addTurn 6 = .ok (.if_icmp .ge 23, 3) := by decide +kernel
theorem dX0_addTurn_9 : decode cX0_addTurn 9 = .ok (.aload_n 0, 1) := by decide +kernel
theorem dX0_addTurn_10 : decode cX0_addTurn 10 = .ok (.getfield 49, 3) := by decide +kernel
theorem dX0_addTurn_13 : decode cX0_addTurn 13 = .ok (.aload_n 0, 1) := by decide +kernel
theorem dX0_addTurn_14 : decode cX0_addTurn 14 = .ok (.getfield 24, 3) := by decide +kernel
theorem dX0_addTurn_17 : decode cX0_addTurn 17 = .ok (.iload_n 1, 1) := by decide +kernel
theorem dX0_addTurn_18 : decode cX0_addTurn 18 = .ok (.iastore, 1) := by decide +kernel
theorem dX0_addTurn_19 : decode cX0_addTurn 19 = .ok (.aload_n 0, 1) := by decide +kernel
theorem dX0_addTurn_20 : decode cX0_addTurn 20 = .ok (.dup, 1) := by decide +kernel
theorem dX0_addTurn_21 : decode cX0_addTurn 21 = .ok (.getfield 24, 3) := by decide +kernel
theorem dX0_addTurn_24 : decode cX0_addTurn 24 = .ok (.iconst 1, 1) := by decide +kernel
theorem dX0_addTurn_25 : decode cX0_addTurn 25 = .ok (.iadd, 1) := by decide +kernel
theorem dX0_addTurn_26 : decode cX0_addTurn 26 = .ok (.putfield 24, 3) := by decide +kernel
theorem dX0_addTurn_29 : decode cX0_addTurn 29 = .ok (.return_, 1) := by decide +kernel
theorem dX0_turnBack_0 : decode cX0_turnBack 0 = .ok (.aload_n 0, 1) := by decide +kernel
theorem dX0_turnBack_1 : decode cX0_turnBack 1 = .ok (.getfield 24, 3) := by decide +kernel
theorem dX0_turnBack_4 : decode cX0_turnBack 4 = .ok (.iconst 1, 1) := by decide +kernel
theorem dX0_turnBack_5 : decode cX0_turnBack 5 = .ok (.if_icmp .ge 4, 3) := by decide +kernel
theorem dX0_turnBack_8 : decode cX0_turnBack 8 = .ok (.return_, 1) := by decide +kernel
theorem dX0_turnBack_9 : decode cX0_turnBack 9 = .ok (.aload_n 0, 1) := by decide +kernel
theorem dX0_turnBack_10 : decode cX0_turnBack 10 = .ok (.dup, 1) := by decide +kernel
theorem dX0_turnBack_11 : decode cX0_turnBack 11 = .ok (.getfield 24, 3) := by decide +kernel
theorem dX0_turnBack_14 : decode cX0_turnBack 14 = .ok (.iconst 1, 1) := by decide +kernel
theorem dX0_turnBack_15 : decode cX0_turnBack 15 = .ok (.isub, 1) := by decide +kernel
theorem dX0_turnBack_16 : decode cX0_turnBack 16 = .ok (.putfield 24, 3) := by decide +kernel
theorem dX0_turnBack_19 : decode cX0_turnBack 19 = .ok (.aload_n 0, 1) := by decide +kernel
theorem dX0_turnBack_20 : decode cX0_turnBack 20 = .ok (.getfield 49, 3) := by decide +kernel
theorem dX0_turnBack_23 : decode cX0_turnBack 23 = .ok (.aload_n 0, 1) := by decide +kernel
theorem dX0_turnBack_24 : decode cX0_turnBack 24 = .ok (.getfield 24, 3) := by decide +kernel
theorem dX0_turnBack_27 : decode cX0_turnBack 27 = .ok (.iaload, 1) := by decide +kernel
theorem dX0_turnBack_28 : decode cX0_turnBack 28 = .ok (.istore_n 1, 1) := by decide +kernel
theorem dX0_turnBack_29 : decode cX0_turnBack 29 = .ok (.iload_n 1, 1) := by decide +kernel
theorem dX0_turnBack_30 : decode cX0_turnBack 30 = .ok (.iconst (-1), 1) := by decide +kernel
theorem dX0_turnBack_31 : decode cX0_turnBack 31 = .ok (.if_icmp .ne 16, 3) := by decide +kernel
theorem dX0_turnBack_34 : decode cX0_turnBack 34 = .ok (.aload_n 0, 1) := by decide +kernel
theorem dX0_turnBack_35 : decode cX0_turnBack 35 = .ok (.dup, 1) := by decide +kernel
theorem dX0_turnBack_36 : decode cX0_turnBack 36 = .ok (.getfield 21, 3) := by decide +kernel
theorem dX0_turnBack_39 : decode cX0_turnBack 39 = .ok (.iconst 1, 1) := by decide +kernel
theorem dX0_turnBack_40 : decode cX0_turnBack 40 = .ok (.isub, 1) := by decide +kernel
theorem dX0_turnBack_41 : decode cX0_turnBack 41 = .ok (.putfield 21, 3) := by decide +kernel
theorem dX0_turnBack_44 : decode cX0_turnBack 44 = .ok (.goto 34, 3) := by decide +kernel
theorem dX0_turnBack_47 : decode cX0_turnBack 47 = .ok (.iload_n 1, 1) := by decide +kernel
theorem dX0_turnBack_48 : decode cX0_turnBack 48 = .ok (.bipush (-2), 2) := by decide +kernel
theorem dX0_turnBack_50 : decode cX0_turnBack 50 = .ok (.if_icmp .ne 16, 3) := by decide +kernel
theorem dX0_turnBack_53 : decode cX0_turnBack 53 = .ok (.aload_n 0, 1) := by decide +kernel
theorem dX0_turnBack_54 : decode cX0_turnBack 54 = .ok (.dup, 1) := by decide +kernel
theorem dX0_turnBack_55 : decode cX0_turnBack 55 = .ok (.getfield 15, 3) := by decide +kernel
theorem dX0_turnBack_58 : decode cX0_turnBack 58 = .ok (.iconst 1, 1) := by decide +kernel
theorem dX0_turnBack_59 : decode cX0_turnBack 59 = .ok (.isub, 1) := by decide +kernel
theorem dX0_turnBack_60 : decode cX0_turnBack 60 = .ok (.putfield 15, 3) := by decide +kernel
theorem dX0_turnBack_63 : decode cX0_turnBack 63 = .ok (.goto 15, 3) := by decide +kernel
theorem dX0_turnBack_66 : decode cX0_turnBack 66 = .ok (.aload_n 0, 1) := by decide +kernel
theorem dX0_turnBack_67 : decode cX0_turnBack 67 = .ok (.dup, 1) := by decide +kernel
theorem dX0_turnBack_68 : decode cX0_turnBack 68 = .ok (.getfield 18, 3) := by decide +kernel
theorem dX0_turnBack_71 : decode cX0_turnBack 71 = .ok (.iconst 1, 1) := by decide +kernel
theorem dX0_turnBack_72 : decode cX0_turnBack 72 = .ok (.iload_n 1, 1) := by decide +kernel
theorem dX0_turnBack_73 : decode cX0_turnBack 73 = .ok (.ishl, 1) := by decide +kernel
theorem dX0_turnBack_74 : decode cX0_turnBack 74 = .ok (.ixor, 1) := by decide +kernel
theorem dX0_turnBack_75 : decode cX0_turnBack 75 = .ok (.putfield 18, 3) := by decide +kernel
theorem dX0_turnBack_78 : decode cX0_turnBack 78 = .ok (.return_, 1) := by decide +kernel
set_option maxRecDepth 20000 in
theorem ggX0_done_X0_unmended : GoodIn wsX0_done wsX0_unmended := goodIn_r _ [5, 6, 7, 52, 53, 54, 55, 56, 57, 58, 59, 60, 61, 62, 63, 64, 65] (by decide +kernel) (by decide +kernel)
set_option maxRecDepth 20000 in
theorem gX0_done_X0_unmended : GoodIn wsX0_done (wsV RX0 102 RX0 yX0_unmended wsX0_unmended) := goodIn_app (goodIn_of _ (by decide +kernel)) ggX0_done_X0_unmended
set_option maxRecDepth 20000 in
theorem ggX0_done_X0_doneIf : GoodIn wsX0_done wsX0_doneIf := goodIn_r _ [11, 12, 13, 14, 4, 15, 16, 17, 18, 19, 20, 21, 22, 23, 24, 25, 26, 27, 28, 29, 30, 6, 31, 32, 33, 34, 35, 36, 37, 38, 39, 40, 41, 42, 43, 44, 45, 46, 47, 48, 49, 50, 51, 52, 53, 54, 55, 56, 57, 58, 59, 60, 61, 62, 63, 64, 65] (by decide +kernel) (by decide +kernel)
set_option maxRecDepth 20000 in
theorem gX0_done_X0_doneIf : GoodIn wsX0_done (wsV RX0 106 RX0 yX0_doneIf wsX0_doneIf) := goodIn_app (goodIn_of _ (by decide +kernel)) ggX0_done_X0_doneIf
theorem dX0_done_0 : decode cX0_done 0 = .ok (.aload_n 0, 1) := by decide +kernel
theorem dX0_done_1 : decode cX0_done 1 = .ok (.iload_n 1, 1) := by decide +kernel
theorem dX0_done_2 : decode cX0_done 2 = .ok (.iload_n 2, 1) := by decide +kernel
theorem dX0_done_3 : decode cX0_done 3 = .ok (.iload_n 3, 1) := by decide +kernel
theorem dX0_done_4 : decode cX0_done 4 = .ok (.aload_n 0, 1) := by decide +kernel
theorem dX0_done_5 : decode cX0_done 5 = .ok (.invokevirtual 102, 3) := by decide +kernel
theorem dX0_done_8 : decode cX0_done 8 = .ok (.invokevirtual 106, 3) := by decide +kernel
theorem dX0_done_11 : decode cX0_done 11 = .ok (.ireturn, 1) := by decide +kernel
set_option maxRecDepth 20000 in
theorem ggX0_doneIf_X0_isReached : GoodIn wsX0_doneIf wsX0_isReached := goodIn_r _ [5, 6, 7, 8, 9, 10, 11, 12, 13, 4, 14, 15, 43, 44, 45, 46, 47, 48, 49, 50, 51, 52, 53, 54, 55, 56] (by decide +kernel) (by decide +kernel)
set_option maxRecDepth 20000 in
theorem gX0_doneIf_X0_isReached : GoodIn wsX0_doneIf (wsV RX0 110 RX0 yX0_isReached wsX0_isReached) := goodIn_app (goodIn_of _ (by decide +kernel)) ggX0_doneIf_X0_isReached
set_option maxRecDepth 20000 in
theorem ggX0_doneIf_X0_gather : GoodIn wsX0_doneIf wsX0_gather := goodIn_r _ [19, 20, 21, 22, 23, 24, 25, 4, 26, 27, 28, 29, 43, 44, 45, 46, 47, 48, 49, 50, 51, 52, 53, 54, 55, 56] (by decide +kernel) (by decide +kernel)
set_option maxRecDepth 20000 in
theorem gX0_doneIf_X0_gather : GoodIn wsX0_doneIf (wsV RX0 114 RX0 yX0_gather wsX0_gather) := goodIn_app (goodIn_of _ (by decide +kernel)) ggX0_doneIf_X0_gather
set_option maxRecDepth 20000 in
theorem ggX0_doneIf_X0_arrive : GoodIn wsX0_doneIf wsX0_arrive := goodIn_r _ [33, 34, 35, 36, 20, 37, 38, 4, 39, 40, 41, 42, 43, 44, 45, 46, 47, 48, 49, 50, 51, 52, 53, 54, 55, 56] (by decide +kernel) (by decide +kernel)
set_option maxRecDepth 20000 in
theorem gX0_doneIf_X0_arrive : GoodIn wsX0_doneIf (wsV RX0 117 RX0 yX0_arrive wsX0_arrive) := goodIn_app (goodIn_of _ (by decide +kernel)) ggX0_doneIf_X0_arrive
theorem dX0_doneIf_0 : decode cX0_doneIf 0 = .ok (.aload_n 0, 1) := by decide +kernel
theorem dX0_doneIf_1 : decode cX0_doneIf 1 = .ok (.iload_n 1, 1) := by decide +kernel
theorem dX0_doneIf_2 : decode cX0_doneIf 2 = .ok (.iload_n 2, 1) := by decide +kernel
theorem dX0_doneIf_3 : decode cX0_doneIf 3 = .ok (.iload_n 3, 1) := by decide +kernel
theorem dX0_doneIf_4 : decode cX0_doneIf 4 = .ok (.invokevirtual 110, 3) := by decide +kernel
theorem dX0_doneIf_7 : decode cX0_doneIf 7 = .ok (.ifCond .ne 6, 3) := by decide +kernel
theorem dX0_doneIf_10 : decode cX0_doneIf 10 = .ok (.bipush (-9), 2) := by decide +kernel
theorem dX0_doneIf_12 : decode cX0_doneIf 12 = .ok (.ireturn, 1) := by decide +kernel
theorem dX0_doneIf_13 : decode cX0_doneIf 13 = .ok (.aload_n 0, 1) := by decide +kernel
theorem dX0_doneIf_14 : decode cX0_doneIf 14 = .ok (.iload_n 1, 1) := by decide +kernel
theorem dX0_doneIf_15 : decode cX0_doneIf 15 = .ok (.iload_n 2, 1) := by decide +kernel
theorem dX0_doneIf_16 : decode cX0_doneIf 16 = .ok (.iload_n 3, 1) := by decide +kernel
theorem dX0_doneIf_17 : decode cX0_doneIf 17 = .ok (.iload 4, 2) := by decide +kernel
theorem dX0_doneIf_19 : decode cX0_doneIf 19 = .ok (.invokevirtual 114, 3) := by decide +kernel
theorem dX0_doneIf_22 : decode cX0_doneIf 22 = .ok (.aload_n 0, 1) := by decide +kernel
theorem dX0_doneIf_23 : decode cX0_doneIf 23 = .ok (.iload_n 1, 1) := by decide +kernel
theorem dX0_doneIf_24 : decode cX0_doneIf 24 = .ok (.iload_n 2, 1) := by decide +kernel
theorem dX0_doneIf_25 : decode cX0_doneIf 25 = .ok (.iload_n 3, 1) := by decide +kernel
theorem dX0_doneIf_26 : decode cX0_doneIf 26 = .ok (.invokevirtual 117, 3) := by decide +kernel
theorem dX0_doneIf_29 : decode cX0_doneIf 29 = .ok (.ireturn, 1) := by decide +kernel
set_option maxRecDepth 20000 in
theorem ggX0_doneIfWarned_X0_isReached : GoodIn wsX0_doneIfWarned wsX0_isReached := goodIn_r _ [6, 7, 8, 9, 10, 11, 12, 13, 14, 5, 15, 16, 48, 49, 50, 51, 52, 53, 54, 55, 56, 57, 58, 59, 60, 61] (by decide +kernel) (by decide +kernel)
set_option maxRecDepth 20000 in
theorem gX0_doneIfWarned_X0_isReached : GoodIn wsX0_doneIfWarned (wsV RX0 110 RX0 yX0_isReached wsX0_isReached) := goodIn_app (goodIn_of _ (by decide +kernel)) ggX0_doneIfWarned_X0_isReached
set_option maxRecDepth 20000 in
theorem ggX0_doneIfWarned_X5_isTown : GoodIn wsX0_doneIfWarned wsX5_isTown := goodIn_r _ [9] (by decide +kernel) (by decide +kernel)
set_option maxRecDepth 20000 in
theorem gX0_doneIfWarned_X5_isTown_n120 : GoodIn wsX0_doneIfWarned (wsX5_isTown) := ggX0_doneIfWarned_X5_isTown
set_option maxRecDepth 20000 in
theorem ggX0_doneIfWarned_X0_unmended : GoodIn wsX0_doneIfWarned wsX0_unmended := goodIn_r _ [20, 21, 22, 48, 49, 50, 51, 52, 53, 54, 55, 56, 57, 58, 59, 60, 61] (by decide +kernel) (by decide +kernel)
set_option maxRecDepth 20000 in
theorem gX0_doneIfWarned_X0_unmended : GoodIn wsX0_doneIfWarned (wsV RX0 102 RX0 yX0_unmended wsX0_unmended) := goodIn_app (goodIn_of _ (by decide +kernel)) ggX0_doneIfWarned_X0_unmended
set_option maxRecDepth 20000 in
theorem ggX0_doneIfWarned_X0_gather : GoodIn wsX0_doneIfWarned wsX0_gather := goodIn_r _ [26, 1, 21, 27, 28, 29, 30, 5, 31, 32, 33, 34, 48, 49, 50, 51, 52, 53, 54, 55, 56, 57, 58, 59, 60, 61] (by decide +kernel) (by decide +kernel)
set_option maxRecDepth 20000 in
theorem gX0_doneIfWarned_X0_gather : GoodIn wsX0_doneIfWarned (wsV RX0 114 RX0 yX0_gather wsX0_gather) := goodIn_app (goodIn_of _ (by decide +kernel)) ggX0_doneIfWarned_X0_gather
set_option maxRecDepth 20000 in
theorem ggX0_doneIfWarned_X0_arrive : GoodIn wsX0_doneIfWarned wsX0_arrive := goodIn_r _ [38, 39, 40, 41, 1, 42, 43, 5, 44, 45, 46, 47, 48, 49, 50, 51, 52, 53, 54, 55, 56, 57, 58, 59, 60, 61] (by decide +kernel) (by decide +kernel)
set_option maxRecDepth 20000 in
theorem gX0_doneIfWarned_X0_arrive : GoodIn wsX0_doneIfWarned (wsV RX0 117 RX0 yX0_arrive wsX0_arrive) := goodIn_app (goodIn_of _ (by decide +kernel)) ggX0_doneIfWarned_X0_arrive
theorem dX0_doneIfWarned_0 : decode cX0_doneIfWarned 0 = .ok (.aload_n 0, 1) := by decide +kernel
theorem dX0_doneIfWarned_1 : decode cX0_doneIfWarned 1 = .ok (.iload_n 1, 1) := by decide +kernel
theorem dX0_doneIfWarned_2 : decode cX0_doneIfWarned 2 = .ok (.iload_n 2, 1) := by decide +kernel
theorem dX0_doneIfWarned_3 : decode cX0_doneIfWarned 3 = .ok (.iload_n 3, 1) := by decide +kernel
theorem dX0_doneIfWarned_4 : decode cX0_doneIfWarned 4 = .ok (.invokevirtual 110, 3) := by decide +kernel
theorem dX0_doneIfWarned_7 : decode cX0_doneIfWarned 7 = .ok (.ifCond .eq 11, 3) := by decide +kernel
theorem dX0_doneIfWarned_10 : decode cX0_doneIfWarned 10 = .ok (.iload 4, 2) := by decide +kernel
theorem dX0_doneIfWarned_12 : decode cX0_doneIfWarned 12 = .ok (.invokestatic 120, 3) := by decide +kernel
theorem dX0_doneIfWarned_15 : decode cX0_doneIfWarned 15 = .ok (.ifCond .ne 6, 3) := by decide +kernel
theorem dX0_doneIfWarned_18 : decode cX0_doneIfWarned 18 = .ok (.bipush (-9), 2) := by decide +kernel
theorem dX0_doneIfWarned_20 : decode cX0_doneIfWarned 20 = .ok (.ireturn, 1) := by decide +kernel
theorem dX0_doneIfWarned_21 : decode cX0_doneIfWarned 21 = .ok (.aload_n 0, 1) := by decide +kernel
theorem dX0_doneIfWarned_22 : decode cX0_doneIfWarned 22 = .ok (.iload_n 1, 1) := by decide +kernel
theorem dX0_doneIfWarned_23 : decode cX0_doneIfWarned 23 = .ok (.iload_n 2, 1) := by decide +kernel
theorem dX0_doneIfWarned_24 : decode cX0_doneIfWarned 24 = .ok (.iload_n 3, 1) := by decide +kernel
theorem dX0_doneIfWarned_25 : decode cX0_doneIfWarned 25 = .ok (.aload_n 0, 1) := by decide +kernel
theorem dX0_doneIfWarned_26 : decode cX0_doneIfWarned 26 = .ok (.invokevirtual 102, 3) := by decide +kernel
theorem dX0_doneIfWarned_29 : decode cX0_doneIfWarned 29 = .ok (.invokevirtual 114, 3) := by decide +kernel
theorem dX0_doneIfWarned_32 : decode cX0_doneIfWarned 32 = .ok (.aload_n 0, 1) := by decide +kernel
theorem dX0_doneIfWarned_33 : decode cX0_doneIfWarned 33 = .ok (.getfield 52, 3) := by decide +kernel
theorem dX0_doneIfWarned_36 : decode cX0_doneIfWarned 36 = .ok (.iload 4, 2) := by decide +kernel
theorem dX0_doneIfWarned_38 : decode cX0_doneIfWarned 38 = .ok (.dup2, 1) := by decide +kernel
theorem dX0_doneIfWarned_39 : decode cX0_doneIfWarned 39 = .ok (.iaload, 1) := by decide +kernel
theorem dX0_doneIfWarned_40 : decode cX0_doneIfWarned 40 = .ok (.iconst 5, 1) := by decide +kernel
theorem dX0_doneIfWarned_41 : decode cX0_doneIfWarned 41 = .ok (.iadd, 1) := by decide +kernel
theorem dX0_doneIfWarned_42 : decode cX0_doneIfWarned 42 = .ok (.iastore, 1) := by decide +kernel
theorem dX0_doneIfWarned_43 : decode cX0_doneIfWarned 43 = .ok (.aload_n 0, 1) := by decide +kernel
theorem dX0_doneIfWarned_44 : decode cX0_doneIfWarned 44 = .ok (.iload_n 1, 1) := by decide +kernel
theorem dX0_doneIfWarned_45 : decode cX0_doneIfWarned 45 = .ok (.iload_n 2, 1) := by decide +kernel
theorem dX0_doneIfWarned_46 : decode cX0_doneIfWarned 46 = .ok (.iload_n 3, 1) := by decide +kernel
theorem dX0_doneIfWarned_47 : decode cX0_doneIfWarned 47 = .ok (.invokevirtual 117, 3) := by decide +kernel
theorem dX0_doneIfWarned_50 : decode cX0_doneIfWarned 50 = .ok (.ireturn, 1) := by decide +kernel
set_option maxRecDepth 20000 in
theorem ggX0_isReached_X5_isTown : GoodIn wsX0_isReached wsX5_isTown := goodIn_r _ [3] (by decide +kernel) (by decide +kernel)
set_option maxRecDepth 20000 in
theorem gX0_isReached_X5_isTown_n120 : GoodIn wsX0_isReached (wsX5_isTown) := ggX0_isReached_X5_isTown
set_option maxRecDepth 20000 in
theorem ggX0_isReached_X5_isDay : GoodIn wsX0_isReached wsX5_isDay := goodIn_r _ [5] (by decide +kernel) (by decide +kernel)
set_option maxRecDepth 20000 in
theorem gX0_isReached_X5_isDay_n123 : GoodIn wsX0_isReached (wsX5_isDay) := ggX0_isReached_X5_isDay
set_option maxRecDepth 20000 in
theorem ggX0_isReached_X0_isPerson : GoodIn wsX0_isReached wsX0_isPerson := goodIn_r _ [10, 11, 12, 13, 14, 15, 16, 17, 18, 19, 20, 21, 22, 23, 24, 25] (by decide +kernel) (by decide +kernel)
set_option maxRecDepth 20000 in
theorem gX0_isReached_X0_isPerson : GoodIn wsX0_isReached (wsV RX0 61 RX0 yX0_isPerson wsX0_isPerson) := goodIn_app (goodIn_of _ (by decide +kernel)) ggX0_isReached_X0_isPerson
theorem dX0_isReached_0 : decode cX0_isReached 0 = .ok (.iload_n 1, 1) := by decide +kernel
theorem dX0_isReached_1 : decode cX0_isReached 1 = .ok (.invokestatic 120, 3) := by decide +kernel
theorem dX0_isReached_4 : decode cX0_isReached 4 = .ok (.ifCond .eq 27, 3) := by decide +kernel
theorem dX0_isReached_7 : decode cX0_isReached 7 = .ok (.iload_n 2, 1) := by decide +kernel
theorem dX0_isReached_8 : decode cX0_isReached 8 = .ok (.invokestatic 123, 3) := by decide +kernel
theorem dX0_isReached_11 : decode cX0_isReached 11 = .ok (.ifCond .eq 20, 3) := by decide +kernel
theorem dX0_isReached_14 : decode cX0_isReached 14 = .ok (.iload_n 2, 1) := by decide +kernel
theorem dX0_isReached_15 : decode cX0_isReached 15 = .ok (.iload_n 1, 1) := by decide +kernel
theorem dX0_isReached_16 : decode cX0_isReached 16 = .ok (.if_icmp .lt 15, 3) := by decide +kernel
theorem dX0_isReached_19 : decode cX0_isReached 19 = .ok (.aload_n 0, 1) := by decide +kernel
theorem dX0_isReached_20 : decode cX0_isReached 20 = .ok (.iload_n 3, 1) := by decide +kernel
theorem dX0_isReached_21 : decode cX0_isReached 21 = .ok (.invokevirtual 61, 3) := by decide +kernel
theorem dX0_isReached_24 : decode cX0_isReached 24 = .ok (.ifCond .eq 7, 3) := by decide +kernel
theorem dX0_isReached_27 : decode cX0_isReached 27 = .ok (.iconst 1, 1) := by decide +kernel
theorem dX0_isReached_28 : decode cX0_isReached 28 = .ok (.goto 4, 3) := by decide +kernel
theorem dX0_isReached_31 : decode cX0_isReached 31 = .ok (.iconst 0, 1) := by decide +kernel
theorem dX0_isReached_32 : decode cX0_isReached 32 = .ok (.ireturn, 1) := by decide +kernel
set_option maxRecDepth 20000 in
theorem ggX0_gather_X0_meets : GoodIn wsX0_gather wsX0_meets := goodIn_r _ [8, 9, 10, 11, 12, 13, 14, 15, 16, 17, 18, 19, 20, 21, 22, 23, 24, 25] (by decide +kernel) (by decide +kernel)
set_option maxRecDepth 20000 in
theorem gX0_gather_X0_meets : GoodIn wsX0_gather (wsV RX0 126 RX0 yX0_meets wsX0_meets) := goodIn_app (goodIn_of _ (by decide +kernel)) ggX0_gather_X0_meets
theorem dX0_gather_0 : decode cX0_gather 0 = .ok (.iconst 0, 1) := by decide +kernel
theorem dX0_gather_1 : decode cX0_gather 1 = .ok (.istore 5, 2) := by decide +kernel
theorem dX0_gather_3 : decode cX0_gather 3 = .ok (.iload 5, 2) := by decide +kernel
theorem dX0_gather_5 : decode cX0_gather 5 = .ok (.iconst 5, 1) := by decide +kernel
theorem dX0_gather_6 : decode cX0_gather 6 = .ok (.if_icmp .ge 17, 3) := by decide +kernel
theorem dX0_gather_9 : decode cX0_gather 9 = .ok (.aload_n 0, 1) := by decide +kernel
theorem dX0_gather_10 : decode cX0_gather 10 = .ok (.getfield 52, 3) := by decide +kernel
theorem dX0_gather_13 : decode cX0_gather 13 = .ok (.iload 5, 2) := by decide +kernel
theorem dX0_gather_15 : decode cX0_gather 15 = .ok (.iconst 0, 1) := by decide +kernel
theorem dX0_gather_16 : decode cX0_gather 16 = .ok (.iastore, 1) := by decide +kernel
theorem dX0_gather_17 : decode cX0_gather 17 = .ok (.iinc 5 1, 3) := by decide +kernel
theorem dX0_gather_20 : decode cX0_gather 20 = .ok (.goto (-17), 3) := by decide +kernel
theorem dX0_gather_23 : decode cX0_gather 23 = .ok (.iconst 0, 1) := by decide +kernel
theorem dX0_gather_24 : decode cX0_gather 24 = .ok (.istore 5, 2) := by decide +kernel
theorem dX0_gather_26 : decode cX0_gather 26 = .ok (.iload 5, 2) := by decide +kernel
theorem dX0_gather_28 : decode cX0_gather 28 = .ok (.aload_n 0, 1) := by decide +kernel
theorem dX0_gather_29 : decode cX0_gather 29 = .ok (.getfield 15, 3) := by decide +kernel
theorem dX0_gather_32 : decode cX0_gather 32 = .ok (.if_icmp .ge 63, 3) := by decide +kernel
theorem dX0_gather_35 : decode cX0_gather 35 = .ok (.iload 4, 2) := by decide +kernel
theorem dX0_gather_37 : decode cX0_gather 37 = .ok (.iload 5, 2) := by decide +kernel
theorem dX0_gather_39 : decode cX0_gather 39 = .ok (.ishr, 1) := by decide +kernel
theorem dX0_gather_40 : decode cX0_gather 40 = .ok (.iconst 1, 1) := by decide +kernel
theorem dX0_gather_41 : decode cX0_gather 41 = .ok (.iand, 1) := by decide +kernel
theorem dX0_gather_42 : decode cX0_gather 42 = .ok (.ifCond .ne 8, 3) := by decide +kernel
theorem dX0_gather_45 : decode cX0_gather 45 = .ok (.bipush (-9), 2) := by decide +kernel
theorem dX0_gather_47 : decode cX0_gather 47 = .ok (.goto 12, 3) := by decide +kernel
theorem dX0_gather_50 : decode cX0_gather 50 = .ok (.aload_n 0, 1) := by decide +kernel
theorem dX0_gather_51 : decode cX0_gather 51 = .ok (.iload 5, 2) := by decide +kernel
theorem dX0_gather_53 : decode cX0_gather 53 = .ok (.iload_n 1, 1) := by decide +kernel
theorem dX0_gather_54 : decode cX0_gather 54 = .ok (.iload_n 2, 1) := by decide +kernel
theorem dX0_gather_55 : decode cX0_gather 55 = .ok (.iload_n 3, 1) := by decide +kernel
theorem dX0_gather_56 : decode cX0_gather 56 = .ok (.invokevirtual 126, 3) := by decide +kernel
theorem dX0_gather_59 : decode cX0_gather 59 = .ok (.istore 6, 2) := by decide +kernel
theorem dX0_gather_61 : decode cX0_gather 61 = .ok (.iload 6, 2) := by decide +kernel
theorem dX0_gather_63 : decode cX0_gather 63 = .ok (.ifCond .lt 26, 3) := by decide +kernel
theorem dX0_gather_66 : decode cX0_gather 66 = .ok (.iload 6, 2) := by decide +kernel
theorem dX0_gather_68 : decode cX0_gather 68 = .ok (.iconst 5, 1) := by decide +kernel
theorem dX0_gather_69 : decode cX0_gather 69 = .ok (.if_icmp .ge 20, 3) := by decide +kernel
theorem dX0_gather_72 : decode cX0_gather 72 = .ok (.aload_n 0, 1) := by decide +kernel
theorem dX0_gather_73 : decode cX0_gather 73 = .ok (.getfield 52, 3) := by decide +kernel
theorem dX0_gather_76 : decode cX0_gather 76 = .ok (.iload 6, 2) := by decide +kernel
theorem dX0_gather_78 : decode cX0_gather 78 = .ok (.dup2, 1) := by decide +kernel
theorem dX0_gather_79 : decode cX0_gather 79 = .ok (.iaload, 1) := by decide +kernel
theorem dX0_gather_80 : decode cX0_gather 80 = .ok (.aload_n 0, 1) := by decide +kernel
theorem dX0_gather_81 : decode cX0_gather 81 = .ok (.getfield 46, 3) := by decide +kernel
theorem dX0_gather_84 : decode cX0_gather 84 = .ok (.iload 5, 2) := by decide +kernel
theorem dX0_gather_86 : decode cX0_gather 86 = .ok (.iaload, 1) := by decide +kernel
theorem dX0_gather_87 : decode cX0_gather 87 = .ok (.iadd, 1) := by decide +kernel
theorem dX0_gather_88 : decode cX0_gather 88 = .ok (.iastore, 1) := by decide +kernel
theorem dX0_gather_89 : decode cX0_gather 89 = .ok (.iinc 5 1, 3) := by decide +kernel
theorem dX0_gather_92 : decode cX0_gather 92 = .ok (.goto (-66), 3) := by decide +kernel
theorem dX0_gather_95 : decode cX0_gather 95 = .ok (.return_, 1) := by decide +kernel
theorem dX0_meets_0 : decode cX0_meets 0 = .ok (.iload_n 3, 1) := by decide +kernel
theorem dX0_meets_1 : decode cX0_meets 1 = .ok (.iload_n 2, 1) := by decide +kernel
theorem dX0_meets_2 : decode cX0_meets 2 = .ok (.isub, 1) := by decide +kernel
theorem dX0_meets_3 : decode cX0_meets 3 = .ok (.istore 5, 2) := by decide +kernel
theorem dX0_meets_5 : decode cX0_meets 5 = .ok (.iload 5, 2) := by decide +kernel
theorem dX0_meets_7 : decode cX0_meets 7 = .ok (.ifCond .lt 14, 3) := by decide +kernel
theorem dX0_meets_10 : decode cX0_meets 10 = .ok (.aload_n 0, 1) := by decide +kernel
theorem dX0_meets_11 : decode cX0_meets 11 = .ok (.getfield 43, 3) := by decide +kernel
theorem dX0_meets_14 : decode cX0_meets 14 = .ok (.iload_n 1, 1) := by decide +kernel
theorem dX0_meets_15 : decode cX0_meets 15 = .ok (.iaload, 1) := by decide +kernel
theorem dX0_meets_16 : decode cX0_meets 16 = .ok (.iload 4, 2) := by decide +kernel
theorem dX0_meets_18 : decode cX0_meets 18 = .ok (.if_icmp .eq 6, 3) := by decide +kernel
theorem dX0_meets_21 : decode cX0_meets 21 = .ok (.bipush (-9), 2) := by decide +kernel
theorem dX0_meets_23 : decode cX0_meets 23 = .ok (.ireturn, 1) := by decide +kernel
theorem dX0_meets_24 : decode cX0_meets 24 = .ok (.aload_n 0, 1) := by decide +kernel
theorem dX0_meets_25 : decode cX0_meets 25 = .ok (.getfield 37, 3) := by decide +kernel
theorem dX0_meets_28 : decode cX0_meets 28 = .ok (.iload_n 1, 1) := by decide +kernel
theorem dX0_meets_29 : decode cX0_meets 29 = .ok (.iaload, 1) := by decide +kernel
theorem dX0_meets_30 : decode cX0_meets 30 = .ok (.istore 6, 2) := by decide +kernel
theorem dX0_meets_32 : decode cX0_meets 32 = .ok (.iload 6, 2) := by decide +kernel
theorem dX0_meets_34 : decode cX0_meets 34 = .ok (.ifCond .ne 21, 3) := by decide +kernel
theorem dX0_meets_37 : decode cX0_meets 37 = .ok (.aload_n 0, 1) := by decide +kernel
theorem dX0_meets_38 : decode cX0_meets 38 = .ok (.getfield 40, 3) := by decide +kernel
theorem dX0_meets_41 : decode cX0_meets 41 = .ok (.iload_n 1, 1) := by decide +kernel
theorem dX0_meets_42 : decode cX0_meets 42 = .ok (.iaload, 1) := by decide +kernel
theorem dX0_meets_43 : decode cX0_meets 43 = .ok (.iload 5, 2) := by decide +kernel
theorem dX0_meets_45 : decode cX0_meets 45 = .ok (.if_icmp .gt 7, 3) := by decide +kernel
theorem dX0_meets_48 : decode cX0_meets 48 = .ok (.iconst 0, 1) := by decide +kernel
theorem dX0_meets_49 : decode cX0_meets 49 = .ok (.goto 5, 3) := by decide +kernel
theorem dX0_meets_52 : decode cX0_meets 52 = .ok (.bipush (-9), 2) := by decide +kernel
theorem dX0_meets_54 : decode cX0_meets 54 = .ok (.ireturn, 1) := by decide +kernel
theorem dX0_meets_55 : decode cX0_meets 55 = .ok (.iload 6, 2) := by decide +kernel
theorem dX0_meets_57 : decode cX0_meets 57 = .ok (.iload_n 2, 1) := by decide +kernel
theorem dX0_meets_58 : decode cX0_meets 58 = .ok (.if_icmp .gt 22, 3) := by decide +kernel
theorem dX0_meets_61 : decode cX0_meets 61 = .ok (.aload_n 0, 1) := by decide +kernel
theorem dX0_meets_62 : decode cX0_meets 62 = .ok (.getfield 40, 3) := by decide +kernel
theorem dX0_meets_65 : decode cX0_meets 65 = .ok (.iload_n 1, 1) := by decide +kernel
theorem dX0_meets_66 : decode cX0_meets 66 = .ok (.iaload, 1) := by decide +kernel
theorem dX0_meets_67 : decode cX0_meets 67 = .ok (.iload 6, 2) := by decide +kernel
theorem dX0_meets_69 : decode cX0_meets 69 = .ok (.isub, 1) := by decide +kernel
theorem dX0_meets_70 : decode cX0_meets 70 = .ok (.iload 5, 2) := by decide +kernel
theorem dX0_meets_72 : decode cX0_meets 72 = .ok (.if_icmp .ne 8, 3) := by decide +kernel
theorem dX0_meets_75 : decode cX0_meets 75 = .ok (.iload 6, 2) := by decide +kernel
theorem dX0_meets_77 : decode cX0_meets 77 = .ok (.goto 5, 3) := by decide +kernel
theorem dX0_meets_80 : decode cX0_meets 80 = .ok (.bipush (-9), 2) := by decide +kernel
theorem dX0_meets_82 : decode cX0_meets 82 = .ok (.ireturn, 1) := by decide +kernel
set_option maxRecDepth 20000 in
theorem ggX0_onTheWay_X0_meets : GoodIn wsX0_onTheWay wsX0_meets := goodIn_r _ [6, 7, 8, 9, 10, 11, 12, 13, 14, 15, 16, 17, 18, 19, 20, 21, 22, 23] (by decide +kernel) (by decide +kernel)
set_option maxRecDepth 20000 in
theorem gX0_onTheWay_X0_meets : GoodIn wsX0_onTheWay (wsV RX0 126 RX0 yX0_meets wsX0_meets) := goodIn_app (goodIn_of _ (by decide +kernel)) ggX0_onTheWay_X0_meets
theorem dX0_onTheWay_0 : decode cX0_onTheWay 0 = .ok (.iconst 0, 1) := by decide +kernel
theorem dX0_onTheWay_1 : decode cX0_onTheWay 1 = .ok (.istore 4, 2) := by decide +kernel
theorem dX0_onTheWay_3 : decode cX0_onTheWay 3 = .ok (.iconst 0, 1) := by decide +kernel
theorem dX0_onTheWay_4 : decode cX0_onTheWay 4 = .ok (.istore 5, 2) := by decide +kernel
theorem dX0_onTheWay_6 : decode cX0_onTheWay 6 = .ok (.iload 5, 2) := by decide +kernel
theorem dX0_onTheWay_8 : decode cX0_onTheWay 8 = .ok (.aload_n 0, 1) := by decide +kernel
theorem dX0_onTheWay_9 : decode cX0_onTheWay 9 = .ok (.getfield 15, 3) := by decide +kernel
theorem dX0_onTheWay_12 : decode cX0_onTheWay 12 = .ok (.if_icmp .ge 32, 3) := by decide +kernel
theorem dX0_onTheWay_15 : decode cX0_onTheWay 15 = .ok (.aload_n 0, 1) := by decide +kernel
theorem dX0_onTheWay_16 : decode cX0_onTheWay 16 = .ok (.iload 5, 2) := by decide +kernel
theorem dX0_onTheWay_18 : decode cX0_onTheWay 18 = .ok (.iload_n 1, 1) := by decide +kernel
theorem dX0_onTheWay_19 : decode cX0_onTheWay 19 = .ok (.iload_n 2, 1) := by decide +kernel
theorem dX0_onTheWay_20 : decode cX0_onTheWay 20 = .ok (.iload_n 3, 1) := by decide +kernel
theorem dX0_onTheWay_21 : decode cX0_onTheWay 21 = .ok (.invokevirtual 126, 3) := by decide +kernel
theorem dX0_onTheWay_24 : decode cX0_onTheWay 24 = .ok (.bipush (-9), 2) := by decide +kernel
theorem dX0_onTheWay_26 : decode cX0_onTheWay 26 = .ok (.if_icmp .eq 12, 3) := by decide +kernel
theorem dX0_onTheWay_29 : decode cX0_onTheWay 29 = .ok (.iload 4, 2) := by decide +kernel
theorem dX0_onTheWay_31 : decode cX0_onTheWay 31 = .ok (.iconst 1, 1) := by decide +kernel
theorem dX0_onTheWay_32 : decode cX0_onTheWay 32 = .ok (.iload 5, 2) := by decide +kernel
theorem dX0_onTheWay_34 : decode cX0_onTheWay 34 = .ok (.ishl, 1) := by decide +kernel
theorem dX0_onTheWay_35 : decode cX0_onTheWay 35 = .ok (.ior, 1) := by decide +kernel
theorem dX0_onTheWay_36 : decode cX0_onTheWay 36 = .ok (.istore 4, 2) := by decide +kernel
theorem dX0_onTheWay_38 : decode cX0_onTheWay 38 = .ok (.iinc 5 1, 3) := by decide +kernel
theorem dX0_onTheWay_41 : decode cX0_onTheWay 41 = .ok (.goto (-35), 3) := by decide +kernel
theorem dX0_onTheWay_44 : decode cX0_onTheWay 44 = .ok (.iload 4, 2) := by decide +kernel
theorem dX0_onTheWay_46 : decode cX0_onTheWay 46 = .ok (.ireturn, 1) := by decide +kernel
set_option maxRecDepth 20000 in
theorem ggX0_arrive_X0_isAlso : GoodIn wsX0_arrive wsX0_isAlso := goodIn_r _ [8] (by decide +kernel) (by decide +kernel)
set_option maxRecDepth 20000 in
theorem gX0_arrive_X0_isAlso : GoodIn wsX0_arrive (va_wsS RX0 65 yX0_isAlso wsX0_isAlso) := goodIn_app (goodIn_of _ (by decide +kernel)) ggX0_arrive_X0_isAlso
set_option maxRecDepth 20000 in
theorem ggX0_arrive_X0_repeated : GoodIn wsX0_arrive wsX0_repeated := goodIn_r _ [11] (by decide +kernel) (by decide +kernel)
set_option maxRecDepth 20000 in
theorem gX0_arrive_X0_repeated : GoodIn wsX0_arrive (va_wsS RX0 129 yX0_repeated wsX0_repeated) := goodIn_app (goodIn_of _ (by decide +kernel)) ggX0_arrive_X0_repeated
theorem dX0_arrive_0 : decode cX0_arrive 0 = .ok (.iload_n 2, 1) := by decide +kernel
theorem dX0_arrive_1 : decode cX0_arrive 1 = .ok (.iload_n 1, 1) := by decide +kernel
theorem dX0_arrive_2 : decode cX0_arrive 2 = .ok (.isub, 1) := by decide +kernel
theorem dX0_arrive_3 : decode cX0_arrive 3 = .ok (.istore 4, 2) := by decide +kernel
theorem dX0_arrive_5 : decode cX0_arrive 5 = .ok (.aload_n 0, 1) := by decide +kernel
theorem dX0_arrive_6 : decode cX0_arrive 6 = .ok (.getfield 27, 3) := by decide +kernel
theorem dX0_arrive_9 : decode cX0_arrive 9 = .ok (.iload_n 3, 1) := by decide +kernel
theorem dX0_arrive_10 : decode cX0_arrive 10 = .ok (.iaload, 1) := by decide +kernel
theorem dX0_arrive_11 : decode cX0_arrive 11 = .ok (.iconst 2, 1) := by decide +kernel
theorem dX0_arrive_12 : decode cX0_arrive 12 = .ok (.invokestatic 65, 3) := by decide +kernel
theorem dX0_arrive_15 : decode cX0_arrive 15 = .ok (.ifCond .eq 10, 3) := by decide +kernel
theorem dX0_arrive_18 : decode cX0_arrive 18 = .ok (.iload 4, 2) := by decide +kernel
theorem dX0_arrive_20 : decode cX0_arrive 20 = .ok (.iconst 2, 1) := by decide +kernel
theorem dX0_arrive_21 : decode cX0_arrive 21 = .ok (.idiv, 1) := by decide +kernel
theorem dX0_arrive_22 : decode cX0_arrive 22 = .ok (.goto 5, 3) := by decide +kernel
theorem dX0_arrive_25 : decode cX0_arrive 25 = .ok (.iload 4, 2) := by decide +kernel
theorem dX0_arrive_27 : decode cX0_arrive 27 = .ok (.istore 5, 2) := by decide +kernel
theorem dX0_arrive_29 : decode cX0_arrive 29 = .ok (.aload_n 0, 1) := by decide +kernel
theorem dX0_arrive_30 : decode cX0_arrive 30 = .ok (.getfield 31, 3) := by decide +kernel
theorem dX0_arrive_33 : decode cX0_arrive 33 = .ok (.iload_n 3, 1) := by decide +kernel
theorem dX0_arrive_34 : decode cX0_arrive 34 = .ok (.iaload, 1) := by decide +kernel
theorem dX0_arrive_35 : decode cX0_arrive 35 = .ok (.iload 5, 2) := by decide +kernel
theorem dX0_arrive_37 : decode cX0_arrive 37 = .ok (.aload_n 0, 1) := by decide +kernel
theorem dX0_arrive_38 : decode cX0_arrive 38 = .ok (.getfield 34, 3) := by decide +kernel
theorem dX0_arrive_41 : decode cX0_arrive 41 = .ok (.iload_n 3, 1) := by decide +kernel
theorem dX0_arrive_42 : decode cX0_arrive 42 = .ok (.iaload, 1) := by decide +kernel
theorem dX0_arrive_43 : decode cX0_arrive 43 = .ok (.imul, 1) := by decide +kernel
theorem dX0_arrive_44 : decode cX0_arrive 44 = .ok (.iadd, 1) := by decide +kernel
theorem dX0_arrive_45 : decode cX0_arrive 45 = .ok (.aload_n 0, 1) := by decide +kernel
theorem dX0_arrive_46 : decode cX0_arrive 46 = .ok (.getfield 52, 3) := by decide +kernel
theorem dX0_arrive_49 : decode cX0_arrive 49 = .ok (.iconst 0, 1) := by decide +kernel
theorem dX0_arrive_50 : decode cX0_arrive 50 = .ok (.iaload, 1) := by decide +kernel
theorem dX0_arrive_51 : decode cX0_arrive 51 = .ok (.iadd, 1) := by decide +kernel
theorem dX0_arrive_52 : decode cX0_arrive 52 = .ok (.bipush 10, 2) := by decide +kernel
theorem dX0_arrive_54 : decode cX0_arrive 54 = .ok (.irem, 1) := by decide +kernel
theorem dX0_arrive_55 : decode cX0_arrive 55 = .ok (.istore 6, 2) := by decide +kernel
theorem dX0_arrive_57 : decode cX0_arrive 57 = .ok (.iconst 1, 1) := by decide +kernel
theorem dX0_arrive_58 : decode cX0_arrive 58 = .ok (.istore 7, 2) := by decide +kernel
theorem dX0_arrive_60 : decode cX0_arrive 60 = .ok (.iload 7, 2) := by decide +kernel
theorem dX0_arrive_62 : decode cX0_arrive 62 = .ok (.iload_n 1, 1) := by decide +kernel
theorem dX0_arrive_63 : decode cX0_arrive 63 = .ok (.if_icmp .gt 38, 3) := by decide +kernel
theorem dX0_arrive_66 : decode cX0_arrive 66 = .ok (.aload_n 0, 1) := by decide +kernel
theorem dX0_arrive_67 : decode cX0_arrive 67 = .ok (.getfield 27, 3) := by decide +kernel
theorem dX0_arrive_70 : decode cX0_arrive 70 = .ok (.iload_n 3, 1) := by decide +kernel
theorem dX0_arrive_71 : decode cX0_arrive 71 = .ok (.iaload, 1) := by decide +kernel
theorem dX0_arrive_72 : decode cX0_arrive 72 = .ok (.iload 6, 2) := by decide +kernel
theorem dX0_arrive_74 : decode cX0_arrive 74 = .ok (.iload 4, 2) := by decide +kernel
theorem dX0_arrive_76 : decode cX0_arrive 76 = .ok (.iload 7, 2) := by decide +kernel
theorem dX0_arrive_78 : decode cX0_arrive 78 = .ok (.iadd, 1) := by decide +kernel
theorem dX0_arrive_79 : decode cX0_arrive 79 = .ok (.invokestatic 129, 3) := by decide +kernel
theorem dX0_arrive_82 : decode cX0_arrive 82 = .ok (.aload_n 0, 1) := by decide +kernel
theorem dX0_arrive_83 : decode cX0_arrive 83 = .ok (.getfield 52, 3) := by decide +kernel
theorem dX0_arrive_86 : decode cX0_arrive 86 = .ok (.iload 7, 2) := by decide +kernel
theorem dX0_arrive_88 : decode cX0_arrive 88 = .ok (.iaload, 1) := by decide +kernel
theorem dX0_arrive_89 : decode cX0_arrive 89 = .ok (.iadd, 1) := by decide +kernel
theorem dX0_arrive_90 : decode cX0_arrive 90 = .ok (.bipush 10, 2) := by decide +kernel
theorem dX0_arrive_92 : decode cX0_arrive 92 = .ok (.irem, 1) := by decide +kernel
theorem dX0_arrive_93 : decode cX0_arrive 93 = .ok (.istore 6, 2) := by decide +kernel
theorem dX0_arrive_95 : decode cX0_arrive 95 = .ok (.iinc 7 1, 3) := by decide +kernel
theorem dX0_arrive_98 : decode cX0_arrive 98 = .ok (.goto (-38), 3) := by decide +kernel
theorem dX0_arrive_101 : decode cX0_arrive 101 = .ok (.iload 6, 2) := by decide +kernel
theorem dX0_arrive_103 : decode cX0_arrive 103 = .ok (.ireturn, 1) := by decide +kernel
theorem dX0_repeated_0 : decode cX0_repeated 0 = .ok (.iload_n 0, 1) := by decide +kernel
theorem dX0_repeated_1 : decode cX0_repeated 1 = .ok (.tableswitch 70 1 5 #[35, 70, 39, 44, 60], 35) := by decide +kernel
theorem dX0_repeated_36 : decode cX0_repeated 36 = .ok (.iload_n 1, 1) := by decide +kernel
theorem dX0_repeated_37 : decode cX0_repeated 37 = .ok (.iconst 1, 1) := by decide +kernel
theorem dX0_repeated_38 : decode cX0_repeated 38 = .ok (.iadd, 1) := by decide +kernel
theorem dX0_repeated_39 : decode cX0_repeated 39 = .ok (.ireturn, 1) := by decide +kernel
theorem dX0_repeated_40 : decode cX0_repeated 40 = .ok (.bipush 9, 2) := by decide +kernel
theorem dX0_repeated_42 : decode cX0_repeated 42 = .ok (.iload_n 1, 1) := by decide +kernel
theorem dX0_repeated_43 : decode cX0_repeated 43 = .ok (.isub, 1) := by decide +kernel
theorem dX0_repeated_44 : decode cX0_repeated 44 = .ok (.ireturn, 1) := by decide +kernel
theorem dX0_repeated_45 : decode cX0_repeated 45 = .ok (.iload_n 2, 1) := by decide +kernel
theorem dX0_repeated_46 : decode cX0_repeated 46 = .ok (.iconst 3, 1) := by decide +kernel
theorem dX0_repeated_47 : decode cX0_repeated 47 = .ok (.irem, 1) := by decide +kernel
theorem dX0_repeated_48 : decode cX0_repeated 48 = .ok (.ifCond .ne 9, 3) := by decide +kernel
theorem dX0_repeated_51 : decode cX0_repeated 51 = .ok (.iload_n 1, 1) := by decide +kernel
theorem dX0_repeated_52 : decode cX0_repeated 52 = .ok (.iconst 2, 1) := by decide +kernel
theorem dX0_repeated_53 : decode cX0_repeated 53 = .ok (.iadd, 1) := by decide +kernel
theorem dX0_repeated_54 : decode cX0_repeated 54 = .ok (.goto 6, 3) := by decide +kernel
theorem dX0_repeated_57 : decode cX0_repeated 57 = .ok (.iload_n 1, 1) := by decide +kernel
theorem dX0_repeated_58 : decode cX0_repeated 58 = .ok (.iconst 1, 1) := by decide +kernel
theorem dX0_repeated_59 : decode cX0_repeated 59 = .ok (.iadd, 1) := by decide +kernel
theorem dX0_repeated_60 : decode cX0_repeated 60 = .ok (.ireturn, 1) := by decide +kernel
theorem dX0_repeated_61 : decode cX0_repeated 61 = .ok (.iload_n 1, 1) := by decide +kernel
theorem dX0_repeated_62 : decode cX0_repeated 62 = .ok (.ifCond .ne 7, 3) := by decide +kernel
theorem dX0_repeated_65 : decode cX0_repeated 65 = .ok (.iconst 5, 1) := by decide +kernel
theorem dX0_repeated_66 : decode cX0_repeated 66 = .ok (.goto 4, 3) := by decide +kernel
theorem dX0_repeated_69 : decode cX0_repeated 69 = .ok (.iload_n 1, 1) := by decide +kernel
theorem dX0_repeated_70 : decode cX0_repeated 70 = .ok (.ireturn, 1) := by decide +kernel
theorem dX0_repeated_71 : decode cX0_repeated 71 = .ok (.iload_n 1, 1) := by decide +kernel
theorem dX0_repeated_72 : decode cX0_repeated 72 = .ok (.ireturn, 1) := by decide +kernel
set_option maxRecDepth 20000 in
theorem ggX0_differs_X0_doneIf : GoodIn wsX0_differs wsX0_doneIf := goodIn_r _ [5, 6, 7, 8, 4, 9, 10, 11, 12, 13, 14, 15, 16, 17, 18, 19, 20, 21, 22, 23, 24, 25, 26, 27, 28, 29, 30, 31, 32, 33, 34, 35, 36, 37, 38, 39, 40, 41, 42, 43, 44, 45, 46, 47, 48, 49, 50, 51, 52, 53, 54, 55, 56, 57, 58, 59, 60] (by decide +kernel) (by decide +kernel)
set_option maxRecDepth 20000 in
theorem gX0_differs_X0_doneIf : GoodIn wsX0_differs (wsV RX0 106 RX0 yX0_doneIf wsX0_doneIf) := goodIn_app (goodIn_of _ (by decide +kernel)) ggX0_differs_X0_doneIf
theorem dX0_differs_0 : decode cX0_differs 0 = .ok (.aload_n 0, 1) := by decide +kernel
theorem dX0_differs_1 : decode cX0_differs 1 = .ok (.iload_n 2, 1) := by decide +kernel
theorem dX0_differs_2 : decode cX0_differs 2 = .ok (.iload_n 3, 1) := by decide +kernel
theorem dX0_differs_3 : decode cX0_differs 3 = .ok (.iload 4, 2) := by decide +kernel
theorem dX0_differs_5 : decode cX0_differs 5 = .ok (.iload 5, 2) := by decide +kernel
theorem dX0_differs_7 : decode cX0_differs 7 = .ok (.invokevirtual 106, 3) := by decide +kernel
theorem dX0_differs_10 : decode cX0_differs 10 = .ok (.aload_n 0, 1) := by decide +kernel
theorem dX0_differs_11 : decode cX0_differs 11 = .ok (.iload_n 1, 1) := by decide +kernel
theorem dX0_differs_12 : decode cX0_differs 12 = .ok (.iload_n 3, 1) := by decide +kernel
theorem dX0_differs_13 : decode cX0_differs 13 = .ok (.iload_n 2, 1) := by decide +kernel
theorem dX0_differs_14 : decode cX0_differs 14 = .ok (.iload_n 1, 1) := by decide +kernel
theorem dX0_differs_15 : decode cX0_differs 15 = .ok (.isub, 1) := by decide +kernel
theorem dX0_differs_16 : decode cX0_differs 16 = .ok (.isub, 1) := by decide +kernel
theorem dX0_differs_17 : decode cX0_differs 17 = .ok (.iload 4, 2) := by decide +kernel
theorem dX0_differs_19 : decode cX0_differs 19 = .ok (.iload 5, 2) := by decide +kernel
theorem dX0_differs_21 : decode cX0_differs 21 = .ok (.invokevirtual 106, 3) := by decide +kernel
theorem dX0_differs_24 : decode cX0_differs 24 = .ok (.if_icmp .eq 7, 3) := by decide +kernel
theorem dX0_differs_27 : decode cX0_differs 27 = .ok (.iconst 1, 1) := by decide +kernel
theorem dX0_differs_28 : decode cX0_differs 28 = .ok (.goto 4, 3) := by decide +kernel
theorem dX0_differs_31 : decode cX0_differs 31 = .ok (.iconst 0, 1) := by decide +kernel
theorem dX0_differs_32 : decode cX0_differs 32 = .ok (.ireturn, 1) := by decide +kernel
set_option maxRecDepth 20000 in
theorem ggX0_differing_X0_unmended : GoodIn wsX0_differing wsX0_unmended := goodIn_r _ [6, 7, 8, 56, 57, 58, 59, 60, 61, 62, 63, 64, 65, 66, 67, 68, 69] (by decide +kernel) (by decide +kernel)
set_option maxRecDepth 20000 in
theorem gX0_differing_X0_unmended : GoodIn wsX0_differing (wsV RX0 102 RX0 yX0_unmended wsX0_unmended) := goodIn_app (goodIn_of _ (by decide +kernel)) ggX0_differing_X0_unmended
set_option maxRecDepth 20000 in
theorem ggX0_differing_X0_differs : GoodIn wsX0_differing wsX0_differs := goodIn_r _ [12, 13, 14, 15, 5, 16, 17, 18, 19, 20, 21, 22, 23, 24, 25, 26, 27, 28, 29, 1, 30, 31, 32, 33, 34, 7, 35, 36, 37, 38, 39, 40, 41, 42, 43, 44, 45, 46, 47, 48, 49, 50, 51, 52, 53, 54, 55, 56, 57, 58, 59, 60, 61, 62, 63, 64, 65, 66, 67, 68, 69] (by decide +kernel) (by decide +kernel)
set_option maxRecDepth 20000 in
theorem gX0_differing_X0_differs : GoodIn wsX0_differing (wsV RX0 132 RX0 yX0_differs wsX0_differs) := goodIn_app (goodIn_of _ (by decide +kernel)) ggX0_differing_X0_differs
theorem dX0_differing_0 : decode cX0_differing 0 = .ok (.iconst 0, 1) := by decide +kernel
theorem dX0_differing_1 : decode cX0_differing 1 = .ok (.istore 4, 2) := by decide +kernel
theorem dX0_differing_3 : decode cX0_differing 3 = .ok (.iconst 0, 1) := by decide +kernel
theorem dX0_differing_4 : decode cX0_differing 4 = .ok (.istore 5, 2) := by decide +kernel
theorem dX0_differing_6 : decode cX0_differing 6 = .ok (.iload 5, 2) := by decide +kernel
theorem dX0_differing_8 : decode cX0_differing 8 = .ok (.aload_n 0, 1) := by decide +kernel
theorem dX0_differing_9 : decode cX0_differing 9 = .ok (.getfield 9, 3) := by decide +kernel
theorem dX0_differing_12 : decode cX0_differing 12 = .ok (.if_icmp .ge 34, 3) := by decide +kernel
theorem dX0_differing_15 : decode cX0_differing 15 = .ok (.aload_n 0, 1) := by decide +kernel
theorem dX0_differing_16 : decode cX0_differing 16 = .ok (.iload_n 1, 1) := by decide +kernel
theorem dX0_differing_17 : decode cX0_differing 17 = .ok (.iload_n 2, 1) := by decide +kernel
theorem dX0_differing_18 : decode cX0_differing 18 = .ok (.iload_n 3, 1) := by decide +kernel
theorem dX0_differing_19 : decode cX0_differing 19 = .ok (.iload 5, 2) := by decide +kernel
theorem dX0_differing_21 : decode cX0_differing 21 = .ok (.aload_n 0, 1) := by decide +kernel
theorem dX0_differing_22 : decode cX0_differing 22 = .ok (.invokevirtual 102, 3) := by decide +kernel
theorem dX0_differing_25 : decode cX0_differing 25 = .ok (.invokevirtual 132, 3) := by decide +kernel
theorem dX0_differing_28 : decode cX0_differing 28 = .ok (.ifCond .eq 12, 3) := by decide +kernel
theorem dX0_differing_31 : decode cX0_differing 31 = .ok (.iload 4, 2) := by decide +kernel
theorem dX0_differing_33 : decode cX0_differing 33 = .ok (.iconst 1, 1) := by decide +kernel
theorem dX0_differing_34 : decode cX0_differing 34 = .ok (.iload 5, 2) := by decide +kernel
theorem dX0_differing_36 : decode cX0_differing 36 = .ok (.ishl, 1) := by decide +kernel
theorem dX0_differing_37 : decode cX0_differing 37 = .ok (.ior, 1) := by decide +kernel
theorem dX0_differing_38 : decode cX0_differing 38 = .ok (.istore 4, 2) := by decide +kernel
theorem dX0_differing_40 : decode cX0_differing 40 = .ok (.iinc 5 1, 3) := by decide +kernel
theorem dX0_differing_43 : decode cX0_differing 43 = .ok (.goto (-37), 3) := by decide +kernel
theorem dX0_differing_46 : decode cX0_differing 46 = .ok (.iload 4, 2) := by decide +kernel
theorem dX0_differing_48 : decode cX0_differing 48 = .ok (.ireturn, 1) := by decide +kernel
set_option maxRecDepth 20000 in
theorem ggX0_fewestMended_X0_unmended : GoodIn wsX0_fewestMended wsX0_unmended := goodIn_r _ [5, 6, 7, 69, 70, 71, 72, 73, 74, 75, 76, 77, 78, 79, 80, 81, 82] (by decide +kernel) (by decide +kernel)
set_option maxRecDepth 20000 in
theorem gX0_fewestMended_X0_unmended : GoodIn wsX0_fewestMended (wsV RX0 102 RX0 yX0_unmended wsX0_unmended) := goodIn_app (goodIn_of _ (by decide +kernel)) ggX0_fewestMended_X0_unmended
set_option maxRecDepth 20000 in
theorem ggX0_fewestMended_X0_onTheWay : GoodIn wsX0_fewestMended wsX0_onTheWay := goodIn_r _ [11, 6, 12, 13, 14, 4, 15, 16, 17, 18, 69, 70, 71, 72, 73, 74, 75, 76, 77, 78, 79, 80, 81, 82] (by decide +kernel) (by decide +kernel)
set_option maxRecDepth 20000 in
theorem gX0_fewestMended_X0_onTheWay : GoodIn wsX0_fewestMended (wsV RX0 136 RX0 yX0_onTheWay wsX0_onTheWay) := goodIn_app (goodIn_of _ (by decide +kernel)) ggX0_fewestMended_X0_onTheWay
set_option maxRecDepth 20000 in
theorem ggX0_fewestMended_J6_bitCount_0f7a4 : GoodIn wsX0_fewestMended wsJ6_bitCount_0f7a4 := goodIn_r _ [22, 23, 24, 25] (by decide +kernel) (by decide +kernel)
set_option maxRecDepth 20000 in
theorem gX0_fewestMended_J6_bitCount_0f7a4 : GoodIn wsX0_fewestMended (va_wsS RX0 139 yJ6_bitCount_0f7a4 wsJ6_bitCount_0f7a4) := goodIn_app (goodIn_of _ (by decide +kernel)) ggX0_fewestMended_J6_bitCount_0f7a4
set_option maxRecDepth 20000 in
theorem ggX0_fewestMended_X0_differs : GoodIn wsX0_fewestMended wsX0_differs := goodIn_r _ [29, 30, 31, 32, 4, 33, 34, 35, 36, 37, 38, 39, 40, 41, 42, 43, 44, 45, 46, 47, 48, 49, 50, 51, 52, 6, 53, 12, 13, 14, 15, 16, 17, 18, 54, 55, 56, 57, 58, 59, 60, 61, 62, 63, 64, 65, 66, 69, 70, 71, 72, 73, 74, 75, 76, 77, 78, 79, 80, 81, 82] (by decide +kernel) (by decide +kernel)
set_option maxRecDepth 20000 in
theorem gX0_fewestMended_X0_differs : GoodIn wsX0_fewestMended (wsV RX0 132 RX0 yX0_differs wsX0_differs) := goodIn_app (goodIn_of _ (by decide +kernel)) ggX0_fewestMended_X0_differs
set_option maxRecDepth 20000 in
theorem ggX0_fewestMended_X5_nextSet : GoodIn wsX0_fewestMended wsX5_nextSet := goodIn_r _ [68] (by decide +kernel) (by decide +kernel)
set_option maxRecDepth 20000 in
theorem gX0_fewestMended_X5_nextSet_n145 : GoodIn wsX0_fewestMended (wsX5_nextSet) := ggX0_fewestMended_X5_nextSet
theorem dX0_fewestMended_0 : decode cX0_fewestMended 0 = .ok (.aload_n 0, 1) := by decide +kernel
theorem dX0_fewestMended_1 : decode cX0_fewestMended 1 = .ok (.invokevirtual 102, 3) := by decide +kernel
theorem dX0_fewestMended_4 : decode cX0_fewestMended 4 = .ok (.istore 5, 2) := by decide +kernel
theorem dX0_fewestMended_6 : decode cX0_fewestMended 6 = .ok (.aload_n 0, 1) := by decide +kernel
theorem dX0_fewestMended_7 : decode cX0_fewestMended 7 = .ok (.iload_n 2, 1) := by decide +kernel
theorem dX0_fewestMended_8 : decode cX0_fewestMended 8 = .ok (.iload_n 3, 1) := by decide +kernel
theorem dX0_fewestMended_9 : decode cX0_fewestMended 9 = .ok (.iload 4, 2) := by decide +kernel
theorem dX0_fewestMended_11 : decode cX0_fewestMended 11 = .ok (.invokevirtual 136, 3) := by decide +kernel
theorem dX0_fewestMended_14 : decode cX0_fewestMended 14 = .ok (.iload 5, 2) := by decide +kernel
theorem dX0_fewestMended_16 : decode cX0_fewestMended 16 = .ok (.iand, 1) := by decide +kernel
theorem dX0_fewestMended_17 : decode cX0_fewestMended 17 = .ok (.istore 6, 2) := by decide +kernel
theorem dX0_fewestMended_19 : decode cX0_fewestMended 19 = .ok (.bipush 13, 2) := by decide +kernel
theorem dX0_fewestMended_21 : decode cX0_fewestMended 21 = .ok (.istore 7, 2) := by decide +kernel
theorem dX0_fewestMended_23 : decode cX0_fewestMended 23 = .ok (.bipush (-9), 2) := by decide +kernel
theorem dX0_fewestMended_25 : decode cX0_fewestMended 25 = .ok (.istore 8, 2) := by decide +kernel
theorem dX0_fewestMended_27 : decode cX0_fewestMended 27 = .ok (.iconst 0, 1) := by decide +kernel
theorem dX0_fewestMended_28 : decode cX0_fewestMended 28 = .ok (.istore 9, 2) := by decide +kernel
theorem dX0_fewestMended_30 : decode cX0_fewestMended 30 = .ok (.iconst 0, 1) := by decide +kernel
theorem dX0_fewestMended_31 : decode cX0_fewestMended 31 = .ok (.istore 10, 2) := by decide +kernel
theorem dX0_fewestMended_33 : decode cX0_fewestMended 33 = .ok (.iload 10, 2) := by decide +kernel
theorem dX0_fewestMended_35 : decode cX0_fewestMended 35 = .ok (.iconst 1, 1) := by decide +kernel
theorem dX0_fewestMended_36 : decode cX0_fewestMended 36 = .ok (.iload 6, 2) := by decide +kernel
theorem dX0_fewestMended_38 : decode cX0_fewestMended 38 = .ok (.invokestatic 139, 3) := by decide +kernel
theorem dX0_fewestMended_41 : decode cX0_fewestMended 41 = .ok (.ishl, 1) := by decide +kernel
theorem dX0_fewestMended_42 : decode cX0_fewestMended 42 = .ok (.if_icmp .ge 59, 3) := by decide +kernel
theorem dX0_fewestMended_45 : decode cX0_fewestMended 45 = .ok (.iload 9, 2) := by decide +kernel
theorem dX0_fewestMended_47 : decode cX0_fewestMended 47 = .ok (.invokestatic 139, 3) := by decide +kernel
theorem dX0_fewestMended_50 : decode cX0_fewestMended 50 = .ok (.istore 11, 2) := by decide +kernel
theorem dX0_fewestMended_52 : decode cX0_fewestMended 52 = .ok (.iload 11, 2) := by decide +kernel
theorem dX0_fewestMended_54 : decode cX0_fewestMended 54 = .ok (.iload 7, 2) := by decide +kernel
theorem dX0_fewestMended_56 : decode cX0_fewestMended 56 = .ok (.if_icmp .ge 30, 3) := by decide +kernel
theorem dX0_fewestMended_59 : decode cX0_fewestMended 59 = .ok (.aload_n 0, 1) := by decide +kernel
theorem dX0_fewestMended_60 : decode cX0_fewestMended 60 = .ok (.iload_n 1, 1) := by decide +kernel
theorem dX0_fewestMended_61 : decode cX0_fewestMended 61 = .ok (.iload_n 2, 1) := by decide +kernel
theorem dX0_fewestMended_62 : decode cX0_fewestMended 62 = .ok (.iload_n 3, 1) := by decide +kernel
theorem dX0_fewestMended_63 : decode cX0_fewestMended 63 = .ok (.iload 4, 2) := by decide +kernel
theorem dX0_fewestMended_65 : decode cX0_fewestMended 65 = .ok (.iload 5, 2) := by decide +kernel
theorem dX0_fewestMended_67 : decode cX0_fewestMended 67 = .ok (.iload 9, 2) := by decide +kernel
theorem dX0_fewestMended_69 : decode cX0_fewestMended 69 = .ok (.iconst (-1), 1) := by decide +kernel
theorem dX0_fewestMended_70 : decode cX0_fewestMended 70 = .ok (.ixor, 1) := by decide +kernel
theorem dX0_fewestMended_71 : decode cX0_fewestMended 71 = .ok (.iand, 1) := by decide +kernel
theorem dX0_fewestMended_72 : decode cX0_fewestMended 72 = .ok (.invokevirtual 132, 3) := by decide +kernel
theorem dX0_fewestMended_75 : decode cX0_fewestMended 75 = .ok (.ifCond .ne 11, 3) := by decide +kernel
theorem dX0_fewestMended_78 : decode cX0_fewestMended 78 = .ok (.iload 11, 2) := by decide +kernel
theorem dX0_fewestMended_80 : decode cX0_fewestMended 80 = .ok (.istore 7, 2) := by decide +kernel
theorem dX0_fewestMended_82 : decode cX0_fewestMended 82 = .ok (.iload 9, 2) := by decide +kernel
theorem dX0_fewestMended_84 : decode cX0_fewestMended 84 = .ok (.istore 8, 2) := by decide +kernel
theorem dX0_fewestMended_86 : decode cX0_fewestMended 86 = .ok (.iload 9, 2) := by decide +kernel
theorem dX0_fewestMended_88 : decode cX0_fewestMended 88 = .ok (.iload 6, 2) := by decide +kernel
theorem dX0_fewestMended_90 : decode cX0_fewestMended 90 = .ok (.invokestatic 145, 3) := by decide +kernel
theorem dX0_fewestMended_93 : decode cX0_fewestMended 93 = .ok (.istore 9, 2) := by decide +kernel
theorem dX0_fewestMended_95 : decode cX0_fewestMended 95 = .ok (.iinc 10 1, 3) := by decide +kernel
theorem dX0_fewestMended_98 : decode cX0_fewestMended 98 = .ok (.goto (-65), 3) := by decide +kernel
theorem dX0_fewestMended_101 : decode cX0_fewestMended 101 = .ok (.iload 8, 2) := by decide +kernel
theorem dX0_fewestMended_103 : decode cX0_fewestMended 103 = .ok (.ireturn, 1) := by decide +kernel
set_option maxRecDepth 20000 in
theorem ggX0_drifted_X0_done : GoodIn wsX0_drifted wsX0_done := goodIn_r _ [5, 6, 7, 8, 4, 9, 10, 11, 12, 13, 14, 15, 16, 17, 18, 19, 20, 21, 22, 23, 24, 25, 26, 27, 28, 29, 30, 31, 32, 33, 34, 35, 36, 37, 38, 39, 40, 41, 42, 43, 44, 45, 46, 47, 48, 49, 50, 51, 52, 53, 54, 55, 60, 61, 62, 63, 64, 65, 66, 67, 68, 69, 70, 71, 72, 73] (by decide +kernel) (by decide +kernel)
set_option maxRecDepth 20000 in
theorem gX0_drifted_X0_done : GoodIn wsX0_drifted (wsV RX0 75 RX0 yX0_done wsX0_done) := goodIn_app (goodIn_of _ (by decide +kernel)) ggX0_drifted_X0_done
set_option maxRecDepth 20000 in
theorem ggX0_drifted_J9_floorMod_7cf53 : GoodIn wsX0_drifted wsJ9_floorMod_7cf53 := goodIn_r _ [59] (by decide +kernel) (by decide +kernel)
set_option maxRecDepth 20000 in
theorem gX0_drifted_J9_floorMod_7cf53 : GoodIn wsX0_drifted (va_wsS RX0 148 yJ9_floorMod_7cf53 wsJ9_floorMod_7cf53) := goodIn_app (goodIn_of _ (by decide +kernel)) ggX0_drifted_J9_floorMod_7cf53
theorem dX0_drifted_0 : decode cX0_drifted 0 = .ok (.aload_n 0, 1) := by decide +kernel
theorem dX0_drifted_1 : decode cX0_drifted 1 = .ok (.iconst 4, 1) := by decide +kernel
theorem dX0_drifted_2 : decode cX0_drifted 2 = .ok (.bipush 19, 2) := by decide +kernel
theorem dX0_drifted_4 : decode cX0_drifted 4 = .ok (.iload_n 1, 1) := by decide +kernel
theorem dX0_drifted_5 : decode cX0_drifted 5 = .ok (.invokevirtual 75, 3) := by decide +kernel
theorem dX0_drifted_8 : decode cX0_drifted 8 = .ok (.aload_n 0, 1) := by decide +kernel
theorem dX0_drifted_9 : decode cX0_drifted 9 = .ok (.iconst 0, 1) := by decide +kernel
theorem dX0_drifted_10 : decode cX0_drifted 10 = .ok (.bipush 15, 2) := by decide +kernel
theorem dX0_drifted_12 : decode cX0_drifted 12 = .ok (.iload_n 1, 1) := by decide +kernel
theorem dX0_drifted_13 : decode cX0_drifted 13 = .ok (.invokevirtual 75, 3) := by decide +kernel
theorem dX0_drifted_16 : decode cX0_drifted 16 = .ok (.isub, 1) := by decide +kernel
theorem dX0_drifted_17 : decode cX0_drifted 17 = .ok (.bipush 10, 2) := by decide +kernel
theorem dX0_drifted_19 : decode cX0_drifted 19 = .ok (.invokestatic 148, 3) := by decide +kernel
theorem dX0_drifted_22 : decode cX0_drifted 22 = .ok (.ireturn, 1) := by decide +kernel
set_option maxRecDepth 20000 in
theorem ggX0_idleDays_X0_done : GoodIn wsX0_idleDays wsX0_done := goodIn_r _ [5, 6, 7, 8, 4, 9, 10, 11, 12, 13, 14, 15, 16, 17, 18, 19, 20, 21, 22, 23, 24, 25, 26, 27, 28, 29, 30, 31, 32, 33, 34, 35, 36, 37, 38, 39, 40, 41, 42, 43, 44, 45, 46, 47, 48, 49, 50, 51, 52, 53, 54, 55, 56, 57, 58, 59, 60, 61, 62, 63, 64, 65, 66, 67, 68, 69] (by decide +kernel) (by decide +kernel)
set_option maxRecDepth 20000 in
theorem gX0_idleDays_X0_done : GoodIn wsX0_idleDays (wsV RX0 75 RX0 yX0_done wsX0_done) := goodIn_app (goodIn_of _ (by decide +kernel)) ggX0_idleDays_X0_done
theorem dX0_idleDays_0 : decode cX0_idleDays 0 = .ok (.iconst 0, 1) := by decide +kernel
theorem dX0_idleDays_1 : decode cX0_idleDays 1 = .ok (.istore_n 2, 1) := by decide +kernel
theorem dX0_idleDays_2 : decode cX0_idleDays 2 = .ok (.iconst 1, 1) := by decide +kernel
theorem dX0_idleDays_3 : decode cX0_idleDays 3 = .ok (.istore_n 3, 1) := by decide +kernel
theorem dX0_idleDays_4 : decode cX0_idleDays 4 = .ok (.iload_n 3, 1) := by decide +kernel
theorem dX0_idleDays_5 : decode cX0_idleDays 5 = .ok (.bipush 20, 2) := by decide +kernel
theorem dX0_idleDays_7 : decode cX0_idleDays 7 = .ok (.if_icmp .ge 31, 3) := by decide +kernel
theorem dX0_idleDays_10 : decode cX0_idleDays 10 = .ok (.aload_n 0, 1) := by decide +kernel
theorem dX0_idleDays_11 : decode cX0_idleDays 11 = .ok (.iconst 0, 1) := by decide +kernel
theorem dX0_idleDays_12 : decode cX0_idleDays 12 = .ok (.iload_n 3, 1) := by decide +kernel
theorem dX0_idleDays_13 : decode cX0_idleDays 13 = .ok (.iload_n 1, 1) := by decide +kernel
theorem dX0_idleDays_14 : decode cX0_idleDays 14 = .ok (.invokevirtual 75, 3) := by decide +kernel
theorem dX0_idleDays_17 : decode cX0_idleDays 17 = .ok (.aload_n 0, 1) := by decide +kernel
theorem dX0_idleDays_18 : decode cX0_idleDays 18 = .ok (.iconst 0, 1) := by decide +kernel
theorem dX0_idleDays_19 : decode cX0_idleDays 19 = .ok (.iload_n 3, 1) := by decide +kernel
theorem dX0_idleDays_20 : decode cX0_idleDays 20 = .ok (.iconst 1, 1) := by decide +kernel
theorem dX0_idleDays_21 : decode cX0_idleDays 21 = .ok (.isub, 1) := by decide +kernel
theorem dX0_idleDays_22 : decode cX0_idleDays 22 = .ok (.iload_n 1, 1) := by decide +kernel
theorem dX0_idleDays_23 : decode cX0_idleDays 23 = .ok (.invokevirtual 75, 3) := by decide +kernel
theorem dX0_idleDays_26 : decode cX0_idleDays 26 = .ok (.if_icmp .ne 6, 3) := by decide +kernel
theorem dX0_idleDays_29 : decode cX0_idleDays 29 = .ok (.iinc 2 1, 3) := by decide +kernel
theorem dX0_idleDays_32 : decode cX0_idleDays 32 = .ok (.iinc 3 1, 3) := by decide +kernel
theorem dX0_idleDays_35 : decode cX0_idleDays 35 = .ok (.goto (-31), 3) := by decide +kernel
theorem dX0_idleDays_38 : decode cX0_idleDays 38 = .ok (.iload_n 2, 1) := by decide +kernel
theorem dX0_idleDays_39 : decode cX0_idleDays 39 = .ok (.ireturn, 1) := by decide +kernel
set_option maxRecDepth 20000 in
theorem ggX0_likeTowns_X0_done : GoodIn wsX0_likeTowns wsX0_done := goodIn_r _ [5, 6, 7, 8, 4, 9, 10, 11, 12, 13, 14, 15, 16, 17, 18, 19, 20, 21, 22, 23, 24, 25, 26, 27, 28, 29, 30, 31, 32, 33, 34, 35, 36, 37, 38, 39, 40, 41, 42, 43, 44, 45, 46, 47, 48, 49, 50, 51, 52, 53, 54, 55, 56, 57, 58, 59, 60, 61, 62, 63, 64, 65, 66, 67, 68, 69] (by decide +kernel) (by decide +kernel)
set_option maxRecDepth 20000 in
theorem gX0_likeTowns_X0_done : GoodIn wsX0_likeTowns (wsV RX0 75 RX0 yX0_done wsX0_done) := goodIn_app (goodIn_of _ (by decide +kernel)) ggX0_likeTowns_X0_done
theorem dX0_likeTowns_0 : decode cX0_likeTowns 0 = .ok (.iconst 0, 1) := by decide +kernel
theorem dX0_likeTowns_1 : decode cX0_likeTowns 1 = .ok (.istore_n 2, 1) := by decide +kernel
theorem dX0_likeTowns_2 : decode cX0_likeTowns 2 = .ok (.iconst 1, 1) := by decide +kernel
theorem dX0_likeTowns_3 : decode cX0_likeTowns 3 = .ok (.istore_n 3, 1) := by decide +kernel
theorem dX0_likeTowns_4 : decode cX0_likeTowns 4 = .ok (.iload_n 3, 1) := by decide +kernel
theorem dX0_likeTowns_5 : decode cX0_likeTowns 5 = .ok (.iconst 5, 1) := by decide +kernel
theorem dX0_likeTowns_6 : decode cX0_likeTowns 6 = .ok (.if_icmp .ge 31, 3) := by decide +kernel
theorem dX0_likeTowns_9 : decode cX0_likeTowns 9 = .ok (.aload_n 0, 1) := by decide +kernel
theorem dX0_likeTowns_10 : decode cX0_likeTowns 10 = .ok (.iload_n 3, 1) := by decide +kernel
theorem dX0_likeTowns_11 : decode cX0_likeTowns 11 = .ok (.bipush 19, 2) := by decide +kernel
theorem dX0_likeTowns_13 : decode cX0_likeTowns 13 = .ok (.iload_n 1, 1) := by decide +kernel
theorem dX0_likeTowns_14 : decode cX0_likeTowns 14 = .ok (.invokevirtual 75, 3) := by decide +kernel
theorem dX0_likeTowns_17 : decode cX0_likeTowns 17 = .ok (.aload_n 0, 1) := by decide +kernel
theorem dX0_likeTowns_18 : decode cX0_likeTowns 18 = .ok (.iconst 0, 1) := by decide +kernel
theorem dX0_likeTowns_19 : decode cX0_likeTowns 19 = .ok (.bipush 19, 2) := by decide +kernel
theorem dX0_likeTowns_21 : decode cX0_likeTowns 21 = .ok (.iload_n 1, 1) := by decide +kernel
theorem dX0_likeTowns_22 : decode cX0_likeTowns 22 = .ok (.invokevirtual 75, 3) := by decide +kernel
theorem dX0_likeTowns_25 : decode cX0_likeTowns 25 = .ok (.if_icmp .ne 6, 3) := by decide +kernel
theorem dX0_likeTowns_28 : decode cX0_likeTowns 28 = .ok (.iinc 2 1, 3) := by decide +kernel
theorem dX0_likeTowns_31 : decode cX0_likeTowns 31 = .ok (.iinc 3 1, 3) := by decide +kernel
theorem dX0_likeTowns_34 : decode cX0_likeTowns 34 = .ok (.goto (-30), 3) := by decide +kernel
theorem dX0_likeTowns_37 : decode cX0_likeTowns 37 = .ok (.iload_n 2, 1) := by decide +kernel
theorem dX0_likeTowns_38 : decode cX0_likeTowns 38 = .ok (.ireturn, 1) := by decide +kernel
set_option maxRecDepth 20000 in
theorem ggX0_othersAlike_X0_done : GoodIn wsX0_othersAlike wsX0_done := goodIn_r _ [7, 8, 9, 10, 6, 11, 12, 13, 14, 15, 16, 17, 18, 19, 20, 21, 22, 23, 24, 25, 26, 27, 28, 29, 30, 1, 31, 32, 33, 34, 35, 36, 37, 38, 39, 40, 41, 42, 43, 44, 45, 46, 47, 48, 49, 50, 51, 52, 53, 54, 55, 56, 57, 58, 59, 60, 61, 62, 63, 64, 65, 66, 67, 68, 69, 70] (by decide +kernel) (by decide +kernel)
set_option maxRecDepth 20000 in
theorem gX0_othersAlike_X0_done : GoodIn wsX0_othersAlike (wsV RX0 75 RX0 yX0_done wsX0_done) := goodIn_app (goodIn_of _ (by decide +kernel)) ggX0_othersAlike_X0_done
theorem dX0_othersAlike_0 : decode cX0_othersAlike 0 = .ok (.iconst 0, 1) := by decide +kernel
theorem dX0_othersAlike_1 : decode cX0_othersAlike 1 = .ok (.istore_n 2, 1) := by decide +kernel
theorem dX0_othersAlike_2 : decode cX0_othersAlike 2 = .ok (.iconst 0, 1) := by decide +kernel
