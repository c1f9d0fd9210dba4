theorem in_app {a b d : List Cond} (ha : ∀ w ∈ a, w ∈ d) (hb : ∀ w ∈ b, w ∈ d) : ∀ w ∈ a ++ b, w ∈ d := fun w h => (List.mem_append.mp h).elim (ha w) (hb w)
set_option maxRecDepth 20000 in
theorem in_wsX00 : ∀ w ∈ wsX00, w ∈ lw_tbl := fun w h => (goodIn_r (big := lw_tbl) wsX00 [143, 145, 147, 149, 151, 153, 155, 157, 159, 161, 163, 165, 167, 169] (by decide +kernel) (by decide +kernel) w h).1
set_option maxRecDepth 20000 in
theorem in_wsX10 : ∀ w ∈ wsX10, w ∈ lw_tbl := fun w h => (goodIn_r (big := lw_tbl) wsX10 [191, 193, 195, 197] (by decide +kernel) (by decide +kernel) w h).1
set_option maxRecDepth 20000 in
theorem in_wsX20 : ∀ w ∈ wsX20, w ∈ lw_tbl := fun w h => (goodIn_r (big := lw_tbl) wsX20 [174] (by decide +kernel) (by decide +kernel) w h).1
set_option maxRecDepth 20000 in
theorem in_wsX30 : ∀ w ∈ wsX30, w ∈ lw_tbl := fun w h => (goodIn_r (big := lw_tbl) wsX30 [74, 76, 78] (by decide +kernel) (by decide +kernel) w h).1
set_option maxRecDepth 20000 in
theorem in_wsX40 : ∀ w ∈ wsX40, w ∈ lw_tbl := fun w h => (goodIn_r (big := lw_tbl) wsX40 [98, 100, 102, 104, 106] (by decide +kernel) (by decide +kernel) w h).1
set_option maxRecDepth 20000 in
theorem in_wsX50 : ∀ w ∈ wsX50, w ∈ lw_tbl := fun w h => (goodIn_r (big := lw_tbl) wsX50 [211, 213, 215, 217, 219, 221, 223, 225] (by decide +kernel) (by decide +kernel) w h).1
set_option maxRecDepth 20000 in
theorem in_wsX60 : ∀ w ∈ wsX60, w ∈ lw_tbl := fun w h => (goodIn_r (big := lw_tbl) wsX60 [782, 784, 786, 788, 790, 792, 794, 796, 798, 800, 802, 804, 806, 808, 810, 812, 814, 816] (by decide +kernel) (by decide +kernel) w h).1
set_option maxRecDepth 20000 in
theorem mw_0 : Cond.code yX5_init cX5_init 2 none ∈ lw_tbl := List.mem_of_getElem? (i := 56) rfl
set_option maxRecDepth 20000 in
theorem mw_1 : Cond.fieldLink RX5 45 "TownRepeated" "now" "LTownRepeated$Chain;" ∈ lw_tbl := List.mem_of_getElem? (i := 208) rfl
set_option maxRecDepth 20000 in
theorem mw_2 : Cond.initialized RX0 ∈ lw_tbl := List.mem_of_getElem? (i := 47) rfl
set_option maxRecDepth 20000 in
theorem mw_3 : Cond.instantiable RX0 14 ∈ lw_tbl := List.mem_of_getElem? (i := 116) rfl
set_option maxRecDepth 20000 in
theorem mw_4 : Cond.classLink RX5 42 RX0 ∈ lw_tbl := List.mem_of_getElem? (i := 200) rfl
set_option maxRecDepth 20000 in
theorem mw_5 : Cond.fieldLink RX5 38 "TownRepeated" "fitting" "LTownRepeated$Fitting;" ∈ lw_tbl := List.mem_of_getElem? (i := 207) rfl
set_option maxRecDepth 20000 in
theorem mw_6 : Cond.initialized RX1 ∈ lw_tbl := List.mem_of_getElem? (i := 48) rfl
set_option maxRecDepth 20000 in
theorem mw_7 : Cond.instantiable RX1 4 ∈ lw_tbl := List.mem_of_getElem? (i := 178) rfl
set_option maxRecDepth 20000 in
theorem mw_8 : Cond.classLink RX5 35 RX1 ∈ lw_tbl := List.mem_of_getElem? (i := 177) rfl
set_option maxRecDepth 20000 in
theorem mw_9 : Cond.fieldLink RX5 31 "TownRepeated" "reader" "LTownRepeated$Reader;" ∈ lw_tbl := List.mem_of_getElem? (i := 206) rfl
set_option maxRecDepth 20000 in
theorem mw_10 : Cond.initialized RX2 ∈ lw_tbl := List.mem_of_getElem? (i := 46) rfl
set_option maxRecDepth 20000 in
theorem mw_11 : Cond.instantiable RX2 1 ∈ lw_tbl := List.mem_of_getElem? (i := 110) rfl
set_option maxRecDepth 20000 in
theorem mw_12 : Cond.classLink RX5 28 RX2 ∈ lw_tbl := List.mem_of_getElem? (i := 109) rfl
set_option maxRecDepth 20000 in
theorem mw_13 : Cond.fieldLink RX5 24 "TownRepeated" "told" "LTownRepeated$Told;" ∈ lw_tbl := List.mem_of_getElem? (i := 205) rfl
set_option maxRecDepth 20000 in
theorem mw_14 : Cond.initialized RX4 ∈ lw_tbl := List.mem_of_getElem? (i := 45) rfl
set_option maxRecDepth 20000 in
theorem mw_15 : Cond.instantiable RX4 5 ∈ lw_tbl := List.mem_of_getElem? (i := 83) rfl
set_option maxRecDepth 20000 in
theorem mw_16 : Cond.classLink RX5 21 RX4 ∈ lw_tbl := List.mem_of_getElem? (i := 82) rfl
set_option maxRecDepth 20000 in
theorem mw_17 : Cond.fieldLink RX5 18 "TownRepeated" "texts" "LTownRepeated$Shelf;" ∈ lw_tbl := List.mem_of_getElem? (i := 204) rfl
set_option maxRecDepth 20000 in
theorem mw_18 : Cond.fieldLink RX5 14 "TownRepeated" "rows" "LTownRepeated$Shelf;" ∈ lw_tbl := List.mem_of_getElem? (i := 203) rfl
set_option maxRecDepth 20000 in
theorem mw_19 : Cond.initialized RX3 ∈ lw_tbl := List.mem_of_getElem? (i := 43) rfl
set_option maxRecDepth 20000 in
theorem mw_20 : Cond.instantiable RX3 3 ∈ lw_tbl := List.mem_of_getElem? (i := 61) rfl
set_option maxRecDepth 20000 in
theorem mw_21 : Cond.classLink RX5 9 RX3 ∈ lw_tbl := List.mem_of_getElem? (i := 60) rfl
set_option maxRecDepth 20000 in
theorem mw_22 : Cond.code objectInit ⟨#[0xb1]⟩ 1 none ∈ lw_tbl := List.mem_of_getElem? (i := 59) rfl
set_option maxRecDepth 20000 in
theorem mw_23 : Cond.instanceMethod objectInit ∈ lw_tbl := List.mem_of_getElem? (i := 58) rfl
set_option maxRecDepth 20000 in
theorem mw_24 : Cond.methodLink RX5 3 objectInit ∈ lw_tbl := List.mem_of_getElem? (i := 57) rfl
set_option maxRecDepth 20000 in
theorem mw_25 : Cond.instanceMethod yX2_init ∈ lw_tbl := List.mem_of_getElem? (i := 112) rfl
set_option maxRecDepth 20000 in
theorem mw_26 : Cond.fieldLink RX4 25 "TownRepeated$Told" "often" "[I" ∈ lw_tbl := List.mem_of_getElem? (i := 96) rfl
set_option maxRecDepth 20000 in
theorem mw_27 : Cond.fieldLink RX4 22 "TownRepeated$Told" "latest" "I" ∈ lw_tbl := List.mem_of_getElem? (i := 94) rfl
set_option maxRecDepth 20000 in
theorem mw_28 : Cond.fieldLink RX4 19 "TownRepeated$Told" "lower" "J" ∈ lw_tbl := List.mem_of_getElem? (i := 92) rfl
set_option maxRecDepth 20000 in
theorem mw_29 : Cond.fieldLink RX4 15 "TownRepeated$Told" "upper" "J" ∈ lw_tbl := List.mem_of_getElem? (i := 90) rfl
set_option maxRecDepth 20000 in
theorem mw_30 : Cond.fieldLink RX4 9 "TownRepeated$Told" "asked" "I" ∈ lw_tbl := List.mem_of_getElem? (i := 88) rfl
set_option maxRecDepth 20000 in
theorem mw_31 : Cond.methodLink RX4 3 objectInit ∈ lw_tbl := List.mem_of_getElem? (i := 87) rfl
set_option maxRecDepth 20000 in
theorem mw_32 : Cond.code yX4_init cX4_init 1 none ∈ lw_tbl := List.mem_of_getElem? (i := 86) rfl
set_option maxRecDepth 20000 in
theorem mw_33 : Cond.instanceMethod yX4_init ∈ lw_tbl := List.mem_of_getElem? (i := 85) rfl
set_option maxRecDepth 20000 in
theorem mw_34 : Cond.fieldLink RX3 26 "TownRepeated$Shelf" "sizes" "[I" ∈ lw_tbl := List.mem_of_getElem? (i := 72) rfl
set_option maxRecDepth 20000 in
theorem mw_35 : Cond.fieldLink RX3 23 "TownRepeated$Shelf" "places" "[[I" ∈ lw_tbl := List.mem_of_getElem? (i := 71) rfl
set_option maxRecDepth 20000 in
theorem mw_36 : Cond.classLink RX3 21 "[[I" ∈ lw_tbl := List.mem_of_getElem? (i := 69) rfl
set_option maxRecDepth 20000 in
theorem mw_37 : Cond.fieldLink RX3 15 "TownRepeated$Shelf" "most" "I" ∈ lw_tbl := List.mem_of_getElem? (i := 73) rfl
set_option maxRecDepth 20000 in
theorem mw_38 : Cond.code Lib.Math.max.name Lib.Math.max.code 2 (some .int) ∈ lw_tbl := List.mem_of_getElem? (i := 68) rfl
set_option maxRecDepth 20000 in
theorem mw_39 : Cond.initialized "java/lang/Math" ∈ lw_tbl := List.mem_of_getElem? (i := 44) rfl
set_option maxRecDepth 20000 in
theorem mw_40 : Cond.static Lib.Math.max.name ∈ lw_tbl := List.mem_of_getElem? (i := 67) rfl
set_option maxRecDepth 20000 in
theorem mw_41 : Cond.methodLink RX3 9 Lib.Math.max.name ∈ lw_tbl := List.mem_of_getElem? (i := 66) rfl
set_option maxRecDepth 20000 in
theorem mw_42 : Cond.methodLink RX3 3 objectInit ∈ lw_tbl := List.mem_of_getElem? (i := 65) rfl
set_option maxRecDepth 20000 in
theorem mw_43 : Cond.code yX3_init cX3_init 4 none ∈ lw_tbl := List.mem_of_getElem? (i := 64) rfl
set_option maxRecDepth 20000 in
theorem mw_44 : Cond.instanceMethod yX3_init ∈ lw_tbl := List.mem_of_getElem? (i := 63) rfl
set_option maxRecDepth 20000 in
theorem mw_45 : Cond.methodLink RX5 11 yX3_init ∈ lw_tbl := List.mem_of_getElem? (i := 62) rfl
set_option maxRecDepth 20000 in
theorem mw_46 : Cond.fieldLink RX5 53 "TownRepeated" "sentAt" "[I" ∈ lw_tbl := List.mem_of_getElem? (i := 210) rfl
set_option maxRecDepth 20000 in
theorem mw_47 : Cond.arrayClass .int ∈ lw_tbl := List.mem_of_getElem? (i := 81) rfl
set_option maxRecDepth 20000 in
theorem mw_48 : Cond.fieldLink RX5 49 "TownRepeated" "kept" "[LTownRepeated$Chain;" ∈ lw_tbl := List.mem_of_getElem? (i := 209) rfl
set_option maxRecDepth 20000 in
theorem mw_49 : Cond.methodLink RX1 3 objectInit ∈ lw_tbl := List.mem_of_getElem? (i := 182) rfl
set_option maxRecDepth 20000 in
theorem mw_50 : Cond.code yX1_init cX1_init 1 none ∈ lw_tbl := List.mem_of_getElem? (i := 181) rfl
set_option maxRecDepth 20000 in
theorem mw_51 : Cond.instanceMethod yX1_init ∈ lw_tbl := List.mem_of_getElem? (i := 180) rfl
set_option maxRecDepth 20000 in
theorem mw_52 : Cond.fieldLink RX0 52 "TownRepeated$Chain" "more" "[I" ∈ lw_tbl := List.mem_of_getElem? (i := 142) rfl
set_option maxRecDepth 20000 in
theorem mw_53 : Cond.fieldLink RX0 49 "TownRepeated$Chain" "turn" "[I" ∈ lw_tbl := List.mem_of_getElem? (i := 141) rfl
set_option maxRecDepth 20000 in
theorem mw_54 : Cond.fieldLink RX0 46 "TownRepeated$Chain" "errorBy" "[I" ∈ lw_tbl := List.mem_of_getElem? (i := 140) rfl
set_option maxRecDepth 20000 in
theorem mw_55 : Cond.fieldLink RX0 43 "TownRepeated$Chain" "errorPerson" "[I" ∈ lw_tbl := List.mem_of_getElem? (i := 139) rfl
set_option maxRecDepth 20000 in
theorem mw_56 : Cond.fieldLink RX0 40 "TownRepeated$Chain" "errorDay" "[I" ∈ lw_tbl := List.mem_of_getElem? (i := 138) rfl
set_option maxRecDepth 20000 in
theorem mw_57 : Cond.fieldLink RX0 37 "TownRepeated$Chain" "errorTown" "[I" ∈ lw_tbl := List.mem_of_getElem? (i := 137) rfl
set_option maxRecDepth 20000 in
theorem mw_58 : Cond.fieldLink RX0 34 "TownRepeated$Chain" "stride" "[I" ∈ lw_tbl := List.mem_of_getElem? (i := 135) rfl
set_option maxRecDepth 20000 in
theorem mw_59 : Cond.fieldLink RX0 31 "TownRepeated$Chain" "firstDeed" "[I" ∈ lw_tbl := List.mem_of_getElem? (i := 134) rfl
set_option maxRecDepth 20000 in
theorem mw_60 : Cond.fieldLink RX0 27 "TownRepeated$Chain" "kind" "[I" ∈ lw_tbl := List.mem_of_getElem? (i := 133) rfl
set_option maxRecDepth 20000 in
theorem mw_61 : Cond.fieldLink RX0 24 "TownRepeated$Chain" "turns" "I" ∈ lw_tbl := List.mem_of_getElem? (i := 131) rfl
set_option maxRecDepth 20000 in
theorem mw_62 : Cond.fieldLink RX0 21 "TownRepeated$Chain" "today" "I" ∈ lw_tbl := List.mem_of_getElem? (i := 129) rfl
set_option maxRecDepth 20000 in
theorem mw_63 : Cond.fieldLink RX0 18 "TownRepeated$Chain" "mended" "I" ∈ lw_tbl := List.mem_of_getElem? (i := 127) rfl
set_option maxRecDepth 20000 in
theorem mw_64 : Cond.fieldLink RX0 15 "TownRepeated$Chain" "errors" "I" ∈ lw_tbl := List.mem_of_getElem? (i := 124) rfl
set_option maxRecDepth 20000 in
theorem mw_65 : Cond.fieldLink RX0 9 "TownRepeated$Chain" "persons" "I" ∈ lw_tbl := List.mem_of_getElem? (i := 121) rfl
set_option maxRecDepth 20000 in
theorem mw_66 : Cond.methodLink RX0 3 objectInit ∈ lw_tbl := List.mem_of_getElem? (i := 120) rfl
set_option maxRecDepth 20000 in
theorem mw_67 : Cond.code yX0_init cX0_init 1 none ∈ lw_tbl := List.mem_of_getElem? (i := 119) rfl
set_option maxRecDepth 20000 in
theorem mw_68 : Cond.instanceMethod yX0_init ∈ lw_tbl := List.mem_of_getElem? (i := 118) rfl
set_option maxRecDepth 20000 in
theorem mw_69 : Cond.fieldLink RX2 12 "TownRepeated$Reader" "draft" "LTownRepeated$Chain;" ∈ lw_tbl := List.mem_of_getElem? (i := 172) rfl
set_option maxRecDepth 20000 in
theorem mw_70 : Cond.classLink RX2 9 RX0 ∈ lw_tbl := List.mem_of_getElem? (i := 115) rfl
set_option maxRecDepth 20000 in
theorem mw_71 : Cond.methodLink RX2 3 objectInit ∈ lw_tbl := List.mem_of_getElem? (i := 114) rfl
set_option maxRecDepth 20000 in
theorem mw_72 : Cond.code yX2_init cX2_init 1 none ∈ lw_tbl := List.mem_of_getElem? (i := 113) rfl
set_option maxRecDepth 20000 in
theorem mw_73 : Cond.fieldLink RX1 22 "TownRepeated$Fitting" "inSome" "I" ∈ lw_tbl := List.mem_of_getElem? (i := 189) rfl
set_option maxRecDepth 20000 in
theorem mw_74 : Cond.fieldLink RX1 19 "TownRepeated$Fitting" "inEach" "I" ∈ lw_tbl := List.mem_of_getElem? (i := 187) rfl
set_option maxRecDepth 20000 in
theorem mw_75 : Cond.fieldLink RX1 15 "TownRepeated$Fitting" "first" "I" ∈ lw_tbl := List.mem_of_getElem? (i := 185) rfl
set_option maxRecDepth 20000 in
theorem mw_76 : Cond.fieldLink RX1 9 "TownRepeated$Fitting" "many" "J" ∈ lw_tbl := List.mem_of_getElem? (i := 183) rfl
set_option maxRecDepth 20000 in
theorem mw_77 : Cond.code yX6_init cX6_init 2 none ∈ lw_tbl := List.mem_of_getElem? (i := 762) rfl
set_option maxRecDepth 20000 in
theorem mw_78 : Cond.fieldLink RX6 51 "TownRepeatedModel" "came" "[I" ∈ lw_tbl := List.mem_of_getElem? (i := 781) rfl
set_option maxRecDepth 20000 in
theorem mw_79 : Cond.fieldLink RX6 48 "TownRepeatedModel" "others" "[I" ∈ lw_tbl := List.mem_of_getElem? (i := 780) rfl
set_option maxRecDepth 20000 in
theorem mw_80 : Cond.fieldLink RX6 45 "TownRepeatedModel" "done" "[I" ∈ lw_tbl := List.mem_of_getElem? (i := 779) rfl
set_option maxRecDepth 20000 in
theorem mw_81 : Cond.fieldLink RX6 42 "TownRepeatedModel" "more" "[I" ∈ lw_tbl := List.mem_of_getElem? (i := 778) rfl
set_option maxRecDepth 20000 in
theorem mw_82 : Cond.fieldLink RX6 39 "TownRepeatedModel" "read" "[I" ∈ lw_tbl := List.mem_of_getElem? (i := 776) rfl
set_option maxRecDepth 20000 in
theorem mw_83 : Cond.fieldLink RX6 36 "TownRepeatedModel" "findings" "[I" ∈ lw_tbl := List.mem_of_getElem? (i := 775) rfl
set_option maxRecDepth 20000 in
theorem mw_84 : Cond.fieldLink RX6 32 "TownRepeatedModel" "lower" "J" ∈ lw_tbl := List.mem_of_getElem? (i := 773) rfl
set_option maxRecDepth 20000 in
theorem mw_85 : Cond.fieldLink RX6 28 "TownRepeatedModel" "kept" "[Z" ∈ lw_tbl := List.mem_of_getElem? (i := 770) rfl
set_option maxRecDepth 20000 in
theorem mw_86 : Cond.arrayClass .boolean ∈ lw_tbl := List.mem_of_getElem? (i := 819) rfl
set_option maxRecDepth 20000 in
theorem mw_87 : Cond.fieldLink RX6 25 "TownRepeatedModel" "keeps" "[I" ∈ lw_tbl := List.mem_of_getElem? (i := 769) rfl
set_option maxRecDepth 20000 in
theorem mw_88 : Cond.fieldLink RX6 22 "TownRepeatedModel" "now" "[I" ∈ lw_tbl := List.mem_of_getElem? (i := 768) rfl
set_option maxRecDepth 20000 in
theorem mw_89 : Cond.fieldLink RX6 19 "TownRepeatedModel" "texts" "[I" ∈ lw_tbl := List.mem_of_getElem? (i := 767) rfl
set_option maxRecDepth 20000 in
theorem mw_90 : Cond.fieldLink RX6 16 "TownRepeatedModel" "textSizes" "[I" ∈ lw_tbl := List.mem_of_getElem? (i := 766) rfl
set_option maxRecDepth 20000 in
theorem mw_91 : Cond.fieldLink RX6 13 "TownRepeatedModel" "rows" "[I" ∈ lw_tbl := List.mem_of_getElem? (i := 765) rfl
set_option maxRecDepth 20000 in
theorem mw_92 : Cond.fieldLink RX6 7 "TownRepeatedModel" "rowSizes" "[I" ∈ lw_tbl := List.mem_of_getElem? (i := 764) rfl
set_option maxRecDepth 20000 in
theorem mw_93 : Cond.methodLink RX6 1 objectInit ∈ lw_tbl := List.mem_of_getElem? (i := 763) rfl
set_option maxRecDepth 20000 in
theorem mw_94 : Cond.code yX5_row cX5_row 3 (some .int) ∈ lw_tbl := List.mem_of_getElem? (i := 231) rfl
set_option maxRecDepth 20000 in
theorem mw_95 : Cond.methodLink RX3 30 yX3_isNumber ∈ lw_tbl := List.mem_of_getElem? (i := 244) rfl
set_option maxRecDepth 20000 in
theorem mw_96 : Cond.code yX3_make cX3_make 5 none ∈ lw_tbl := List.mem_of_getElem? (i := 243) rfl
set_option maxRecDepth 20000 in
theorem mw_97 : Cond.selects RX3 yX3_make yX3_make ∈ lw_tbl := List.mem_of_getElem? (i := 242) rfl
set_option maxRecDepth 20000 in
theorem mw_98 : Cond.instanceMethod yX3_make ∈ lw_tbl := List.mem_of_getElem? (i := 241) rfl
set_option maxRecDepth 20000 in
theorem mw_99 : Cond.methodLink RX5 65 yX3_make ∈ lw_tbl := List.mem_of_getElem? (i := 240) rfl
set_option maxRecDepth 20000 in
theorem mw_100 : Cond.code yX4_found cX4_found 2 (some .int) ∈ lw_tbl := List.mem_of_getElem? (i := 239) rfl
set_option maxRecDepth 20000 in
theorem mw_101 : Cond.selects RX4 yX4_found yX4_found ∈ lw_tbl := List.mem_of_getElem? (i := 238) rfl
set_option maxRecDepth 20000 in
theorem mw_102 : Cond.instanceMethod yX4_found ∈ lw_tbl := List.mem_of_getElem? (i := 237) rfl
set_option maxRecDepth 20000 in
theorem mw_103 : Cond.methodLink RX5 61 yX4_found ∈ lw_tbl := List.mem_of_getElem? (i := 236) rfl
set_option maxRecDepth 20000 in
theorem mw_104 : Cond.code yX3_isNumber cX3_isNumber 2 (some .boolean) ∈ lw_tbl := List.mem_of_getElem? (i := 235) rfl
set_option maxRecDepth 20000 in
theorem mw_105 : Cond.selects RX3 yX3_isNumber yX3_isNumber ∈ lw_tbl := List.mem_of_getElem? (i := 234) rfl
set_option maxRecDepth 20000 in
theorem mw_106 : Cond.instanceMethod yX3_isNumber ∈ lw_tbl := List.mem_of_getElem? (i := 233) rfl
set_option maxRecDepth 20000 in
theorem mw_107 : Cond.methodLink RX5 57 yX3_isNumber ∈ lw_tbl := List.mem_of_getElem? (i := 232) rfl
set_option maxRecDepth 20000 in
theorem mw_108 : Cond.initialized RX5 ∈ lw_tbl := List.mem_of_getElem? (i := 42) rfl
set_option maxRecDepth 20000 in
theorem mw_109 : Cond.selects RX5 yX5_row yX5_row ∈ lw_tbl := List.mem_of_getElem? (i := 230) rfl
set_option maxRecDepth 20000 in
theorem mw_110 : Cond.instanceMethod yX5_row ∈ lw_tbl := List.mem_of_getElem? (i := 229) rfl
set_option maxRecDepth 20000 in
theorem mw_111 : Cond.methodLink RL 13 yX5_row ∈ lw_tbl := List.mem_of_getElem? (i := 228) rfl
set_option maxRecDepth 20000 in
theorem mw_112 : Cond.code yX6_row cX6_row 4 (some .int) ∈ lw_tbl := List.mem_of_getElem? (i := 823) rfl
set_option maxRecDepth 20000 in
theorem mw_113 : Cond.fieldLink RX6 54 "TownRepeatedModel" "finding" "I" ∈ lw_tbl := List.mem_of_getElem? (i := 774) rfl
set_option maxRecDepth 20000 in
theorem mw_114 : Cond.code yX6_found cX6_found 2 (some .int) ∈ lw_tbl := List.mem_of_getElem? (i := 834) rfl
set_option maxRecDepth 20000 in
theorem mw_115 : Cond.selects RX6 yX6_found yX6_found ∈ lw_tbl := List.mem_of_getElem? (i := 17) rfl
set_option maxRecDepth 20000 in
theorem mw_116 : Cond.instanceMethod yX6_found ∈ lw_tbl := List.mem_of_getElem? (i := 833) rfl
set_option maxRecDepth 20000 in
theorem mw_117 : Cond.methodLink RX6 73 yX6_found ∈ lw_tbl := List.mem_of_getElem? (i := 831) rfl
set_option maxRecDepth 20000 in
theorem mw_118 : Cond.code yX6_in cX6_in 6 (some .boolean) ∈ lw_tbl := List.mem_of_getElem? (i := 830) rfl
set_option maxRecDepth 20000 in
theorem mw_119 : Cond.static yX6_in ∈ lw_tbl := List.mem_of_getElem? (i := 829) rfl
set_option maxRecDepth 20000 in
theorem mw_120 : Cond.methodLink RX6 63 yX6_in ∈ lw_tbl := List.mem_of_getElem? (i := 828) rfl
set_option maxRecDepth 20000 in
theorem mw_121 : Cond.constantLong RX6 61 (5) ∈ lw_tbl := List.mem_of_getElem? (i := 827) rfl
set_option maxRecDepth 20000 in
theorem mw_122 : Cond.code yX6_isRow cX6_isRow 1 (some .boolean) ∈ lw_tbl := List.mem_of_getElem? (i := 826) rfl
set_option maxRecDepth 20000 in
theorem mw_123 : Cond.initialized RX6 ∈ lw_tbl := List.mem_of_getElem? (i := 49) rfl
set_option maxRecDepth 20000 in
theorem mw_124 : Cond.static yX6_isRow ∈ lw_tbl := List.mem_of_getElem? (i := 825) rfl
set_option maxRecDepth 20000 in
theorem mw_125 : Cond.methodLink RX6 69 yX6_isRow ∈ lw_tbl := List.mem_of_getElem? (i := 824) rfl
set_option maxRecDepth 20000 in
theorem mw_126 : Cond.selects RX6 yX6_row yX6_row ∈ lw_tbl := List.mem_of_getElem? (i := 822) rfl
set_option maxRecDepth 20000 in
theorem mw_127 : Cond.instanceMethod yX6_row ∈ lw_tbl := List.mem_of_getElem? (i := 821) rfl
set_option maxRecDepth 20000 in
theorem mw_128 : Cond.methodLink RL 17 yX6_row ∈ lw_tbl := List.mem_of_getElem? (i := 820) rfl
set_option maxRecDepth 20000 in
theorem mw_129 : Cond.code yX5_lay cX5_lay 5 (some .int) ∈ lw_tbl := List.mem_of_getElem? (i := 248) rfl
set_option maxRecDepth 20000 in
theorem mw_130 : Cond.code yX3_isThere cX3_isThere 2 (some .boolean) ∈ lw_tbl := List.mem_of_getElem? (i := 260) rfl
set_option maxRecDepth 20000 in
theorem mw_131 : Cond.selects RX3 yX3_isThere yX3_isThere ∈ lw_tbl := List.mem_of_getElem? (i := 259) rfl
set_option maxRecDepth 20000 in
theorem mw_132 : Cond.instanceMethod yX3_isThere ∈ lw_tbl := List.mem_of_getElem? (i := 258) rfl
set_option maxRecDepth 20000 in
theorem mw_133 : Cond.methodLink RX5 92 yX3_isThere ∈ lw_tbl := List.mem_of_getElem? (i := 257) rfl
set_option maxRecDepth 20000 in
theorem mw_134 : Cond.code yX5_missingRefused cX5_missingRefused 3 (some .int) ∈ lw_tbl := List.mem_of_getElem? (i := 256) rfl
set_option maxRecDepth 20000 in
theorem mw_135 : Cond.selects RX5 yX5_missingRefused yX5_missingRefused ∈ lw_tbl := List.mem_of_getElem? (i := 1) rfl
set_option maxRecDepth 20000 in
theorem mw_136 : Cond.instanceMethod yX5_missingRefused ∈ lw_tbl := List.mem_of_getElem? (i := 255) rfl
set_option maxRecDepth 20000 in
theorem mw_137 : Cond.methodLink RX5 84 yX5_missingRefused ∈ lw_tbl := List.mem_of_getElem? (i := 253) rfl
set_option maxRecDepth 20000 in
theorem mw_138 : Cond.code yX5_placeRefused cX5_placeRefused 5 (some .int) ∈ lw_tbl := List.mem_of_getElem? (i := 252) rfl
set_option maxRecDepth 20000 in
theorem mw_139 : Cond.selects RX5 yX5_placeRefused yX5_placeRefused ∈ lw_tbl := List.mem_of_getElem? (i := 0) rfl
set_option maxRecDepth 20000 in
theorem mw_140 : Cond.instanceMethod yX5_placeRefused ∈ lw_tbl := List.mem_of_getElem? (i := 251) rfl
set_option maxRecDepth 20000 in
theorem mw_141 : Cond.methodLink RX5 69 yX5_placeRefused ∈ lw_tbl := List.mem_of_getElem? (i := 249) rfl
set_option maxRecDepth 20000 in
theorem mw_142 : Cond.code yX3_set cX3_set 4 none ∈ lw_tbl := List.mem_of_getElem? (i := 273) rfl
set_option maxRecDepth 20000 in
theorem mw_143 : Cond.selects RX3 yX3_set yX3_set ∈ lw_tbl := List.mem_of_getElem? (i := 272) rfl
set_option maxRecDepth 20000 in
theorem mw_144 : Cond.instanceMethod yX3_set ∈ lw_tbl := List.mem_of_getElem? (i := 271) rfl
set_option maxRecDepth 20000 in
theorem mw_145 : Cond.methodLink RX5 81 yX3_set ∈ lw_tbl := List.mem_of_getElem? (i := 270) rfl
set_option maxRecDepth 20000 in
theorem mw_146 : Cond.methodLink RX3 37 yX3_holds ∈ lw_tbl := List.mem_of_getElem? (i := 269) rfl
set_option maxRecDepth 20000 in
theorem mw_147 : Cond.code yX3_get cX3_get 3 (some .int) ∈ lw_tbl := List.mem_of_getElem? (i := 268) rfl
set_option maxRecDepth 20000 in
theorem mw_148 : Cond.selects RX3 yX3_get yX3_get ∈ lw_tbl := List.mem_of_getElem? (i := 267) rfl
set_option maxRecDepth 20000 in
theorem mw_149 : Cond.instanceMethod yX3_get ∈ lw_tbl := List.mem_of_getElem? (i := 266) rfl
set_option maxRecDepth 20000 in
theorem mw_150 : Cond.methodLink RX5 73 yX3_get ∈ lw_tbl := List.mem_of_getElem? (i := 265) rfl
set_option maxRecDepth 20000 in
theorem mw_151 : Cond.code yX3_holds cX3_holds 3 (some .boolean) ∈ lw_tbl := List.mem_of_getElem? (i := 264) rfl
set_option maxRecDepth 20000 in
theorem mw_152 : Cond.selects RX3 yX3_holds yX3_holds ∈ lw_tbl := List.mem_of_getElem? (i := 263) rfl
set_option maxRecDepth 20000 in
theorem mw_153 : Cond.instanceMethod yX3_holds ∈ lw_tbl := List.mem_of_getElem? (i := 262) rfl
set_option maxRecDepth 20000 in
theorem mw_154 : Cond.methodLink RX5 326 yX3_holds ∈ lw_tbl := List.mem_of_getElem? (i := 261) rfl
set_option maxRecDepth 20000 in
theorem mw_155 : Cond.selects RX5 yX5_lay yX5_lay ∈ lw_tbl := List.mem_of_getElem? (i := 247) rfl
set_option maxRecDepth 20000 in
theorem mw_156 : Cond.instanceMethod yX5_lay ∈ lw_tbl := List.mem_of_getElem? (i := 246) rfl
set_option maxRecDepth 20000 in
theorem mw_157 : Cond.methodLink RL 18 yX5_lay ∈ lw_tbl := List.mem_of_getElem? (i := 245) rfl
set_option maxRecDepth 20000 in
theorem mw_158 : Cond.code yX6_lay cX6_lay 5 (some .int) ∈ lw_tbl := List.mem_of_getElem? (i := 838) rfl
set_option maxRecDepth 20000 in
theorem mw_159 : Cond.fieldLink RX6 58 "TownRepeatedModel" "asked" "I" ∈ lw_tbl := List.mem_of_getElem? (i := 771) rfl
set_option maxRecDepth 20000 in
theorem mw_160 : Cond.code yX6_tell cX6_tell 2 (some .int) ∈ lw_tbl := List.mem_of_getElem? (i := 842) rfl
set_option maxRecDepth 20000 in
theorem mw_161 : Cond.selects RX6 yX6_tell yX6_tell ∈ lw_tbl := List.mem_of_getElem? (i := 18) rfl
set_option maxRecDepth 20000 in
theorem mw_162 : Cond.instanceMethod yX6_tell ∈ lw_tbl := List.mem_of_getElem? (i := 841) rfl
set_option maxRecDepth 20000 in
theorem mw_163 : Cond.methodLink RX6 77 yX6_tell ∈ lw_tbl := List.mem_of_getElem? (i := 839) rfl
set_option maxRecDepth 20000 in
theorem mw_164 : Cond.selects RX6 yX6_lay yX6_lay ∈ lw_tbl := List.mem_of_getElem? (i := 837) rfl
set_option maxRecDepth 20000 in
theorem mw_165 : Cond.instanceMethod yX6_lay ∈ lw_tbl := List.mem_of_getElem? (i := 836) rfl
set_option maxRecDepth 20000 in
theorem mw_166 : Cond.methodLink RL 22 yX6_lay ∈ lw_tbl := List.mem_of_getElem? (i := 835) rfl
set_option maxRecDepth 20000 in
theorem mw_167 : Cond.code yX5_at cX5_at 4 (some .int) ∈ lw_tbl := List.mem_of_getElem? (i := 277) rfl
set_option maxRecDepth 20000 in
theorem mw_168 : Cond.selects RX5 yX5_at yX5_at ∈ lw_tbl := List.mem_of_getElem? (i := 276) rfl
set_option maxRecDepth 20000 in
theorem mw_169 : Cond.instanceMethod yX5_at ∈ lw_tbl := List.mem_of_getElem? (i := 275) rfl
set_option maxRecDepth 20000 in
theorem mw_170 : Cond.methodLink RL 23 yX5_at ∈ lw_tbl := List.mem_of_getElem? (i := 274) rfl
set_option maxRecDepth 20000 in
theorem mw_171 : Cond.code yX6_at cX6_at 3 (some .int) ∈ lw_tbl := List.mem_of_getElem? (i := 846) rfl
set_option maxRecDepth 20000 in
theorem mw_172 : Cond.selects RX6 yX6_at yX6_at ∈ lw_tbl := List.mem_of_getElem? (i := 845) rfl
set_option maxRecDepth 20000 in
theorem mw_173 : Cond.instanceMethod yX6_at ∈ lw_tbl := List.mem_of_getElem? (i := 844) rfl
set_option maxRecDepth 20000 in
theorem mw_174 : Cond.methodLink RL 26 yX6_at ∈ lw_tbl := List.mem_of_getElem? (i := 843) rfl
set_option maxRecDepth 20000 in
theorem mw_175 : Cond.code yX5_tear cX5_tear 3 (some .int) ∈ lw_tbl := List.mem_of_getElem? (i := 281) rfl
set_option maxRecDepth 20000 in
theorem mw_176 : Cond.code yX3_remove cX3_remove 2 none ∈ lw_tbl := List.mem_of_getElem? (i := 285) rfl
set_option maxRecDepth 20000 in
theorem mw_177 : Cond.selects RX3 yX3_remove yX3_remove ∈ lw_tbl := List.mem_of_getElem? (i := 284) rfl
set_option maxRecDepth 20000 in
theorem mw_178 : Cond.instanceMethod yX3_remove ∈ lw_tbl := List.mem_of_getElem? (i := 283) rfl
set_option maxRecDepth 20000 in
theorem mw_179 : Cond.methodLink RX5 88 yX3_remove ∈ lw_tbl := List.mem_of_getElem? (i := 282) rfl
set_option maxRecDepth 20000 in
theorem mw_180 : Cond.selects RX5 yX5_tear yX5_tear ∈ lw_tbl := List.mem_of_getElem? (i := 280) rfl
set_option maxRecDepth 20000 in
theorem mw_181 : Cond.instanceMethod yX5_tear ∈ lw_tbl := List.mem_of_getElem? (i := 279) rfl
set_option maxRecDepth 20000 in
theorem mw_182 : Cond.methodLink RL 27 yX5_tear ∈ lw_tbl := List.mem_of_getElem? (i := 278) rfl
set_option maxRecDepth 20000 in
theorem mw_183 : Cond.code yX6_tear cX6_tear 2 (some .int) ∈ lw_tbl := List.mem_of_getElem? (i := 850) rfl
set_option maxRecDepth 20000 in
theorem mw_184 : Cond.selects RX6 yX6_tear yX6_tear ∈ lw_tbl := List.mem_of_getElem? (i := 849) rfl
set_option maxRecDepth 20000 in
theorem mw_185 : Cond.instanceMethod yX6_tear ∈ lw_tbl := List.mem_of_getElem? (i := 848) rfl
set_option maxRecDepth 20000 in
theorem mw_186 : Cond.methodLink RL 31 yX6_tear ∈ lw_tbl := List.mem_of_getElem? (i := 847) rfl
set_option maxRecDepth 20000 in
theorem mw_187 : Cond.code yX5_copy cX5_copy 6 (some .int) ∈ lw_tbl := List.mem_of_getElem? (i := 289) rfl
set_option maxRecDepth 20000 in
theorem mw_188 : Cond.code yX3_holdsRun cX3_holdsRun 4 (some .boolean) ∈ lw_tbl := List.mem_of_getElem? (i := 293) rfl
set_option maxRecDepth 20000 in
theorem mw_189 : Cond.selects RX3 yX3_holdsRun yX3_holdsRun ∈ lw_tbl := List.mem_of_getElem? (i := 292) rfl
set_option maxRecDepth 20000 in
theorem mw_190 : Cond.instanceMethod yX3_holdsRun ∈ lw_tbl := List.mem_of_getElem? (i := 291) rfl
set_option maxRecDepth 20000 in
theorem mw_191 : Cond.methodLink RX5 95 yX3_holdsRun ∈ lw_tbl := List.mem_of_getElem? (i := 290) rfl
set_option maxRecDepth 20000 in
theorem mw_192 : Cond.methodLink RX3 41 yX3_holdsRun ∈ lw_tbl := List.mem_of_getElem? (i := 299) rfl
set_option maxRecDepth 20000 in
theorem mw_193 : Cond.initialized "java/lang/System" ∈ lw_tbl := List.mem_of_getElem? (i := 50) rfl
set_option maxRecDepth 20000 in
theorem mw_194 : Cond.static arraycopyName ∈ lw_tbl := List.mem_of_getElem? (i := 301) rfl
set_option maxRecDepth 20000 in
theorem mw_195 : Cond.native arraycopyName ∈ lw_tbl := List.mem_of_getElem? (i := 302) rfl
set_option maxRecDepth 20000 in
theorem mw_196 : Cond.methodLink RX3 45 arraycopyName ∈ lw_tbl := List.mem_of_getElem? (i := 300) rfl
set_option maxRecDepth 20000 in
theorem mw_197 : Cond.code yX3_copyRun cX3_copyRun 6 none ∈ lw_tbl := List.mem_of_getElem? (i := 298) rfl
set_option maxRecDepth 20000 in
theorem mw_198 : Cond.selects RX3 yX3_copyRun yX3_copyRun ∈ lw_tbl := List.mem_of_getElem? (i := 297) rfl
set_option maxRecDepth 20000 in
theorem mw_199 : Cond.instanceMethod yX3_copyRun ∈ lw_tbl := List.mem_of_getElem? (i := 296) rfl
set_option maxRecDepth 20000 in
theorem mw_200 : Cond.methodLink RX5 99 yX3_copyRun ∈ lw_tbl := List.mem_of_getElem? (i := 295) rfl
set_option maxRecDepth 20000 in
theorem mw_201 : Cond.methodLink RX3 34 yX3_isThere ∈ lw_tbl := List.mem_of_getElem? (i := 294) rfl
set_option maxRecDepth 20000 in
theorem mw_202 : Cond.selects RX5 yX5_copy yX5_copy ∈ lw_tbl := List.mem_of_getElem? (i := 288) rfl
set_option maxRecDepth 20000 in
theorem mw_203 : Cond.instanceMethod yX5_copy ∈ lw_tbl := List.mem_of_getElem? (i := 287) rfl
set_option maxRecDepth 20000 in
theorem mw_204 : Cond.methodLink RL 32 yX5_copy ∈ lw_tbl := List.mem_of_getElem? (i := 286) rfl
set_option maxRecDepth 20000 in
theorem mw_205 : Cond.code yX6_copy cX6_copy 8 (some .int) ∈ lw_tbl := List.mem_of_getElem? (i := 854) rfl
set_option maxRecDepth 20000 in
theorem mw_206 : Cond.selects RX6 yX6_copy yX6_copy ∈ lw_tbl := List.mem_of_getElem? (i := 853) rfl
set_option maxRecDepth 20000 in
theorem mw_207 : Cond.instanceMethod yX6_copy ∈ lw_tbl := List.mem_of_getElem? (i := 852) rfl
set_option maxRecDepth 20000 in
theorem mw_208 : Cond.methodLink RL 36 yX6_copy ∈ lw_tbl := List.mem_of_getElem? (i := 851) rfl
set_option maxRecDepth 20000 in
theorem mw_209 : Cond.code yX5_mean cX5_mean 7 (some .int) ∈ lw_tbl := List.mem_of_getElem? (i := 306) rfl
set_option maxRecDepth 20000 in
theorem mw_210 : Cond.code yX3_sizeOf cX3_sizeOf 2 (some .int) ∈ lw_tbl := List.mem_of_getElem? (i := 310) rfl
set_option maxRecDepth 20000 in
theorem mw_211 : Cond.selects RX3 yX3_sizeOf yX3_sizeOf ∈ lw_tbl := List.mem_of_getElem? (i := 309) rfl
set_option maxRecDepth 20000 in
theorem mw_212 : Cond.instanceMethod yX3_sizeOf ∈ lw_tbl := List.mem_of_getElem? (i := 308) rfl
set_option maxRecDepth 20000 in
theorem mw_213 : Cond.methodLink RX5 103 yX3_sizeOf ∈ lw_tbl := List.mem_of_getElem? (i := 307) rfl
set_option maxRecDepth 20000 in
theorem mw_214 : Cond.selects RX5 yX5_mean yX5_mean ∈ lw_tbl := List.mem_of_getElem? (i := 305) rfl
set_option maxRecDepth 20000 in
theorem mw_215 : Cond.instanceMethod yX5_mean ∈ lw_tbl := List.mem_of_getElem? (i := 304) rfl
set_option maxRecDepth 20000 in
theorem mw_216 : Cond.methodLink RL 37 yX5_mean ∈ lw_tbl := List.mem_of_getElem? (i := 303) rfl
set_option maxRecDepth 20000 in
theorem mw_217 : Cond.code yX6_mean cX6_mean 5 (some .int) ∈ lw_tbl := List.mem_of_getElem? (i := 858) rfl
set_option maxRecDepth 20000 in
theorem mw_218 : Cond.selects RX6 yX6_mean yX6_mean ∈ lw_tbl := List.mem_of_getElem? (i := 857) rfl
set_option maxRecDepth 20000 in
theorem mw_219 : Cond.instanceMethod yX6_mean ∈ lw_tbl := List.mem_of_getElem? (i := 856) rfl
set_option maxRecDepth 20000 in
theorem mw_220 : Cond.methodLink RL 40 yX6_mean ∈ lw_tbl := List.mem_of_getElem? (i := 855) rfl
set_option maxRecDepth 20000 in
theorem mw_221 : Cond.code yX5_text cX5_text 3 (some .int) ∈ lw_tbl := List.mem_of_getElem? (i := 314) rfl
set_option maxRecDepth 20000 in
theorem mw_222 : Cond.selects RX5 yX5_text yX5_text ∈ lw_tbl := List.mem_of_getElem? (i := 313) rfl
set_option maxRecDepth 20000 in
theorem mw_223 : Cond.instanceMethod yX5_text ∈ lw_tbl := List.mem_of_getElem? (i := 312) rfl
set_option maxRecDepth 20000 in
theorem mw_224 : Cond.methodLink RL 41 yX5_text ∈ lw_tbl := List.mem_of_getElem? (i := 311) rfl
set_option maxRecDepth 20000 in
theorem mw_225 : Cond.code yX6_text cX6_text 4 (some .int) ∈ lw_tbl := List.mem_of_getElem? (i := 862) rfl
set_option maxRecDepth 20000 in
theorem mw_226 : Cond.constantLong RX6 67 (3) ∈ lw_tbl := List.mem_of_getElem? (i := 866) rfl
set_option maxRecDepth 20000 in
theorem mw_227 : Cond.code yX6_isText cX6_isText 1 (some .boolean) ∈ lw_tbl := List.mem_of_getElem? (i := 865) rfl
set_option maxRecDepth 20000 in
theorem mw_228 : Cond.static yX6_isText ∈ lw_tbl := List.mem_of_getElem? (i := 864) rfl
set_option maxRecDepth 20000 in
theorem mw_229 : Cond.methodLink RX6 80 yX6_isText ∈ lw_tbl := List.mem_of_getElem? (i := 863) rfl
set_option maxRecDepth 20000 in
theorem mw_230 : Cond.selects RX6 yX6_text yX6_text ∈ lw_tbl := List.mem_of_getElem? (i := 861) rfl
set_option maxRecDepth 20000 in
theorem mw_231 : Cond.instanceMethod yX6_text ∈ lw_tbl := List.mem_of_getElem? (i := 860) rfl
set_option maxRecDepth 20000 in
theorem mw_232 : Cond.methodLink RL 44 yX6_text ∈ lw_tbl := List.mem_of_getElem? (i := 859) rfl
set_option maxRecDepth 20000 in
theorem mw_233 : Cond.code yX5_put cX5_put 6 (some .int) ∈ lw_tbl := List.mem_of_getElem? (i := 318) rfl
set_option maxRecDepth 20000 in
theorem mw_234 : Cond.selects RX5 yX5_put yX5_put ∈ lw_tbl := List.mem_of_getElem? (i := 317) rfl
set_option maxRecDepth 20000 in
theorem mw_235 : Cond.instanceMethod yX5_put ∈ lw_tbl := List.mem_of_getElem? (i := 316) rfl
set_option maxRecDepth 20000 in
theorem mw_236 : Cond.methodLink RL 45 yX5_put ∈ lw_tbl := List.mem_of_getElem? (i := 315) rfl
set_option maxRecDepth 20000 in
theorem mw_237 : Cond.code yX6_put cX6_put 5 (some .int) ∈ lw_tbl := List.mem_of_getElem? (i := 870) rfl
set_option maxRecDepth 20000 in
theorem mw_238 : Cond.selects RX6 yX6_put yX6_put ∈ lw_tbl := List.mem_of_getElem? (i := 869) rfl
set_option maxRecDepth 20000 in
theorem mw_239 : Cond.instanceMethod yX6_put ∈ lw_tbl := List.mem_of_getElem? (i := 868) rfl
set_option maxRecDepth 20000 in
theorem mw_240 : Cond.methodLink RL 48 yX6_put ∈ lw_tbl := List.mem_of_getElem? (i := 867) rfl
set_option maxRecDepth 20000 in
theorem mw_241 : Cond.code yX5_fault cX5_fault 3 (some .int) ∈ lw_tbl := List.mem_of_getElem? (i := 322) rfl
set_option maxRecDepth 20000 in
theorem mw_242 : Cond.methodLink RX2 27 yX3_get ∈ lw_tbl := List.mem_of_getElem? (i := 332) rfl
set_option maxRecDepth 20000 in
theorem mw_243 : Cond.methodLink RX2 21 yX3_sizeOf ∈ lw_tbl := List.mem_of_getElem? (i := 331) rfl
set_option maxRecDepth 20000 in
theorem mw_244 : Cond.code yX0_clear cX0_clear 1 none ∈ lw_tbl := List.mem_of_getElem? (i := 330) rfl
set_option maxRecDepth 20000 in
theorem mw_245 : Cond.selects RX0 yX0_clear yX0_clear ∈ lw_tbl := List.mem_of_getElem? (i := 329) rfl
set_option maxRecDepth 20000 in
theorem mw_246 : Cond.instanceMethod yX0_clear ∈ lw_tbl := List.mem_of_getElem? (i := 328) rfl
set_option maxRecDepth 20000 in
theorem mw_247 : Cond.methodLink RX2 18 yX0_clear ∈ lw_tbl := List.mem_of_getElem? (i := 327) rfl
set_option maxRecDepth 20000 in
theorem mw_248 : Cond.code yX2_read cX2_read 8 (some .int) ∈ lw_tbl := List.mem_of_getElem? (i := 326) rfl
set_option maxRecDepth 20000 in
theorem mw_249 : Cond.selects RX2 yX2_read yX2_read ∈ lw_tbl := List.mem_of_getElem? (i := 325) rfl
set_option maxRecDepth 20000 in
theorem mw_250 : Cond.instanceMethod yX2_read ∈ lw_tbl := List.mem_of_getElem? (i := 324) rfl
set_option maxRecDepth 20000 in
theorem mw_251 : Cond.methodLink RX5 106 yX2_read ∈ lw_tbl := List.mem_of_getElem? (i := 323) rfl
set_option maxRecDepth 20000 in
theorem mw_252 : Cond.methodLink RX2 35 yX2_readPerson ∈ lw_tbl := List.mem_of_getElem? (i := 345) rfl
set_option maxRecDepth 20000 in
theorem mw_253 : Cond.code yX0_addError cX0_addError 5 none ∈ lw_tbl := List.mem_of_getElem? (i := 344) rfl
set_option maxRecDepth 20000 in
theorem mw_254 : Cond.selects RX0 yX0_addError yX0_addError ∈ lw_tbl := List.mem_of_getElem? (i := 343) rfl
set_option maxRecDepth 20000 in
theorem mw_255 : Cond.instanceMethod yX0_addError ∈ lw_tbl := List.mem_of_getElem? (i := 342) rfl
set_option maxRecDepth 20000 in
theorem mw_256 : Cond.methodLink RX2 56 yX0_addError ∈ lw_tbl := List.mem_of_getElem? (i := 341) rfl
set_option maxRecDepth 20000 in
theorem mw_257 : Cond.methodLink RX2 64 yX3_holds ∈ lw_tbl := List.mem_of_getElem? (i := 340) rfl
set_option maxRecDepth 20000 in
theorem mw_258 : Cond.code yX2_figure cX2_figure 6 (some .int) ∈ lw_tbl := List.mem_of_getElem? (i := 339) rfl
set_option maxRecDepth 20000 in
theorem mw_259 : Cond.static yX2_figure ∈ lw_tbl := List.mem_of_getElem? (i := 338) rfl
set_option maxRecDepth 20000 in
theorem mw_260 : Cond.methodLink RX2 48 yX2_figure ∈ lw_tbl := List.mem_of_getElem? (i := 337) rfl
set_option maxRecDepth 20000 in
theorem mw_261 : Cond.code yX2_readError cX2_readError 8 (some .int) ∈ lw_tbl := List.mem_of_getElem? (i := 336) rfl
set_option maxRecDepth 20000 in
theorem mw_262 : Cond.selects RX2 yX2_readError yX2_readError ∈ lw_tbl := List.mem_of_getElem? (i := 2) rfl
set_option maxRecDepth 20000 in
theorem mw_263 : Cond.instanceMethod yX2_readError ∈ lw_tbl := List.mem_of_getElem? (i := 335) rfl
set_option maxRecDepth 20000 in
theorem mw_264 : Cond.methodLink RX2 31 yX2_readError ∈ lw_tbl := List.mem_of_getElem? (i := 333) rfl
set_option maxRecDepth 20000 in
theorem mw_265 : Cond.code yX0_addPerson cX0_addPerson 4 none ∈ lw_tbl := List.mem_of_getElem? (i := 357) rfl
set_option maxRecDepth 20000 in
theorem mw_266 : Cond.selects RX0 yX0_addPerson yX0_addPerson ∈ lw_tbl := List.mem_of_getElem? (i := 356) rfl
set_option maxRecDepth 20000 in
theorem mw_267 : Cond.instanceMethod yX0_addPerson ∈ lw_tbl := List.mem_of_getElem? (i := 355) rfl
set_option maxRecDepth 20000 in
theorem mw_268 : Cond.methodLink RX2 52 yX0_addPerson ∈ lw_tbl := List.mem_of_getElem? (i := 354) rfl
set_option maxRecDepth 20000 in
theorem mw_269 : Cond.code yX2_kindOf cX2_kindOf 2 (some .int) ∈ lw_tbl := List.mem_of_getElem? (i := 351) rfl
set_option maxRecDepth 20000 in
theorem mw_270 : Cond.static yX2_kindOf ∈ lw_tbl := List.mem_of_getElem? (i := 350) rfl
set_option maxRecDepth 20000 in
theorem mw_271 : Cond.methodLink RX2 42 yX2_kindOf ∈ lw_tbl := List.mem_of_getElem? (i := 349) rfl
set_option maxRecDepth 20000 in
theorem mw_272 : Cond.code yX2_readPerson cX2_readPerson 7 (some .int) ∈ lw_tbl := List.mem_of_getElem? (i := 348) rfl
set_option maxRecDepth 20000 in
theorem mw_273 : Cond.selects RX2 yX2_readPerson yX2_readPerson ∈ lw_tbl := List.mem_of_getElem? (i := 3) rfl
set_option maxRecDepth 20000 in
theorem mw_274 : Cond.instanceMethod yX2_readPerson ∈ lw_tbl := List.mem_of_getElem? (i := 347) rfl
set_option maxRecDepth 20000 in
theorem mw_275 : Cond.selects RX5 yX5_fault yX5_fault ∈ lw_tbl := List.mem_of_getElem? (i := 321) rfl
set_option maxRecDepth 20000 in
theorem mw_276 : Cond.instanceMethod yX5_fault ∈ lw_tbl := List.mem_of_getElem? (i := 320) rfl
set_option maxRecDepth 20000 in
theorem mw_277 : Cond.methodLink RL 49 yX5_fault ∈ lw_tbl := List.mem_of_getElem? (i := 319) rfl
set_option maxRecDepth 20000 in
theorem mw_278 : Cond.code yX6_fault cX6_fault 2 (some .int) ∈ lw_tbl := List.mem_of_getElem? (i := 874) rfl
set_option maxRecDepth 20000 in
theorem mw_279 : Cond.selects RX6 yX6_byteAt yX6_byteAt ∈ lw_tbl := List.mem_of_getElem? (i := 20) rfl
set_option maxRecDepth 20000 in
theorem mw_280 : Cond.instanceMethod yX6_byteAt ∈ lw_tbl := List.mem_of_getElem? (i := 881) rfl
set_option maxRecDepth 20000 in
theorem mw_281 : Cond.methodLink RX6 86 yX6_byteAt ∈ lw_tbl := List.mem_of_getElem? (i := 879) rfl
set_option maxRecDepth 20000 in
theorem mw_282 : Cond.fieldLink RX6 83 "TownRepeatedModel" "at" "I" ∈ lw_tbl := List.mem_of_getElem? (i := 777) rfl
set_option maxRecDepth 20000 in
theorem mw_283 : Cond.code yX6_reads cX6_reads 3 (some .int) ∈ lw_tbl := List.mem_of_getElem? (i := 878) rfl
set_option maxRecDepth 20000 in
theorem mw_284 : Cond.selects RX6 yX6_reads yX6_reads ∈ lw_tbl := List.mem_of_getElem? (i := 19) rfl
set_option maxRecDepth 20000 in
theorem mw_285 : Cond.instanceMethod yX6_reads ∈ lw_tbl := List.mem_of_getElem? (i := 877) rfl
set_option maxRecDepth 20000 in
theorem mw_286 : Cond.methodLink RX6 102 yX6_reads ∈ lw_tbl := List.mem_of_getElem? (i := 875) rfl
set_option maxRecDepth 20000 in
theorem mw_287 : Cond.code yX6_kindOf cX6_kindOf 1 (some .int) ∈ lw_tbl := List.mem_of_getElem? (i := 897) rfl
set_option maxRecDepth 20000 in
theorem mw_288 : Cond.static yX6_kindOf ∈ lw_tbl := List.mem_of_getElem? (i := 896) rfl
set_option maxRecDepth 20000 in
theorem mw_289 : Cond.methodLink RX6 89 yX6_kindOf ∈ lw_tbl := List.mem_of_getElem? (i := 895) rfl
set_option maxRecDepth 20000 in
theorem mw_290 : Cond.code yX6_takesPerson cX6_takesPerson 4 (some .boolean) ∈ lw_tbl := List.mem_of_getElem? (i := 894) rfl
set_option maxRecDepth 20000 in
theorem mw_291 : Cond.selects RX6 yX6_takesPerson yX6_takesPerson ∈ lw_tbl := List.mem_of_getElem? (i := 23) rfl
set_option maxRecDepth 20000 in
theorem mw_292 : Cond.instanceMethod yX6_takesPerson ∈ lw_tbl := List.mem_of_getElem? (i := 893) rfl
set_option maxRecDepth 20000 in
theorem mw_293 : Cond.methodLink RX6 99 yX6_takesPerson ∈ lw_tbl := List.mem_of_getElem? (i := 891) rfl
set_option maxRecDepth 20000 in
theorem mw_294 : Cond.code yX6_takes cX6_takes 7 (some .boolean) ∈ lw_tbl := List.mem_of_getElem? (i := 890) rfl
set_option maxRecDepth 20000 in
theorem mw_295 : Cond.selects RX6 yX6_takes yX6_takes ∈ lw_tbl := List.mem_of_getElem? (i := 22) rfl
set_option maxRecDepth 20000 in
theorem mw_296 : Cond.instanceMethod yX6_takes ∈ lw_tbl := List.mem_of_getElem? (i := 889) rfl
set_option maxRecDepth 20000 in
theorem mw_297 : Cond.methodLink RX6 92 yX6_takes ∈ lw_tbl := List.mem_of_getElem? (i := 887) rfl
set_option maxRecDepth 20000 in
theorem mw_298 : Cond.code yX6_takesError cX6_takesError 3 (some .boolean) ∈ lw_tbl := List.mem_of_getElem? (i := 886) rfl
set_option maxRecDepth 20000 in
theorem mw_299 : Cond.selects RX6 yX6_takesError yX6_takesError ∈ lw_tbl := List.mem_of_getElem? (i := 21) rfl
set_option maxRecDepth 20000 in
theorem mw_300 : Cond.instanceMethod yX6_takesError ∈ lw_tbl := List.mem_of_getElem? (i := 885) rfl
set_option maxRecDepth 20000 in
theorem mw_301 : Cond.methodLink RX6 96 yX6_takesError ∈ lw_tbl := List.mem_of_getElem? (i := 883) rfl
set_option maxRecDepth 20000 in
theorem mw_302 : Cond.code yX6_byteAt cX6_byteAt 2 (some .int) ∈ lw_tbl := List.mem_of_getElem? (i := 882) rfl
set_option maxRecDepth 20000 in
theorem mw_303 : Cond.selects RX6 yX6_fault yX6_fault ∈ lw_tbl := List.mem_of_getElem? (i := 873) rfl
set_option maxRecDepth 20000 in
theorem mw_304 : Cond.instanceMethod yX6_fault ∈ lw_tbl := List.mem_of_getElem? (i := 872) rfl
set_option maxRecDepth 20000 in
theorem mw_305 : Cond.methodLink RL 52 yX6_fault ∈ lw_tbl := List.mem_of_getElem? (i := 871) rfl
set_option maxRecDepth 20000 in
theorem mw_306 : Cond.code yX5_chain cX5_chain 4 (some .int) ∈ lw_tbl := List.mem_of_getElem? (i := 361) rfl
set_option maxRecDepth 20000 in
theorem mw_307 : Cond.methodLink RX0 55 arraycopyName ∈ lw_tbl := List.mem_of_getElem? (i := 366) rfl
set_option maxRecDepth 20000 in
theorem mw_308 : Cond.code yX0_takeFrom cX0_takeFrom 2 none ∈ lw_tbl := List.mem_of_getElem? (i := 365) rfl
set_option maxRecDepth 20000 in
theorem mw_309 : Cond.selects RX0 yX0_takeFrom yX0_takeFrom ∈ lw_tbl := List.mem_of_getElem? (i := 364) rfl
set_option maxRecDepth 20000 in
theorem mw_310 : Cond.instanceMethod yX0_takeFrom ∈ lw_tbl := List.mem_of_getElem? (i := 363) rfl
set_option maxRecDepth 20000 in
theorem mw_311 : Cond.methodLink RX5 112 yX0_takeFrom ∈ lw_tbl := List.mem_of_getElem? (i := 362) rfl
set_option maxRecDepth 20000 in
theorem mw_312 : Cond.methodLink RX5 116 yX0_clear ∈ lw_tbl := List.mem_of_getElem? (i := 367) rfl
set_option maxRecDepth 20000 in
theorem mw_313 : Cond.selects RX5 yX5_chain yX5_chain ∈ lw_tbl := List.mem_of_getElem? (i := 360) rfl
set_option maxRecDepth 20000 in
theorem mw_314 : Cond.instanceMethod yX5_chain ∈ lw_tbl := List.mem_of_getElem? (i := 359) rfl
set_option maxRecDepth 20000 in
theorem mw_315 : Cond.methodLink RL 53 yX5_chain ∈ lw_tbl := List.mem_of_getElem? (i := 358) rfl
set_option maxRecDepth 20000 in
theorem mw_316 : Cond.code yX6_chain cX6_chain 3 (some .int) ∈ lw_tbl := List.mem_of_getElem? (i := 901) rfl
set_option maxRecDepth 20000 in
theorem mw_317 : Cond.code yX6_copies cX6_copies 5 none ∈ lw_tbl := List.mem_of_getElem? (i := 904) rfl
set_option maxRecDepth 20000 in
theorem mw_318 : Cond.static yX6_copies ∈ lw_tbl := List.mem_of_getElem? (i := 903) rfl
set_option maxRecDepth 20000 in
theorem mw_319 : Cond.methodLink RX6 105 yX6_copies ∈ lw_tbl := List.mem_of_getElem? (i := 902) rfl
set_option maxRecDepth 20000 in
theorem mw_320 : Cond.selects RX6 yX6_chain yX6_chain ∈ lw_tbl := List.mem_of_getElem? (i := 900) rfl
set_option maxRecDepth 20000 in
theorem mw_321 : Cond.instanceMethod yX6_chain ∈ lw_tbl := List.mem_of_getElem? (i := 899) rfl
set_option maxRecDepth 20000 in
theorem mw_322 : Cond.methodLink RL 56 yX6_chain ∈ lw_tbl := List.mem_of_getElem? (i := 898) rfl
set_option maxRecDepth 20000 in
theorem mw_323 : Cond.code yX5_person cX5_person 3 (some .int) ∈ lw_tbl := List.mem_of_getElem? (i := 371) rfl
set_option maxRecDepth 20000 in
theorem mw_324 : Cond.selects RX0 yX0_unmended yX0_unmended ∈ lw_tbl := List.mem_of_getElem? (i := 387) rfl
set_option maxRecDepth 20000 in
theorem mw_325 : Cond.instanceMethod yX0_unmended ∈ lw_tbl := List.mem_of_getElem? (i := 386) rfl
set_option maxRecDepth 20000 in
theorem mw_326 : Cond.methodLink RX0 102 yX0_unmended ∈ lw_tbl := List.mem_of_getElem? (i := 385) rfl
set_option maxRecDepth 20000 in
theorem mw_327 : Cond.code yX0_done cX0_done 4 (some .int) ∈ lw_tbl := List.mem_of_getElem? (i := 384) rfl
set_option maxRecDepth 20000 in
theorem mw_328 : Cond.selects RX0 yX0_done yX0_done ∈ lw_tbl := List.mem_of_getElem? (i := 383) rfl
set_option maxRecDepth 20000 in
theorem mw_329 : Cond.instanceMethod yX0_done ∈ lw_tbl := List.mem_of_getElem? (i := 382) rfl
set_option maxRecDepth 20000 in
theorem mw_330 : Cond.methodLink RX0 75 yX0_done ∈ lw_tbl := List.mem_of_getElem? (i := 381) rfl
set_option maxRecDepth 20000 in
theorem mw_331 : Cond.methodLink RX0 61 yX0_isPerson ∈ lw_tbl := List.mem_of_getElem? (i := 380) rfl
set_option maxRecDepth 20000 in
theorem mw_332 : Cond.code yX0_personTrait cX0_personTrait 3 (some .int) ∈ lw_tbl := List.mem_of_getElem? (i := 379) rfl
set_option maxRecDepth 20000 in
theorem mw_333 : Cond.selects RX0 yX0_personTrait yX0_personTrait ∈ lw_tbl := List.mem_of_getElem? (i := 378) rfl
set_option maxRecDepth 20000 in
theorem mw_334 : Cond.instanceMethod yX0_personTrait ∈ lw_tbl := List.mem_of_getElem? (i := 377) rfl
set_option maxRecDepth 20000 in
theorem mw_335 : Cond.methodLink RX5 125 yX0_personTrait ∈ lw_tbl := List.mem_of_getElem? (i := 376) rfl
set_option maxRecDepth 20000 in
theorem mw_336 : Cond.code yX0_isPerson cX0_isPerson 2 (some .boolean) ∈ lw_tbl := List.mem_of_getElem? (i := 375) rfl
set_option maxRecDepth 20000 in
theorem mw_337 : Cond.selects RX0 yX0_isPerson yX0_isPerson ∈ lw_tbl := List.mem_of_getElem? (i := 374) rfl
set_option maxRecDepth 20000 in
theorem mw_338 : Cond.instanceMethod yX0_isPerson ∈ lw_tbl := List.mem_of_getElem? (i := 373) rfl
set_option maxRecDepth 20000 in
theorem mw_339 : Cond.methodLink RX5 122 yX0_isPerson ∈ lw_tbl := List.mem_of_getElem? (i := 372) rfl
set_option maxRecDepth 20000 in
theorem mw_340 : Cond.instanceMethod yX0_meets ∈ lw_tbl := List.mem_of_getElem? (i := 409) rfl
set_option maxRecDepth 20000 in
theorem mw_341 : Cond.methodLink RX0 126 yX0_meets ∈ lw_tbl := List.mem_of_getElem? (i := 407) rfl
set_option maxRecDepth 20000 in
theorem mw_342 : Cond.code yX0_gather cX0_gather 7 none ∈ lw_tbl := List.mem_of_getElem? (i := 406) rfl
set_option maxRecDepth 20000 in
theorem mw_343 : Cond.selects RX0 yX0_gather yX0_gather ∈ lw_tbl := List.mem_of_getElem? (i := 5) rfl
set_option maxRecDepth 20000 in
theorem mw_344 : Cond.instanceMethod yX0_gather ∈ lw_tbl := List.mem_of_getElem? (i := 405) rfl
set_option maxRecDepth 20000 in
theorem mw_345 : Cond.methodLink RX0 114 yX0_gather ∈ lw_tbl := List.mem_of_getElem? (i := 403) rfl
set_option maxRecDepth 20000 in
theorem mw_346 : Cond.code yX5_isDay cX5_isDay 1 (some .boolean) ∈ lw_tbl := List.mem_of_getElem? (i := 402) rfl
set_option maxRecDepth 20000 in
theorem mw_347 : Cond.static yX5_isDay ∈ lw_tbl := List.mem_of_getElem? (i := 401) rfl
set_option maxRecDepth 20000 in
theorem mw_348 : Cond.code yX5_isTown cX5_isTown 1 (some .boolean) ∈ lw_tbl := List.mem_of_getElem? (i := 399) rfl
set_option maxRecDepth 20000 in
theorem mw_349 : Cond.static yX5_isTown ∈ lw_tbl := List.mem_of_getElem? (i := 398) rfl
set_option maxRecDepth 20000 in
theorem mw_350 : Cond.code yX0_isReached cX0_isReached 4 (some .boolean) ∈ lw_tbl := List.mem_of_getElem? (i := 396) rfl
set_option maxRecDepth 20000 in
theorem mw_351 : Cond.selects RX0 yX0_isReached yX0_isReached ∈ lw_tbl := List.mem_of_getElem? (i := 4) rfl
set_option maxRecDepth 20000 in
theorem mw_352 : Cond.instanceMethod yX0_isReached ∈ lw_tbl := List.mem_of_getElem? (i := 395) rfl
set_option maxRecDepth 20000 in
theorem mw_353 : Cond.methodLink RX0 110 yX0_isReached ∈ lw_tbl := List.mem_of_getElem? (i := 393) rfl
set_option maxRecDepth 20000 in
theorem mw_354 : Cond.code yX0_doneIf cX0_doneIf 5 (some .int) ∈ lw_tbl := List.mem_of_getElem? (i := 392) rfl
set_option maxRecDepth 20000 in
theorem mw_355 : Cond.selects RX0 yX0_doneIf yX0_doneIf ∈ lw_tbl := List.mem_of_getElem? (i := 391) rfl
set_option maxRecDepth 20000 in
theorem mw_356 : Cond.instanceMethod yX0_doneIf ∈ lw_tbl := List.mem_of_getElem? (i := 390) rfl
set_option maxRecDepth 20000 in
theorem mw_357 : Cond.methodLink RX0 106 yX0_doneIf ∈ lw_tbl := List.mem_of_getElem? (i := 389) rfl
set_option maxRecDepth 20000 in
theorem mw_358 : Cond.code yX0_unmended cX0_unmended 1 (some .int) ∈ lw_tbl := List.mem_of_getElem? (i := 388) rfl
set_option maxRecDepth 20000 in
theorem mw_359 : Cond.code yX0_repeated cX0_repeated 3 (some .int) ∈ lw_tbl := List.mem_of_getElem? (i := 422) rfl
set_option maxRecDepth 20000 in
theorem mw_360 : Cond.static yX0_repeated ∈ lw_tbl := List.mem_of_getElem? (i := 421) rfl
set_option maxRecDepth 20000 in
theorem mw_361 : Cond.methodLink RX0 129 yX0_repeated ∈ lw_tbl := List.mem_of_getElem? (i := 420) rfl
set_option maxRecDepth 20000 in
theorem mw_362 : Cond.code yX0_isAlso cX0_isAlso 4 (some .boolean) ∈ lw_tbl := List.mem_of_getElem? (i := 417) rfl
set_option maxRecDepth 20000 in
theorem mw_363 : Cond.static yX0_isAlso ∈ lw_tbl := List.mem_of_getElem? (i := 416) rfl
set_option maxRecDepth 20000 in
theorem mw_364 : Cond.methodLink RX0 65 yX0_isAlso ∈ lw_tbl := List.mem_of_getElem? (i := 415) rfl
set_option maxRecDepth 20000 in
theorem mw_365 : Cond.code yX0_arrive cX0_arrive 8 (some .int) ∈ lw_tbl := List.mem_of_getElem? (i := 414) rfl
set_option maxRecDepth 20000 in
theorem mw_366 : Cond.selects RX0 yX0_arrive yX0_arrive ∈ lw_tbl := List.mem_of_getElem? (i := 7) rfl
set_option maxRecDepth 20000 in
theorem mw_367 : Cond.instanceMethod yX0_arrive ∈ lw_tbl := List.mem_of_getElem? (i := 413) rfl
set_option maxRecDepth 20000 in
theorem mw_368 : Cond.methodLink RX0 117 yX0_arrive ∈ lw_tbl := List.mem_of_getElem? (i := 411) rfl
set_option maxRecDepth 20000 in
theorem mw_369 : Cond.code yX0_meets cX0_meets 7 (some .int) ∈ lw_tbl := List.mem_of_getElem? (i := 410) rfl
set_option maxRecDepth 20000 in
theorem mw_370 : Cond.selects RX0 yX0_meets yX0_meets ∈ lw_tbl := List.mem_of_getElem? (i := 6) rfl
set_option maxRecDepth 20000 in
theorem mw_371 : Cond.selects RX5 yX5_person yX5_person ∈ lw_tbl := List.mem_of_getElem? (i := 370) rfl
set_option maxRecDepth 20000 in
theorem mw_372 : Cond.instanceMethod yX5_person ∈ lw_tbl := List.mem_of_getElem? (i := 369) rfl
set_option maxRecDepth 20000 in
theorem mw_373 : Cond.methodLink RL 57 yX5_person ∈ lw_tbl := List.mem_of_getElem? (i := 368) rfl
set_option maxRecDepth 20000 in
theorem mw_374 : Cond.code yX6_person cX6_person 3 (some .int) ∈ lw_tbl := List.mem_of_getElem? (i := 908) rfl
set_option maxRecDepth 20000 in
theorem mw_375 : Cond.methodLink RX6 126 yX6_live ∈ lw_tbl := List.mem_of_getElem? (i := 926) rfl
set_option maxRecDepth 20000 in
theorem mw_376 : Cond.code yX6_layNow cX6_layNow 2 none ∈ lw_tbl := List.mem_of_getElem? (i := 925) rfl
set_option maxRecDepth 20000 in
theorem mw_377 : Cond.selects RX6 yX6_layNow yX6_layNow ∈ lw_tbl := List.mem_of_getElem? (i := 27) rfl
set_option maxRecDepth 20000 in
theorem mw_378 : Cond.instanceMethod yX6_layNow ∈ lw_tbl := List.mem_of_getElem? (i := 924) rfl
set_option maxRecDepth 20000 in
theorem mw_379 : Cond.methodLink RX6 134 yX6_layNow ∈ lw_tbl := List.mem_of_getElem? (i := 922) rfl
set_option maxRecDepth 20000 in
theorem mw_380 : Cond.code yX6_doing cX6_doing 4 (some .int) ∈ lw_tbl := List.mem_of_getElem? (i := 921) rfl
set_option maxRecDepth 20000 in
theorem mw_381 : Cond.selects RX6 yX6_doing yX6_doing ∈ lw_tbl := List.mem_of_getElem? (i := 26) rfl
set_option maxRecDepth 20000 in
theorem mw_382 : Cond.instanceMethod yX6_doing ∈ lw_tbl := List.mem_of_getElem? (i := 920) rfl
set_option maxRecDepth 20000 in
theorem mw_383 : Cond.methodLink RX6 138 yX6_doing ∈ lw_tbl := List.mem_of_getElem? (i := 918) rfl
set_option maxRecDepth 20000 in
theorem mw_384 : Cond.code yX6_told cX6_told 3 (some .int) ∈ lw_tbl := List.mem_of_getElem? (i := 917) rfl
set_option maxRecDepth 20000 in
theorem mw_385 : Cond.selects RX6 yX6_told yX6_told ∈ lw_tbl := List.mem_of_getElem? (i := 25) rfl
set_option maxRecDepth 20000 in
theorem mw_386 : Cond.instanceMethod yX6_told ∈ lw_tbl := List.mem_of_getElem? (i := 916) rfl
set_option maxRecDepth 20000 in
theorem mw_387 : Cond.methodLink RX6 144 yX6_told ∈ lw_tbl := List.mem_of_getElem? (i := 914) rfl
set_option maxRecDepth 20000 in
theorem mw_388 : Cond.code yX6_isPerson cX6_isPerson 2 (some .boolean) ∈ lw_tbl := List.mem_of_getElem? (i := 912) rfl
set_option maxRecDepth 20000 in
theorem mw_389 : Cond.selects RX6 yX6_isPerson yX6_isPerson ∈ lw_tbl := List.mem_of_getElem? (i := 24) rfl
set_option maxRecDepth 20000 in
theorem mw_390 : Cond.instanceMethod yX6_isPerson ∈ lw_tbl := List.mem_of_getElem? (i := 911) rfl
set_option maxRecDepth 20000 in
theorem mw_391 : Cond.methodLink RX6 141 yX6_isPerson ∈ lw_tbl := List.mem_of_getElem? (i := 909) rfl
set_option maxRecDepth 20000 in
theorem mw_392 : Cond.constantLong RX6 109 (4) ∈ lw_tbl := List.mem_of_getElem? (i := 913) rfl
set_option maxRecDepth 20000 in
theorem mw_393 : Cond.code yX6_beyond cX6_beyond 3 (some .int) ∈ lw_tbl := List.mem_of_getElem? (i := 942) rfl
set_option maxRecDepth 20000 in
theorem mw_394 : Cond.static yX6_beyond ∈ lw_tbl := List.mem_of_getElem? (i := 941) rfl
set_option maxRecDepth 20000 in
theorem mw_395 : Cond.methodLink RX6 122 yX6_beyond ∈ lw_tbl := List.mem_of_getElem? (i := 940) rfl
set_option maxRecDepth 20000 in
theorem mw_396 : Cond.code yX6_isOf cX6_isOf 2 (some .boolean) ∈ lw_tbl := List.mem_of_getElem? (i := 939) rfl
set_option maxRecDepth 20000 in
theorem mw_397 : Cond.static yX6_isOf ∈ lw_tbl := List.mem_of_getElem? (i := 938) rfl
set_option maxRecDepth 20000 in
theorem mw_398 : Cond.methodLink RX6 119 yX6_isOf ∈ lw_tbl := List.mem_of_getElem? (i := 937) rfl
set_option maxRecDepth 20000 in
theorem mw_399 : Cond.code yX6_has cX6_has 2 (some .boolean) ∈ lw_tbl := List.mem_of_getElem? (i := 936) rfl
set_option maxRecDepth 20000 in
theorem mw_400 : Cond.static yX6_has ∈ lw_tbl := List.mem_of_getElem? (i := 935) rfl
set_option maxRecDepth 20000 in
theorem mw_401 : Cond.methodLink RX6 115 yX6_has ∈ lw_tbl := List.mem_of_getElem? (i := 934) rfl
set_option maxRecDepth 20000 in
theorem mw_402 : Cond.code yX6_lays cX6_lays 8 none ∈ lw_tbl := List.mem_of_getElem? (i := 933) rfl
set_option maxRecDepth 20000 in
theorem mw_403 : Cond.selects RX6 yX6_lays yX6_lays ∈ lw_tbl := List.mem_of_getElem? (i := 29) rfl
set_option maxRecDepth 20000 in
theorem mw_404 : Cond.instanceMethod yX6_lays ∈ lw_tbl := List.mem_of_getElem? (i := 932) rfl
set_option maxRecDepth 20000 in
theorem mw_405 : Cond.methodLink RX6 130 yX6_lays ∈ lw_tbl := List.mem_of_getElem? (i := 930) rfl
set_option maxRecDepth 20000 in
theorem mw_406 : Cond.code yX6_live cX6_live 3 (some .int) ∈ lw_tbl := List.mem_of_getElem? (i := 929) rfl
set_option maxRecDepth 20000 in
theorem mw_407 : Cond.selects RX6 yX6_live yX6_live ∈ lw_tbl := List.mem_of_getElem? (i := 28) rfl
set_option maxRecDepth 20000 in
theorem mw_408 : Cond.instanceMethod yX6_live ∈ lw_tbl := List.mem_of_getElem? (i := 928) rfl
set_option maxRecDepth 20000 in
theorem mw_409 : Cond.selects RX6 yX6_person yX6_person ∈ lw_tbl := List.mem_of_getElem? (i := 907) rfl
set_option maxRecDepth 20000 in
theorem mw_410 : Cond.instanceMethod yX6_person ∈ lw_tbl := List.mem_of_getElem? (i := 906) rfl
set_option maxRecDepth 20000 in
theorem mw_411 : Cond.methodLink RL 60 yX6_person ∈ lw_tbl := List.mem_of_getElem? (i := 905) rfl
set_option maxRecDepth 20000 in
theorem mw_412 : Cond.code yX5_error cX5_error 3 (some .int) ∈ lw_tbl := List.mem_of_getElem? (i := 426) rfl
set_option maxRecDepth 20000 in
theorem mw_413 : Cond.code yX0_isMended cX0_isMended 2 (some .boolean) ∈ lw_tbl := List.mem_of_getElem? (i := 439) rfl
set_option maxRecDepth 20000 in
theorem mw_414 : Cond.selects RX0 yX0_isMended yX0_isMended ∈ lw_tbl := List.mem_of_getElem? (i := 438) rfl
set_option maxRecDepth 20000 in
theorem mw_415 : Cond.instanceMethod yX0_isMended ∈ lw_tbl := List.mem_of_getElem? (i := 437) rfl
set_option maxRecDepth 20000 in
theorem mw_416 : Cond.methodLink RX0 82 yX0_isMended ∈ lw_tbl := List.mem_of_getElem? (i := 436) rfl
set_option maxRecDepth 20000 in
theorem mw_417 : Cond.methodLink RX0 79 yX0_isError ∈ lw_tbl := List.mem_of_getElem? (i := 435) rfl
set_option maxRecDepth 20000 in
theorem mw_418 : Cond.code yX0_errorTrait cX0_errorTrait 3 (some .int) ∈ lw_tbl := List.mem_of_getElem? (i := 434) rfl
set_option maxRecDepth 20000 in
theorem mw_419 : Cond.selects RX0 yX0_errorTrait yX0_errorTrait ∈ lw_tbl := List.mem_of_getElem? (i := 433) rfl
set_option maxRecDepth 20000 in
theorem mw_420 : Cond.instanceMethod yX0_errorTrait ∈ lw_tbl := List.mem_of_getElem? (i := 432) rfl
set_option maxRecDepth 20000 in
theorem mw_421 : Cond.methodLink RX5 131 yX0_errorTrait ∈ lw_tbl := List.mem_of_getElem? (i := 431) rfl
set_option maxRecDepth 20000 in
theorem mw_422 : Cond.code yX0_isError cX0_isError 2 (some .boolean) ∈ lw_tbl := List.mem_of_getElem? (i := 430) rfl
set_option maxRecDepth 20000 in
theorem mw_423 : Cond.selects RX0 yX0_isError yX0_isError ∈ lw_tbl := List.mem_of_getElem? (i := 429) rfl
set_option maxRecDepth 20000 in
theorem mw_424 : Cond.instanceMethod yX0_isError ∈ lw_tbl := List.mem_of_getElem? (i := 428) rfl
set_option maxRecDepth 20000 in
theorem mw_425 : Cond.methodLink RX5 128 yX0_isError ∈ lw_tbl := List.mem_of_getElem? (i := 427) rfl
set_option maxRecDepth 20000 in
theorem mw_426 : Cond.selects RX5 yX5_error yX5_error ∈ lw_tbl := List.mem_of_getElem? (i := 425) rfl
set_option maxRecDepth 20000 in
theorem mw_427 : Cond.instanceMethod yX5_error ∈ lw_tbl := List.mem_of_getElem? (i := 424) rfl
set_option maxRecDepth 20000 in
theorem mw_428 : Cond.methodLink RL 61 yX5_error ∈ lw_tbl := List.mem_of_getElem? (i := 423) rfl
set_option maxRecDepth 20000 in
theorem mw_429 : Cond.code yX6_error cX6_error 3 (some .int) ∈ lw_tbl := List.mem_of_getElem? (i := 946) rfl
set_option maxRecDepth 20000 in
theorem mw_430 : Cond.code yX6_isError cX6_isError 2 (some .boolean) ∈ lw_tbl := List.mem_of_getElem? (i := 950) rfl
set_option maxRecDepth 20000 in
theorem mw_431 : Cond.selects RX6 yX6_isError yX6_isError ∈ lw_tbl := List.mem_of_getElem? (i := 30) rfl
set_option maxRecDepth 20000 in
theorem mw_432 : Cond.instanceMethod yX6_isError ∈ lw_tbl := List.mem_of_getElem? (i := 949) rfl
set_option maxRecDepth 20000 in
theorem mw_433 : Cond.methodLink RX6 148 yX6_isError ∈ lw_tbl := List.mem_of_getElem? (i := 947) rfl
set_option maxRecDepth 20000 in
theorem mw_434 : Cond.selects RX6 yX6_error yX6_error ∈ lw_tbl := List.mem_of_getElem? (i := 945) rfl
set_option maxRecDepth 20000 in
theorem mw_435 : Cond.instanceMethod yX6_error ∈ lw_tbl := List.mem_of_getElem? (i := 944) rfl
set_option maxRecDepth 20000 in
theorem mw_436 : Cond.methodLink RL 64 yX6_error ∈ lw_tbl := List.mem_of_getElem? (i := 943) rfl
set_option maxRecDepth 20000 in
theorem mw_437 : Cond.code yX5_mark cX5_mark 3 (some .int) ∈ lw_tbl := List.mem_of_getElem? (i := 443) rfl
set_option maxRecDepth 20000 in
theorem mw_438 : Cond.code yX0_isOfKind cX0_isOfKind 3 (some .boolean) ∈ lw_tbl := List.mem_of_getElem? (i := 447) rfl
set_option maxRecDepth 20000 in
theorem mw_439 : Cond.selects RX0 yX0_isOfKind yX0_isOfKind ∈ lw_tbl := List.mem_of_getElem? (i := 446) rfl
set_option maxRecDepth 20000 in
theorem mw_440 : Cond.instanceMethod yX0_isOfKind ∈ lw_tbl := List.mem_of_getElem? (i := 445) rfl
set_option maxRecDepth 20000 in
theorem mw_441 : Cond.methodLink RX5 134 yX0_isOfKind ∈ lw_tbl := List.mem_of_getElem? (i := 444) rfl
set_option maxRecDepth 20000 in
theorem mw_442 : Cond.code yX0_drifted cX0_drifted 2 (some .int) ∈ lw_tbl := List.mem_of_getElem? (i := 451) rfl
set_option maxRecDepth 20000 in
theorem mw_443 : Cond.selects RX0 yX0_drifted yX0_drifted ∈ lw_tbl := List.mem_of_getElem? (i := 450) rfl
set_option maxRecDepth 20000 in
theorem mw_444 : Cond.instanceMethod yX0_drifted ∈ lw_tbl := List.mem_of_getElem? (i := 449) rfl
set_option maxRecDepth 20000 in
theorem mw_445 : Cond.methodLink RX5 138 yX0_drifted ∈ lw_tbl := List.mem_of_getElem? (i := 448) rfl
set_option maxRecDepth 20000 in
theorem mw_446 : Cond.code yX0_noughtDays cX0_noughtDays 4 (some .int) ∈ lw_tbl := List.mem_of_getElem? (i := 470) rfl
set_option maxRecDepth 20000 in
theorem mw_447 : Cond.selects RX0 yX0_noughtDays yX0_noughtDays ∈ lw_tbl := List.mem_of_getElem? (i := 469) rfl
set_option maxRecDepth 20000 in
theorem mw_448 : Cond.instanceMethod yX0_noughtDays ∈ lw_tbl := List.mem_of_getElem? (i := 468) rfl
set_option maxRecDepth 20000 in
theorem mw_449 : Cond.methodLink RX5 150 yX0_noughtDays ∈ lw_tbl := List.mem_of_getElem? (i := 467) rfl
set_option maxRecDepth 20000 in
theorem mw_450 : Cond.code yX0_othersAlike cX0_othersAlike 4 (some .int) ∈ lw_tbl := List.mem_of_getElem? (i := 466) rfl
set_option maxRecDepth 20000 in
theorem mw_451 : Cond.selects RX0 yX0_othersAlike yX0_othersAlike ∈ lw_tbl := List.mem_of_getElem? (i := 465) rfl
set_option maxRecDepth 20000 in
theorem mw_452 : Cond.instanceMethod yX0_othersAlike ∈ lw_tbl := List.mem_of_getElem? (i := 464) rfl
set_option maxRecDepth 20000 in
theorem mw_453 : Cond.methodLink RX5 147 yX0_othersAlike ∈ lw_tbl := List.mem_of_getElem? (i := 463) rfl
set_option maxRecDepth 20000 in
theorem mw_454 : Cond.code yX0_likeTowns cX0_likeTowns 4 (some .int) ∈ lw_tbl := List.mem_of_getElem? (i := 462) rfl
set_option maxRecDepth 20000 in
theorem mw_455 : Cond.selects RX0 yX0_likeTowns yX0_likeTowns ∈ lw_tbl := List.mem_of_getElem? (i := 461) rfl
set_option maxRecDepth 20000 in
theorem mw_456 : Cond.instanceMethod yX0_likeTowns ∈ lw_tbl := List.mem_of_getElem? (i := 460) rfl
set_option maxRecDepth 20000 in
theorem mw_457 : Cond.methodLink RX5 144 yX0_likeTowns ∈ lw_tbl := List.mem_of_getElem? (i := 459) rfl
set_option maxRecDepth 20000 in
theorem mw_458 : Cond.code yX0_idleDays cX0_idleDays 4 (some .int) ∈ lw_tbl := List.mem_of_getElem? (i := 458) rfl
set_option maxRecDepth 20000 in
theorem mw_459 : Cond.selects RX0 yX0_idleDays yX0_idleDays ∈ lw_tbl := List.mem_of_getElem? (i := 457) rfl
set_option maxRecDepth 20000 in
theorem mw_460 : Cond.instanceMethod yX0_idleDays ∈ lw_tbl := List.mem_of_getElem? (i := 456) rfl
set_option maxRecDepth 20000 in
theorem mw_461 : Cond.methodLink RX5 141 yX0_idleDays ∈ lw_tbl := List.mem_of_getElem? (i := 455) rfl
set_option maxRecDepth 20000 in
theorem mw_462 : Cond.code yJ9_floorMod_7cf53 cJ9_floorMod_7cf53 3 (some .int) ∈ lw_tbl := List.mem_of_getElem? (i := 454) rfl
set_option maxRecDepth 20000 in
theorem mw_463 : Cond.static yJ9_floorMod_7cf53 ∈ lw_tbl := List.mem_of_getElem? (i := 453) rfl
set_option maxRecDepth 20000 in
theorem mw_464 : Cond.methodLink RX0 148 yJ9_floorMod_7cf53 ∈ lw_tbl := List.mem_of_getElem? (i := 452) rfl
set_option maxRecDepth 20000 in
theorem mw_465 : Cond.selects RX5 yX5_mark yX5_mark ∈ lw_tbl := List.mem_of_getElem? (i := 442) rfl
set_option maxRecDepth 20000 in
theorem mw_466 : Cond.instanceMethod yX5_mark ∈ lw_tbl := List.mem_of_getElem? (i := 441) rfl
set_option maxRecDepth 20000 in
theorem mw_467 : Cond.methodLink RL 65 yX5_mark ∈ lw_tbl := List.mem_of_getElem? (i := 440) rfl
set_option maxRecDepth 20000 in
theorem mw_468 : Cond.code yX6_mark cX6_mark 6 (some .int) ∈ lw_tbl := List.mem_of_getElem? (i := 954) rfl
set_option maxRecDepth 20000 in
theorem mw_469 : Cond.selects RX6 yX6_mark yX6_mark ∈ lw_tbl := List.mem_of_getElem? (i := 953) rfl
set_option maxRecDepth 20000 in
theorem mw_470 : Cond.instanceMethod yX6_mark ∈ lw_tbl := List.mem_of_getElem? (i := 952) rfl
set_option maxRecDepth 20000 in
theorem mw_471 : Cond.methodLink RL 68 yX6_mark ∈ lw_tbl := List.mem_of_getElem? (i := 951) rfl
set_option maxRecDepth 20000 in
theorem mw_472 : Cond.code yX5_stride cX5_stride 4 (some .int) ∈ lw_tbl := List.mem_of_getElem? (i := 474) rfl
set_option maxRecDepth 20000 in
theorem mw_473 : Cond.selects RX5 yX5_stride yX5_stride ∈ lw_tbl := List.mem_of_getElem? (i := 473) rfl
set_option maxRecDepth 20000 in
theorem mw_474 : Cond.instanceMethod yX5_stride ∈ lw_tbl := List.mem_of_getElem? (i := 472) rfl
set_option maxRecDepth 20000 in
theorem mw_475 : Cond.methodLink RL 69 yX5_stride ∈ lw_tbl := List.mem_of_getElem? (i := 471) rfl
set_option maxRecDepth 20000 in
theorem mw_476 : Cond.code yX6_stride cX6_stride 4 (some .int) ∈ lw_tbl := List.mem_of_getElem? (i := 958) rfl
set_option maxRecDepth 20000 in
theorem mw_477 : Cond.constantLong RX6 113 (9) ∈ lw_tbl := List.mem_of_getElem? (i := 962) rfl
set_option maxRecDepth 20000 in
theorem mw_478 : Cond.code yX6_isDeed cX6_isDeed 1 (some .boolean) ∈ lw_tbl := List.mem_of_getElem? (i := 961) rfl
set_option maxRecDepth 20000 in
theorem mw_479 : Cond.static yX6_isDeed ∈ lw_tbl := List.mem_of_getElem? (i := 960) rfl
set_option maxRecDepth 20000 in
theorem mw_480 : Cond.methodLink RX6 151 yX6_isDeed ∈ lw_tbl := List.mem_of_getElem? (i := 959) rfl
set_option maxRecDepth 20000 in
theorem mw_481 : Cond.selects RX6 yX6_stride yX6_stride ∈ lw_tbl := List.mem_of_getElem? (i := 957) rfl
set_option maxRecDepth 20000 in
theorem mw_482 : Cond.instanceMethod yX6_stride ∈ lw_tbl := List.mem_of_getElem? (i := 956) rfl
set_option maxRecDepth 20000 in
theorem mw_483 : Cond.methodLink RL 72 yX6_stride ∈ lw_tbl := List.mem_of_getElem? (i := 955) rfl
set_option maxRecDepth 20000 in
theorem mw_484 : Cond.code yX5_mend cX5_mend 3 (some .int) ∈ lw_tbl := List.mem_of_getElem? (i := 478) rfl
set_option maxRecDepth 20000 in
theorem mw_485 : Cond.selects RX0 yX0_addTurn yX0_addTurn ∈ lw_tbl := List.mem_of_getElem? (i := 8) rfl
set_option maxRecDepth 20000 in
theorem mw_486 : Cond.instanceMethod yX0_addTurn ∈ lw_tbl := List.mem_of_getElem? (i := 490) rfl
set_option maxRecDepth 20000 in
theorem mw_487 : Cond.methodLink RX0 94 yX0_addTurn ∈ lw_tbl := List.mem_of_getElem? (i := 488) rfl
set_option maxRecDepth 20000 in
theorem mw_488 : Cond.code yX0_turnMended cX0_turnMended 2 none ∈ lw_tbl := List.mem_of_getElem? (i := 487) rfl
set_option maxRecDepth 20000 in
theorem mw_489 : Cond.selects RX0 yX0_turnMended yX0_turnMended ∈ lw_tbl := List.mem_of_getElem? (i := 486) rfl
set_option maxRecDepth 20000 in
theorem mw_490 : Cond.instanceMethod yX0_turnMended ∈ lw_tbl := List.mem_of_getElem? (i := 485) rfl
set_option maxRecDepth 20000 in
theorem mw_491 : Cond.methodLink RX5 165 yX0_turnMended ∈ lw_tbl := List.mem_of_getElem? (i := 484) rfl
set_option maxRecDepth 20000 in
theorem mw_492 : Cond.code yX0_hasTurnsLeft cX0_hasTurnsLeft 2 (some .boolean) ∈ lw_tbl := List.mem_of_getElem? (i := 483) rfl
set_option maxRecDepth 20000 in
theorem mw_493 : Cond.selects RX0 yX0_hasTurnsLeft yX0_hasTurnsLeft ∈ lw_tbl := List.mem_of_getElem? (i := 482) rfl
set_option maxRecDepth 20000 in
theorem mw_494 : Cond.instanceMethod yX0_hasTurnsLeft ∈ lw_tbl := List.mem_of_getElem? (i := 481) rfl
set_option maxRecDepth 20000 in
theorem mw_495 : Cond.methodLink RX5 162 yX0_hasTurnsLeft ∈ lw_tbl := List.mem_of_getElem? (i := 480) rfl
set_option maxRecDepth 20000 in
theorem mw_496 : Cond.methodLink RX5 159 yX0_isMended ∈ lw_tbl := List.mem_of_getElem? (i := 479) rfl
set_option maxRecDepth 20000 in
theorem mw_497 : Cond.constant RJ6 267 (252645135) ∈ lw_tbl := List.mem_of_getElem? (i := 497) rfl
set_option maxRecDepth 20000 in
theorem mw_498 : Cond.constant RJ6 266 (858993459) ∈ lw_tbl := List.mem_of_getElem? (i := 496) rfl
set_option maxRecDepth 20000 in
theorem mw_499 : Cond.constant RJ6 265 (1431655765) ∈ lw_tbl := List.mem_of_getElem? (i := 495) rfl
set_option maxRecDepth 20000 in
theorem mw_500 : Cond.code yJ6_bitCount_0f7a4 cJ6_bitCount_0f7a4 1 (some .int) ∈ lw_tbl := List.mem_of_getElem? (i := 494) rfl
set_option maxRecDepth 20000 in
theorem mw_501 : Cond.initialized RJ6 ∈ lw_tbl := List.mem_of_getElem? (i := 51) rfl
set_option maxRecDepth 20000 in
theorem mw_502 : Cond.static yJ6_bitCount_0f7a4 ∈ lw_tbl := List.mem_of_getElem? (i := 493) rfl
set_option maxRecDepth 20000 in
theorem mw_503 : Cond.methodLink RX5 171 yJ6_bitCount_0f7a4 ∈ lw_tbl := List.mem_of_getElem? (i := 492) rfl
set_option maxRecDepth 20000 in
theorem mw_504 : Cond.code yX0_addTurn cX0_addTurn 2 none ∈ lw_tbl := List.mem_of_getElem? (i := 491) rfl
set_option maxRecDepth 20000 in
theorem mw_505 : Cond.selects RX5 yX5_mend yX5_mend ∈ lw_tbl := List.mem_of_getElem? (i := 477) rfl
set_option maxRecDepth 20000 in
theorem mw_506 : Cond.instanceMethod yX5_mend ∈ lw_tbl := List.mem_of_getElem? (i := 476) rfl
set_option maxRecDepth 20000 in
theorem mw_507 : Cond.methodLink RL 73 yX5_mend ∈ lw_tbl := List.mem_of_getElem? (i := 475) rfl
set_option maxRecDepth 20000 in
theorem mw_508 : Cond.code yX6_mend cX6_mend 3 (some .int) ∈ lw_tbl := List.mem_of_getElem? (i := 966) rfl
set_option maxRecDepth 20000 in
theorem mw_509 : Cond.code yX6_bits cX6_bits 3 (some .int) ∈ lw_tbl := List.mem_of_getElem? (i := 977) rfl
set_option maxRecDepth 20000 in
theorem mw_510 : Cond.static yX6_bits ∈ lw_tbl := List.mem_of_getElem? (i := 976) rfl
set_option maxRecDepth 20000 in
theorem mw_511 : Cond.methodLink RX6 154 yX6_bits ∈ lw_tbl := List.mem_of_getElem? (i := 975) rfl
set_option maxRecDepth 20000 in
theorem mw_512 : Cond.code yX6_mended cX6_mended 1 (some .int) ∈ lw_tbl := List.mem_of_getElem? (i := 974) rfl
set_option maxRecDepth 20000 in
theorem mw_513 : Cond.selects RX6 yX6_mended yX6_mended ∈ lw_tbl := List.mem_of_getElem? (i := 32) rfl
set_option maxRecDepth 20000 in
theorem mw_514 : Cond.instanceMethod yX6_mended ∈ lw_tbl := List.mem_of_getElem? (i := 973) rfl
set_option maxRecDepth 20000 in
theorem mw_515 : Cond.methodLink RX6 160 yX6_mended ∈ lw_tbl := List.mem_of_getElem? (i := 971) rfl
set_option maxRecDepth 20000 in
theorem mw_516 : Cond.code yX6_turns cX6_turns 2 none ∈ lw_tbl := List.mem_of_getElem? (i := 970) rfl
set_option maxRecDepth 20000 in
theorem mw_517 : Cond.selects RX6 yX6_turns yX6_turns ∈ lw_tbl := List.mem_of_getElem? (i := 31) rfl
set_option maxRecDepth 20000 in
theorem mw_518 : Cond.instanceMethod yX6_turns ∈ lw_tbl := List.mem_of_getElem? (i := 969) rfl
set_option maxRecDepth 20000 in
theorem mw_519 : Cond.methodLink RX6 157 yX6_turns ∈ lw_tbl := List.mem_of_getElem? (i := 967) rfl
set_option maxRecDepth 20000 in
theorem mw_520 : Cond.selects RX6 yX6_mend yX6_mend ∈ lw_tbl := List.mem_of_getElem? (i := 965) rfl
set_option maxRecDepth 20000 in
theorem mw_521 : Cond.instanceMethod yX6_mend ∈ lw_tbl := List.mem_of_getElem? (i := 964) rfl
set_option maxRecDepth 20000 in
theorem mw_522 : Cond.methodLink RL 76 yX6_mend ∈ lw_tbl := List.mem_of_getElem? (i := 963) rfl
set_option maxRecDepth 20000 in
theorem mw_523 : Cond.code yX5_err cX5_err 6 (some .int) ∈ lw_tbl := List.mem_of_getElem? (i := 501) rfl
set_option maxRecDepth 20000 in
theorem mw_524 : Cond.code yX0_hasErrorsLeft cX0_hasErrorsLeft 2 (some .boolean) ∈ lw_tbl := List.mem_of_getElem? (i := 507) rfl
set_option maxRecDepth 20000 in
theorem mw_525 : Cond.selects RX0 yX0_hasErrorsLeft yX0_hasErrorsLeft ∈ lw_tbl := List.mem_of_getElem? (i := 506) rfl
set_option maxRecDepth 20000 in
theorem mw_526 : Cond.instanceMethod yX0_hasErrorsLeft ∈ lw_tbl := List.mem_of_getElem? (i := 505) rfl
set_option maxRecDepth 20000 in
theorem mw_527 : Cond.methodLink RX5 182 yX0_hasErrorsLeft ∈ lw_tbl := List.mem_of_getElem? (i := 504) rfl
set_option maxRecDepth 20000 in
theorem mw_528 : Cond.methodLink RX5 179 yX5_isDay ∈ lw_tbl := List.mem_of_getElem? (i := 503) rfl
set_option maxRecDepth 20000 in
theorem mw_529 : Cond.methodLink RX5 176 yX5_isTown ∈ lw_tbl := List.mem_of_getElem? (i := 502) rfl
set_option maxRecDepth 20000 in
theorem mw_530 : Cond.methodLink RX0 98 yX0_addError ∈ lw_tbl := List.mem_of_getElem? (i := 512) rfl
set_option maxRecDepth 20000 in
theorem mw_531 : Cond.code yX0_turnErred cX0_turnErred 5 none ∈ lw_tbl := List.mem_of_getElem? (i := 511) rfl
set_option maxRecDepth 20000 in
theorem mw_532 : Cond.selects RX0 yX0_turnErred yX0_turnErred ∈ lw_tbl := List.mem_of_getElem? (i := 510) rfl
set_option maxRecDepth 20000 in
theorem mw_533 : Cond.instanceMethod yX0_turnErred ∈ lw_tbl := List.mem_of_getElem? (i := 509) rfl
set_option maxRecDepth 20000 in
theorem mw_534 : Cond.methodLink RX5 185 yX0_turnErred ∈ lw_tbl := List.mem_of_getElem? (i := 508) rfl
set_option maxRecDepth 20000 in
theorem mw_535 : Cond.selects RX5 yX5_err yX5_err ∈ lw_tbl := List.mem_of_getElem? (i := 500) rfl
set_option maxRecDepth 20000 in
theorem mw_536 : Cond.instanceMethod yX5_err ∈ lw_tbl := List.mem_of_getElem? (i := 499) rfl
set_option maxRecDepth 20000 in
theorem mw_537 : Cond.methodLink RL 77 yX5_err ∈ lw_tbl := List.mem_of_getElem? (i := 498) rfl
set_option maxRecDepth 20000 in
theorem mw_538 : Cond.code yX6_err cX6_err 4 (some .int) ∈ lw_tbl := List.mem_of_getElem? (i := 981) rfl
set_option maxRecDepth 20000 in
theorem mw_539 : Cond.code yX6_comes cX6_comes 6 (some .int) ∈ lw_tbl := List.mem_of_getElem? (i := 990) rfl
set_option maxRecDepth 20000 in
theorem mw_540 : Cond.selects RX6 yX6_comes yX6_comes ∈ lw_tbl := List.mem_of_getElem? (i := 33) rfl
set_option maxRecDepth 20000 in
theorem mw_541 : Cond.instanceMethod yX6_comes ∈ lw_tbl := List.mem_of_getElem? (i := 989) rfl
set_option maxRecDepth 20000 in
theorem mw_542 : Cond.methodLink RX6 168 yX6_comes ∈ lw_tbl := List.mem_of_getElem? (i := 987) rfl
set_option maxRecDepth 20000 in
theorem mw_543 : Cond.constantLong RX6 111 (19) ∈ lw_tbl := List.mem_of_getElem? (i := 986) rfl
set_option maxRecDepth 20000 in
theorem mw_544 : Cond.code yX6_isDay cX6_isDay 1 (some .boolean) ∈ lw_tbl := List.mem_of_getElem? (i := 985) rfl
set_option maxRecDepth 20000 in
theorem mw_545 : Cond.static yX6_isDay ∈ lw_tbl := List.mem_of_getElem? (i := 984) rfl
set_option maxRecDepth 20000 in
theorem mw_546 : Cond.methodLink RX6 165 yX6_isDay ∈ lw_tbl := List.mem_of_getElem? (i := 983) rfl
set_option maxRecDepth 20000 in
theorem mw_547 : Cond.constantLong RX6 163 (4999) ∈ lw_tbl := List.mem_of_getElem? (i := 982) rfl
set_option maxRecDepth 20000 in
theorem mw_548 : Cond.selects RX6 yX6_err yX6_err ∈ lw_tbl := List.mem_of_getElem? (i := 980) rfl
set_option maxRecDepth 20000 in
theorem mw_549 : Cond.instanceMethod yX6_err ∈ lw_tbl := List.mem_of_getElem? (i := 979) rfl
set_option maxRecDepth 20000 in
theorem mw_550 : Cond.methodLink RL 80 yX6_err ∈ lw_tbl := List.mem_of_getElem? (i := 978) rfl
set_option maxRecDepth 20000 in
theorem mw_551 : Cond.code yX5_day cX5_day 1 (some .int) ∈ lw_tbl := List.mem_of_getElem? (i := 516) rfl
set_option maxRecDepth 20000 in
theorem mw_552 : Cond.code yX0_turnDay cX0_turnDay 1 none ∈ lw_tbl := List.mem_of_getElem? (i := 520) rfl
set_option maxRecDepth 20000 in
theorem mw_553 : Cond.selects RX0 yX0_turnDay yX0_turnDay ∈ lw_tbl := List.mem_of_getElem? (i := 519) rfl
set_option maxRecDepth 20000 in
theorem mw_554 : Cond.instanceMethod yX0_turnDay ∈ lw_tbl := List.mem_of_getElem? (i := 518) rfl
set_option maxRecDepth 20000 in
theorem mw_555 : Cond.methodLink RX5 195 yX0_turnDay ∈ lw_tbl := List.mem_of_getElem? (i := 517) rfl
set_option maxRecDepth 20000 in
theorem mw_556 : Cond.selects RX5 yX5_day yX5_day ∈ lw_tbl := List.mem_of_getElem? (i := 515) rfl
set_option maxRecDepth 20000 in
theorem mw_557 : Cond.instanceMethod yX5_day ∈ lw_tbl := List.mem_of_getElem? (i := 514) rfl
set_option maxRecDepth 20000 in
theorem mw_558 : Cond.methodLink RL 81 yX5_day ∈ lw_tbl := List.mem_of_getElem? (i := 513) rfl
set_option maxRecDepth 20000 in
theorem mw_559 : Cond.code yX6_day cX6_day 1 (some .int) ∈ lw_tbl := List.mem_of_getElem? (i := 994) rfl
set_option maxRecDepth 20000 in
theorem mw_560 : Cond.selects RX6 yX6_day yX6_day ∈ lw_tbl := List.mem_of_getElem? (i := 993) rfl
set_option maxRecDepth 20000 in
theorem mw_561 : Cond.instanceMethod yX6_day ∈ lw_tbl := List.mem_of_getElem? (i := 992) rfl
set_option maxRecDepth 20000 in
theorem mw_562 : Cond.methodLink RL 85 yX6_day ∈ lw_tbl := List.mem_of_getElem? (i := 991) rfl
set_option maxRecDepth 20000 in
theorem mw_563 : Cond.code yX5_undo cX5_undo 4 (some .int) ∈ lw_tbl := List.mem_of_getElem? (i := 524) rfl
set_option maxRecDepth 20000 in
theorem mw_564 : Cond.code yX0_turnBack cX0_turnBack 2 none ∈ lw_tbl := List.mem_of_getElem? (i := 528) rfl
set_option maxRecDepth 20000 in
theorem mw_565 : Cond.selects RX0 yX0_turnBack yX0_turnBack ∈ lw_tbl := List.mem_of_getElem? (i := 527) rfl
set_option maxRecDepth 20000 in
theorem mw_566 : Cond.instanceMethod yX0_turnBack ∈ lw_tbl := List.mem_of_getElem? (i := 526) rfl
set_option maxRecDepth 20000 in
theorem mw_567 : Cond.methodLink RX5 198 yX0_turnBack ∈ lw_tbl := List.mem_of_getElem? (i := 525) rfl
set_option maxRecDepth 20000 in
theorem mw_568 : Cond.selects RX5 yX5_undo yX5_undo ∈ lw_tbl := List.mem_of_getElem? (i := 523) rfl
set_option maxRecDepth 20000 in
theorem mw_569 : Cond.instanceMethod yX5_undo ∈ lw_tbl := List.mem_of_getElem? (i := 522) rfl
set_option maxRecDepth 20000 in
theorem mw_570 : Cond.methodLink RL 86 yX5_undo ∈ lw_tbl := List.mem_of_getElem? (i := 521) rfl
set_option maxRecDepth 20000 in
theorem mw_571 : Cond.code yX6_undo cX6_undo 5 (some .int) ∈ lw_tbl := List.mem_of_getElem? (i := 998) rfl
set_option maxRecDepth 20000 in
theorem mw_572 : Cond.selects RX6 yX6_undo yX6_undo ∈ lw_tbl := List.mem_of_getElem? (i := 997) rfl
set_option maxRecDepth 20000 in
theorem mw_573 : Cond.instanceMethod yX6_undo ∈ lw_tbl := List.mem_of_getElem? (i := 996) rfl
set_option maxRecDepth 20000 in
theorem mw_574 : Cond.methodLink RL 89 yX6_undo ∈ lw_tbl := List.mem_of_getElem? (i := 995) rfl
set_option maxRecDepth 20000 in
theorem mw_575 : Cond.code yX5_keep cX5_keep 2 (some .int) ∈ lw_tbl := List.mem_of_getElem? (i := 532) rfl
set_option maxRecDepth 20000 in
theorem mw_576 : Cond.code yX5_isPlace cX5_isPlace 1 (some .boolean) ∈ lw_tbl := List.mem_of_getElem? (i := 535) rfl
set_option maxRecDepth 20000 in
theorem mw_577 : Cond.static yX5_isPlace ∈ lw_tbl := List.mem_of_getElem? (i := 534) rfl
set_option maxRecDepth 20000 in
theorem mw_578 : Cond.methodLink RX5 201 yX5_isPlace ∈ lw_tbl := List.mem_of_getElem? (i := 533) rfl
set_option maxRecDepth 20000 in
theorem mw_579 : Cond.selects RX5 yX5_keep yX5_keep ∈ lw_tbl := List.mem_of_getElem? (i := 531) rfl
set_option maxRecDepth 20000 in
theorem mw_580 : Cond.instanceMethod yX5_keep ∈ lw_tbl := List.mem_of_getElem? (i := 530) rfl
set_option maxRecDepth 20000 in
theorem mw_581 : Cond.methodLink RL 90 yX5_keep ∈ lw_tbl := List.mem_of_getElem? (i := 529) rfl
set_option maxRecDepth 20000 in
theorem mw_582 : Cond.code yX6_keep cX6_keep 2 (some .int) ∈ lw_tbl := List.mem_of_getElem? (i := 1002) rfl
set_option maxRecDepth 20000 in
theorem mw_583 : Cond.constantLong RX6 172 (2) ∈ lw_tbl := List.mem_of_getElem? (i := 1003) rfl
set_option maxRecDepth 20000 in
theorem mw_584 : Cond.selects RX6 yX6_keep yX6_keep ∈ lw_tbl := List.mem_of_getElem? (i := 1001) rfl
set_option maxRecDepth 20000 in
theorem mw_585 : Cond.instanceMethod yX6_keep ∈ lw_tbl := List.mem_of_getElem? (i := 1000) rfl
set_option maxRecDepth 20000 in
theorem mw_586 : Cond.methodLink RL 93 yX6_keep ∈ lw_tbl := List.mem_of_getElem? (i := 999) rfl
set_option maxRecDepth 20000 in
theorem mw_587 : Cond.code yX5_on cX5_on 2 (some .int) ∈ lw_tbl := List.mem_of_getElem? (i := 539) rfl
set_option maxRecDepth 20000 in
theorem mw_588 : Cond.code yX5_isKept cX5_isKept 2 (some .boolean) ∈ lw_tbl := List.mem_of_getElem? (i := 543) rfl
set_option maxRecDepth 20000 in
theorem mw_589 : Cond.selects RX5 yX5_isKept yX5_isKept ∈ lw_tbl := List.mem_of_getElem? (i := 9) rfl
set_option maxRecDepth 20000 in
theorem mw_590 : Cond.instanceMethod yX5_isKept ∈ lw_tbl := List.mem_of_getElem? (i := 542) rfl
set_option maxRecDepth 20000 in
theorem mw_591 : Cond.methodLink RX5 204 yX5_isKept ∈ lw_tbl := List.mem_of_getElem? (i := 540) rfl
set_option maxRecDepth 20000 in
theorem mw_592 : Cond.selects RX5 yX5_on yX5_on ∈ lw_tbl := List.mem_of_getElem? (i := 538) rfl
set_option maxRecDepth 20000 in
theorem mw_593 : Cond.instanceMethod yX5_on ∈ lw_tbl := List.mem_of_getElem? (i := 537) rfl
set_option maxRecDepth 20000 in
theorem mw_594 : Cond.methodLink RL 94 yX5_on ∈ lw_tbl := List.mem_of_getElem? (i := 536) rfl
set_option maxRecDepth 20000 in
theorem mw_595 : Cond.code yX6_on cX6_on 2 (some .int) ∈ lw_tbl := List.mem_of_getElem? (i := 1007) rfl
set_option maxRecDepth 20000 in
theorem mw_596 : Cond.selects RX6 yX6_on yX6_on ∈ lw_tbl := List.mem_of_getElem? (i := 1006) rfl
set_option maxRecDepth 20000 in
theorem mw_597 : Cond.instanceMethod yX6_on ∈ lw_tbl := List.mem_of_getElem? (i := 1005) rfl
set_option maxRecDepth 20000 in
theorem mw_598 : Cond.methodLink RL 97 yX6_on ∈ lw_tbl := List.mem_of_getElem? (i := 1004) rfl
set_option maxRecDepth 20000 in
theorem mw_599 : Cond.code yX5_does cX5_does 4 (some .int) ∈ lw_tbl := List.mem_of_getElem? (i := 547) rfl
set_option maxRecDepth 20000 in
theorem mw_600 : Cond.methodLink RX5 207 yX0_done ∈ lw_tbl := List.mem_of_getElem? (i := 548) rfl
set_option maxRecDepth 20000 in
theorem mw_601 : Cond.selects RX5 yX5_does yX5_does ∈ lw_tbl := List.mem_of_getElem? (i := 546) rfl
set_option maxRecDepth 20000 in
theorem mw_602 : Cond.instanceMethod yX5_does ∈ lw_tbl := List.mem_of_getElem? (i := 545) rfl
set_option maxRecDepth 20000 in
theorem mw_603 : Cond.methodLink RL 98 yX5_does ∈ lw_tbl := List.mem_of_getElem? (i := 544) rfl
set_option maxRecDepth 20000 in
theorem mw_604 : Cond.code yX6_does cX6_does 4 (some .int) ∈ lw_tbl := List.mem_of_getElem? (i := 1011) rfl
set_option maxRecDepth 20000 in
theorem mw_605 : Cond.code yX6_isTown cX6_isTown 1 (some .boolean) ∈ lw_tbl := List.mem_of_getElem? (i := 1014) rfl
set_option maxRecDepth 20000 in
theorem mw_606 : Cond.static yX6_isTown ∈ lw_tbl := List.mem_of_getElem? (i := 1013) rfl
set_option maxRecDepth 20000 in
theorem mw_607 : Cond.methodLink RX6 174 yX6_isTown ∈ lw_tbl := List.mem_of_getElem? (i := 1012) rfl
set_option maxRecDepth 20000 in
theorem mw_608 : Cond.selects RX6 yX6_does yX6_does ∈ lw_tbl := List.mem_of_getElem? (i := 1010) rfl
set_option maxRecDepth 20000 in
theorem mw_609 : Cond.instanceMethod yX6_does ∈ lw_tbl := List.mem_of_getElem? (i := 1009) rfl
set_option maxRecDepth 20000 in
theorem mw_610 : Cond.methodLink RL 101 yX6_does ∈ lw_tbl := List.mem_of_getElem? (i := 1008) rfl
set_option maxRecDepth 20000 in
theorem mw_611 : Cond.code yX5_differ cX5_differ 4 (some .int) ∈ lw_tbl := List.mem_of_getElem? (i := 552) rfl
set_option maxRecDepth 20000 in
theorem mw_612 : Cond.methodLink RX0 132 yX0_differs ∈ lw_tbl := List.mem_of_getElem? (i := 560) rfl
set_option maxRecDepth 20000 in
theorem mw_613 : Cond.code yX0_differing cX0_differing 6 (some .int) ∈ lw_tbl := List.mem_of_getElem? (i := 559) rfl
set_option maxRecDepth 20000 in
theorem mw_614 : Cond.selects RX0 yX0_differing yX0_differing ∈ lw_tbl := List.mem_of_getElem? (i := 558) rfl
set_option maxRecDepth 20000 in
theorem mw_615 : Cond.instanceMethod yX0_differing ∈ lw_tbl := List.mem_of_getElem? (i := 557) rfl
set_option maxRecDepth 20000 in
theorem mw_616 : Cond.methodLink RX5 214 yX0_differing ∈ lw_tbl := List.mem_of_getElem? (i := 556) rfl
set_option maxRecDepth 20000 in
theorem mw_617 : Cond.code yX5_arePair cX5_arePair 2 (some .boolean) ∈ lw_tbl := List.mem_of_getElem? (i := 555) rfl
set_option maxRecDepth 20000 in
theorem mw_618 : Cond.static yX5_arePair ∈ lw_tbl := List.mem_of_getElem? (i := 554) rfl
set_option maxRecDepth 20000 in
theorem mw_619 : Cond.methodLink RX5 211 yX5_arePair ∈ lw_tbl := List.mem_of_getElem? (i := 553) rfl
set_option maxRecDepth 20000 in
theorem mw_620 : Cond.code yX0_differs cX0_differs 6 (some .boolean) ∈ lw_tbl := List.mem_of_getElem? (i := 563) rfl
set_option maxRecDepth 20000 in
theorem mw_621 : Cond.selects RX0 yX0_differs yX0_differs ∈ lw_tbl := List.mem_of_getElem? (i := 562) rfl
set_option maxRecDepth 20000 in
theorem mw_622 : Cond.instanceMethod yX0_differs ∈ lw_tbl := List.mem_of_getElem? (i := 561) rfl
set_option maxRecDepth 20000 in
theorem mw_623 : Cond.selects RX5 yX5_differ yX5_differ ∈ lw_tbl := List.mem_of_getElem? (i := 551) rfl
set_option maxRecDepth 20000 in
theorem mw_624 : Cond.instanceMethod yX5_differ ∈ lw_tbl := List.mem_of_getElem? (i := 550) rfl
set_option maxRecDepth 20000 in
theorem mw_625 : Cond.methodLink RL 102 yX5_differ ∈ lw_tbl := List.mem_of_getElem? (i := 549) rfl
set_option maxRecDepth 20000 in
theorem mw_626 : Cond.code yX6_differ cX6_differ 4 (some .int) ∈ lw_tbl := List.mem_of_getElem? (i := 1018) rfl
set_option maxRecDepth 20000 in
theorem mw_627 : Cond.code yX6_differing cX6_differing 7 (some .int) ∈ lw_tbl := List.mem_of_getElem? (i := 1025) rfl
set_option maxRecDepth 20000 in
theorem mw_628 : Cond.selects RX6 yX6_differing yX6_differing ∈ lw_tbl := List.mem_of_getElem? (i := 34) rfl
set_option maxRecDepth 20000 in
theorem mw_629 : Cond.instanceMethod yX6_differing ∈ lw_tbl := List.mem_of_getElem? (i := 1024) rfl
set_option maxRecDepth 20000 in
theorem mw_630 : Cond.methodLink RX6 184 yX6_differing ∈ lw_tbl := List.mem_of_getElem? (i := 1022) rfl
set_option maxRecDepth 20000 in
theorem mw_631 : Cond.code yX6_areTowns cX6_areTowns 2 (some .boolean) ∈ lw_tbl := List.mem_of_getElem? (i := 1021) rfl
set_option maxRecDepth 20000 in
theorem mw_632 : Cond.static yX6_areTowns ∈ lw_tbl := List.mem_of_getElem? (i := 1020) rfl
set_option maxRecDepth 20000 in
theorem mw_633 : Cond.methodLink RX6 181 yX6_areTowns ∈ lw_tbl := List.mem_of_getElem? (i := 1019) rfl
set_option maxRecDepth 20000 in
theorem mw_634 : Cond.code yX6_differs cX6_differs 4 (some .boolean) ∈ lw_tbl := List.mem_of_getElem? (i := 1029) rfl
set_option maxRecDepth 20000 in
theorem mw_635 : Cond.selects RX6 yX6_differs yX6_differs ∈ lw_tbl := List.mem_of_getElem? (i := 35) rfl
set_option maxRecDepth 20000 in
theorem mw_636 : Cond.instanceMethod yX6_differs ∈ lw_tbl := List.mem_of_getElem? (i := 1028) rfl
set_option maxRecDepth 20000 in
theorem mw_637 : Cond.methodLink RX6 177 yX6_differs ∈ lw_tbl := List.mem_of_getElem? (i := 1026) rfl
set_option maxRecDepth 20000 in
theorem mw_638 : Cond.selects RX6 yX6_differ yX6_differ ∈ lw_tbl := List.mem_of_getElem? (i := 1017) rfl
set_option maxRecDepth 20000 in
theorem mw_639 : Cond.instanceMethod yX6_differ ∈ lw_tbl := List.mem_of_getElem? (i := 1016) rfl
set_option maxRecDepth 20000 in
theorem mw_640 : Cond.methodLink RL 105 yX6_differ ∈ lw_tbl := List.mem_of_getElem? (i := 1015) rfl
set_option maxRecDepth 20000 in
theorem mw_641 : Cond.code yX5_since cX5_since 7 (some .int) ∈ lw_tbl := List.mem_of_getElem? (i := 567) rfl
set_option maxRecDepth 20000 in
theorem mw_642 : Cond.methodLink RX5 221 yX0_differs ∈ lw_tbl := List.mem_of_getElem? (i := 569) rfl
set_option maxRecDepth 20000 in
theorem mw_643 : Cond.methodLink RX5 217 yX0_unmended ∈ lw_tbl := List.mem_of_getElem? (i := 568) rfl
set_option maxRecDepth 20000 in
theorem mw_644 : Cond.selects RX5 yX5_since yX5_since ∈ lw_tbl := List.mem_of_getElem? (i := 566) rfl
set_option maxRecDepth 20000 in
theorem mw_645 : Cond.instanceMethod yX5_since ∈ lw_tbl := List.mem_of_getElem? (i := 565) rfl
set_option maxRecDepth 20000 in
theorem mw_646 : Cond.methodLink RL 106 yX5_since ∈ lw_tbl := List.mem_of_getElem? (i := 564) rfl
set_option maxRecDepth 20000 in
theorem mw_647 : Cond.code yX6_since cX6_since 8 (some .int) ∈ lw_tbl := List.mem_of_getElem? (i := 1033) rfl
set_option maxRecDepth 20000 in
theorem mw_648 : Cond.code yX6_answer cX6_answer 3 (some .int) ∈ lw_tbl := List.mem_of_getElem? (i := 1037) rfl
set_option maxRecDepth 20000 in
theorem mw_649 : Cond.selects RX6 yX6_answer yX6_answer ∈ lw_tbl := List.mem_of_getElem? (i := 36) rfl
set_option maxRecDepth 20000 in
theorem mw_650 : Cond.instanceMethod yX6_answer ∈ lw_tbl := List.mem_of_getElem? (i := 1036) rfl
set_option maxRecDepth 20000 in
theorem mw_651 : Cond.methodLink RX6 187 yX6_answer ∈ lw_tbl := List.mem_of_getElem? (i := 1034) rfl
set_option maxRecDepth 20000 in
theorem mw_652 : Cond.selects RX6 yX6_since yX6_since ∈ lw_tbl := List.mem_of_getElem? (i := 1032) rfl
set_option maxRecDepth 20000 in
theorem mw_653 : Cond.instanceMethod yX6_since ∈ lw_tbl := List.mem_of_getElem? (i := 1031) rfl
set_option maxRecDepth 20000 in
theorem mw_654 : Cond.methodLink RL 109 yX6_since ∈ lw_tbl := List.mem_of_getElem? (i := 1030) rfl
set_option maxRecDepth 20000 in
theorem mw_655 : Cond.code yX5_worst cX5_worst 6 (some .int) ∈ lw_tbl := List.mem_of_getElem? (i := 573) rfl
set_option maxRecDepth 20000 in
theorem mw_656 : Cond.selects RX5 yX5_worst yX5_worst ∈ lw_tbl := List.mem_of_getElem? (i := 572) rfl
set_option maxRecDepth 20000 in
theorem mw_657 : Cond.instanceMethod yX5_worst ∈ lw_tbl := List.mem_of_getElem? (i := 571) rfl
set_option maxRecDepth 20000 in
theorem mw_658 : Cond.methodLink RL 110 yX5_worst ∈ lw_tbl := List.mem_of_getElem? (i := 570) rfl
set_option maxRecDepth 20000 in
theorem mw_659 : Cond.code yX6_worst cX6_worst 6 (some .int) ∈ lw_tbl := List.mem_of_getElem? (i := 1041) rfl
set_option maxRecDepth 20000 in
theorem mw_660 : Cond.selects RX6 yX6_worst yX6_worst ∈ lw_tbl := List.mem_of_getElem? (i := 1040) rfl
set_option maxRecDepth 20000 in
theorem mw_661 : Cond.instanceMethod yX6_worst ∈ lw_tbl := List.mem_of_getElem? (i := 1039) rfl
set_option maxRecDepth 20000 in
theorem mw_662 : Cond.methodLink RL 113 yX6_worst ∈ lw_tbl := List.mem_of_getElem? (i := 1038) rfl
set_option maxRecDepth 20000 in
theorem mw_663 : Cond.code yX5_source cX5_source 9 (some .int) ∈ lw_tbl := List.mem_of_getElem? (i := 577) rfl
set_option maxRecDepth 20000 in
theorem mw_664 : Cond.methodLink RX5 225 yX0_doneIf ∈ lw_tbl := List.mem_of_getElem? (i := 578) rfl
set_option maxRecDepth 20000 in
theorem mw_665 : Cond.selects RX5 yX5_source yX5_source ∈ lw_tbl := List.mem_of_getElem? (i := 576) rfl
set_option maxRecDepth 20000 in
theorem mw_666 : Cond.instanceMethod yX5_source ∈ lw_tbl := List.mem_of_getElem? (i := 575) rfl
set_option maxRecDepth 20000 in
theorem mw_667 : Cond.methodLink RL 114 yX5_source ∈ lw_tbl := List.mem_of_getElem? (i := 574) rfl
set_option maxRecDepth 20000 in
theorem mw_668 : Cond.code yX6_source cX6_source 8 (some .int) ∈ lw_tbl := List.mem_of_getElem? (i := 1045) rfl
set_option maxRecDepth 20000 in
theorem mw_669 : Cond.selects RX6 yX6_source yX6_source ∈ lw_tbl := List.mem_of_getElem? (i := 1044) rfl
set_option maxRecDepth 20000 in
theorem mw_670 : Cond.instanceMethod yX6_source ∈ lw_tbl := List.mem_of_getElem? (i := 1043) rfl
set_option maxRecDepth 20000 in
theorem mw_671 : Cond.methodLink RL 117 yX6_source ∈ lw_tbl := List.mem_of_getElem? (i := 1042) rfl
set_option maxRecDepth 20000 in
theorem mw_672 : Cond.code yX5_together cX5_together 7 (some .int) ∈ lw_tbl := List.mem_of_getElem? (i := 582) rfl
set_option maxRecDepth 20000 in
theorem mw_673 : Cond.selects RX5 yX5_together yX5_together ∈ lw_tbl := List.mem_of_getElem? (i := 581) rfl
set_option maxRecDepth 20000 in
theorem mw_674 : Cond.instanceMethod yX5_together ∈ lw_tbl := List.mem_of_getElem? (i := 580) rfl
set_option maxRecDepth 20000 in
theorem mw_675 : Cond.methodLink RL 118 yX5_together ∈ lw_tbl := List.mem_of_getElem? (i := 579) rfl
set_option maxRecDepth 20000 in
theorem mw_676 : Cond.code yX6_together cX6_together 8 (some .int) ∈ lw_tbl := List.mem_of_getElem? (i := 1049) rfl
set_option maxRecDepth 20000 in
theorem mw_677 : Cond.selects RX6 yX6_together yX6_together ∈ lw_tbl := List.mem_of_getElem? (i := 1048) rfl
set_option maxRecDepth 20000 in
theorem mw_678 : Cond.instanceMethod yX6_together ∈ lw_tbl := List.mem_of_getElem? (i := 1047) rfl
set_option maxRecDepth 20000 in
theorem mw_679 : Cond.methodLink RL 121 yX6_together ∈ lw_tbl := List.mem_of_getElem? (i := 1046) rfl
set_option maxRecDepth 20000 in
theorem mw_680 : Cond.code yX5_warn cX5_warn 7 (some .int) ∈ lw_tbl := List.mem_of_getElem? (i := 586) rfl
set_option maxRecDepth 20000 in
theorem mw_681 : Cond.code yX5_isDeed cX5_isDeed 1 (some .boolean) ∈ lw_tbl := List.mem_of_getElem? (i := 589) rfl
set_option maxRecDepth 20000 in
theorem mw_682 : Cond.static yX5_isDeed ∈ lw_tbl := List.mem_of_getElem? (i := 588) rfl
set_option maxRecDepth 20000 in
theorem mw_683 : Cond.methodLink RX5 229 yX5_isDeed ∈ lw_tbl := List.mem_of_getElem? (i := 587) rfl
set_option maxRecDepth 20000 in
theorem mw_684 : Cond.code yX0_doneIfWarned cX0_doneIfWarned 5 (some .int) ∈ lw_tbl := List.mem_of_getElem? (i := 593) rfl
set_option maxRecDepth 20000 in
theorem mw_685 : Cond.selects RX0 yX0_doneIfWarned yX0_doneIfWarned ∈ lw_tbl := List.mem_of_getElem? (i := 592) rfl
set_option maxRecDepth 20000 in
theorem mw_686 : Cond.instanceMethod yX0_doneIfWarned ∈ lw_tbl := List.mem_of_getElem? (i := 591) rfl
set_option maxRecDepth 20000 in
theorem mw_687 : Cond.methodLink RX5 232 yX0_doneIfWarned ∈ lw_tbl := List.mem_of_getElem? (i := 590) rfl
set_option maxRecDepth 20000 in
theorem mw_688 : Cond.selects RX5 yX5_warn yX5_warn ∈ lw_tbl := List.mem_of_getElem? (i := 585) rfl
set_option maxRecDepth 20000 in
theorem mw_689 : Cond.instanceMethod yX5_warn ∈ lw_tbl := List.mem_of_getElem? (i := 584) rfl
set_option maxRecDepth 20000 in
theorem mw_690 : Cond.methodLink RL 122 yX5_warn ∈ lw_tbl := List.mem_of_getElem? (i := 583) rfl
set_option maxRecDepth 20000 in
theorem mw_691 : Cond.code yX6_warn cX6_warn 7 (some .int) ∈ lw_tbl := List.mem_of_getElem? (i := 1053) rfl
set_option maxRecDepth 20000 in
theorem mw_692 : Cond.selects RX6 yX6_warn yX6_warn ∈ lw_tbl := List.mem_of_getElem? (i := 1052) rfl
set_option maxRecDepth 20000 in
theorem mw_693 : Cond.instanceMethod yX6_warn ∈ lw_tbl := List.mem_of_getElem? (i := 1051) rfl
set_option maxRecDepth 20000 in
theorem mw_694 : Cond.methodLink RL 126 yX6_warn ∈ lw_tbl := List.mem_of_getElem? (i := 1050) rfl
set_option maxRecDepth 20000 in
theorem mw_695 : Cond.code yX5_agree cX5_agree 7 (some .int) ∈ lw_tbl := List.mem_of_getElem? (i := 597) rfl
set_option maxRecDepth 20000 in
theorem mw_696 : Cond.methodLink RX0 136 yX0_onTheWay ∈ lw_tbl := List.mem_of_getElem? (i := 602) rfl
set_option maxRecDepth 20000 in
theorem mw_697 : Cond.code yX0_fewestMended cX0_fewestMended 12 (some .int) ∈ lw_tbl := List.mem_of_getElem? (i := 601) rfl
set_option maxRecDepth 20000 in
theorem mw_698 : Cond.selects RX0 yX0_fewestMended yX0_fewestMended ∈ lw_tbl := List.mem_of_getElem? (i := 600) rfl
set_option maxRecDepth 20000 in
theorem mw_699 : Cond.instanceMethod yX0_fewestMended ∈ lw_tbl := List.mem_of_getElem? (i := 599) rfl
set_option maxRecDepth 20000 in
theorem mw_700 : Cond.methodLink RX5 235 yX0_fewestMended ∈ lw_tbl := List.mem_of_getElem? (i := 598) rfl
set_option maxRecDepth 20000 in
theorem mw_701 : Cond.methodLink RX0 139 yJ6_bitCount_0f7a4 ∈ lw_tbl := List.mem_of_getElem? (i := 606) rfl
set_option maxRecDepth 20000 in
theorem mw_702 : Cond.code yX0_onTheWay cX0_onTheWay 6 (some .int) ∈ lw_tbl := List.mem_of_getElem? (i := 605) rfl
set_option maxRecDepth 20000 in
theorem mw_703 : Cond.selects RX0 yX0_onTheWay yX0_onTheWay ∈ lw_tbl := List.mem_of_getElem? (i := 604) rfl
set_option maxRecDepth 20000 in
theorem mw_704 : Cond.instanceMethod yX0_onTheWay ∈ lw_tbl := List.mem_of_getElem? (i := 603) rfl
set_option maxRecDepth 20000 in
theorem mw_705 : Cond.code yX5_nextSet cX5_nextSet 2 (some .int) ∈ lw_tbl := List.mem_of_getElem? (i := 609) rfl
set_option maxRecDepth 20000 in
theorem mw_706 : Cond.static yX5_nextSet ∈ lw_tbl := List.mem_of_getElem? (i := 608) rfl
set_option maxRecDepth 20000 in
theorem mw_707 : Cond.selects RX5 yX5_agree yX5_agree ∈ lw_tbl := List.mem_of_getElem? (i := 596) rfl
set_option maxRecDepth 20000 in
theorem mw_708 : Cond.instanceMethod yX5_agree ∈ lw_tbl := List.mem_of_getElem? (i := 595) rfl
set_option maxRecDepth 20000 in
theorem mw_709 : Cond.methodLink RL 127 yX5_agree ∈ lw_tbl := List.mem_of_getElem? (i := 594) rfl
set_option maxRecDepth 20000 in
theorem mw_710 : Cond.code yX6_agree cX6_agree 8 (some .int) ∈ lw_tbl := List.mem_of_getElem? (i := 1057) rfl
set_option maxRecDepth 20000 in
theorem mw_711 : Cond.selects RX6 yX6_agree yX6_agree ∈ lw_tbl := List.mem_of_getElem? (i := 1056) rfl
set_option maxRecDepth 20000 in
theorem mw_712 : Cond.instanceMethod yX6_agree ∈ lw_tbl := List.mem_of_getElem? (i := 1055) rfl
set_option maxRecDepth 20000 in
theorem mw_713 : Cond.methodLink RL 130 yX6_agree ∈ lw_tbl := List.mem_of_getElem? (i := 1054) rfl
set_option maxRecDepth 20000 in
theorem mw_714 : Cond.code yX5_next cX5_next 6 (some .int) ∈ lw_tbl := List.mem_of_getElem? (i := 613) rfl
set_option maxRecDepth 20000 in
theorem mw_715 : Cond.selects RX5 yX5_next yX5_next ∈ lw_tbl := List.mem_of_getElem? (i := 612) rfl
set_option maxRecDepth 20000 in
theorem mw_716 : Cond.instanceMethod yX5_next ∈ lw_tbl := List.mem_of_getElem? (i := 611) rfl
set_option maxRecDepth 20000 in
theorem mw_717 : Cond.methodLink RL 131 yX5_next ∈ lw_tbl := List.mem_of_getElem? (i := 610) rfl
set_option maxRecDepth 20000 in
theorem mw_718 : Cond.code yX6_next cX6_next 6 (some .int) ∈ lw_tbl := List.mem_of_getElem? (i := 1061) rfl
set_option maxRecDepth 20000 in
theorem mw_719 : Cond.selects RX6 yX6_next yX6_next ∈ lw_tbl := List.mem_of_getElem? (i := 1060) rfl
set_option maxRecDepth 20000 in
theorem mw_720 : Cond.instanceMethod yX6_next ∈ lw_tbl := List.mem_of_getElem? (i := 1059) rfl
set_option maxRecDepth 20000 in
theorem mw_721 : Cond.methodLink RL 134 yX6_next ∈ lw_tbl := List.mem_of_getElem? (i := 1058) rfl
set_option maxRecDepth 20000 in
theorem mw_722 : Cond.code yX5_letter cX5_letter 8 (some .int) ∈ lw_tbl := List.mem_of_getElem? (i := 617) rfl
set_option maxRecDepth 20000 in
theorem mw_723 : Cond.selects RX5 yX5_letter yX5_letter ∈ lw_tbl := List.mem_of_getElem? (i := 616) rfl
set_option maxRecDepth 20000 in
theorem mw_724 : Cond.instanceMethod yX5_letter ∈ lw_tbl := List.mem_of_getElem? (i := 615) rfl
set_option maxRecDepth 20000 in
theorem mw_725 : Cond.methodLink RL 135 yX5_letter ∈ lw_tbl := List.mem_of_getElem? (i := 614) rfl
set_option maxRecDepth 20000 in
theorem mw_726 : Cond.code yX6_letter cX6_letter 7 (some .int) ∈ lw_tbl := List.mem_of_getElem? (i := 1065) rfl
set_option maxRecDepth 20000 in
theorem mw_727 : Cond.selects RX6 yX6_letter yX6_letter ∈ lw_tbl := List.mem_of_getElem? (i := 1064) rfl
set_option maxRecDepth 20000 in
theorem mw_728 : Cond.instanceMethod yX6_letter ∈ lw_tbl := List.mem_of_getElem? (i := 1063) rfl
set_option maxRecDepth 20000 in
theorem mw_729 : Cond.methodLink RL 138 yX6_letter ∈ lw_tbl := List.mem_of_getElem? (i := 1062) rfl
set_option maxRecDepth 20000 in
theorem mw_730 : Cond.code yX5_fits cX5_fits 3 (some .int) ∈ lw_tbl := List.mem_of_getElem? (i := 621) rfl
set_option maxRecDepth 20000 in
theorem mw_731 : Cond.code yX5_foursRefused cX5_foursRefused 2 (some .int) ∈ lw_tbl := List.mem_of_getElem? (i := 625) rfl
set_option maxRecDepth 20000 in
theorem mw_732 : Cond.selects RX5 yX5_foursRefused yX5_foursRefused ∈ lw_tbl := List.mem_of_getElem? (i := 10) rfl
set_option maxRecDepth 20000 in
theorem mw_733 : Cond.instanceMethod yX5_foursRefused ∈ lw_tbl := List.mem_of_getElem? (i := 624) rfl
set_option maxRecDepth 20000 in
theorem mw_734 : Cond.methodLink RX5 238 yX5_foursRefused ∈ lw_tbl := List.mem_of_getElem? (i := 622) rfl
set_option maxRecDepth 20000 in
theorem mw_735 : Cond.code yX5_areFours cX5_areFours 5 (some .boolean) ∈ lw_tbl := List.mem_of_getElem? (i := 629) rfl
set_option maxRecDepth 20000 in
theorem mw_736 : Cond.selects RX5 yX5_areFours yX5_areFours ∈ lw_tbl := List.mem_of_getElem? (i := 11) rfl
set_option maxRecDepth 20000 in
theorem mw_737 : Cond.instanceMethod yX5_areFours ∈ lw_tbl := List.mem_of_getElem? (i := 628) rfl
set_option maxRecDepth 20000 in
theorem mw_738 : Cond.methodLink RX5 329 yX5_areFours ∈ lw_tbl := List.mem_of_getElem? (i := 626) rfl
set_option maxRecDepth 20000 in
theorem mw_739 : Cond.methodLink RX1 25 yX0_unmended ∈ lw_tbl := List.mem_of_getElem? (i := 634) rfl
set_option maxRecDepth 20000 in
theorem mw_740 : Cond.code yX1_find cX1_find 7 none ∈ lw_tbl := List.mem_of_getElem? (i := 633) rfl
set_option maxRecDepth 20000 in
theorem mw_741 : Cond.selects RX1 yX1_find yX1_find ∈ lw_tbl := List.mem_of_getElem? (i := 632) rfl
set_option maxRecDepth 20000 in
theorem mw_742 : Cond.instanceMethod yX1_find ∈ lw_tbl := List.mem_of_getElem? (i := 631) rfl
set_option maxRecDepth 20000 in
theorem mw_743 : Cond.methodLink RX5 241 yX1_find ∈ lw_tbl := List.mem_of_getElem? (i := 630) rfl
set_option maxRecDepth 20000 in
theorem mw_744 : Cond.methodLink RX1 35 yJ6_bitCount_0f7a4 ∈ lw_tbl := List.mem_of_getElem? (i := 641) rfl
set_option maxRecDepth 20000 in
theorem mw_745 : Cond.methodLink RX1 64 yX0_onTheWay ∈ lw_tbl := List.mem_of_getElem? (i := 640) rfl
set_option maxRecDepth 20000 in
theorem mw_746 : Cond.methodLink RX1 61 yX3_get ∈ lw_tbl := List.mem_of_getElem? (i := 639) rfl
set_option maxRecDepth 20000 in
theorem mw_747 : Cond.methodLink RX1 56 yX3_sizeOf ∈ lw_tbl := List.mem_of_getElem? (i := 638) rfl
set_option maxRecDepth 20000 in
theorem mw_748 : Cond.code yX1_onTheWays cX1_onTheWays 7 (some .int) ∈ lw_tbl := List.mem_of_getElem? (i := 637) rfl
set_option maxRecDepth 20000 in
theorem mw_749 : Cond.static yX1_onTheWays ∈ lw_tbl := List.mem_of_getElem? (i := 636) rfl
set_option maxRecDepth 20000 in
theorem mw_750 : Cond.methodLink RX1 31 yX1_onTheWays ∈ lw_tbl := List.mem_of_getElem? (i := 635) rfl
set_option maxRecDepth 20000 in
theorem mw_751 : Cond.methodLink RX1 72 yX0_doneIf ∈ lw_tbl := List.mem_of_getElem? (i := 650) rfl
set_option maxRecDepth 20000 in
theorem mw_752 : Cond.code yX1_isAsTold cX1_isAsTold 8 (some .boolean) ∈ lw_tbl := List.mem_of_getElem? (i := 649) rfl
set_option maxRecDepth 20000 in
theorem mw_753 : Cond.selects RX1 yX1_isAsTold yX1_isAsTold ∈ lw_tbl := List.mem_of_getElem? (i := 648) rfl
set_option maxRecDepth 20000 in
theorem mw_754 : Cond.instanceMethod yX1_isAsTold ∈ lw_tbl := List.mem_of_getElem? (i := 647) rfl
set_option maxRecDepth 20000 in
theorem mw_755 : Cond.methodLink RX1 68 yX1_isAsTold ∈ lw_tbl := List.mem_of_getElem? (i := 646) rfl
set_option maxRecDepth 20000 in
theorem mw_756 : Cond.code yX1_isAllAsTold cX1_isAllAsTold 7 (some .boolean) ∈ lw_tbl := List.mem_of_getElem? (i := 645) rfl
set_option maxRecDepth 20000 in
theorem mw_757 : Cond.selects RX1 yX1_isAllAsTold yX1_isAllAsTold ∈ lw_tbl := List.mem_of_getElem? (i := 12) rfl
set_option maxRecDepth 20000 in
theorem mw_758 : Cond.instanceMethod yX1_isAllAsTold ∈ lw_tbl := List.mem_of_getElem? (i := 644) rfl
set_option maxRecDepth 20000 in
theorem mw_759 : Cond.methodLink RX1 41 yX1_isAllAsTold ∈ lw_tbl := List.mem_of_getElem? (i := 642) rfl
set_option maxRecDepth 20000 in
theorem mw_760 : Cond.methodLink RX5 252 yX4_tell ∈ lw_tbl := List.mem_of_getElem? (i := 660) rfl
set_option maxRecDepth 20000 in
theorem mw_761 : Cond.code yX1_addFree cX1_addFree 2 none ∈ lw_tbl := List.mem_of_getElem? (i := 659) rfl
set_option maxRecDepth 20000 in
theorem mw_762 : Cond.selects RX1 yX1_addFree yX1_addFree ∈ lw_tbl := List.mem_of_getElem? (i := 14) rfl
set_option maxRecDepth 20000 in
theorem mw_763 : Cond.instanceMethod yX1_addFree ∈ lw_tbl := List.mem_of_getElem? (i := 658) rfl
set_option maxRecDepth 20000 in
theorem mw_764 : Cond.methodLink RX1 53 yX1_addFree ∈ lw_tbl := List.mem_of_getElem? (i := 656) rfl
set_option maxRecDepth 20000 in
theorem mw_765 : Cond.code yX1_add cX1_add 2 none ∈ lw_tbl := List.mem_of_getElem? (i := 654) rfl
set_option maxRecDepth 20000 in
theorem mw_766 : Cond.selects RX1 yX1_add yX1_add ∈ lw_tbl := List.mem_of_getElem? (i := 13) rfl
set_option maxRecDepth 20000 in
theorem mw_767 : Cond.instanceMethod yX1_add ∈ lw_tbl := List.mem_of_getElem? (i := 653) rfl
set_option maxRecDepth 20000 in
theorem mw_768 : Cond.methodLink RX1 45 yX1_add ∈ lw_tbl := List.mem_of_getElem? (i := 651) rfl
set_option maxRecDepth 20000 in
theorem mw_769 : Cond.code yX4_greatestShared cX4_greatestShared 11 (some .long) ∈ lw_tbl := List.mem_of_getElem? (i := 666) rfl
set_option maxRecDepth 20000 in
theorem mw_770 : Cond.static yX4_greatestShared ∈ lw_tbl := List.mem_of_getElem? (i := 665) rfl
set_option maxRecDepth 20000 in
theorem mw_771 : Cond.methodLink RX4 29 yX4_greatestShared ∈ lw_tbl := List.mem_of_getElem? (i := 664) rfl
set_option maxRecDepth 20000 in
theorem mw_772 : Cond.code yX4_tell cX4_tell 7 none ∈ lw_tbl := List.mem_of_getElem? (i := 663) rfl
set_option maxRecDepth 20000 in
theorem mw_773 : Cond.selects RX4 yX4_tell yX4_tell ∈ lw_tbl := List.mem_of_getElem? (i := 662) rfl
set_option maxRecDepth 20000 in
theorem mw_774 : Cond.instanceMethod yX4_tell ∈ lw_tbl := List.mem_of_getElem? (i := 661) rfl
set_option maxRecDepth 20000 in
theorem mw_775 : Cond.selects RX5 yX5_fits yX5_fits ∈ lw_tbl := List.mem_of_getElem? (i := 620) rfl
set_option maxRecDepth 20000 in
theorem mw_776 : Cond.instanceMethod yX5_fits ∈ lw_tbl := List.mem_of_getElem? (i := 619) rfl
set_option maxRecDepth 20000 in
theorem mw_777 : Cond.methodLink RL 139 yX5_fits ∈ lw_tbl := List.mem_of_getElem? (i := 618) rfl
set_option maxRecDepth 20000 in
theorem mw_778 : Cond.code yX6_fits cX6_fits 8 (some .int) ∈ lw_tbl := List.mem_of_getElem? (i := 1069) rfl
set_option maxRecDepth 20000 in
theorem mw_779 : Cond.code yX6_fours cX6_fours 5 (some .int) ∈ lw_tbl := List.mem_of_getElem? (i := 1073) rfl
set_option maxRecDepth 20000 in
theorem mw_780 : Cond.selects RX6 yX6_fours yX6_fours ∈ lw_tbl := List.mem_of_getElem? (i := 37) rfl
set_option maxRecDepth 20000 in
theorem mw_781 : Cond.instanceMethod yX6_fours ∈ lw_tbl := List.mem_of_getElem? (i := 1072) rfl
set_option maxRecDepth 20000 in
theorem mw_782 : Cond.methodLink RX6 190 yX6_fours ∈ lw_tbl := List.mem_of_getElem? (i := 1070) rfl
set_option maxRecDepth 20000 in
theorem mw_783 : Cond.fieldLink RX6 196 "TownRepeatedModel" "upper" "J" ∈ lw_tbl := List.mem_of_getElem? (i := 772) rfl
set_option maxRecDepth 20000 in
theorem mw_784 : Cond.code yX6_fitsBy cX6_fitsBy 7 (some .boolean) ∈ lw_tbl := List.mem_of_getElem? (i := 1077) rfl
set_option maxRecDepth 20000 in
theorem mw_785 : Cond.selects RX6 yX6_fitsBy yX6_fitsBy ∈ lw_tbl := List.mem_of_getElem? (i := 38) rfl
set_option maxRecDepth 20000 in
theorem mw_786 : Cond.instanceMethod yX6_fitsBy ∈ lw_tbl := List.mem_of_getElem? (i := 1076) rfl
set_option maxRecDepth 20000 in
theorem mw_787 : Cond.methodLink RX6 193 yX6_fitsBy ∈ lw_tbl := List.mem_of_getElem? (i := 1074) rfl
set_option maxRecDepth 20000 in
theorem mw_788 : Cond.selects RX6 yX6_fits yX6_fits ∈ lw_tbl := List.mem_of_getElem? (i := 1068) rfl
set_option maxRecDepth 20000 in
theorem mw_789 : Cond.instanceMethod yX6_fits ∈ lw_tbl := List.mem_of_getElem? (i := 1067) rfl
set_option maxRecDepth 20000 in
theorem mw_790 : Cond.methodLink RL 142 yX6_fits ∈ lw_tbl := List.mem_of_getElem? (i := 1066) rfl
set_option maxRecDepth 20000 in
theorem mw_791 : Cond.code yX5_sure cX5_sure 3 (some .int) ∈ lw_tbl := List.mem_of_getElem? (i := 670) rfl
set_option maxRecDepth 20000 in
theorem mw_792 : Cond.selects RX5 yX5_sure yX5_sure ∈ lw_tbl := List.mem_of_getElem? (i := 669) rfl
set_option maxRecDepth 20000 in
theorem mw_793 : Cond.instanceMethod yX5_sure ∈ lw_tbl := List.mem_of_getElem? (i := 668) rfl
set_option maxRecDepth 20000 in
theorem mw_794 : Cond.methodLink RL 143 yX5_sure ∈ lw_tbl := List.mem_of_getElem? (i := 667) rfl
set_option maxRecDepth 20000 in
theorem mw_795 : Cond.code yX6_sure cX6_sure 8 (some .int) ∈ lw_tbl := List.mem_of_getElem? (i := 1081) rfl
set_option maxRecDepth 20000 in
theorem mw_796 : Cond.selects RX6 yX6_sure yX6_sure ∈ lw_tbl := List.mem_of_getElem? (i := 1080) rfl
set_option maxRecDepth 20000 in
theorem mw_797 : Cond.instanceMethod yX6_sure ∈ lw_tbl := List.mem_of_getElem? (i := 1079) rfl
set_option maxRecDepth 20000 in
theorem mw_798 : Cond.methodLink RL 146 yX6_sure ∈ lw_tbl := List.mem_of_getElem? (i := 1078) rfl
set_option maxRecDepth 20000 in
theorem mw_799 : Cond.code yX5_lies cX5_lies 7 (some .int) ∈ lw_tbl := List.mem_of_getElem? (i := 674) rfl
set_option maxRecDepth 20000 in
theorem mw_800 : Cond.methodLink RX5 262 yX1_isAsTold ∈ lw_tbl := List.mem_of_getElem? (i := 675) rfl
set_option maxRecDepth 20000 in
theorem mw_801 : Cond.selects RX5 yX5_lies yX5_lies ∈ lw_tbl := List.mem_of_getElem? (i := 673) rfl
set_option maxRecDepth 20000 in
theorem mw_802 : Cond.instanceMethod yX5_lies ∈ lw_tbl := List.mem_of_getElem? (i := 672) rfl
set_option maxRecDepth 20000 in
theorem mw_803 : Cond.methodLink RL 147 yX5_lies ∈ lw_tbl := List.mem_of_getElem? (i := 671) rfl
set_option maxRecDepth 20000 in
theorem mw_804 : Cond.code yX6_lies cX6_lies 8 (some .int) ∈ lw_tbl := List.mem_of_getElem? (i := 1085) rfl
set_option maxRecDepth 20000 in
theorem mw_805 : Cond.selects RX6 yX6_lies yX6_lies ∈ lw_tbl := List.mem_of_getElem? (i := 1084) rfl
set_option maxRecDepth 20000 in
theorem mw_806 : Cond.instanceMethod yX6_lies ∈ lw_tbl := List.mem_of_getElem? (i := 1083) rfl
set_option maxRecDepth 20000 in
theorem mw_807 : Cond.methodLink RL 150 yX6_lies ∈ lw_tbl := List.mem_of_getElem? (i := 1082) rfl
set_option maxRecDepth 20000 in
theorem mw_808 : Cond.code yX5_odds cX5_odds 13 (some .int) ∈ lw_tbl := List.mem_of_getElem? (i := 679) rfl
set_option maxRecDepth 20000 in
theorem mw_809 : Cond.methodLink RX5 266 yX0_onTheWay ∈ lw_tbl := List.mem_of_getElem? (i := 680) rfl
set_option maxRecDepth 20000 in
theorem mw_810 : Cond.static yX5_power ∈ lw_tbl := List.mem_of_getElem? (i := 682) rfl
set_option maxRecDepth 20000 in
theorem mw_811 : Cond.methodLink RX5 269 yX5_power ∈ lw_tbl := List.mem_of_getElem? (i := 681) rfl
set_option maxRecDepth 20000 in
theorem mw_812 : Cond.methodLink RX5 273 yX5_nextSet ∈ lw_tbl := List.mem_of_getElem? (i := 684) rfl
set_option maxRecDepth 20000 in
theorem mw_813 : Cond.code yX5_power cX5_power 5 (some .long) ∈ lw_tbl := List.mem_of_getElem? (i := 683) rfl
set_option maxRecDepth 20000 in
theorem mw_814 : Cond.selects RX5 yX5_odds yX5_odds ∈ lw_tbl := List.mem_of_getElem? (i := 678) rfl
set_option maxRecDepth 20000 in
theorem mw_815 : Cond.instanceMethod yX5_odds ∈ lw_tbl := List.mem_of_getElem? (i := 677) rfl
set_option maxRecDepth 20000 in
theorem mw_816 : Cond.methodLink RL 151 yX5_odds ∈ lw_tbl := List.mem_of_getElem? (i := 676) rfl
set_option maxRecDepth 20000 in
theorem mw_817 : Cond.code yX6_odds cX6_odds 15 (some .int) ∈ lw_tbl := List.mem_of_getElem? (i := 1089) rfl
set_option maxRecDepth 20000 in
theorem mw_818 : Cond.constantLong RX6 199 (12) ∈ lw_tbl := List.mem_of_getElem? (i := 1090) rfl
set_option maxRecDepth 20000 in
theorem mw_819 : Cond.code yX6_fraction cX6_fraction 11 (some .int) ∈ lw_tbl := List.mem_of_getElem? (i := 1094) rfl
set_option maxRecDepth 20000 in
theorem mw_820 : Cond.selects RX6 yX6_fraction yX6_fraction ∈ lw_tbl := List.mem_of_getElem? (i := 39) rfl
set_option maxRecDepth 20000 in
theorem mw_821 : Cond.instanceMethod yX6_fraction ∈ lw_tbl := List.mem_of_getElem? (i := 1093) rfl
set_option maxRecDepth 20000 in
theorem mw_822 : Cond.methodLink RX6 201 yX6_fraction ∈ lw_tbl := List.mem_of_getElem? (i := 1091) rfl
set_option maxRecDepth 20000 in
theorem mw_823 : Cond.selects RX6 yX6_odds yX6_odds ∈ lw_tbl := List.mem_of_getElem? (i := 1088) rfl
set_option maxRecDepth 20000 in
theorem mw_824 : Cond.instanceMethod yX6_odds ∈ lw_tbl := List.mem_of_getElem? (i := 1087) rfl
set_option maxRecDepth 20000 in
theorem mw_825 : Cond.methodLink RL 154 yX6_odds ∈ lw_tbl := List.mem_of_getElem? (i := 1086) rfl
set_option maxRecDepth 20000 in
theorem mw_826 : Cond.code yX5_lots cX5_lots 10 (some .int) ∈ lw_tbl := List.mem_of_getElem? (i := 688) rfl
set_option maxRecDepth 20000 in
theorem mw_827 : Cond.constantLong RX5 291 (9) ∈ lw_tbl := List.mem_of_getElem? (i := 697) rfl
set_option maxRecDepth 20000 in
theorem mw_828 : Cond.constantLong RX5 289 (4096) ∈ lw_tbl := List.mem_of_getElem? (i := 696) rfl
set_option maxRecDepth 20000 in
theorem mw_829 : Cond.constantLong RX5 287 (256) ∈ lw_tbl := List.mem_of_getElem? (i := 695) rfl
set_option maxRecDepth 20000 in
theorem mw_830 : Cond.constantLong RX5 285 (20) ∈ lw_tbl := List.mem_of_getElem? (i := 694) rfl
set_option maxRecDepth 20000 in
theorem mw_831 : Cond.constantLong RX5 283 (8) ∈ lw_tbl := List.mem_of_getElem? (i := 693) rfl
set_option maxRecDepth 20000 in
theorem mw_832 : Cond.constantLong RX5 281 (5) ∈ lw_tbl := List.mem_of_getElem? (i := 692) rfl
set_option maxRecDepth 20000 in
theorem mw_833 : Cond.constantLong RX5 279 (2147483647) ∈ lw_tbl := List.mem_of_getElem? (i := 691) rfl
set_option maxRecDepth 20000 in
theorem mw_834 : Cond.constantLong RX5 277 (48271) ∈ lw_tbl := List.mem_of_getElem? (i := 690) rfl
set_option maxRecDepth 20000 in
theorem mw_835 : Cond.constant RX5 276 (2147483646) ∈ lw_tbl := List.mem_of_getElem? (i := 689) rfl
set_option maxRecDepth 20000 in
theorem mw_836 : Cond.selects RX5 yX5_lots yX5_lots ∈ lw_tbl := List.mem_of_getElem? (i := 687) rfl
set_option maxRecDepth 20000 in
theorem mw_837 : Cond.instanceMethod yX5_lots ∈ lw_tbl := List.mem_of_getElem? (i := 686) rfl
set_option maxRecDepth 20000 in
theorem mw_838 : Cond.methodLink RL 155 yX5_lots ∈ lw_tbl := List.mem_of_getElem? (i := 685) rfl
set_option maxRecDepth 20000 in
theorem mw_839 : Cond.code yX6_lots cX6_lots 8 (some .int) ∈ lw_tbl := List.mem_of_getElem? (i := 1098) rfl
set_option maxRecDepth 20000 in
theorem mw_840 : Cond.constantLong RX6 211 (2147483647) ∈ lw_tbl := List.mem_of_getElem? (i := 1102) rfl
set_option maxRecDepth 20000 in
theorem mw_841 : Cond.constantLong RX6 209 (48271) ∈ lw_tbl := List.mem_of_getElem? (i := 1101) rfl
set_option maxRecDepth 20000 in
theorem mw_842 : Cond.constantLong RX6 207 (2147483646) ∈ lw_tbl := List.mem_of_getElem? (i := 1100) rfl
set_option maxRecDepth 20000 in
theorem mw_843 : Cond.constantLong RX6 205 (10) ∈ lw_tbl := List.mem_of_getElem? (i := 1099) rfl
set_option maxRecDepth 20000 in
theorem mw_844 : Cond.selects RX6 yX6_lots yX6_lots ∈ lw_tbl := List.mem_of_getElem? (i := 1097) rfl
set_option maxRecDepth 20000 in
theorem mw_845 : Cond.instanceMethod yX6_lots ∈ lw_tbl := List.mem_of_getElem? (i := 1096) rfl
set_option maxRecDepth 20000 in
theorem mw_846 : Cond.methodLink RL 158 yX6_lots ∈ lw_tbl := List.mem_of_getElem? (i := 1095) rfl
set_option maxRecDepth 20000 in
theorem mw_847 : Cond.code yX5_asked cX5_asked 1 (some .int) ∈ lw_tbl := List.mem_of_getElem? (i := 701) rfl
set_option maxRecDepth 20000 in
theorem mw_848 : Cond.selects RX5 yX5_asked yX5_asked ∈ lw_tbl := List.mem_of_getElem? (i := 700) rfl
set_option maxRecDepth 20000 in
theorem mw_849 : Cond.instanceMethod yX5_asked ∈ lw_tbl := List.mem_of_getElem? (i := 699) rfl
set_option maxRecDepth 20000 in
theorem mw_850 : Cond.methodLink RL 159 yX5_asked ∈ lw_tbl := List.mem_of_getElem? (i := 698) rfl
set_option maxRecDepth 20000 in
theorem mw_851 : Cond.code yX6_asked cX6_asked 1 (some .int) ∈ lw_tbl := List.mem_of_getElem? (i := 1106) rfl
set_option maxRecDepth 20000 in
theorem mw_852 : Cond.selects RX6 yX6_asked yX6_asked ∈ lw_tbl := List.mem_of_getElem? (i := 1105) rfl
set_option maxRecDepth 20000 in
theorem mw_853 : Cond.instanceMethod yX6_asked ∈ lw_tbl := List.mem_of_getElem? (i := 1104) rfl
set_option maxRecDepth 20000 in
theorem mw_854 : Cond.methodLink RL 162 yX6_asked ∈ lw_tbl := List.mem_of_getElem? (i := 1103) rfl
set_option maxRecDepth 20000 in
theorem mw_855 : Cond.code yX5_upper cX5_upper 1 (some .long) ∈ lw_tbl := List.mem_of_getElem? (i := 705) rfl
set_option maxRecDepth 20000 in
theorem mw_856 : Cond.selects RX5 yX5_upper yX5_upper ∈ lw_tbl := List.mem_of_getElem? (i := 704) rfl
set_option maxRecDepth 20000 in
theorem mw_857 : Cond.instanceMethod yX5_upper ∈ lw_tbl := List.mem_of_getElem? (i := 703) rfl
set_option maxRecDepth 20000 in
theorem mw_858 : Cond.methodLink RL 163 yX5_upper ∈ lw_tbl := List.mem_of_getElem? (i := 702) rfl
set_option maxRecDepth 20000 in
theorem mw_859 : Cond.code yX6_upper cX6_upper 1 (some .long) ∈ lw_tbl := List.mem_of_getElem? (i := 1110) rfl
set_option maxRecDepth 20000 in
theorem mw_860 : Cond.selects RX6 yX6_upper yX6_upper ∈ lw_tbl := List.mem_of_getElem? (i := 1109) rfl
set_option maxRecDepth 20000 in
theorem mw_861 : Cond.instanceMethod yX6_upper ∈ lw_tbl := List.mem_of_getElem? (i := 1108) rfl
set_option maxRecDepth 20000 in
theorem mw_862 : Cond.methodLink RL 167 yX6_upper ∈ lw_tbl := List.mem_of_getElem? (i := 1107) rfl
set_option maxRecDepth 20000 in
theorem mw_863 : Cond.code yX5_lower cX5_lower 1 (some .long) ∈ lw_tbl := List.mem_of_getElem? (i := 709) rfl
set_option maxRecDepth 20000 in
theorem mw_864 : Cond.selects RX5 yX5_lower yX5_lower ∈ lw_tbl := List.mem_of_getElem? (i := 708) rfl
set_option maxRecDepth 20000 in
theorem mw_865 : Cond.instanceMethod yX5_lower ∈ lw_tbl := List.mem_of_getElem? (i := 707) rfl
set_option maxRecDepth 20000 in
theorem mw_866 : Cond.methodLink RL 168 yX5_lower ∈ lw_tbl := List.mem_of_getElem? (i := 706) rfl
set_option maxRecDepth 20000 in
theorem mw_867 : Cond.code yX6_lower cX6_lower 1 (some .long) ∈ lw_tbl := List.mem_of_getElem? (i := 1114) rfl
set_option maxRecDepth 20000 in
theorem mw_868 : Cond.selects RX6 yX6_lower yX6_lower ∈ lw_tbl := List.mem_of_getElem? (i := 1113) rfl
set_option maxRecDepth 20000 in
theorem mw_869 : Cond.instanceMethod yX6_lower ∈ lw_tbl := List.mem_of_getElem? (i := 1112) rfl
set_option maxRecDepth 20000 in
theorem mw_870 : Cond.methodLink RL 171 yX6_lower ∈ lw_tbl := List.mem_of_getElem? (i := 1111) rfl
set_option maxRecDepth 20000 in
theorem mw_871 : Cond.code yX5_count cX5_count 2 (some .int) ∈ lw_tbl := List.mem_of_getElem? (i := 713) rfl
set_option maxRecDepth 20000 in
theorem mw_872 : Cond.methodLink RX0 72 yX0_isOfKind ∈ lw_tbl := List.mem_of_getElem? (i := 722) rfl
set_option maxRecDepth 20000 in
theorem mw_873 : Cond.code yX0_drifters cX0_drifters 3 (some .int) ∈ lw_tbl := List.mem_of_getElem? (i := 721) rfl
set_option maxRecDepth 20000 in
theorem mw_874 : Cond.selects RX0 yX0_drifters yX0_drifters ∈ lw_tbl := List.mem_of_getElem? (i := 720) rfl
set_option maxRecDepth 20000 in
theorem mw_875 : Cond.instanceMethod yX0_drifters ∈ lw_tbl := List.mem_of_getElem? (i := 719) rfl
set_option maxRecDepth 20000 in
theorem mw_876 : Cond.methodLink RX5 317 yX0_drifters ∈ lw_tbl := List.mem_of_getElem? (i := 718) rfl
set_option maxRecDepth 20000 in
theorem mw_877 : Cond.code yX5_howMany cX5_howMany 2 (some .int) ∈ lw_tbl := List.mem_of_getElem? (i := 717) rfl
set_option maxRecDepth 20000 in
theorem mw_878 : Cond.selects RX5 yX5_howMany yX5_howMany ∈ lw_tbl := List.mem_of_getElem? (i := 15) rfl
set_option maxRecDepth 20000 in
theorem mw_879 : Cond.instanceMethod yX5_howMany ∈ lw_tbl := List.mem_of_getElem? (i := 716) rfl
set_option maxRecDepth 20000 in
theorem mw_880 : Cond.methodLink RX5 299 yX5_howMany ∈ lw_tbl := List.mem_of_getElem? (i := 714) rfl
set_option maxRecDepth 20000 in
theorem mw_881 : Cond.methodLink RX5 323 yX5_keptChains ∈ lw_tbl := List.mem_of_getElem? (i := 727) rfl
set_option maxRecDepth 20000 in
theorem mw_882 : Cond.code yX3_howManyThere cX3_howManyThere 3 (some .int) ∈ lw_tbl := List.mem_of_getElem? (i := 726) rfl
set_option maxRecDepth 20000 in
theorem mw_883 : Cond.selects RX3 yX3_howManyThere yX3_howManyThere ∈ lw_tbl := List.mem_of_getElem? (i := 725) rfl
set_option maxRecDepth 20000 in
theorem mw_884 : Cond.instanceMethod yX3_howManyThere ∈ lw_tbl := List.mem_of_getElem? (i := 724) rfl
set_option maxRecDepth 20000 in
theorem mw_885 : Cond.methodLink RX5 320 yX3_howManyThere ∈ lw_tbl := List.mem_of_getElem? (i := 723) rfl
set_option maxRecDepth 20000 in
theorem mw_886 : Cond.code yX5_keptChains cX5_keptChains 3 (some .int) ∈ lw_tbl := List.mem_of_getElem? (i := 730) rfl
set_option maxRecDepth 20000 in
theorem mw_887 : Cond.selects RX5 yX5_keptChains yX5_keptChains ∈ lw_tbl := List.mem_of_getElem? (i := 16) rfl
set_option maxRecDepth 20000 in
theorem mw_888 : Cond.instanceMethod yX5_keptChains ∈ lw_tbl := List.mem_of_getElem? (i := 729) rfl
set_option maxRecDepth 20000 in
theorem mw_889 : Cond.selects RX5 yX5_count yX5_count ∈ lw_tbl := List.mem_of_getElem? (i := 712) rfl
set_option maxRecDepth 20000 in
theorem mw_890 : Cond.instanceMethod yX5_count ∈ lw_tbl := List.mem_of_getElem? (i := 711) rfl
set_option maxRecDepth 20000 in
theorem mw_891 : Cond.methodLink RL 172 yX5_count ∈ lw_tbl := List.mem_of_getElem? (i := 710) rfl
set_option maxRecDepth 20000 in
theorem mw_892 : Cond.code yX6_count cX6_count 2 (some .int) ∈ lw_tbl := List.mem_of_getElem? (i := 1118) rfl
set_option maxRecDepth 20000 in
theorem mw_893 : Cond.code yX6_counted cX6_counted 5 (some .int) ∈ lw_tbl := List.mem_of_getElem? (i := 1123) rfl
set_option maxRecDepth 20000 in
theorem mw_894 : Cond.selects RX6 yX6_counted yX6_counted ∈ lw_tbl := List.mem_of_getElem? (i := 40) rfl
set_option maxRecDepth 20000 in
theorem mw_895 : Cond.instanceMethod yX6_counted ∈ lw_tbl := List.mem_of_getElem? (i := 1122) rfl
set_option maxRecDepth 20000 in
theorem mw_896 : Cond.methodLink RX6 215 yX6_counted ∈ lw_tbl := List.mem_of_getElem? (i := 1120) rfl
set_option maxRecDepth 20000 in
theorem mw_897 : Cond.constantLong RX6 213 (8) ∈ lw_tbl := List.mem_of_getElem? (i := 1119) rfl
set_option maxRecDepth 20000 in
theorem mw_898 : Cond.selects RX6 yX6_count yX6_count ∈ lw_tbl := List.mem_of_getElem? (i := 1117) rfl
set_option maxRecDepth 20000 in
theorem mw_899 : Cond.instanceMethod yX6_count ∈ lw_tbl := List.mem_of_getElem? (i := 1116) rfl
set_option maxRecDepth 20000 in
theorem mw_900 : Cond.methodLink RL 175 yX6_count ∈ lw_tbl := List.mem_of_getElem? (i := 1115) rfl
set_option maxRecDepth 20000 in
theorem mw_901 : Cond.code yX5_finding cX5_finding 1 (some .int) ∈ lw_tbl := List.mem_of_getElem? (i := 734) rfl
set_option maxRecDepth 20000 in
theorem mw_902 : Cond.selects RX5 yX5_finding yX5_finding ∈ lw_tbl := List.mem_of_getElem? (i := 733) rfl
set_option maxRecDepth 20000 in
theorem mw_903 : Cond.instanceMethod yX5_finding ∈ lw_tbl := List.mem_of_getElem? (i := 732) rfl
set_option maxRecDepth 20000 in
theorem mw_904 : Cond.methodLink RL 176 yX5_finding ∈ lw_tbl := List.mem_of_getElem? (i := 731) rfl
set_option maxRecDepth 20000 in
theorem mw_905 : Cond.code yX6_finding cX6_finding 1 (some .int) ∈ lw_tbl := List.mem_of_getElem? (i := 1127) rfl
set_option maxRecDepth 20000 in
theorem mw_906 : Cond.selects RX6 yX6_finding yX6_finding ∈ lw_tbl := List.mem_of_getElem? (i := 1126) rfl
set_option maxRecDepth 20000 in
theorem mw_907 : Cond.instanceMethod yX6_finding ∈ lw_tbl := List.mem_of_getElem? (i := 1125) rfl
set_option maxRecDepth 20000 in
theorem mw_908 : Cond.methodLink RL 179 yX6_finding ∈ lw_tbl := List.mem_of_getElem? (i := 1124) rfl
set_option maxRecDepth 20000 in
theorem mw_909 : Cond.code yX5_findings cX5_findings 2 (some .int) ∈ lw_tbl := List.mem_of_getElem? (i := 738) rfl
set_option maxRecDepth 20000 in
theorem mw_910 : Cond.selects RX5 yX5_findings yX5_findings ∈ lw_tbl := List.mem_of_getElem? (i := 737) rfl
set_option maxRecDepth 20000 in
theorem mw_911 : Cond.instanceMethod yX5_findings ∈ lw_tbl := List.mem_of_getElem? (i := 736) rfl
set_option maxRecDepth 20000 in
theorem mw_912 : Cond.methodLink RL 180 yX5_findings ∈ lw_tbl := List.mem_of_getElem? (i := 735) rfl
set_option maxRecDepth 20000 in
theorem mw_913 : Cond.code yX6_findings cX6_findings 2 (some .int) ∈ lw_tbl := List.mem_of_getElem? (i := 1131) rfl
set_option maxRecDepth 20000 in
theorem mw_914 : Cond.selects RX6 yX6_findings yX6_findings ∈ lw_tbl := List.mem_of_getElem? (i := 1130) rfl
set_option maxRecDepth 20000 in
theorem mw_915 : Cond.instanceMethod yX6_findings ∈ lw_tbl := List.mem_of_getElem? (i := 1129) rfl
set_option maxRecDepth 20000 in
theorem mw_916 : Cond.methodLink RL 183 yX6_findings ∈ lw_tbl := List.mem_of_getElem? (i := 1128) rfl
set_option maxRecDepth 20000 in
theorem mw_917 : Cond.code yX5_digest cX5_digest 4 (some .long) ∈ lw_tbl := List.mem_of_getElem? (i := 742) rfl
set_option maxRecDepth 20000 in
theorem mw_918 : Cond.constantLong RX5 310 (31) ∈ lw_tbl := List.mem_of_getElem? (i := 744) rfl
set_option maxRecDepth 20000 in
theorem mw_919 : Cond.constantLong RX5 308 (17) ∈ lw_tbl := List.mem_of_getElem? (i := 743) rfl
set_option maxRecDepth 20000 in
theorem mw_920 : Cond.methodLink RX0 87 yX0_personTrait ∈ lw_tbl := List.mem_of_getElem? (i := 750) rfl
set_option maxRecDepth 20000 in
theorem mw_921 : Cond.constantLong RX0 85 (31) ∈ lw_tbl := List.mem_of_getElem? (i := 749) rfl
set_option maxRecDepth 20000 in
theorem mw_922 : Cond.code yX0_digestOn cX0_digestOn 7 (some .long) ∈ lw_tbl := List.mem_of_getElem? (i := 748) rfl
set_option maxRecDepth 20000 in
theorem mw_923 : Cond.selects RX0 yX0_digestOn yX0_digestOn ∈ lw_tbl := List.mem_of_getElem? (i := 747) rfl
set_option maxRecDepth 20000 in
theorem mw_924 : Cond.instanceMethod yX0_digestOn ∈ lw_tbl := List.mem_of_getElem? (i := 746) rfl
set_option maxRecDepth 20000 in
theorem mw_925 : Cond.methodLink RX5 312 yX0_digestOn ∈ lw_tbl := List.mem_of_getElem? (i := 745) rfl
set_option maxRecDepth 20000 in
theorem mw_926 : Cond.methodLink RX0 91 yX0_errorTrait ∈ lw_tbl := List.mem_of_getElem? (i := 751) rfl
set_option maxRecDepth 20000 in
theorem mw_927 : Cond.methodLink RX3 53 yX3_get ∈ lw_tbl := List.mem_of_getElem? (i := 757) rfl
set_option maxRecDepth 20000 in
theorem mw_928 : Cond.constantLong RX3 51 (31) ∈ lw_tbl := List.mem_of_getElem? (i := 756) rfl
set_option maxRecDepth 20000 in
theorem mw_929 : Cond.code yX3_digestOn cX3_digestOn 7 (some .long) ∈ lw_tbl := List.mem_of_getElem? (i := 755) rfl
set_option maxRecDepth 20000 in
theorem mw_930 : Cond.selects RX3 yX3_digestOn yX3_digestOn ∈ lw_tbl := List.mem_of_getElem? (i := 754) rfl
set_option maxRecDepth 20000 in
theorem mw_931 : Cond.instanceMethod yX3_digestOn ∈ lw_tbl := List.mem_of_getElem? (i := 753) rfl
set_option maxRecDepth 20000 in
theorem mw_932 : Cond.methodLink RX5 316 yX3_digestOn ∈ lw_tbl := List.mem_of_getElem? (i := 752) rfl
set_option maxRecDepth 20000 in
theorem mw_933 : Cond.selects RX5 yX5_digest yX5_digest ∈ lw_tbl := List.mem_of_getElem? (i := 741) rfl
set_option maxRecDepth 20000 in
theorem mw_934 : Cond.instanceMethod yX5_digest ∈ lw_tbl := List.mem_of_getElem? (i := 740) rfl
set_option maxRecDepth 20000 in
theorem mw_935 : Cond.methodLink RL 184 yX5_digest ∈ lw_tbl := List.mem_of_getElem? (i := 739) rfl
set_option maxRecDepth 20000 in
theorem mw_936 : Cond.code yX6_digest cX6_digest 5 (some .long) ∈ lw_tbl := List.mem_of_getElem? (i := 1135) rfl
set_option maxRecDepth 20000 in
theorem mw_937 : Cond.constantLong RX6 220 (31) ∈ lw_tbl := List.mem_of_getElem? (i := 1137) rfl
set_option maxRecDepth 20000 in
theorem mw_938 : Cond.constantLong RX6 218 (17) ∈ lw_tbl := List.mem_of_getElem? (i := 1136) rfl
set_option maxRecDepth 20000 in
theorem mw_939 : Cond.selects RX6 yX6_digest yX6_digest ∈ lw_tbl := List.mem_of_getElem? (i := 1134) rfl
set_option maxRecDepth 20000 in
theorem mw_940 : Cond.instanceMethod yX6_digest ∈ lw_tbl := List.mem_of_getElem? (i := 1133) rfl
set_option maxRecDepth 20000 in
theorem mw_941 : Cond.methodLink RL 187 yX6_digest ∈ lw_tbl := List.mem_of_getElem? (i := 1132) rfl
