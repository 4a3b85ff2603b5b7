theorem iwX0 : ∀ w ∈ u_ws RX0 TX0 2, w ∈ tWALL := fun w h => List.mem_filter.mpr ⟨(by decide +kernel : ∀ w ∈ u_ws RX0 TX0 2, w ∈ lw_tbl) w h, (by decide +kernel : ∀ w ∈ u_ws RX0 TX0 2, goodWord w = true) w h⟩
theorem iwX1 : ∀ w ∈ u_ws RX1 TX1 5, w ∈ tWALL := fun w h => List.mem_filter.mpr ⟨(by decide +kernel : ∀ w ∈ u_ws RX1 TX1 5, w ∈ lw_tbl) w h, (by decide +kernel : ∀ w ∈ u_ws RX1 TX1 5, goodWord w = true) w h⟩
theorem iwX2 : ∀ w ∈ u_ws RX2 TX2 4, w ∈ tWALL := fun w h => List.mem_filter.mpr ⟨(by decide +kernel : ∀ w ∈ u_ws RX2 TX2 4, w ∈ lw_tbl) w h, (by decide +kernel : ∀ w ∈ u_ws RX2 TX2 4, goodWord w = true) w h⟩
theorem iwX3 : ∀ w ∈ u_ws RX3 TX3 4, w ∈ tWALL := fun w h => List.mem_filter.mpr ⟨(by decide +kernel : ∀ w ∈ u_ws RX3 TX3 4, w ∈ lw_tbl) w h, (by decide +kernel : ∀ w ∈ u_ws RX3 TX3 4, goodWord w = true) w h⟩
theorem iwX4 : ∀ w ∈ u_ws RX4 TX4 2, w ∈ tWALL := fun w h => List.mem_filter.mpr ⟨(by decide +kernel : ∀ w ∈ u_ws RX4 TX4 2, w ∈ lw_tbl) w h, (by decide +kernel : ∀ w ∈ u_ws RX4 TX4 2, goodWord w = true) w h⟩
theorem iwX5 : ∀ w ∈ u_ws RX5 TX5 2, w ∈ tWALL := fun w h => List.mem_filter.mpr ⟨(by decide +kernel : ∀ w ∈ u_ws RX5 TX5 2, w ∈ lw_tbl) w h, (by decide +kernel : ∀ w ∈ u_ws RX5 TX5 2, goodWord w = true) w h⟩
theorem iwX6 : ∀ w ∈ u_ws RX6 TX6 3, w ∈ tWALL := fun w h => List.mem_filter.mpr ⟨(by decide +kernel : ∀ w ∈ u_ws RX6 TX6 3, w ∈ lw_tbl) w h, (by decide +kernel : ∀ w ∈ u_ws RX6 TX6 3, goodWord w = true) w h⟩
theorem iwX7 : ∀ w ∈ u_ws RX7 TX7 13, w ∈ tWALL := fun w h => List.mem_filter.mpr ⟨(by decide +kernel : ∀ w ∈ u_ws RX7 TX7 13, w ∈ lw_tbl) w h, (by decide +kernel : ∀ w ∈ u_ws RX7 TX7 13, goodWord w = true) w h⟩
theorem iwX8 : ∀ w ∈ u_ws RX8 TX8 29, w ∈ tWALL := fun w h => List.mem_filter.mpr ⟨(by decide +kernel : ∀ w ∈ u_ws RX8 TX8 29, w ∈ lw_tbl) w h, (by decide +kernel : ∀ w ∈ u_ws RX8 TX8 29, goodWord w = true) w h⟩
theorem kw_0 : Cond.fieldLink RX4 15 "TowerPipers$Tape" "length" "I" ∈ tWALL := tin1 (List.mem_of_getElem? (i := 29) (by decide +kernel)) rfl
theorem kw_1 : Cond.initialized RX4 ∈ tWALL := tin1 (List.mem_of_getElem? (i := 2) (by decide +kernel)) rfl
theorem kw_2 : Cond.code yX4_size cX4_size 1 (some .int) ∈ tWALL := tin1 (List.mem_of_getElem? (i := 202) (by decide +kernel)) rfl
theorem kw_3 : Cond.code yX4_hasRoom cX4_hasRoom 1 (some .boolean) ∈ tWALL := tin1 (List.mem_of_getElem? (i := 194) (by decide +kernel)) rfl
theorem kw_4 : Cond.fieldLink RX4 11 "TowerPipers$Tape" "bytes" "[I" ∈ tWALL := tin1 (List.mem_of_getElem? (i := 28) (by decide +kernel)) rfl
theorem kw_5 : Cond.code yX4_put cX4_put 3 none ∈ tWALL := tin1 (List.mem_of_getElem? (i := 198) (by decide +kernel)) rfl
theorem kw_6 : Cond.initialized RX7 ∈ tWALL := tin1 (List.mem_of_getElem? (i := 1) (by decide +kernel)) rfl
theorem kw_7 : Cond.code yX7_within cX7_within 3 (some .boolean) ∈ tWALL := tin1 (List.mem_of_getElem? (i := 225) (by decide +kernel)) rfl
theorem kw_8 : Cond.static yX7_within ∈ tWALL := tin1 (List.mem_of_getElem? (i := 224) (by decide +kernel)) rfl
theorem kw_9 : Cond.methodLinkNest RX4 19 yX7_within "TowerPipers" ∈ tNEST := tne1 (List.mem_of_getElem? (i := 223) (by decide +kernel)) rfl
theorem kw_10 : Cond.code yX4_byteAt cX4_byteAt 2 (some .int) ∈ tWALL := tin1 (List.mem_of_getElem? (i := 222) (by decide +kernel)) rfl
theorem kw_11 : Cond.code yX4_empty cX4_empty 1 none ∈ tWALL := tin2 (List.mem_of_getElem? (i := 6) (by decide +kernel)) rfl
theorem kw_12 : Cond.methodLinkNest RX5 18 yX7_within "TowerPipers" ∈ tNEST := tne1 (List.mem_of_getElem? (i := 234) (by decide +kernel)) rfl
theorem kw_13 : Cond.fieldLink RX5 9 "TowerPipers$TownWord" "numbers" "[I" ∈ tWALL := tin1 (List.mem_of_getElem? (i := 42) (by decide +kernel)) rfl
theorem kw_14 : Cond.initialized RX5 ∈ tWALL := tin1 (List.mem_of_getElem? (i := 3) (by decide +kernel)) rfl
theorem kw_15 : Cond.code yX5_number cX5_number 2 (some .int) ∈ tWALL := tin2 (List.mem_of_getElem? (i := 76) (by decide +kernel)) rfl
theorem kw_16 : Cond.methodLink RX5 52 yX4_byteAt ∈ tWALL := tin1 (List.mem_of_getElem? (i := 219) (by decide +kernel)) rfl
theorem kw_17 : Cond.instanceMethod yX4_byteAt ∈ tWALL := tin1 (List.mem_of_getElem? (i := 220) (by decide +kernel)) rfl
theorem kw_18 : Cond.selects RX4 yX4_byteAt yX4_byteAt ∈ tWALL := tin1 (List.mem_of_getElem? (i := 221) (by decide +kernel)) rfl
theorem kw_19 : Cond.fieldLink RX5 58 "TowerPipers$TownWord" "LETTERS" "[C" ∈ tWALL := tin1 (List.mem_of_getElem? (i := 226) (by decide +kernel)) rfl
theorem kw_20 : Cond.code yX5_kindAt cX5_kindAt 4 (some .int) ∈ tWALL := tin1 (List.mem_of_getElem? (i := 218) (by decide +kernel)) rfl
theorem kw_21 : Cond.code yX5_isDigit cX5_isDigit 3 (some .boolean) ∈ tWALL := tin1 (List.mem_of_getElem? (i := 233) (by decide +kernel)) rfl
theorem kw_22 : Cond.static yX5_isDigit ∈ tWALL := tin1 (List.mem_of_getElem? (i := 232) (by decide +kernel)) rfl
theorem kw_23 : Cond.methodLink RX5 48 yX5_isDigit ∈ tWALL := tin1 (List.mem_of_getElem? (i := 231) (by decide +kernel)) rfl
theorem kw_24 : Cond.code yX5_endOfDigits cX5_endOfDigits 4 (some .int) ∈ tWALL := tin1 (List.mem_of_getElem? (i := 230) (by decide +kernel)) rfl
theorem kw_25 : Cond.code yX5_numberBetween cX5_numberBetween 5 (some .int) ∈ tWALL := tin1 (List.mem_of_getElem? (i := 237) (by decide +kernel)) rfl
theorem kw_26 : Cond.code yX5_faultOfNumber cX5_faultOfNumber 5 (some .int) ∈ tWALL := tin2 (List.mem_of_getElem? (i := 2) (by decide +kernel)) rfl
theorem kw_27 : Cond.static yX5_faultOfNumber ∈ tWALL := tin2 (List.mem_of_getElem? (i := 1) (by decide +kernel)) rfl
theorem kw_28 : Cond.methodLink RX5 44 yX5_faultOfNumber ∈ tWALL := tin2 (List.mem_of_getElem? (i := 0) (by decide +kernel)) rfl
theorem kw_29 : Cond.fieldLink RX5 15 "TowerPipers$TownWord" "coming" "[I" ∈ tWALL := tin1 (List.mem_of_getElem? (i := 43) (by decide +kernel)) rfl
theorem kw_30 : Cond.methodLink RX5 25 arraycopyName ∈ tWALL := tin1 (List.mem_of_getElem? (i := 213) (by decide +kernel)) rfl
theorem kw_31 : Cond.native arraycopyName ∈ tWALL := tin1 (List.mem_of_getElem? (i := 215) (by decide +kernel)) rfl
theorem kw_32 : Cond.static arraycopyName ∈ tWALL := tin1 (List.mem_of_getElem? (i := 214) (by decide +kernel)) rfl
theorem kw_33 : Cond.initialized RJ10 ∈ tWALL := tin1 (List.mem_of_getElem? (i := 10) (by decide +kernel)) rfl
theorem kw_34 : Cond.static yX5_kindAt ∈ tWALL := tin1 (List.mem_of_getElem? (i := 217) (by decide +kernel)) rfl
theorem kw_35 : Cond.methodLink RX5 31 yX5_kindAt ∈ tWALL := tin1 (List.mem_of_getElem? (i := 216) (by decide +kernel)) rfl
theorem kw_36 : Cond.static yX5_endOfDigits ∈ tWALL := tin1 (List.mem_of_getElem? (i := 229) (by decide +kernel)) rfl
theorem kw_37 : Cond.methodLink RX5 35 yX5_endOfDigits ∈ tWALL := tin1 (List.mem_of_getElem? (i := 228) (by decide +kernel)) rfl
theorem kw_38 : Cond.static yX5_numberBetween ∈ tWALL := tin1 (List.mem_of_getElem? (i := 236) (by decide +kernel)) rfl
theorem kw_39 : Cond.methodLink RX5 38 yX5_numberBetween ∈ tWALL := tin1 (List.mem_of_getElem? (i := 235) (by decide +kernel)) rfl
theorem kw_40 : Cond.fieldLink RX5 41 "TowerPipers$TownWord" "HIGHEST" "[I" ∈ tWALL := tin1 (List.mem_of_getElem? (i := 238) (by decide +kernel)) rfl
theorem kw_41 : Cond.fieldLink RX5 22 "TowerPipers$TownWord" "AT_FIRST" "[I" ∈ tWALL := tin1 (List.mem_of_getElem? (i := 211) (by decide +kernel)) rfl
theorem kw_42 : Cond.code yX5_read cX5_read 10 (some .int) ∈ tWALL := tin1 (List.mem_of_getElem? (i := 210) (by decide +kernel)) rfl
theorem kw_43 : Cond.fieldLink RX2 7 "TowerPipers$Piper" "rank" "I" ∈ tWALL := tin1 (List.mem_of_getElem? (i := 101) (by decide +kernel)) rfl
theorem kw_44 : Cond.fieldLink RX2 13 "TowerPipers$Piper" "plays" "I" ∈ tWALL := tin1 (List.mem_of_getElem? (i := 103) (by decide +kernel)) rfl
theorem kw_45 : Cond.initialized RX2 ∈ tWALL := tin1 (List.mem_of_getElem? (i := 6) (by decide +kernel)) rfl
theorem kw_46 : Cond.code yX2_join cX2_join 3 none ∈ tWALL := tin2 (List.mem_of_getElem? (i := 15) (by decide +kernel)) rfl
theorem kw_47 : Cond.code yX7_hasBit cX7_hasBit 2 (some .boolean) ∈ tWALL := tin2 (List.mem_of_getElem? (i := 98) (by decide +kernel)) rfl
theorem kw_48 : Cond.fieldLink RX2 16 "TowerPipers$Piper" "state" "I" ∈ tWALL := tin1 (List.mem_of_getElem? (i := 105) (by decide +kernel)) rfl
theorem kw_49 : Cond.static yX7_hasBit ∈ tWALL := tin2 (List.mem_of_getElem? (i := 97) (by decide +kernel)) rfl
theorem kw_50 : Cond.methodLinkNest RX2 22 yX7_hasBit "TowerPipers" ∈ tNEST := tne2 (List.mem_of_getElem? (i := 135) (by decide +kernel)) rfl
theorem kw_51 : Cond.code yX2_canPlay cX2_canPlay 2 (some .boolean) ∈ tWALL := tin2 (List.mem_of_getElem? (i := 134) (by decide +kernel)) rfl
theorem kw_52 : Cond.fieldLink RX6 9 "TowerPipers$Tune" "occasions" "I" ∈ tWALL := tin1 (List.mem_of_getElem? (i := 136) (by decide +kernel)) rfl
theorem kw_53 : Cond.fieldLink RX6 15 "TowerPipers$Tune" "months" "I" ∈ tWALL := tin1 (List.mem_of_getElem? (i := 137) (by decide +kernel)) rfl
theorem kw_54 : Cond.initialized RX6 ∈ tWALL := tin1 (List.mem_of_getElem? (i := 8) (by decide +kernel)) rfl
theorem kw_55 : Cond.code yX6_learn cX6_learn 3 none ∈ tWALL := tin3 (List.mem_of_getElem? (i := 0) (by decide +kernel)) rfl
theorem kw_56 : Cond.methodLinkNest RX6 21 yX7_hasBit "TowerPipers" ∈ tNEST := tne2 (List.mem_of_getElem? (i := 212) (by decide +kernel)) rfl
theorem kw_57 : Cond.code yX6_fits cX6_fits 3 (some .boolean) ∈ tWALL := tin2 (List.mem_of_getElem? (i := 211) (by decide +kernel)) rfl
theorem kw_58 : Cond.fieldLink RX6 18 "TowerPipers$Tune" "lastTurn" "I" ∈ tWALL := tin1 (List.mem_of_getElem? (i := 138) (by decide +kernel)) rfl
theorem kw_59 : Cond.code yX6_dayHeard cX6_dayHeard 1 (some .int) ∈ tWALL := tin3 (List.mem_of_getElem? (i := 85) (by decide +kernel)) rfl
theorem kw_60 : Cond.fieldLink RX0 19 "TowerPipers$Call" "LEAST" "[I" ∈ tWALL := tin2 (List.mem_of_getElem? (i := 43) (by decide +kernel)) rfl
theorem kw_61 : Cond.fieldLink RX0 22 "TowerPipers$Call" "MOST" "[I" ∈ tWALL := tin2 (List.mem_of_getElem? (i := 45) (by decide +kernel)) rfl
theorem kw_62 : Cond.methodLinkNest RX0 25 yX7_within "TowerPipers" ∈ tNEST := tne2 (List.mem_of_getElem? (i := 47) (by decide +kernel)) rfl
theorem kw_63 : Cond.initialized RX0 ∈ tWALL := tin1 (List.mem_of_getElem? (i := 7) (by decide +kernel)) rfl
theorem kw_64 : Cond.code yX0_canBe cX0_canBe 2 (some .boolean) ∈ tWALL := tin2 (List.mem_of_getElem? (i := 42) (by decide +kernel)) rfl
theorem kw_65 : Cond.fieldLink RX0 11 "TowerPipers$Call" "facts" "[I" ∈ tWALL := tin1 (List.mem_of_getElem? (i := 123) (by decide +kernel)) rfl
theorem kw_66 : Cond.methodLink RX0 29 arraycopyName ∈ tWALL := tin2 (List.mem_of_getElem? (i := 52) (by decide +kernel)) rfl
theorem kw_67 : Cond.fieldLink RX0 15 "TowerPipers$Call" "there" "Z" ∈ tWALL := tin1 (List.mem_of_getElem? (i := 124) (by decide +kernel)) rfl
theorem kw_68 : Cond.code yX0_come cX0_come 2 none ∈ tWALL := tin2 (List.mem_of_getElem? (i := 51) (by decide +kernel)) rfl
theorem kw_69 : Cond.code yX0_go cX0_go 1 none ∈ tWALL := tin2 (List.mem_of_getElem? (i := 64) (by decide +kernel)) rfl
theorem kw_70 : Cond.code yX0_fact cX0_fact 2 (some .int) ∈ tWALL := tin2 (List.mem_of_getElem? (i := 102) (by decide +kernel)) rfl
theorem kw_71 : Cond.code yX0_isOfOrder cX0_isOfOrder 2 (some .boolean) ∈ tWALL := tin2 (List.mem_of_getElem? (i := 91) (by decide +kernel)) rfl
theorem kw_72 : Cond.code yX0_end cX0_end 1 (some .int) ∈ tWALL := tin2 (List.mem_of_getElem? (i := 113) (by decide +kernel)) rfl
theorem kw_73 : Cond.methodLink RX0 35 yX0_end ∈ tWALL := tin2 (List.mem_of_getElem? (i := 110) (by decide +kernel)) rfl
theorem kw_74 : Cond.instanceMethod yX0_end ∈ tWALL := tin2 (List.mem_of_getElem? (i := 111) (by decide +kernel)) rfl
theorem kw_75 : Cond.selects RX0 yX0_end yX0_end ∈ tWALL := tin2 (List.mem_of_getElem? (i := 112) (by decide +kernel)) rfl
theorem kw_76 : Cond.code yX0_isOnAt cX0_isOnAt 2 (some .boolean) ∈ tWALL := tin2 (List.mem_of_getElem? (i := 109) (by decide +kernel)) rfl
theorem kw_77 : Cond.code yX0_partCount cX0_partCount 1 (some .int) ∈ tWALL := tin2 (List.mem_of_getElem? (i := 125) (by decide +kernel)) rfl
theorem kw_78 : Cond.code yX0_partsWith cX0_partsWith 2 (some .int) ∈ tWALL := tin2 (List.mem_of_getElem? (i := 117) (by decide +kernel)) rfl
theorem kw_79 : Cond.methodLink RX0 39 Lib.Math.abs.name ∈ tWALL := tin2 (List.mem_of_getElem? (i := 145) (by decide +kernel)) rfl
theorem kw_80 : Cond.static Lib.Math.abs.name ∈ tWALL := tin2 (List.mem_of_getElem? (i := 146) (by decide +kernel)) rfl
theorem kw_81 : Cond.initialized RJ9 ∈ tWALL := tin1 (List.mem_of_getElem? (i := 12) (by decide +kernel)) rfl
theorem kw_82 : Cond.code Lib.Math.abs.name Lib.Math.abs.code 1 (some .int) ∈ tWALL := tin2 (List.mem_of_getElem? (i := 147) (by decide +kernel)) rfl
theorem kw_83 : Cond.code yX0_clashesWith cX0_clashesWith 4 (some .boolean) ∈ tWALL := tin2 (List.mem_of_getElem? (i := 144) (by decide +kernel)) rfl
theorem kw_84 : Cond.initialized RJ7 ∈ tWALL := tin1 (List.mem_of_getElem? (i := 11) (by decide +kernel)) rfl
theorem kw_85 : Cond.code yJ7_fill_53178 cJ7_fill_53178 4 none ∈ tWALL := tin2 (List.mem_of_getElem? (i := 87) (by decide +kernel)) rfl
theorem kw_86 : Cond.fieldLink RX1 24 "TowerPipers$Cast" "partCount" "I" ∈ tWALL := tin1 (List.mem_of_getElem? (i := 71) (by decide +kernel)) rfl
theorem kw_87 : Cond.fieldLink RX1 9 "TowerPipers$Cast" "openTo" "[I" ∈ tWALL := tin1 (List.mem_of_getElem? (i := 67) (by decide +kernel)) rfl
theorem kw_88 : Cond.static yJ7_fill_53178 ∈ tWALL := tin2 (List.mem_of_getElem? (i := 86) (by decide +kernel)) rfl
theorem kw_89 : Cond.methodLink RX1 28 yJ7_fill_53178 ∈ tWALL := tin2 (List.mem_of_getElem? (i := 85) (by decide +kernel)) rfl
theorem kw_90 : Cond.initialized RX1 ∈ tWALL := tin1 (List.mem_of_getElem? (i := 5) (by decide +kernel)) rfl
theorem kw_91 : Cond.code yX1_clear cX1_clear 1 none ∈ tWALL := tin2 (List.mem_of_getElem? (i := 84) (by decide +kernel)) rfl
theorem kw_92 : Cond.fieldLink RX1 18 "TowerPipers$Cast" "callOf" "[I" ∈ tWALL := tin1 (List.mem_of_getElem? (i := 69) (by decide +kernel)) rfl
theorem kw_93 : Cond.fieldLink RX1 21 "TowerPipers$Cast" "piperFor" "[I" ∈ tWALL := tin1 (List.mem_of_getElem? (i := 70) (by decide +kernel)) rfl
theorem kw_94 : Cond.code yX1_piperOf cX1_piperOf 5 (some .int) ∈ tWALL := tin2 (List.mem_of_getElem? (i := 232) (by decide +kernel)) rfl
theorem kw_95 : Cond.code yX1_partsOf cX1_partsOf 4 (some .int) ∈ tWALL := tin3 (List.mem_of_getElem? (i := 69) (by decide +kernel)) rfl
theorem kw_96 : Cond.methodLink RX1 62 yX2_canPlay ∈ tWALL := tin2 (List.mem_of_getElem? (i := 131) (by decide +kernel)) rfl
theorem kw_97 : Cond.instanceMethod yX2_canPlay ∈ tWALL := tin2 (List.mem_of_getElem? (i := 132) (by decide +kernel)) rfl
theorem kw_98 : Cond.selects RX2 yX2_canPlay yX2_canPlay ∈ tWALL := tin2 (List.mem_of_getElem? (i := 133) (by decide +kernel)) rfl
theorem kw_99 : Cond.code yX1_markTakers cX1_markTakers 4 none ∈ tWALL := tin2 (List.mem_of_getElem? (i := 130) (by decide +kernel)) rfl
theorem kw_100 : Cond.fieldLink RX1 15 "TowerPipers$Cast" "bars" "[I" ∈ tWALL := tin1 (List.mem_of_getElem? (i := 68) (by decide +kernel)) rfl
theorem kw_101 : Cond.methodLinkNest RX1 68 yX7_within "TowerPipers" ∈ tNEST := tne2 (List.mem_of_getElem? (i := 140) (by decide +kernel)) rfl
theorem kw_102 : Cond.methodLink RX1 72 yX0_clashesWith ∈ tWALL := tin2 (List.mem_of_getElem? (i := 141) (by decide +kernel)) rfl
theorem kw_103 : Cond.instanceMethod yX0_clashesWith ∈ tWALL := tin2 (List.mem_of_getElem? (i := 142) (by decide +kernel)) rfl
theorem kw_104 : Cond.selects RX0 yX0_clashesWith yX0_clashesWith ∈ tWALL := tin2 (List.mem_of_getElem? (i := 143) (by decide +kernel)) rfl
theorem kw_105 : Cond.code yX1_markBars cX1_markBars 7 none ∈ tWALL := tin2 (List.mem_of_getElem? (i := 139) (by decide +kernel)) rfl
theorem kw_106 : Cond.code yX1_allParts cX1_allParts 1 (some .int) ∈ tWALL := tin2 (List.mem_of_getElem? (i := 151) (by decide +kernel)) rfl
theorem kw_107 : Cond.methodLinkNest RX1 87 yX7_hasBit "TowerPipers" ∈ tNEST := tne2 (List.mem_of_getElem? (i := 156) (by decide +kernel)) rfl
theorem kw_108 : Cond.code yX1_tiedTo cX1_tiedTo 7 (some .int) ∈ tWALL := tin2 (List.mem_of_getElem? (i := 155) (by decide +kernel)) rfl
theorem kw_109 : Cond.code yX1_takersOf cX1_takersOf 4 (some .int) ∈ tWALL := tin2 (List.mem_of_getElem? (i := 168) (by decide +kernel)) rfl
theorem kw_110 : Cond.constant RJ6 265 1431655765 ∈ tWALL := tin2 (List.mem_of_getElem? (i := 172) (by decide +kernel)) rfl
theorem kw_111 : Cond.constant RJ6 266 858993459 ∈ tWALL := tin2 (List.mem_of_getElem? (i := 173) (by decide +kernel)) rfl
theorem kw_112 : Cond.constant RJ6 267 252645135 ∈ tWALL := tin2 (List.mem_of_getElem? (i := 174) (by decide +kernel)) rfl
theorem kw_113 : Cond.initialized RJ6 ∈ tWALL := tin1 (List.mem_of_getElem? (i := 13) (by decide +kernel)) rfl
theorem kw_114 : Cond.code yJ6_bitCount_0f7a4 cJ6_bitCount_0f7a4 1 (some .int) ∈ tWALL := tin2 (List.mem_of_getElem? (i := 171) (by decide +kernel)) rfl
theorem kw_115 : Cond.methodLink RX1 93 yX1_takersOf ∈ tWALL := tin2 (List.mem_of_getElem? (i := 165) (by decide +kernel)) rfl
theorem kw_116 : Cond.instanceMethod yX1_takersOf ∈ tWALL := tin2 (List.mem_of_getElem? (i := 167) (by decide +kernel)) rfl
theorem kw_117 : Cond.selects RX1 yX1_takersOf yX1_takersOf ∈ tWALL := tin0 (List.mem_of_getElem? (i := 11) (by decide +kernel)) rfl
theorem kw_118 : Cond.static yJ6_bitCount_0f7a4 ∈ tWALL := tin2 (List.mem_of_getElem? (i := 170) (by decide +kernel)) rfl
theorem kw_119 : Cond.methodLink RX1 96 yJ6_bitCount_0f7a4 ∈ tWALL := tin2 (List.mem_of_getElem? (i := 169) (by decide +kernel)) rfl
theorem kw_120 : Cond.code yX1_hardestOf cX1_hardestOf 8 (some .int) ∈ tWALL := tin2 (List.mem_of_getElem? (i := 164) (by decide +kernel)) rfl
theorem kw_121 : Cond.code yX1_isWorthTrying cX1_isWorthTrying 5 (some .boolean) ∈ tWALL := tin2 (List.mem_of_getElem? (i := 178) (by decide +kernel)) rfl
theorem kw_122 : Cond.methodLink RX1 58 yX1_canFill ∈ tWALL := tin2 (List.mem_of_getElem? (i := 157) (by decide +kernel)) rfl
theorem kw_123 : Cond.instanceMethod yX1_canFill ∈ tWALL := tin2 (List.mem_of_getElem? (i := 159) (by decide +kernel)) rfl
theorem kw_124 : Cond.selects RX1 yX1_canFill yX1_canFill ∈ tWALL := tin0 (List.mem_of_getElem? (i := 9) (by decide +kernel)) rfl
theorem kw_125 : Cond.code yX1_canGive cX1_canGive 7 (some .boolean) ∈ tWALL := tin2 (List.mem_of_getElem? (i := 182) (by decide +kernel)) rfl
theorem kw_126 : Cond.code yX1_canFill cX1_canFill 5 (some .boolean) ∈ tWALL := tin2 (List.mem_of_getElem? (i := 160) (by decide +kernel)) rfl
theorem kw_127 : Cond.methodLink RX1 76 yX1_isWorthTrying ∈ tWALL := tin2 (List.mem_of_getElem? (i := 175) (by decide +kernel)) rfl
theorem kw_128 : Cond.instanceMethod yX1_isWorthTrying ∈ tWALL := tin2 (List.mem_of_getElem? (i := 177) (by decide +kernel)) rfl
theorem kw_129 : Cond.selects RX1 yX1_isWorthTrying yX1_isWorthTrying ∈ tWALL := tin0 (List.mem_of_getElem? (i := 12) (by decide +kernel)) rfl
theorem kw_130 : Cond.methodLink RX1 79 yX1_canGive ∈ tWALL := tin2 (List.mem_of_getElem? (i := 179) (by decide +kernel)) rfl
theorem kw_131 : Cond.instanceMethod yX1_canGive ∈ tWALL := tin2 (List.mem_of_getElem? (i := 181) (by decide +kernel)) rfl
theorem kw_132 : Cond.selects RX1 yX1_canGive yX1_canGive ∈ tWALL := tin0 (List.mem_of_getElem? (i := 13) (by decide +kernel)) rfl
theorem kw_133 : Cond.methodLink RX1 90 yX1_hardestOf ∈ tWALL := tin2 (List.mem_of_getElem? (i := 161) (by decide +kernel)) rfl
theorem kw_134 : Cond.instanceMethod yX1_hardestOf ∈ tWALL := tin2 (List.mem_of_getElem? (i := 163) (by decide +kernel)) rfl
theorem kw_135 : Cond.selects RX1 yX1_hardestOf yX1_hardestOf ∈ tWALL := tin0 (List.mem_of_getElem? (i := 10) (by decide +kernel)) rfl
theorem kw_136 : Cond.methodLink RX1 51 yX1_allParts ∈ tWALL := tin2 (List.mem_of_getElem? (i := 148) (by decide +kernel)) rfl
theorem kw_137 : Cond.instanceMethod yX1_allParts ∈ tWALL := tin2 (List.mem_of_getElem? (i := 150) (by decide +kernel)) rfl
theorem kw_138 : Cond.selects RX1 yX1_allParts yX1_allParts ∈ tWALL := tin0 (List.mem_of_getElem? (i := 7) (by decide +kernel)) rfl
theorem kw_139 : Cond.methodLink RX1 54 yX1_tiedTo ∈ tWALL := tin2 (List.mem_of_getElem? (i := 152) (by decide +kernel)) rfl
theorem kw_140 : Cond.instanceMethod yX1_tiedTo ∈ tWALL := tin2 (List.mem_of_getElem? (i := 154) (by decide +kernel)) rfl
theorem kw_141 : Cond.selects RX1 yX1_tiedTo yX1_tiedTo ∈ tWALL := tin0 (List.mem_of_getElem? (i := 8) (by decide +kernel)) rfl
theorem kw_142 : Cond.methodLink RX1 34 yX0_partCount ∈ tWALL := tin2 (List.mem_of_getElem? (i := 122) (by decide +kernel)) rfl
theorem kw_143 : Cond.instanceMethod yX0_partCount ∈ tWALL := tin2 (List.mem_of_getElem? (i := 123) (by decide +kernel)) rfl
theorem kw_144 : Cond.selects RX0 yX0_partCount yX0_partCount ∈ tWALL := tin2 (List.mem_of_getElem? (i := 124) (by decide +kernel)) rfl
theorem kw_145 : Cond.methodLink RX1 39 yX0_fact ∈ tWALL := tin2 (List.mem_of_getElem? (i := 126) (by decide +kernel)) rfl
theorem kw_146 : Cond.instanceMethod yX0_fact ∈ tWALL := tin2 (List.mem_of_getElem? (i := 100) (by decide +kernel)) rfl
theorem kw_147 : Cond.selects RX0 yX0_fact yX0_fact ∈ tWALL := tin2 (List.mem_of_getElem? (i := 101) (by decide +kernel)) rfl
theorem kw_148 : Cond.methodLink RX1 43 yX1_markTakers ∈ tWALL := tin2 (List.mem_of_getElem? (i := 127) (by decide +kernel)) rfl
theorem kw_149 : Cond.instanceMethod yX1_markTakers ∈ tWALL := tin2 (List.mem_of_getElem? (i := 129) (by decide +kernel)) rfl
theorem kw_150 : Cond.selects RX1 yX1_markTakers yX1_markTakers ∈ tWALL := tin0 (List.mem_of_getElem? (i := 5) (by decide +kernel)) rfl
theorem kw_151 : Cond.methodLink RX1 47 yX1_markBars ∈ tWALL := tin2 (List.mem_of_getElem? (i := 136) (by decide +kernel)) rfl
theorem kw_152 : Cond.instanceMethod yX1_markBars ∈ tWALL := tin2 (List.mem_of_getElem? (i := 138) (by decide +kernel)) rfl
theorem kw_153 : Cond.selects RX1 yX1_markBars yX1_markBars ∈ tWALL := tin0 (List.mem_of_getElem? (i := 6) (by decide +kernel)) rfl
theorem kw_154 : Cond.code yX1_admit cX1_admit 7 (some .boolean) ∈ tWALL := tin2 (List.mem_of_getElem? (i := 121) (by decide +kernel)) rfl
theorem kw_155 : Cond.code yX1_close cX1_close 3 none ∈ tWALL := tin2 (List.mem_of_getElem? (i := 190) (by decide +kernel)) rfl
theorem kw_156 : Cond.methodLink RX1 83 yX1_close ∈ tWALL := tin2 (List.mem_of_getElem? (i := 187) (by decide +kernel)) rfl
theorem kw_157 : Cond.instanceMethod yX1_close ∈ tWALL := tin2 (List.mem_of_getElem? (i := 189) (by decide +kernel)) rfl
theorem kw_158 : Cond.selects RX1 yX1_close yX1_close ∈ tWALL := tin0 (List.mem_of_getElem? (i := 14) (by decide +kernel)) rfl
theorem kw_159 : Cond.code yX1_lowerAll cX1_lowerAll 7 none ∈ tWALL := tin2 (List.mem_of_getElem? (i := 186) (by decide +kernel)) rfl
theorem kw_160 : Cond.fieldLink RX3 25 "TowerPipers$Plan" "bits" "I" ∈ tWALL := tin1 (List.mem_of_getElem? (i := 86) (by decide +kernel)) rfl
theorem kw_161 : Cond.initialized RX3 ∈ tWALL := tin1 (List.mem_of_getElem? (i := 4) (by decide +kernel)) rfl
theorem kw_162 : Cond.code yX3_playedBits cX3_playedBits 1 (some .int) ∈ tWALL := tin2 (List.mem_of_getElem? (i := 220) (by decide +kernel)) rfl
theorem kw_163 : Cond.methodLinkNest RX3 29 yX7_within "TowerPipers" ∈ tNEST := tne2 (List.mem_of_getElem? (i := 203) (by decide +kernel)) rfl
theorem kw_164 : Cond.methodLinkNest RX3 33 yX7_hasBit "TowerPipers" ∈ tNEST := tne2 (List.mem_of_getElem? (i := 96) (by decide +kernel)) rfl
theorem kw_165 : Cond.code yX3_has cX3_has 2 (some .boolean) ∈ tWALL := tin2 (List.mem_of_getElem? (i := 202) (by decide +kernel)) rfl
theorem kw_166 : Cond.fieldLink RX3 12 "TowerPipers$Plan" "cast" "LTowerPipers$Cast;" ∈ tWALL := tin1 (List.mem_of_getElem? (i := 83) (by decide +kernel)) rfl
theorem kw_167 : Cond.methodLink RX3 37 yX1_piperOf ∈ tWALL := tin2 (List.mem_of_getElem? (i := 229) (by decide +kernel)) rfl
theorem kw_168 : Cond.instanceMethod yX1_piperOf ∈ tWALL := tin2 (List.mem_of_getElem? (i := 230) (by decide +kernel)) rfl
theorem kw_169 : Cond.selects RX1 yX1_piperOf yX1_piperOf ∈ tWALL := tin2 (List.mem_of_getElem? (i := 231) (by decide +kernel)) rfl
theorem kw_170 : Cond.code yX3_piperOf cX3_piperOf 3 (some .int) ∈ tWALL := tin2 (List.mem_of_getElem? (i := 228) (by decide +kernel)) rfl
theorem kw_171 : Cond.methodLink RX3 41 yX3_has ∈ tWALL := tin2 (List.mem_of_getElem? (i := 199) (by decide +kernel)) rfl
theorem kw_172 : Cond.instanceMethod yX3_has ∈ tWALL := tin2 (List.mem_of_getElem? (i := 200) (by decide +kernel)) rfl
theorem kw_173 : Cond.selects RX3 yX3_has yX3_has ∈ tWALL := tin2 (List.mem_of_getElem? (i := 201) (by decide +kernel)) rfl
theorem kw_174 : Cond.fieldLink RX3 18 "TowerPipers$Plan" "chosenTunes" "[I" ∈ tWALL := tin1 (List.mem_of_getElem? (i := 84) (by decide +kernel)) rfl
theorem kw_175 : Cond.code yX3_tuneOf cX3_tuneOf 2 (some .int) ∈ tWALL := tin3 (List.mem_of_getElem? (i := 8) (by decide +kernel)) rfl
theorem kw_176 : Cond.methodLink RX3 45 yX1_partsOf ∈ tWALL := tin3 (List.mem_of_getElem? (i := 66) (by decide +kernel)) rfl
theorem kw_177 : Cond.instanceMethod yX1_partsOf ∈ tWALL := tin3 (List.mem_of_getElem? (i := 67) (by decide +kernel)) rfl
theorem kw_178 : Cond.selects RX1 yX1_partsOf yX1_partsOf ∈ tWALL := tin3 (List.mem_of_getElem? (i := 68) (by decide +kernel)) rfl
theorem kw_179 : Cond.code yX3_partsOf cX3_partsOf 2 (some .int) ∈ tWALL := tin3 (List.mem_of_getElem? (i := 65) (by decide +kernel)) rfl
theorem kw_180 : Cond.methodLink RX3 75 yX0_isOnAt ∈ tWALL := tin2 (List.mem_of_getElem? (i := 106) (by decide +kernel)) rfl
theorem kw_181 : Cond.instanceMethod yX0_isOnAt ∈ tWALL := tin2 (List.mem_of_getElem? (i := 107) (by decide +kernel)) rfl
theorem kw_182 : Cond.selects RX0 yX0_isOnAt yX0_isOnAt ∈ tWALL := tin2 (List.mem_of_getElem? (i := 108) (by decide +kernel)) rfl
theorem kw_183 : Cond.methodLink RX3 78 yX0_partsWith ∈ tWALL := tin2 (List.mem_of_getElem? (i := 114) (by decide +kernel)) rfl
theorem kw_184 : Cond.instanceMethod yX0_partsWith ∈ tWALL := tin2 (List.mem_of_getElem? (i := 115) (by decide +kernel)) rfl
theorem kw_185 : Cond.selects RX0 yX0_partsWith yX0_partsWith ∈ tWALL := tin2 (List.mem_of_getElem? (i := 116) (by decide +kernel)) rfl
theorem kw_186 : Cond.code yX3_hasPiecesAt cX3_hasPiecesAt 7 (some .boolean) ∈ tWALL := tin2 (List.mem_of_getElem? (i := 105) (by decide +kernel)) rfl
theorem kw_187 : Cond.methodLink RX3 68 yX0_fact ∈ tWALL := tin2 (List.mem_of_getElem? (i := 99) (by decide +kernel)) rfl
theorem kw_188 : Cond.static yX3_hasPiecesAt ∈ tWALL := tin2 (List.mem_of_getElem? (i := 104) (by decide +kernel)) rfl
theorem kw_189 : Cond.methodLink RX3 71 yX3_hasPiecesAt ∈ tWALL := tin2 (List.mem_of_getElem? (i := 103) (by decide +kernel)) rfl
theorem kw_190 : Cond.code yX3_hasPieces cX3_hasPieces 6 (some .boolean) ∈ tWALL := tin2 (List.mem_of_getElem? (i := 95) (by decide +kernel)) rfl
theorem kw_191 : Cond.methodLink RX3 54 yX0_isOfOrder ∈ tWALL := tin2 (List.mem_of_getElem? (i := 88) (by decide +kernel)) rfl
theorem kw_192 : Cond.instanceMethod yX0_isOfOrder ∈ tWALL := tin2 (List.mem_of_getElem? (i := 89) (by decide +kernel)) rfl
theorem kw_193 : Cond.selects RX0 yX0_isOfOrder yX0_isOfOrder ∈ tWALL := tin2 (List.mem_of_getElem? (i := 90) (by decide +kernel)) rfl
theorem kw_194 : Cond.methodLink RX3 57 yX3_hasPieces ∈ tWALL := tin2 (List.mem_of_getElem? (i := 92) (by decide +kernel)) rfl
theorem kw_195 : Cond.instanceMethod yX3_hasPieces ∈ tWALL := tin2 (List.mem_of_getElem? (i := 94) (by decide +kernel)) rfl
theorem kw_196 : Cond.selects RX3 yX3_hasPieces yX3_hasPieces ∈ tWALL := tin0 (List.mem_of_getElem? (i := 4) (by decide +kernel)) rfl
theorem kw_197 : Cond.methodLink RX3 61 yX1_admit ∈ tWALL := tin2 (List.mem_of_getElem? (i := 118) (by decide +kernel)) rfl
theorem kw_198 : Cond.instanceMethod yX1_admit ∈ tWALL := tin2 (List.mem_of_getElem? (i := 119) (by decide +kernel)) rfl
theorem kw_199 : Cond.selects RX1 yX1_admit yX1_admit ∈ tWALL := tin2 (List.mem_of_getElem? (i := 120) (by decide +kernel)) rfl
theorem kw_200 : Cond.methodLink RX3 65 yX1_lowerAll ∈ tWALL := tin2 (List.mem_of_getElem? (i := 183) (by decide +kernel)) rfl
theorem kw_201 : Cond.instanceMethod yX1_lowerAll ∈ tWALL := tin2 (List.mem_of_getElem? (i := 184) (by decide +kernel)) rfl
theorem kw_202 : Cond.selects RX1 yX1_lowerAll yX1_lowerAll ∈ tWALL := tin2 (List.mem_of_getElem? (i := 185) (by decide +kernel)) rfl
theorem kw_203 : Cond.methodLink RX3 49 yX1_clear ∈ tWALL := tin2 (List.mem_of_getElem? (i := 81) (by decide +kernel)) rfl
theorem kw_204 : Cond.instanceMethod yX1_clear ∈ tWALL := tin2 (List.mem_of_getElem? (i := 82) (by decide +kernel)) rfl
theorem kw_205 : Cond.selects RX1 yX1_clear yX1_clear ∈ tWALL := tin2 (List.mem_of_getElem? (i := 83) (by decide +kernel)) rfl
theorem kw_206 : Cond.code yX3_castCalls cX3_castCalls 7 none ∈ tWALL := tin2 (List.mem_of_getElem? (i := 80) (by decide +kernel)) rfl
theorem kw_207 : Cond.methodLink RX3 94 yX6_fits ∈ tWALL := tin2 (List.mem_of_getElem? (i := 208) (by decide +kernel)) rfl
theorem kw_208 : Cond.instanceMethod yX6_fits ∈ tWALL := tin2 (List.mem_of_getElem? (i := 209) (by decide +kernel)) rfl
theorem kw_209 : Cond.selects RX6 yX6_fits yX6_fits ∈ tWALL := tin2 (List.mem_of_getElem? (i := 210) (by decide +kernel)) rfl
theorem kw_210 : Cond.fieldLink RX3 22 "TowerPipers$Plan" "lastTurns" "[I" ∈ tWALL := tin1 (List.mem_of_getElem? (i := 85) (by decide +kernel)) rfl
theorem kw_211 : Cond.code yX3_longestUnheard cX3_longestUnheard 6 (some .int) ∈ tWALL := tin2 (List.mem_of_getElem? (i := 207) (by decide +kernel)) rfl
theorem kw_212 : Cond.code yX3_takeTurn cX3_takeTurn 3 none ∈ tWALL := tin2 (List.mem_of_getElem? (i := 216) (by decide +kernel)) rfl
theorem kw_213 : Cond.methodLink RX3 86 yX3_longestUnheard ∈ tWALL := tin2 (List.mem_of_getElem? (i := 204) (by decide +kernel)) rfl
theorem kw_214 : Cond.instanceMethod yX3_longestUnheard ∈ tWALL := tin2 (List.mem_of_getElem? (i := 206) (by decide +kernel)) rfl
theorem kw_215 : Cond.selects RX3 yX3_longestUnheard yX3_longestUnheard ∈ tWALL := tin0 (List.mem_of_getElem? (i := 16) (by decide +kernel)) rfl
theorem kw_216 : Cond.methodLink RX3 90 yX3_takeTurn ∈ tWALL := tin2 (List.mem_of_getElem? (i := 213) (by decide +kernel)) rfl
theorem kw_217 : Cond.instanceMethod yX3_takeTurn ∈ tWALL := tin2 (List.mem_of_getElem? (i := 215) (by decide +kernel)) rfl
theorem kw_218 : Cond.selects RX3 yX3_takeTurn yX3_takeTurn ∈ tWALL := tin0 (List.mem_of_getElem? (i := 17) (by decide +kernel)) rfl
theorem kw_219 : Cond.fieldLinkNest RX3 81 "TowerPipers$Tune" "lastTurn" "I" "TowerPipers" ∈ tNEST := tne1 (List.mem_of_getElem? (i := 139) (by decide +kernel)) rfl
theorem kw_220 : Cond.code yX3_chooseTunes cX3_chooseTunes 8 none ∈ tWALL := tin2 (List.mem_of_getElem? (i := 198) (by decide +kernel)) rfl
theorem kw_221 : Cond.code yX3_hearTunes cX3_hearTunes 3 none ∈ tWALL := tin3 (List.mem_of_getElem? (i := 46) (by decide +kernel)) rfl
theorem kw_222 : Cond.fieldLink RX7 10 "TowerPipers" "tape" "LTowerPipers$Tape;" ∈ tWALL := tin1 (List.mem_of_getElem? (i := 147) (by decide +kernel)) rfl
theorem kw_223 : Cond.methodLink RX7 75 yX4_hasRoom ∈ tWALL := tin1 (List.mem_of_getElem? (i := 191) (by decide +kernel)) rfl
theorem kw_224 : Cond.instanceMethod yX4_hasRoom ∈ tWALL := tin1 (List.mem_of_getElem? (i := 192) (by decide +kernel)) rfl
theorem kw_225 : Cond.selects RX4 yX4_hasRoom yX4_hasRoom ∈ tWALL := tin1 (List.mem_of_getElem? (i := 193) (by decide +kernel)) rfl
theorem kw_226 : Cond.methodLink RX7 79 yX4_put ∈ tWALL := tin1 (List.mem_of_getElem? (i := 195) (by decide +kernel)) rfl
theorem kw_227 : Cond.instanceMethod yX4_put ∈ tWALL := tin1 (List.mem_of_getElem? (i := 196) (by decide +kernel)) rfl
theorem kw_228 : Cond.selects RX4 yX4_put yX4_put ∈ tWALL := tin1 (List.mem_of_getElem? (i := 197) (by decide +kernel)) rfl
theorem kw_229 : Cond.methodLink RX7 83 yX4_size ∈ tWALL := tin1 (List.mem_of_getElem? (i := 199) (by decide +kernel)) rfl
theorem kw_230 : Cond.instanceMethod yX4_size ∈ tWALL := tin1 (List.mem_of_getElem? (i := 200) (by decide +kernel)) rfl
theorem kw_231 : Cond.selects RX4 yX4_size yX4_size ∈ tWALL := tin1 (List.mem_of_getElem? (i := 201) (by decide +kernel)) rfl
theorem kw_232 : Cond.code yX7_feed cX7_feed 6 (some .int) ∈ tWALL := tin1 (List.mem_of_getElem? (i := 190) (by decide +kernel)) rfl
theorem kw_233 : Cond.fieldLink RX7 19 "TowerPipers" "townWord" "LTowerPipers$TownWord;" ∈ tWALL := tin1 (List.mem_of_getElem? (i := 148) (by decide +kernel)) rfl
theorem kw_234 : Cond.methodLink RX7 87 yX5_read ∈ tWALL := tin1 (List.mem_of_getElem? (i := 207) (by decide +kernel)) rfl
theorem kw_235 : Cond.instanceMethod yX5_read ∈ tWALL := tin1 (List.mem_of_getElem? (i := 208) (by decide +kernel)) rfl
theorem kw_236 : Cond.selects RX5 yX5_read yX5_read ∈ tWALL := tin1 (List.mem_of_getElem? (i := 209) (by decide +kernel)) rfl
theorem kw_237 : Cond.methodLink RX7 91 yX4_empty ∈ tWALL := tin2 (List.mem_of_getElem? (i := 3) (by decide +kernel)) rfl
theorem kw_238 : Cond.instanceMethod yX4_empty ∈ tWALL := tin2 (List.mem_of_getElem? (i := 4) (by decide +kernel)) rfl
theorem kw_239 : Cond.selects RX4 yX4_empty yX4_empty ∈ tWALL := tin2 (List.mem_of_getElem? (i := 5) (by decide +kernel)) rfl
theorem kw_240 : Cond.fieldLink RX7 68 "TowerPipers" "planned" "Z" ∈ tWALL := tin1 (List.mem_of_getElem? (i := 159) (by decide +kernel)) rfl
theorem kw_241 : Cond.code yX7_word cX7_word 3 (some .int) ∈ tWALL := tin1 (List.mem_of_getElem? (i := 206) (by decide +kernel)) rfl
theorem kw_242 : Cond.fieldLink RX7 55 "TowerPipers" "piperCount" "I" ∈ tWALL := tin1 (List.mem_of_getElem? (i := 155) (by decide +kernel)) rfl
theorem kw_243 : Cond.methodLink RX7 94 yX7_within ∈ tWALL := tin2 (List.mem_of_getElem? (i := 11) (by decide +kernel)) rfl
theorem kw_244 : Cond.fieldLink RX7 25 "TowerPipers" "pipers" "[LTowerPipers$Piper;" ∈ tWALL := tin1 (List.mem_of_getElem? (i := 149) (by decide +kernel)) rfl
theorem kw_245 : Cond.methodLink RX7 98 yX2_join ∈ tWALL := tin2 (List.mem_of_getElem? (i := 12) (by decide +kernel)) rfl
theorem kw_246 : Cond.instanceMethod yX2_join ∈ tWALL := tin2 (List.mem_of_getElem? (i := 13) (by decide +kernel)) rfl
theorem kw_247 : Cond.selects RX2 yX2_join yX2_join ∈ tWALL := tin2 (List.mem_of_getElem? (i := 14) (by decide +kernel)) rfl
theorem kw_248 : Cond.code yX7_piper cX7_piper 4 (some .int) ∈ tWALL := tin2 (List.mem_of_getElem? (i := 10) (by decide +kernel)) rfl
theorem kw_249 : Cond.code yX7_isPiper cX7_isPiper 2 (some .boolean) ∈ tWALL := tin2 (List.mem_of_getElem? (i := 23) (by decide +kernel)) rfl
theorem kw_250 : Cond.methodLink RX7 102 yX7_isPiper ∈ tWALL := tin2 (List.mem_of_getElem? (i := 20) (by decide +kernel)) rfl
theorem kw_251 : Cond.instanceMethod yX7_isPiper ∈ tWALL := tin2 (List.mem_of_getElem? (i := 22) (by decide +kernel)) rfl
theorem kw_252 : Cond.selects RX7 yX7_isPiper yX7_isPiper ∈ tWALL := tin0 (List.mem_of_getElem? (i := 0) (by decide +kernel)) rfl
theorem kw_253 : Cond.fieldLinkNest RX7 106 "TowerPipers$Piper" "state" "I" "TowerPipers" ∈ tNEST := tne1 (List.mem_of_getElem? (i := 106) (by decide +kernel)) rfl
theorem kw_254 : Cond.code yX7_ill cX7_ill 4 (some .boolean) ∈ tWALL := tin2 (List.mem_of_getElem? (i := 19) (by decide +kernel)) rfl
theorem kw_255 : Cond.code yX7_old cX7_old 2 (some .boolean) ∈ tWALL := tin2 (List.mem_of_getElem? (i := 27) (by decide +kernel)) rfl
theorem kw_256 : Cond.fieldLink RX7 41 "TowerPipers" "piecesOf" "[I" ∈ tWALL := tin1 (List.mem_of_getElem? (i := 152) (by decide +kernel)) rfl
theorem kw_257 : Cond.code yX7_pieces cX7_pieces 3 (some .boolean) ∈ tWALL := tin2 (List.mem_of_getElem? (i := 31) (by decide +kernel)) rfl
theorem kw_258 : Cond.fieldLink RX7 31 "TowerPipers" "calls" "[LTowerPipers$Call;" ∈ tWALL := tin1 (List.mem_of_getElem? (i := 150) (by decide +kernel)) rfl
theorem kw_259 : Cond.fieldLinkNest RX7 203 "TowerPipers$Call" "there" "Z" "TowerPipers" ∈ tNEST := tne1 (List.mem_of_getElem? (i := 125) (by decide +kernel)) rfl
theorem kw_260 : Cond.code yX7_freeCall cX7_freeCall 2 (some .int) ∈ tWALL := tin2 (List.mem_of_getElem? (i := 39) (by decide +kernel)) rfl
theorem kw_261 : Cond.fieldLink RX7 45 "TowerPipers" "asked" "[I" ∈ tWALL := tin1 (List.mem_of_getElem? (i := 153) (by decide +kernel)) rfl
theorem kw_262 : Cond.methodLink RX7 109 yX7_freeCall ∈ tWALL := tin2 (List.mem_of_getElem? (i := 36) (by decide +kernel)) rfl
theorem kw_263 : Cond.instanceMethod yX7_freeCall ∈ tWALL := tin2 (List.mem_of_getElem? (i := 38) (by decide +kernel)) rfl
theorem kw_264 : Cond.selects RX7 yX7_freeCall yX7_freeCall ∈ tWALL := tin0 (List.mem_of_getElem? (i := 1) (by decide +kernel)) rfl
theorem kw_265 : Cond.static yX0_canBe ∈ tWALL := tin2 (List.mem_of_getElem? (i := 41) (by decide +kernel)) rfl
theorem kw_266 : Cond.methodLink RX7 112 yX0_canBe ∈ tWALL := tin2 (List.mem_of_getElem? (i := 40) (by decide +kernel)) rfl
theorem kw_267 : Cond.methodLink RX7 116 yX0_come ∈ tWALL := tin2 (List.mem_of_getElem? (i := 48) (by decide +kernel)) rfl
theorem kw_268 : Cond.instanceMethod yX0_come ∈ tWALL := tin2 (List.mem_of_getElem? (i := 49) (by decide +kernel)) rfl
theorem kw_269 : Cond.selects RX0 yX0_come yX0_come ∈ tWALL := tin2 (List.mem_of_getElem? (i := 50) (by decide +kernel)) rfl
theorem kw_270 : Cond.code yX7_call cX7_call 10 (some .int) ∈ tWALL := tin2 (List.mem_of_getElem? (i := 35) (by decide +kernel)) rfl
theorem kw_271 : Cond.code yX7_isCall cX7_isCall 2 (some .boolean) ∈ tWALL := tin2 (List.mem_of_getElem? (i := 60) (by decide +kernel)) rfl
theorem kw_272 : Cond.methodLink RX7 120 yX7_isCall ∈ tWALL := tin2 (List.mem_of_getElem? (i := 57) (by decide +kernel)) rfl
theorem kw_273 : Cond.instanceMethod yX7_isCall ∈ tWALL := tin2 (List.mem_of_getElem? (i := 59) (by decide +kernel)) rfl
theorem kw_274 : Cond.selects RX7 yX7_isCall yX7_isCall ∈ tWALL := tin0 (List.mem_of_getElem? (i := 2) (by decide +kernel)) rfl
theorem kw_275 : Cond.methodLink RX7 123 yX0_go ∈ tWALL := tin2 (List.mem_of_getElem? (i := 61) (by decide +kernel)) rfl
theorem kw_276 : Cond.instanceMethod yX0_go ∈ tWALL := tin2 (List.mem_of_getElem? (i := 62) (by decide +kernel)) rfl
theorem kw_277 : Cond.selects RX0 yX0_go yX0_go ∈ tWALL := tin2 (List.mem_of_getElem? (i := 63) (by decide +kernel)) rfl
theorem kw_278 : Cond.code yX7_off cX7_off 2 (some .boolean) ∈ tWALL := tin2 (List.mem_of_getElem? (i := 56) (by decide +kernel)) rfl
theorem kw_279 : Cond.fieldLink RX7 62 "TowerPipers" "today" "I" ∈ tWALL := tin1 (List.mem_of_getElem? (i := 157) (by decide +kernel)) rfl
theorem kw_280 : Cond.code yX7_monthOfToday cX7_monthOfToday 1 (some .int) ∈ tWALL := tin2 (List.mem_of_getElem? (i := 194) (by decide +kernel)) rfl
theorem kw_281 : Cond.fieldLink RX7 51 "TowerPipers" "plan" "LTowerPipers$Plan;" ∈ tWALL := tin1 (List.mem_of_getElem? (i := 154) (by decide +kernel)) rfl
theorem kw_282 : Cond.methodLink RX7 171 yX5_number ∈ tWALL := tin2 (List.mem_of_getElem? (i := 73) (by decide +kernel)) rfl
theorem kw_283 : Cond.instanceMethod yX5_number ∈ tWALL := tin2 (List.mem_of_getElem? (i := 74) (by decide +kernel)) rfl
theorem kw_284 : Cond.selects RX5 yX5_number yX5_number ∈ tWALL := tin2 (List.mem_of_getElem? (i := 75) (by decide +kernel)) rfl
theorem kw_285 : Cond.methodLink RX7 206 yX3_castCalls ∈ tWALL := tin2 (List.mem_of_getElem? (i := 77) (by decide +kernel)) rfl
theorem kw_286 : Cond.instanceMethod yX3_castCalls ∈ tWALL := tin2 (List.mem_of_getElem? (i := 78) (by decide +kernel)) rfl
theorem kw_287 : Cond.selects RX3 yX3_castCalls yX3_castCalls ∈ tWALL := tin2 (List.mem_of_getElem? (i := 79) (by decide +kernel)) rfl
theorem kw_288 : Cond.fieldLink RX7 37 "TowerPipers" "tunes" "[LTowerPipers$Tune;" ∈ tWALL := tin1 (List.mem_of_getElem? (i := 151) (by decide +kernel)) rfl
theorem kw_289 : Cond.methodLink RX7 197 yX7_monthOfToday ∈ tWALL := tin2 (List.mem_of_getElem? (i := 191) (by decide +kernel)) rfl
theorem kw_290 : Cond.instanceMethod yX7_monthOfToday ∈ tWALL := tin2 (List.mem_of_getElem? (i := 193) (by decide +kernel)) rfl
theorem kw_291 : Cond.selects RX7 yX7_monthOfToday yX7_monthOfToday ∈ tWALL := tin0 (List.mem_of_getElem? (i := 15) (by decide +kernel)) rfl
theorem kw_292 : Cond.methodLink RX7 210 yX3_chooseTunes ∈ tWALL := tin2 (List.mem_of_getElem? (i := 195) (by decide +kernel)) rfl
theorem kw_293 : Cond.instanceMethod yX3_chooseTunes ∈ tWALL := tin2 (List.mem_of_getElem? (i := 196) (by decide +kernel)) rfl
theorem kw_294 : Cond.selects RX3 yX3_chooseTunes yX3_chooseTunes ∈ tWALL := tin2 (List.mem_of_getElem? (i := 197) (by decide +kernel)) rfl
theorem kw_295 : Cond.code yX7_planOfToday cX7_planOfToday 1 (some (.object "TowerPipers$Plan")) ∈ tWALL := tin2 (List.mem_of_getElem? (i := 72) (by decide +kernel)) rfl
theorem kw_296 : Cond.methodLink RX7 126 yX7_planOfToday ∈ tWALL := tin2 (List.mem_of_getElem? (i := 69) (by decide +kernel)) rfl
theorem kw_297 : Cond.instanceMethod yX7_planOfToday ∈ tWALL := tin2 (List.mem_of_getElem? (i := 71) (by decide +kernel)) rfl
theorem kw_298 : Cond.selects RX7 yX7_planOfToday yX7_planOfToday ∈ tWALL := tin0 (List.mem_of_getElem? (i := 3) (by decide +kernel)) rfl
theorem kw_299 : Cond.methodLink RX7 130 yX3_playedBits ∈ tWALL := tin2 (List.mem_of_getElem? (i := 217) (by decide +kernel)) rfl
theorem kw_300 : Cond.instanceMethod yX3_playedBits ∈ tWALL := tin2 (List.mem_of_getElem? (i := 218) (by decide +kernel)) rfl
theorem kw_301 : Cond.selects RX3 yX3_playedBits yX3_playedBits ∈ tWALL := tin2 (List.mem_of_getElem? (i := 219) (by decide +kernel)) rfl
theorem kw_302 : Cond.code yX7_played cX7_played 1 (some .int) ∈ tWALL := tin2 (List.mem_of_getElem? (i := 68) (by decide +kernel)) rfl
theorem kw_303 : Cond.methodLink RX7 133 yX3_piperOf ∈ tWALL := tin2 (List.mem_of_getElem? (i := 225) (by decide +kernel)) rfl
theorem kw_304 : Cond.instanceMethod yX3_piperOf ∈ tWALL := tin2 (List.mem_of_getElem? (i := 226) (by decide +kernel)) rfl
theorem kw_305 : Cond.selects RX3 yX3_piperOf yX3_piperOf ∈ tWALL := tin2 (List.mem_of_getElem? (i := 227) (by decide +kernel)) rfl
theorem kw_306 : Cond.code yX7_who cX7_who 3 (some .int) ∈ tWALL := tin2 (List.mem_of_getElem? (i := 224) (by decide +kernel)) rfl
theorem kw_307 : Cond.fieldLink RX7 59 "TowerPipers" "tuneCount" "I" ∈ tWALL := tin1 (List.mem_of_getElem? (i := 156) (by decide +kernel)) rfl
theorem kw_308 : Cond.methodLink RX7 137 yX6_learn ∈ tWALL := tin2 (List.mem_of_getElem? (i := 237) (by decide +kernel)) rfl
theorem kw_309 : Cond.instanceMethod yX6_learn ∈ tWALL := tin2 (List.mem_of_getElem? (i := 238) (by decide +kernel)) rfl
theorem kw_310 : Cond.selects RX6 yX6_learn yX6_learn ∈ tWALL := tin2 (List.mem_of_getElem? (i := 239) (by decide +kernel)) rfl
theorem kw_311 : Cond.code yX7_tune cX7_tune 4 (some .int) ∈ tWALL := tin2 (List.mem_of_getElem? (i := 236) (by decide +kernel)) rfl
theorem kw_312 : Cond.methodLink RX7 140 yX3_tuneOf ∈ tWALL := tin3 (List.mem_of_getElem? (i := 5) (by decide +kernel)) rfl
theorem kw_313 : Cond.instanceMethod yX3_tuneOf ∈ tWALL := tin3 (List.mem_of_getElem? (i := 6) (by decide +kernel)) rfl
theorem kw_314 : Cond.selects RX3 yX3_tuneOf yX3_tuneOf ∈ tWALL := tin3 (List.mem_of_getElem? (i := 7) (by decide +kernel)) rfl
theorem kw_315 : Cond.code yX7_heard cX7_heard 2 (some .int) ∈ tWALL := tin3 (List.mem_of_getElem? (i := 4) (by decide +kernel)) rfl
theorem kw_316 : Cond.methodLink RX7 191 yX0_fact ∈ tWALL := tin3 (List.mem_of_getElem? (i := 18) (by decide +kernel)) rfl
theorem kw_317 : Cond.code yX7_fundShare cX7_fundShare 2 (some .int) ∈ tWALL := tin3 (List.mem_of_getElem? (i := 17) (by decide +kernel)) rfl
theorem kw_318 : Cond.fieldLinkNest RX7 179 "TowerPipers$Piper" "rank" "I" "TowerPipers" ∈ tNEST := tne1 (List.mem_of_getElem? (i := 102) (by decide +kernel)) rfl
theorem kw_319 : Cond.methodLink RX7 218 Lib.Math.max.name ∈ tWALL := tin3 (List.mem_of_getElem? (i := 27) (by decide +kernel)) rfl
theorem kw_320 : Cond.static Lib.Math.max.name ∈ tWALL := tin3 (List.mem_of_getElem? (i := 28) (by decide +kernel)) rfl
theorem kw_321 : Cond.code Lib.Math.max.name Lib.Math.max.code 2 (some .int) ∈ tWALL := tin3 (List.mem_of_getElem? (i := 29) (by decide +kernel)) rfl
theorem kw_322 : Cond.code yX7_partOfTwo cX7_partOfTwo 9 (some .int) ∈ tWALL := tin3 (List.mem_of_getElem? (i := 26) (by decide +kernel)) rfl
theorem kw_323 : Cond.methodLink RX7 147 yX7_fundShare ∈ tWALL := tin3 (List.mem_of_getElem? (i := 14) (by decide +kernel)) rfl
theorem kw_324 : Cond.instanceMethod yX7_fundShare ∈ tWALL := tin3 (List.mem_of_getElem? (i := 16) (by decide +kernel)) rfl
theorem kw_325 : Cond.selects RX7 yX7_fundShare yX7_fundShare ∈ tWALL := tin0 (List.mem_of_getElem? (i := 18) (by decide +kernel)) rfl
theorem kw_326 : Cond.methodLink RX7 214 yX7_partOfTwo ∈ tWALL := tin3 (List.mem_of_getElem? (i := 23) (by decide +kernel)) rfl
theorem kw_327 : Cond.instanceMethod yX7_partOfTwo ∈ tWALL := tin3 (List.mem_of_getElem? (i := 25) (by decide +kernel)) rfl
theorem kw_328 : Cond.selects RX7 yX7_partOfTwo yX7_partOfTwo ∈ tWALL := tin0 (List.mem_of_getElem? (i := 20) (by decide +kernel)) rfl
theorem kw_329 : Cond.code yX7_piperShare cX7_piperShare 7 (some .int) ∈ tWALL := tin3 (List.mem_of_getElem? (i := 22) (by decide +kernel)) rfl
theorem kw_330 : Cond.methodLink RX7 144 yX3_has ∈ tWALL := tin3 (List.mem_of_getElem? (i := 13) (by decide +kernel)) rfl
theorem kw_331 : Cond.methodLink RX7 150 yX7_piperShare ∈ tWALL := tin3 (List.mem_of_getElem? (i := 19) (by decide +kernel)) rfl
theorem kw_332 : Cond.instanceMethod yX7_piperShare ∈ tWALL := tin3 (List.mem_of_getElem? (i := 21) (by decide +kernel)) rfl
theorem kw_333 : Cond.selects RX7 yX7_piperShare yX7_piperShare ∈ tWALL := tin0 (List.mem_of_getElem? (i := 19) (by decide +kernel)) rfl
theorem kw_334 : Cond.code yX7_share cX7_share 4 (some .int) ∈ tWALL := tin3 (List.mem_of_getElem? (i := 12) (by decide +kernel)) rfl
theorem kw_335 : Cond.fieldLink RX7 65 "TowerPipers" "fund" "I" ∈ tWALL := tin1 (List.mem_of_getElem? (i := 158) (by decide +kernel)) rfl
theorem kw_336 : Cond.fieldLinkNest RX7 188 "TowerPipers$Piper" "wages" "I" "TowerPipers" ∈ tNEST := tne1 (List.mem_of_getElem? (i := 108) (by decide +kernel)) rfl
theorem kw_337 : Cond.code yX7_settle cX7_settle 4 none ∈ tWALL := tin3 (List.mem_of_getElem? (i := 37) (by decide +kernel)) rfl
theorem kw_338 : Cond.code yX7_fineTheWell cX7_fineTheWell 3 none ∈ tWALL := tin3 (List.mem_of_getElem? (i := 42) (by decide +kernel)) rfl
theorem kw_339 : Cond.methodLink RX7 174 Lib.Math.min.name ∈ tWALL := tin3 (List.mem_of_getElem? (i := 51) (by decide +kernel)) rfl
theorem kw_340 : Cond.static Lib.Math.min.name ∈ tWALL := tin3 (List.mem_of_getElem? (i := 52) (by decide +kernel)) rfl
theorem kw_341 : Cond.code Lib.Math.min.name Lib.Math.min.code 2 (some .int) ∈ tWALL := tin3 (List.mem_of_getElem? (i := 53) (by decide +kernel)) rfl
theorem kw_342 : Cond.code yX7_payTheOld cX7_payTheOld 3 none ∈ tWALL := tin3 (List.mem_of_getElem? (i := 50) (by decide +kernel)) rfl
theorem kw_343 : Cond.methodLink RX7 168 yX7_payTheOld ∈ tWALL := tin3 (List.mem_of_getElem? (i := 47) (by decide +kernel)) rfl
theorem kw_344 : Cond.instanceMethod yX7_payTheOld ∈ tWALL := tin3 (List.mem_of_getElem? (i := 49) (by decide +kernel)) rfl
theorem kw_345 : Cond.selects RX7 yX7_payTheOld yX7_payTheOld ∈ tWALL := tin0 (List.mem_of_getElem? (i := 23) (by decide +kernel)) rfl
theorem kw_346 : Cond.methodLink RX7 164 yX3_hearTunes ∈ tWALL := tin3 (List.mem_of_getElem? (i := 43) (by decide +kernel)) rfl
theorem kw_347 : Cond.instanceMethod yX3_hearTunes ∈ tWALL := tin3 (List.mem_of_getElem? (i := 44) (by decide +kernel)) rfl
theorem kw_348 : Cond.selects RX3 yX3_hearTunes yX3_hearTunes ∈ tWALL := tin3 (List.mem_of_getElem? (i := 45) (by decide +kernel)) rfl
theorem kw_349 : Cond.methodLink RX7 158 yX0_isOfOrder ∈ tWALL := tin3 (List.mem_of_getElem? (i := 38) (by decide +kernel)) rfl
theorem kw_350 : Cond.methodLink RX7 161 yX7_fineTheWell ∈ tWALL := tin3 (List.mem_of_getElem? (i := 39) (by decide +kernel)) rfl
theorem kw_351 : Cond.instanceMethod yX7_fineTheWell ∈ tWALL := tin3 (List.mem_of_getElem? (i := 41) (by decide +kernel)) rfl
theorem kw_352 : Cond.selects RX7 yX7_fineTheWell yX7_fineTheWell ∈ tWALL := tin0 (List.mem_of_getElem? (i := 22) (by decide +kernel)) rfl
theorem kw_353 : Cond.methodLink RX7 154 yX7_settle ∈ tWALL := tin3 (List.mem_of_getElem? (i := 34) (by decide +kernel)) rfl
theorem kw_354 : Cond.instanceMethod yX7_settle ∈ tWALL := tin3 (List.mem_of_getElem? (i := 36) (by decide +kernel)) rfl
theorem kw_355 : Cond.selects RX7 yX7_settle yX7_settle ∈ tWALL := tin0 (List.mem_of_getElem? (i := 21) (by decide +kernel)) rfl
theorem kw_356 : Cond.code yX7_day cX7_day 3 (some .int) ∈ tWALL := tin3 (List.mem_of_getElem? (i := 33) (by decide +kernel)) rfl
theorem kw_357 : Cond.code yX7_lasts cX7_lasts 3 (some .int) ∈ tWALL := tin3 (List.mem_of_getElem? (i := 57) (by decide +kernel)) rfl
theorem kw_358 : Cond.fieldLinkNest RX7 182 "TowerPipers$Piper" "plays" "I" "TowerPipers" ∈ tNEST := tne1 (List.mem_of_getElem? (i := 104) (by decide +kernel)) rfl
theorem kw_359 : Cond.methodLink RX7 185 yX3_partsOf ∈ tWALL := tin3 (List.mem_of_getElem? (i := 62) (by decide +kernel)) rfl
theorem kw_360 : Cond.instanceMethod yX3_partsOf ∈ tWALL := tin3 (List.mem_of_getElem? (i := 63) (by decide +kernel)) rfl
theorem kw_361 : Cond.selects RX3 yX3_partsOf yX3_partsOf ∈ tWALL := tin3 (List.mem_of_getElem? (i := 64) (by decide +kernel)) rfl
theorem kw_362 : Cond.code yX7_look cX7_look 3 (some .int) ∈ tWALL := tin3 (List.mem_of_getElem? (i := 61) (by decide +kernel)) rfl
theorem kw_363 : Cond.code yX7_wages cX7_wages 2 (some .int) ∈ tWALL := tin3 (List.mem_of_getElem? (i := 73) (by decide +kernel)) rfl
theorem kw_364 : Cond.code yX7_about cX7_about 3 (some .int) ∈ tWALL := tin3 (List.mem_of_getElem? (i := 77) (by decide +kernel)) rfl
theorem kw_365 : Cond.code yX7_callCount cX7_callCount 3 (some .int) ∈ tWALL := tin3 (List.mem_of_getElem? (i := 89) (by decide +kernel)) rfl
theorem kw_366 : Cond.methodLink RX7 200 yX7_callCount ∈ tWALL := tin3 (List.mem_of_getElem? (i := 86) (by decide +kernel)) rfl
theorem kw_367 : Cond.instanceMethod yX7_callCount ∈ tWALL := tin3 (List.mem_of_getElem? (i := 88) (by decide +kernel)) rfl
theorem kw_368 : Cond.selects RX7 yX7_callCount yX7_callCount ∈ tWALL := tin0 (List.mem_of_getElem? (i := 24) (by decide +kernel)) rfl
theorem kw_369 : Cond.methodLink RX7 194 yX6_dayHeard ∈ tWALL := tin3 (List.mem_of_getElem? (i := 82) (by decide +kernel)) rfl
theorem kw_370 : Cond.instanceMethod yX6_dayHeard ∈ tWALL := tin3 (List.mem_of_getElem? (i := 83) (by decide +kernel)) rfl
theorem kw_371 : Cond.selects RX6 yX6_dayHeard yX6_dayHeard ∈ tWALL := tin3 (List.mem_of_getElem? (i := 84) (by decide +kernel)) rfl
theorem kw_372 : Cond.code yX7_count cX7_count 2 (some .int) ∈ tWALL := tin3 (List.mem_of_getElem? (i := 81) (by decide +kernel)) rfl
theorem kw_373 : Cond.initialized RX8 ∈ tWALL := tin1 (List.mem_of_getElem? (i := 9) (by decide +kernel)) rfl
theorem kw_374 : Cond.code yX8_lies cX8_lies 3 (some .boolean) ∈ tWALL := tin3 (List.mem_of_getElem? (i := 213) (by decide +kernel)) rfl
theorem kw_375 : Cond.code yX8_has cX8_has 2 (some .boolean) ∈ tWALL := tin4 (List.mem_of_getElem? (i := 38) (by decide +kernel)) rfl
theorem kw_376 : Cond.fieldLink RX8 7 "TowerPipersModel" "tape" "[B" ∈ tWALL := tin3 (List.mem_of_getElem? (i := 99) (by decide +kernel)) rfl
theorem kw_377 : Cond.fieldLink RX8 75 "TowerPipersModel" "taped" "I" ∈ tWALL := tin3 (List.mem_of_getElem? (i := 100) (by decide +kernel)) rfl
theorem kw_378 : Cond.code yX8_push cX8_push 3 none ∈ tWALL := tin3 (List.mem_of_getElem? (i := 195) (by decide +kernel)) rfl
theorem kw_379 : Cond.methodLink RX8 79 yX8_push ∈ tWALL := tin3 (List.mem_of_getElem? (i := 192) (by decide +kernel)) rfl
theorem kw_380 : Cond.instanceMethod yX8_push ∈ tWALL := tin3 (List.mem_of_getElem? (i := 194) (by decide +kernel)) rfl
theorem kw_381 : Cond.selects RX8 yX8_push yX8_push ∈ tWALL := tin0 (List.mem_of_getElem? (i := 25) (by decide +kernel)) rfl
theorem kw_382 : Cond.code yX8_feed cX8_feed 6 (some .int) ∈ tWALL := tin3 (List.mem_of_getElem? (i := 191) (by decide +kernel)) rfl
theorem kw_383 : Cond.code yX8_asAtFirst cX8_asAtFirst 1 none ∈ tWALL := tin3 (List.mem_of_getElem? (i := 98) (by decide +kernel)) rfl
theorem kw_384 : Cond.code yX8_letter cX8_letter 1 (some .int) ∈ tWALL := tin3 (List.mem_of_getElem? (i := 210) (by decide +kernel)) rfl
theorem kw_385 : Cond.code yX8_canBe cX8_canBe 2 (some .boolean) ∈ tWALL := tin3 (List.mem_of_getElem? (i := 216) (by decide +kernel)) rfl
theorem kw_386 : Cond.code yX8_at cX8_at 3 (some .int) ∈ tWALL := tin3 (List.mem_of_getElem? (i := 207) (by decide +kernel)) rfl
theorem kw_387 : Cond.static yX8_canBe ∈ tWALL := tin3 (List.mem_of_getElem? (i := 215) (by decide +kernel)) rfl
theorem kw_388 : Cond.methodLink RX8 95 yX8_canBe ∈ tWALL := tin3 (List.mem_of_getElem? (i := 214) (by decide +kernel)) rfl
theorem kw_389 : Cond.fieldLink RX8 17 "TowerPipersModel" "read" "[I" ∈ tWALL := tin3 (List.mem_of_getElem? (i := 107) (by decide +kernel)) rfl
theorem kw_390 : Cond.methodLink RX8 83 yX8_at ∈ tWALL := tin3 (List.mem_of_getElem? (i := 204) (by decide +kernel)) rfl
theorem kw_391 : Cond.instanceMethod yX8_at ∈ tWALL := tin3 (List.mem_of_getElem? (i := 206) (by decide +kernel)) rfl
theorem kw_392 : Cond.selects RX8 yX8_at yX8_at ∈ tWALL := tin0 (List.mem_of_getElem? (i := 27) (by decide +kernel)) rfl
theorem kw_393 : Cond.static yX8_lies ∈ tWALL := tin3 (List.mem_of_getElem? (i := 212) (by decide +kernel)) rfl
theorem kw_394 : Cond.methodLink RX8 91 yX8_lies ∈ tWALL := tin3 (List.mem_of_getElem? (i := 211) (by decide +kernel)) rfl
theorem kw_395 : Cond.static yX8_letter ∈ tWALL := tin3 (List.mem_of_getElem? (i := 209) (by decide +kernel)) rfl
theorem kw_396 : Cond.methodLink RX8 87 yX8_letter ∈ tWALL := tin3 (List.mem_of_getElem? (i := 208) (by decide +kernel)) rfl
theorem kw_397 : Cond.static yX8_asAtFirst ∈ tWALL := tin3 (List.mem_of_getElem? (i := 97) (by decide +kernel)) rfl
theorem kw_398 : Cond.methodLink RX8 71 yX8_asAtFirst ∈ tWALL := tin3 (List.mem_of_getElem? (i := 96) (by decide +kernel)) rfl
theorem kw_399 : Cond.code yX8_reads cX8_reads 7 (some .int) ∈ tWALL := tin3 (List.mem_of_getElem? (i := 203) (by decide +kernel)) rfl
theorem kw_400 : Cond.fieldLink RX8 13 "TowerPipersModel" "word" "[I" ∈ tWALL := tin3 (List.mem_of_getElem? (i := 106) (by decide +kernel)) rfl
theorem kw_401 : Cond.methodLink RX8 99 yX8_reads ∈ tWALL := tin3 (List.mem_of_getElem? (i := 200) (by decide +kernel)) rfl
theorem kw_402 : Cond.instanceMethod yX8_reads ∈ tWALL := tin3 (List.mem_of_getElem? (i := 202) (by decide +kernel)) rfl
theorem kw_403 : Cond.selects RX8 yX8_reads yX8_reads ∈ tWALL := tin0 (List.mem_of_getElem? (i := 26) (by decide +kernel)) rfl
theorem kw_404 : Cond.code yX8_word cX8_word 4 (some .int) ∈ tWALL := tin3 (List.mem_of_getElem? (i := 199) (by decide +kernel)) rfl
theorem kw_405 : Cond.fieldLink RX8 102 "TowerPipersModel" "pipers" "I" ∈ tWALL := tin3 (List.mem_of_getElem? (i := 102) (by decide +kernel)) rfl
theorem kw_406 : Cond.code yX8_isPiper cX8_isPiper 2 (some .boolean) ∈ tWALL := tin3 (List.mem_of_getElem? (i := 228) (by decide +kernel)) rfl
theorem kw_407 : Cond.fieldLink RX8 20 "TowerPipersModel" "rank" "[I" ∈ tWALL := tin3 (List.mem_of_getElem? (i := 108) (by decide +kernel)) rfl
theorem kw_408 : Cond.fieldLink RX8 23 "TowerPipersModel" "plays" "[I" ∈ tWALL := tin3 (List.mem_of_getElem? (i := 109) (by decide +kernel)) rfl
theorem kw_409 : Cond.code yX8_piper cX8_piper 3 (some .int) ∈ tWALL := tin3 (List.mem_of_getElem? (i := 220) (by decide +kernel)) rfl
theorem kw_410 : Cond.fieldLink RX8 26 "TowerPipersModel" "how" "[I" ∈ tWALL := tin3 (List.mem_of_getElem? (i := 110) (by decide +kernel)) rfl
theorem kw_411 : Cond.methodLink RX8 105 yX8_isPiper ∈ tWALL := tin3 (List.mem_of_getElem? (i := 225) (by decide +kernel)) rfl
theorem kw_412 : Cond.instanceMethod yX8_isPiper ∈ tWALL := tin3 (List.mem_of_getElem? (i := 227) (by decide +kernel)) rfl
theorem kw_413 : Cond.selects RX8 yX8_isPiper yX8_isPiper ∈ tWALL := tin0 (List.mem_of_getElem? (i := 28) (by decide +kernel)) rfl
theorem kw_414 : Cond.code yX8_ill cX8_ill 3 (some .boolean) ∈ tWALL := tin3 (List.mem_of_getElem? (i := 224) (by decide +kernel)) rfl
theorem kw_415 : Cond.code yX8_old cX8_old 2 (some .boolean) ∈ tWALL := tin3 (List.mem_of_getElem? (i := 232) (by decide +kernel)) rfl
theorem kw_416 : Cond.fieldLink RX8 32 "TowerPipersModel" "pieces" "[I" ∈ tWALL := tin3 (List.mem_of_getElem? (i := 112) (by decide +kernel)) rfl
theorem kw_417 : Cond.code yX8_pieces cX8_pieces 3 (some .boolean) ∈ tWALL := tin3 (List.mem_of_getElem? (i := 236) (by decide +kernel)) rfl
theorem kw_418 : Cond.code yX8_isInstrument cX8_isInstrument 1 (some .boolean) ∈ tWALL := tin4 (List.mem_of_getElem? (i := 3) (by decide +kernel)) rfl
theorem kw_419 : Cond.fieldLink RX8 35 "TowerPipersModel" "call" "[I" ∈ tWALL := tin3 (List.mem_of_getElem? (i := 113) (by decide +kernel)) rfl
theorem kw_420 : Cond.code yX8_isCall cX8_isCall 2 (some .boolean) ∈ tWALL := tin4 (List.mem_of_getElem? (i := 7) (by decide +kernel)) rfl
theorem kw_421 : Cond.code yX8_of cX8_of 3 (some .int) ∈ tWALL := tin4 (List.mem_of_getElem? (i := 27) (by decide +kernel)) rfl
theorem kw_422 : Cond.methodLink RX8 112 yX8_isCall ∈ tWALL := tin4 (List.mem_of_getElem? (i := 4) (by decide +kernel)) rfl
theorem kw_423 : Cond.instanceMethod yX8_isCall ∈ tWALL := tin4 (List.mem_of_getElem? (i := 6) (by decide +kernel)) rfl
theorem kw_424 : Cond.selects RX8 yX8_isCall yX8_isCall ∈ tWALL := tin0 (List.mem_of_getElem? (i := 29) (by decide +kernel)) rfl
theorem kw_425 : Cond.static yX8_isInstrument ∈ tWALL := tin4 (List.mem_of_getElem? (i := 2) (by decide +kernel)) rfl
theorem kw_426 : Cond.methodLink RX8 109 yX8_isInstrument ∈ tWALL := tin4 (List.mem_of_getElem? (i := 1) (by decide +kernel)) rfl
theorem kw_427 : Cond.code yX8_call cX8_call 10 (some .int) ∈ tWALL := tin4 (List.mem_of_getElem? (i := 0) (by decide +kernel)) rfl
theorem kw_428 : Cond.code yX8_off cX8_off 2 (some .boolean) ∈ tWALL := tin4 (List.mem_of_getElem? (i := 11) (by decide +kernel)) rfl
theorem kw_429 : Cond.methodLink RX8 118 yX8_of ∈ tWALL := tin4 (List.mem_of_getElem? (i := 24) (by decide +kernel)) rfl
theorem kw_430 : Cond.instanceMethod yX8_of ∈ tWALL := tin4 (List.mem_of_getElem? (i := 26) (by decide +kernel)) rfl
theorem kw_431 : Cond.selects RX8 yX8_of yX8_of ∈ tWALL := tin0 (List.mem_of_getElem? (i := 32) (by decide +kernel)) rfl
theorem kw_432 : Cond.fieldLink RX8 50 "TowerPipersModel" "row" "[I" ∈ tWALL := tin3 (List.mem_of_getElem? (i := 121) (by decide +kernel)) rfl
theorem kw_433 : Cond.fieldLink RX8 115 "TowerPipersModel" "many" "I" ∈ tWALL := tin3 (List.mem_of_getElem? (i := 118) (by decide +kernel)) rfl
theorem kw_434 : Cond.code yX8_sorts cX8_sorts 3 none ∈ tWALL := tin4 (List.mem_of_getElem? (i := 23) (by decide +kernel)) rfl
theorem kw_435 : Cond.code yX8_apart cX8_apart 2 (some .int) ∈ tWALL := tin4 (List.mem_of_getElem? (i := 57) (by decide +kernel)) rfl
theorem kw_436 : Cond.static yX8_apart ∈ tWALL := tin4 (List.mem_of_getElem? (i := 56) (by decide +kernel)) rfl
theorem kw_437 : Cond.methodLink RX8 121 yX8_apart ∈ tWALL := tin4 (List.mem_of_getElem? (i := 55) (by decide +kernel)) rfl
theorem kw_438 : Cond.code yX8_goes cX8_goes 6 (some .boolean) ∈ tWALL := tin4 (List.mem_of_getElem? (i := 54) (by decide +kernel)) rfl
theorem kw_439 : Cond.fieldLink RX8 124 "TowerPipersModel" "parts" "I" ∈ tWALL := tin3 (List.mem_of_getElem? (i := 120) (by decide +kernel)) rfl
theorem kw_440 : Cond.fieldLink RX8 53 "TowerPipersModel" "partCall" "[I" ∈ tWALL := tin3 (List.mem_of_getElem? (i := 122) (by decide +kernel)) rfl
theorem kw_441 : Cond.fieldLink RX8 56 "TowerPipersModel" "partOf" "[I" ∈ tWALL := tin3 (List.mem_of_getElem? (i := 123) (by decide +kernel)) rfl
theorem kw_442 : Cond.code yX8_hasPieces cX8_hasPieces 6 (some .boolean) ∈ tWALL := tin4 (List.mem_of_getElem? (i := 42) (by decide +kernel)) rfl
theorem kw_443 : Cond.fieldLink RX8 127 "TowerPipersModel" "set" "I" ∈ tWALL := tin3 (List.mem_of_getElem? (i := 119) (by decide +kernel)) rfl
theorem kw_444 : Cond.static yX8_has ∈ tWALL := tin4 (List.mem_of_getElem? (i := 37) (by decide +kernel)) rfl
theorem kw_445 : Cond.methodLink RX8 130 yX8_has ∈ tWALL := tin4 (List.mem_of_getElem? (i := 36) (by decide +kernel)) rfl
theorem kw_446 : Cond.code yX8_lists cX8_lists 4 none ∈ tWALL := tin4 (List.mem_of_getElem? (i := 35) (by decide +kernel)) rfl
theorem kw_447 : Cond.fieldLink RX8 59 "TowerPipersModel" "taker" "[I" ∈ tWALL := tin3 (List.mem_of_getElem? (i := 124) (by decide +kernel)) rfl
theorem kw_448 : Cond.methodLink RX8 132 yX8_goes ∈ tWALL := tin4 (List.mem_of_getElem? (i := 51) (by decide +kernel)) rfl
theorem kw_449 : Cond.instanceMethod yX8_goes ∈ tWALL := tin4 (List.mem_of_getElem? (i := 53) (by decide +kernel)) rfl
theorem kw_450 : Cond.selects RX8 yX8_goes yX8_goes ∈ tWALL := tin0 (List.mem_of_getElem? (i := 38) (by decide +kernel)) rfl
theorem kw_451 : Cond.code yX8_hinders cX8_hinders 4 (some .int) ∈ tWALL := tin4 (List.mem_of_getElem? (i := 50) (by decide +kernel)) rfl
theorem kw_452 : Cond.methodLink RX8 135 yX8_hinders ∈ tWALL := tin4 (List.mem_of_getElem? (i := 47) (by decide +kernel)) rfl
theorem kw_453 : Cond.instanceMethod yX8_hinders ∈ tWALL := tin4 (List.mem_of_getElem? (i := 49) (by decide +kernel)) rfl
theorem kw_454 : Cond.selects RX8 yX8_hinders yX8_hinders ∈ tWALL := tin0 (List.mem_of_getElem? (i := 37) (by decide +kernel)) rfl
theorem kw_455 : Cond.fieldLink RX8 62 "TowerPipersModel" "blame" "[I" ∈ tWALL := tin3 (List.mem_of_getElem? (i := 125) (by decide +kernel)) rfl
theorem kw_456 : Cond.code yX8_takes cX8_takes 3 (some .boolean) ∈ tWALL := tin4 (List.mem_of_getElem? (i := 46) (by decide +kernel)) rfl
theorem kw_457 : Cond.methodLink RX8 145 yX8_takes ∈ tWALL := tin4 (List.mem_of_getElem? (i := 43) (by decide +kernel)) rfl
theorem kw_458 : Cond.instanceMethod yX8_takes ∈ tWALL := tin4 (List.mem_of_getElem? (i := 45) (by decide +kernel)) rfl
theorem kw_459 : Cond.selects RX8 yX8_takes yX8_takes ∈ tWALL := tin0 (List.mem_of_getElem? (i := 36) (by decide +kernel)) rfl
theorem kw_460 : Cond.methodLink RX8 138 yX8_lists ∈ tWALL := tin4 (List.mem_of_getElem? (i := 32) (by decide +kernel)) rfl
theorem kw_461 : Cond.instanceMethod yX8_lists ∈ tWALL := tin4 (List.mem_of_getElem? (i := 34) (by decide +kernel)) rfl
theorem kw_462 : Cond.selects RX8 yX8_lists yX8_lists ∈ tWALL := tin0 (List.mem_of_getElem? (i := 34) (by decide +kernel)) rfl
theorem kw_463 : Cond.methodLink RX8 141 yX8_hasPieces ∈ tWALL := tin4 (List.mem_of_getElem? (i := 39) (by decide +kernel)) rfl
theorem kw_464 : Cond.instanceMethod yX8_hasPieces ∈ tWALL := tin4 (List.mem_of_getElem? (i := 41) (by decide +kernel)) rfl
theorem kw_465 : Cond.selects RX8 yX8_hasPieces yX8_hasPieces ∈ tWALL := tin0 (List.mem_of_getElem? (i := 35) (by decide +kernel)) rfl
theorem kw_466 : Cond.code yX8_canBePlayed cX8_canBePlayed 4 (some .boolean) ∈ tWALL := tin4 (List.mem_of_getElem? (i := 31) (by decide +kernel)) rfl
theorem kw_467 : Cond.methodLink RX8 151 yX8_canBePlayed ∈ tWALL := tin4 (List.mem_of_getElem? (i := 28) (by decide +kernel)) rfl
theorem kw_468 : Cond.instanceMethod yX8_canBePlayed ∈ tWALL := tin4 (List.mem_of_getElem? (i := 30) (by decide +kernel)) rfl
theorem kw_469 : Cond.selects RX8 yX8_canBePlayed yX8_canBePlayed ∈ tWALL := tin0 (List.mem_of_getElem? (i := 33) (by decide +kernel)) rfl
theorem kw_470 : Cond.methodLink RX8 148 yX8_sorts ∈ tWALL := tin4 (List.mem_of_getElem? (i := 20) (by decide +kernel)) rfl
theorem kw_471 : Cond.instanceMethod yX8_sorts ∈ tWALL := tin4 (List.mem_of_getElem? (i := 22) (by decide +kernel)) rfl
theorem kw_472 : Cond.selects RX8 yX8_sorts yX8_sorts ∈ tWALL := tin0 (List.mem_of_getElem? (i := 31) (by decide +kernel)) rfl
theorem kw_473 : Cond.code yX8_works cX8_works 2 (some .int) ∈ tWALL := tin4 (List.mem_of_getElem? (i := 19) (by decide +kernel)) rfl
theorem kw_474 : Cond.methodLink RX8 154 yX8_works ∈ tWALL := tin4 (List.mem_of_getElem? (i := 16) (by decide +kernel)) rfl
theorem kw_475 : Cond.instanceMethod yX8_works ∈ tWALL := tin4 (List.mem_of_getElem? (i := 18) (by decide +kernel)) rfl
theorem kw_476 : Cond.selects RX8 yX8_works yX8_works ∈ tWALL := tin0 (List.mem_of_getElem? (i := 30) (by decide +kernel)) rfl
theorem kw_477 : Cond.code yX8_played cX8_played 1 (some .int) ∈ tWALL := tin4 (List.mem_of_getElem? (i := 15) (by decide +kernel)) rfl
theorem kw_478 : Cond.code yX8_whoHas cX8_whoHas 5 (some .int) ∈ tWALL := tin4 (List.mem_of_getElem? (i := 65) (by decide +kernel)) rfl
theorem kw_479 : Cond.methodLink RX8 158 yX8_whoHas ∈ tWALL := tin4 (List.mem_of_getElem? (i := 62) (by decide +kernel)) rfl
theorem kw_480 : Cond.instanceMethod yX8_whoHas ∈ tWALL := tin4 (List.mem_of_getElem? (i := 64) (by decide +kernel)) rfl
theorem kw_481 : Cond.selects RX8 yX8_whoHas yX8_whoHas ∈ tWALL := tin0 (List.mem_of_getElem? (i := 39) (by decide +kernel)) rfl
theorem kw_482 : Cond.code yX8_who cX8_who 3 (some .int) ∈ tWALL := tin4 (List.mem_of_getElem? (i := 61) (by decide +kernel)) rfl
theorem kw_483 : Cond.fieldLink RX8 161 "TowerPipersModel" "tunes" "I" ∈ tWALL := tin3 (List.mem_of_getElem? (i := 103) (by decide +kernel)) rfl
theorem kw_484 : Cond.fieldLink RX8 38 "TowerPipersModel" "fits" "[I" ∈ tWALL := tin3 (List.mem_of_getElem? (i := 114) (by decide +kernel)) rfl
theorem kw_485 : Cond.fieldLink RX8 41 "TowerPipersModel" "months" "[I" ∈ tWALL := tin3 (List.mem_of_getElem? (i := 115) (by decide +kernel)) rfl
theorem kw_486 : Cond.fieldLink RX8 44 "TowerPipersModel" "heardDay" "[I" ∈ tWALL := tin3 (List.mem_of_getElem? (i := 116) (by decide +kernel)) rfl
theorem kw_487 : Cond.fieldLink RX8 47 "TowerPipersModel" "heardAs" "[I" ∈ tWALL := tin3 (List.mem_of_getElem? (i := 117) (by decide +kernel)) rfl
theorem kw_488 : Cond.code yX8_tune cX8_tune 3 (some .int) ∈ tWALL := tin4 (List.mem_of_getElem? (i := 69) (by decide +kernel)) rfl
theorem kw_489 : Cond.fieldLink RX8 164 "TowerPipersModel" "today" "I" ∈ tWALL := tin3 (List.mem_of_getElem? (i := 101) (by decide +kernel)) rfl
theorem kw_490 : Cond.code yX8_month cX8_month 1 (some .int) ∈ tWALL := tin4 (List.mem_of_getElem? (i := 81) (by decide +kernel)) rfl
theorem kw_491 : Cond.fieldLink RX8 65 "TowerPipersModel" "has" "[I" ∈ tWALL := tin3 (List.mem_of_getElem? (i := 126) (by decide +kernel)) rfl
theorem kw_492 : Cond.fieldLink RX8 68 "TowerPipersModel" "turn" "[I" ∈ tWALL := tin3 (List.mem_of_getElem? (i := 127) (by decide +kernel)) rfl
theorem kw_493 : Cond.methodLink RX8 170 yX8_month ∈ tWALL := tin4 (List.mem_of_getElem? (i := 78) (by decide +kernel)) rfl
theorem kw_494 : Cond.instanceMethod yX8_month ∈ tWALL := tin4 (List.mem_of_getElem? (i := 80) (by decide +kernel)) rfl
theorem kw_495 : Cond.selects RX8 yX8_month yX8_month ∈ tWALL := tin0 (List.mem_of_getElem? (i := 41) (by decide +kernel)) rfl
theorem kw_496 : Cond.fieldLink RX8 167 "TowerPipersModel" "stamps" "I" ∈ tWALL := tin3 (List.mem_of_getElem? (i := 105) (by decide +kernel)) rfl
theorem kw_497 : Cond.code yX8_tunesOf cX8_tunesOf 6 none ∈ tWALL := tin4 (List.mem_of_getElem? (i := 77) (by decide +kernel)) rfl
theorem kw_498 : Cond.methodLink RX8 173 yX8_tunesOf ∈ tWALL := tin4 (List.mem_of_getElem? (i := 74) (by decide +kernel)) rfl
theorem kw_499 : Cond.instanceMethod yX8_tunesOf ∈ tWALL := tin4 (List.mem_of_getElem? (i := 76) (by decide +kernel)) rfl
theorem kw_500 : Cond.selects RX8 yX8_tunesOf yX8_tunesOf ∈ tWALL := tin0 (List.mem_of_getElem? (i := 40) (by decide +kernel)) rfl
theorem kw_501 : Cond.code yX8_heard cX8_heard 2 (some .int) ∈ tWALL := tin4 (List.mem_of_getElem? (i := 73) (by decide +kernel)) rfl
theorem kw_502 : Cond.code yX8_fundOf cX8_fundOf 2 (some .int) ∈ tWALL := tin4 (List.mem_of_getElem? (i := 89) (by decide +kernel)) rfl
theorem kw_503 : Cond.methodLink RX8 176 yX8_fundOf ∈ tWALL := tin4 (List.mem_of_getElem? (i := 86) (by decide +kernel)) rfl
theorem kw_504 : Cond.instanceMethod yX8_fundOf ∈ tWALL := tin4 (List.mem_of_getElem? (i := 88) (by decide +kernel)) rfl
theorem kw_505 : Cond.selects RX8 yX8_fundOf yX8_fundOf ∈ tWALL := tin0 (List.mem_of_getElem? (i := 42) (by decide +kernel)) rfl
theorem kw_506 : Cond.code yX8_shareOf cX8_shareOf 12 (some .int) ∈ tWALL := tin4 (List.mem_of_getElem? (i := 93) (by decide +kernel)) rfl
theorem kw_507 : Cond.methodLink RX8 179 yX8_shareOf ∈ tWALL := tin4 (List.mem_of_getElem? (i := 90) (by decide +kernel)) rfl
theorem kw_508 : Cond.instanceMethod yX8_shareOf ∈ tWALL := tin4 (List.mem_of_getElem? (i := 92) (by decide +kernel)) rfl
theorem kw_509 : Cond.selects RX8 yX8_shareOf yX8_shareOf ∈ tWALL := tin0 (List.mem_of_getElem? (i := 43) (by decide +kernel)) rfl
theorem kw_510 : Cond.code yX8_share cX8_share 3 (some .int) ∈ tWALL := tin4 (List.mem_of_getElem? (i := 85) (by decide +kernel)) rfl
theorem kw_511 : Cond.fieldLink RX8 29 "TowerPipersModel" "wages" "[I" ∈ tWALL := tin3 (List.mem_of_getElem? (i := 111) (by decide +kernel)) rfl
theorem kw_512 : Cond.fieldLink RX8 182 "TowerPipersModel" "fund" "I" ∈ tWALL := tin3 (List.mem_of_getElem? (i := 104) (by decide +kernel)) rfl
theorem kw_513 : Cond.code yX8_fines cX8_fines 2 none ∈ tWALL := tin4 (List.mem_of_getElem? (i := 101) (by decide +kernel)) rfl
theorem kw_514 : Cond.methodLink RX8 185 yX8_fines ∈ tWALL := tin4 (List.mem_of_getElem? (i := 98) (by decide +kernel)) rfl
theorem kw_515 : Cond.instanceMethod yX8_fines ∈ tWALL := tin4 (List.mem_of_getElem? (i := 100) (by decide +kernel)) rfl
theorem kw_516 : Cond.selects RX8 yX8_fines yX8_fines ∈ tWALL := tin0 (List.mem_of_getElem? (i := 44) (by decide +kernel)) rfl
theorem kw_517 : Cond.code yX8_day cX8_day 4 (some .int) ∈ tWALL := tin4 (List.mem_of_getElem? (i := 97) (by decide +kernel)) rfl
theorem kw_518 : Cond.code yX8_lasts cX8_lasts 3 (some .int) ∈ tWALL := tin4 (List.mem_of_getElem? (i := 105) (by decide +kernel)) rfl
theorem kw_519 : Cond.code yX8_look cX8_look 6 (some .int) ∈ tWALL := tin4 (List.mem_of_getElem? (i := 109) (by decide +kernel)) rfl
theorem kw_520 : Cond.code yX8_wages cX8_wages 2 (some .int) ∈ tWALL := tin4 (List.mem_of_getElem? (i := 113) (by decide +kernel)) rfl
theorem kw_521 : Cond.code yX8_about cX8_about 3 (some .int) ∈ tWALL := tin4 (List.mem_of_getElem? (i := 117) (by decide +kernel)) rfl
theorem kw_522 : Cond.code yX8_count cX8_count 4 (some .int) ∈ tWALL := tin4 (List.mem_of_getElem? (i := 121) (by decide +kernel)) rfl
