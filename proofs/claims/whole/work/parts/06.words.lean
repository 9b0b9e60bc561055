theorem q_0 : Cond.selects RX4 yX4_tell yX4_tell ∈ lw_tbl := List.mem_of_getElem? (i := 0) (by decide +kernel)
theorem q_1 : Cond.selects RX0 yX0_raiseTo yX0_raiseTo ∈ lw_tbl := List.mem_of_getElem? (i := 1) (by decide +kernel)
theorem q_2 : Cond.selects RX0 yX0_renewTop yX0_renewTop ∈ lw_tbl := List.mem_of_getElem? (i := 2) (by decide +kernel)
theorem q_3 : Cond.selects RX0 yX0_ageTo yX0_ageTo ∈ lw_tbl := List.mem_of_getElem? (i := 3) (by decide +kernel)
theorem q_4 : Cond.selects RX0 yX0_place yX0_place ∈ lw_tbl := List.mem_of_getElem? (i := 4) (by decide +kernel)
theorem q_5 : Cond.selects RX0 yX0_worthOf yX0_worthOf ∈ lw_tbl := List.mem_of_getElem? (i := 5) (by decide +kernel)
theorem q_6 : Cond.selects RX0 yX0_isBuiltUp yX0_isBuiltUp ∈ lw_tbl := List.mem_of_getElem? (i := 6) (by decide +kernel)
theorem q_7 : Cond.selects RX0 yX0_build yX0_build ∈ lw_tbl := List.mem_of_getElem? (i := 7) (by decide +kernel)
theorem q_8 : Cond.selects RX4 yX4_isHouse yX4_isHouse ∈ lw_tbl := List.mem_of_getElem? (i := 8) (by decide +kernel)
theorem q_9 : Cond.selects RX0 yX0_eyeOf yX0_eyeOf ∈ lw_tbl := List.mem_of_getElem? (i := 9) (by decide +kernel)
theorem q_10 : Cond.selects RX0 yX0_lower yX0_lower ∈ lw_tbl := List.mem_of_getElem? (i := 10) (by decide +kernel)
theorem q_11 : Cond.selects RX0 yX0_turnInto yX0_turnInto ∈ lw_tbl := List.mem_of_getElem? (i := 11) (by decide +kernel)
theorem q_12 : Cond.selects RX0 yX0_sightOf yX0_sightOf ∈ lw_tbl := List.mem_of_getElem? (i := 12) (by decide +kernel)
theorem q_13 : Cond.selects RX0 yX0_lookOut yX0_lookOut ∈ lw_tbl := List.mem_of_getElem? (i := 13) (by decide +kernel)
theorem q_14 : Cond.selects RX0 yX0_hasInSight yX0_hasInSight ∈ lw_tbl := List.mem_of_getElem? (i := 14) (by decide +kernel)
theorem q_15 : Cond.selects RX0 yX0_looksTowards yX0_looksTowards ∈ lw_tbl := List.mem_of_getElem? (i := 15) (by decide +kernel)
theorem q_16 : Cond.selects RX0 yX0_hiderOf yX0_hiderOf ∈ lw_tbl := List.mem_of_getElem? (i := 16) (by decide +kernel)
theorem q_17 : Cond.selects RX0 yX0_taxOf yX0_taxOf ∈ lw_tbl := List.mem_of_getElem? (i := 17) (by decide +kernel)
theorem q_18 : Cond.selects RX0 yX0_worthSeenBy yX0_worthSeenBy ∈ lw_tbl := List.mem_of_getElem? (i := 18) (by decide +kernel)
theorem q_19 : Cond.selects RX0 yX0_allTax yX0_allTax ∈ lw_tbl := List.mem_of_getElem? (i := 19) (by decide +kernel)
theorem q_20 : Cond.selects RX4 yX4_thriftyFloor yX4_thriftyFloor ∈ lw_tbl := List.mem_of_getElem? (i := 20) (by decide +kernel)
theorem q_21 : Cond.selects RX0 yX0_takeAll yX0_takeAll ∈ lw_tbl := List.mem_of_getElem? (i := 21) (by decide +kernel)
theorem q_22 : Cond.selects RX4 yX4_isTooLate yX4_isTooLate ∈ lw_tbl := List.mem_of_getElem? (i := 22) (by decide +kernel)
theorem q_23 : Cond.selects RX4 yX4_tryThing yX4_tryThing ∈ lw_tbl := List.mem_of_getElem? (i := 23) (by decide +kernel)
theorem q_24 : Cond.selects RX0 yX0_grow yX0_grow ∈ lw_tbl := List.mem_of_getElem? (i := 24) (by decide +kernel)
theorem q_25 : Cond.selects RX4 yX4_tryYears yX4_tryYears ∈ lw_tbl := List.mem_of_getElem? (i := 25) (by decide +kernel)
theorem q_26 : Cond.selects RX0 yX0_takeCell yX0_takeCell ∈ lw_tbl := List.mem_of_getElem? (i := 26) (by decide +kernel)
theorem q_27 : Cond.selects RX4 yX4_sightsOf yX4_sightsOf ∈ lw_tbl := List.mem_of_getElem? (i := 27) (by decide +kernel)
theorem q_28 : Cond.selects RX0 yX0_allSight yX0_allSight ∈ lw_tbl := List.mem_of_getElem? (i := 28) (by decide +kernel)
theorem q_29 : Cond.selects RX0 yX0_draw yX0_draw ∈ lw_tbl := List.mem_of_getElem? (i := 29) (by decide +kernel)
theorem q_30 : Cond.selects RX2 yX2_hasRoomFor yX2_hasRoomFor ∈ lw_tbl := List.mem_of_getElem? (i := 30) (by decide +kernel)
theorem q_31 : Cond.selects RX2 yX2_append yX2_append ∈ lw_tbl := List.mem_of_getElem? (i := 31) (by decide +kernel)
theorem q_32 : Cond.selects RX3 yX3_readInto yX3_readInto ∈ lw_tbl := List.mem_of_getElem? (i := 32) (by decide +kernel)
theorem q_33 : Cond.selects RX2 yX2_rewind yX2_rewind ∈ lw_tbl := List.mem_of_getElem? (i := 33) (by decide +kernel)
theorem q_34 : Cond.selects RX2 yX2_step yX2_step ∈ lw_tbl := List.mem_of_getElem? (i := 34) (by decide +kernel)
theorem q_35 : Cond.selects RX2 yX2_sortAt yX2_sortAt ∈ lw_tbl := List.mem_of_getElem? (i := 35) (by decide +kernel)
theorem q_36 : Cond.selects RX2 yX2_takeDigit yX2_takeDigit ∈ lw_tbl := List.mem_of_getElem? (i := 36) (by decide +kernel)
theorem q_37 : Cond.selects RX3 yX3_readItem yX3_readItem ∈ lw_tbl := List.mem_of_getElem? (i := 37) (by decide +kernel)
theorem q_38 : Cond.selects RX2 yX2_isWord yX2_isWord ∈ lw_tbl := List.mem_of_getElem? (i := 38) (by decide +kernel)
theorem q_39 : Cond.selects RX3 yX3_readHouse yX3_readHouse ∈ lw_tbl := List.mem_of_getElem? (i := 39) (by decide +kernel)
theorem q_40 : Cond.selects RX3 yX3_readNumber yX3_readNumber ∈ lw_tbl := List.mem_of_getElem? (i := 40) (by decide +kernel)
theorem q_41 : Cond.selects RX3 yX3_passes yX3_passes ∈ lw_tbl := List.mem_of_getElem? (i := 41) (by decide +kernel)
theorem q_42 : Cond.selects RX3 yX3_readHaze yX3_readHaze ∈ lw_tbl := List.mem_of_getElem? (i := 42) (by decide +kernel)
theorem q_43 : Cond.selects RX3 yX3_readRate yX3_readRate ∈ lw_tbl := List.mem_of_getElem? (i := 43) (by decide +kernel)
theorem q_44 : Cond.selects RX3 yX3_readKind yX3_readKind ∈ lw_tbl := List.mem_of_getElem? (i := 44) (by decide +kernel)
theorem q_45 : Cond.selects RX3 yX3_readThing yX3_readThing ∈ lw_tbl := List.mem_of_getElem? (i := 45) (by decide +kernel)
theorem q_46 : Cond.selects RX3 yX3_faultHere yX3_faultHere ∈ lw_tbl := List.mem_of_getElem? (i := 46) (by decide +kernel)
theorem q_47 : Cond.selects RX1 yX1_make yX1_make ∈ lw_tbl := List.mem_of_getElem? (i := 47) (by decide +kernel)
theorem q_48 : Cond.selects RX1 yX1_isMissing yX1_isMissing ∈ lw_tbl := List.mem_of_getElem? (i := 48) (by decide +kernel)
theorem q_49 : Cond.selects RX1 yX1_hasRun yX1_hasRun ∈ lw_tbl := List.mem_of_getElem? (i := 49) (by decide +kernel)
theorem q_50 : Cond.selects RX1 yX1_put yX1_put ∈ lw_tbl := List.mem_of_getElem? (i := 50) (by decide +kernel)
theorem q_51 : Cond.selects RX1 yX1_move yX1_move ∈ lw_tbl := List.mem_of_getElem? (i := 51) (by decide +kernel)
theorem q_52 : Cond.selects RX1 yX1_numberAt yX1_numberAt ∈ lw_tbl := List.mem_of_getElem? (i := 52) (by decide +kernel)
theorem q_53 : Cond.selects RX0 yX0_spotsInUse yX0_spotsInUse ∈ lw_tbl := List.mem_of_getElem? (i := 53) (by decide +kernel)
theorem q_54 : Cond.selects RX5 yX5_finds yX5_finds ∈ lw_tbl := List.mem_of_getElem? (i := 54) (by decide +kernel)
theorem q_55 : Cond.selects RX5 yX5_kindOf yX5_kindOf ∈ lw_tbl := List.mem_of_getElem? (i := 55) (by decide +kernel)
theorem q_56 : Cond.selects RX5 yX5_sets yX5_sets ∈ lw_tbl := List.mem_of_getElem? (i := 56) (by decide +kernel)
theorem q_57 : Cond.selects RX5 yX5_top yX5_top ∈ lw_tbl := List.mem_of_getElem? (i := 57) (by decide +kernel)
theorem q_58 : Cond.selects RX5 yX5_ageOf yX5_ageOf ∈ lw_tbl := List.mem_of_getElem? (i := 58) (by decide +kernel)
theorem q_59 : Cond.selects RX5 yX5_heightOf yX5_heightOf ∈ lw_tbl := List.mem_of_getElem? (i := 59) (by decide +kernel)
theorem q_60 : Cond.selects RX5 yX5_worth yX5_worth ∈ lw_tbl := List.mem_of_getElem? (i := 60) (by decide +kernel)
theorem q_61 : Cond.selects RX5 yX5_newHouse yX5_newHouse ∈ lw_tbl := List.mem_of_getElem? (i := 61) (by decide +kernel)
theorem q_62 : Cond.selects RX5 yX5_isHouse yX5_isHouse ∈ lw_tbl := List.mem_of_getElem? (i := 62) (by decide +kernel)
theorem q_63 : Cond.selects RX5 yX5_eye yX5_eye ∈ lw_tbl := List.mem_of_getElem? (i := 63) (by decide +kernel)
theorem q_64 : Cond.selects RX5 yX5_cellAt yX5_cellAt ∈ lw_tbl := List.mem_of_getElem? (i := 64) (by decide +kernel)
theorem q_65 : Cond.selects RX5 yX5_openOf yX5_openOf ∈ lw_tbl := List.mem_of_getElem? (i := 65) (by decide +kernel)
theorem q_66 : Cond.selects RX5 yX5_lowers yX5_lowers ∈ lw_tbl := List.mem_of_getElem? (i := 66) (by decide +kernel)
theorem q_67 : Cond.selects RX5 yX5_sightOf yX5_sightOf ∈ lw_tbl := List.mem_of_getElem? (i := 67) (by decide +kernel)
theorem q_68 : Cond.selects RX5 yX5_isTowards yX5_isTowards ∈ lw_tbl := List.mem_of_getElem? (i := 68) (by decide +kernel)
theorem q_69 : Cond.selects RX5 yX5_hider yX5_hider ∈ lw_tbl := List.mem_of_getElem? (i := 69) (by decide +kernel)
theorem q_70 : Cond.selects RX5 yX5_isHiding yX5_isHiding ∈ lw_tbl := List.mem_of_getElem? (i := 70) (by decide +kernel)
theorem q_71 : Cond.selects RX5 yX5_taxOf yX5_taxOf ∈ lw_tbl := List.mem_of_getElem? (i := 71) (by decide +kernel)
theorem q_72 : Cond.selects RX5 yX5_allTax yX5_allTax ∈ lw_tbl := List.mem_of_getElem? (i := 72) (by decide +kernel)
theorem q_73 : Cond.selects RX5 yX5_leastFloor yX5_leastFloor ∈ lw_tbl := List.mem_of_getElem? (i := 73) (by decide +kernel)
theorem q_74 : Cond.selects RX5 yX5_isTooFar yX5_isTooFar ∈ lw_tbl := List.mem_of_getElem? (i := 74) (by decide +kernel)
theorem q_75 : Cond.selects RX5 yX5_puts yX5_puts ∈ lw_tbl := List.mem_of_getElem? (i := 75) (by decide +kernel)
theorem q_76 : Cond.selects RX5 yX5_yearsGo yX5_yearsGo ∈ lw_tbl := List.mem_of_getElem? (i := 76) (by decide +kernel)
theorem q_77 : Cond.selects RX5 yX5_year yX5_year ∈ lw_tbl := List.mem_of_getElem? (i := 77) (by decide +kernel)
theorem q_78 : Cond.selects RX5 yX5_putsBack yX5_putsBack ∈ lw_tbl := List.mem_of_getElem? (i := 78) (by decide +kernel)
theorem q_79 : Cond.selects RX5 yX5_findSights yX5_findSights ∈ lw_tbl := List.mem_of_getElem? (i := 79) (by decide +kernel)
theorem q_80 : Cond.selects RX5 yX5_findHeights yX5_findHeights ∈ lw_tbl := List.mem_of_getElem? (i := 80) (by decide +kernel)
theorem q_81 : Cond.selects RX5 yX5_next yX5_next ∈ lw_tbl := List.mem_of_getElem? (i := 81) (by decide +kernel)
theorem q_82 : Cond.selects RX5 yX5_token yX5_token ∈ lw_tbl := List.mem_of_getElem? (i := 82) (by decide +kernel)
theorem q_83 : Cond.selects RX5 yX5_byteAt yX5_byteAt ∈ lw_tbl := List.mem_of_getElem? (i := 83) (by decide +kernel)
theorem q_84 : Cond.selects RX5 yX5_item yX5_item ∈ lw_tbl := List.mem_of_getElem? (i := 84) (by decide +kernel)
theorem q_85 : Cond.selects RX5 yX5_kindHere yX5_kindHere ∈ lw_tbl := List.mem_of_getElem? (i := 85) (by decide +kernel)
theorem q_86 : Cond.selects RX5 yX5_word yX5_word ∈ lw_tbl := List.mem_of_getElem? (i := 86) (by decide +kernel)
theorem q_87 : Cond.selects RX5 yX5_cellItem yX5_cellItem ∈ lw_tbl := List.mem_of_getElem? (i := 87) (by decide +kernel)
theorem q_88 : Cond.selects RX5 yX5_needs yX5_needs ∈ lw_tbl := List.mem_of_getElem? (i := 88) (by decide +kernel)
theorem q_89 : Cond.selects RX5 yX5_number yX5_number ∈ lw_tbl := List.mem_of_getElem? (i := 89) (by decide +kernel)
theorem q_90 : Cond.selects RX5 yX5_perhaps yX5_perhaps ∈ lw_tbl := List.mem_of_getElem? (i := 90) (by decide +kernel)
theorem q_91 : Cond.selects RX5 yX5_houseItem yX5_houseItem ∈ lw_tbl := List.mem_of_getElem? (i := 91) (by decide +kernel)
theorem q_92 : Cond.selects RX5 yX5_wrong yX5_wrong ∈ lw_tbl := List.mem_of_getElem? (i := 92) (by decide +kernel)
theorem q_94 : Cond.initialized RX4 ∈ lw_tbl := List.mem_of_getElem? (i := 94) (by decide +kernel)
theorem q_95 : Cond.initialized RX0 ∈ lw_tbl := List.mem_of_getElem? (i := 95) (by decide +kernel)
theorem q_96 : Cond.initialized RX3 ∈ lw_tbl := List.mem_of_getElem? (i := 96) (by decide +kernel)
theorem q_97 : Cond.initialized RX2 ∈ lw_tbl := List.mem_of_getElem? (i := 97) (by decide +kernel)
theorem q_98 : Cond.initialized RX1 ∈ lw_tbl := List.mem_of_getElem? (i := 98) (by decide +kernel)
theorem q_99 : Cond.initialized RX5 ∈ lw_tbl := List.mem_of_getElem? (i := 99) (by decide +kernel)
theorem q_100 : Cond.initialized RJ9 ∈ lw_tbl := List.mem_of_getElem? (i := 100) (by decide +kernel)
theorem q_101 : Cond.initialized RJ10 ∈ lw_tbl := List.mem_of_getElem? (i := 101) (by decide +kernel)
theorem q_102 : Cond.initialized RJ6 ∈ lw_tbl := List.mem_of_getElem? (i := 102) (by decide +kernel)
theorem q_121 : Cond.fieldLink RX0 9 "SeenLand$Land" "kinds" "[I" ∈ lw_tbl := List.mem_of_getElem? (i := 121) (by decide +kernel)
theorem q_122 : Cond.fieldLinkNest RX4 75 "SeenLand$Land" "kinds" "[I" "SeenLand" ∈ lw_tbl := List.mem_of_getElem? (i := 122) (by decide +kernel)
theorem q_123 : Cond.fieldLink RX0 13 "SeenLand$Land" "heights" "[I" ∈ lw_tbl := List.mem_of_getElem? (i := 123) (by decide +kernel)
theorem q_124 : Cond.fieldLinkNest RX4 59 "SeenLand$Land" "heights" "[I" "SeenLand" ∈ lw_tbl := List.mem_of_getElem? (i := 124) (by decide +kernel)
theorem q_125 : Cond.fieldLink RX0 16 "SeenLand$Land" "ages" "[I" ∈ lw_tbl := List.mem_of_getElem? (i := 125) (by decide +kernel)
theorem q_126 : Cond.fieldLinkNest RX4 66 "SeenLand$Land" "ages" "[I" "SeenLand" ∈ lw_tbl := List.mem_of_getElem? (i := 126) (by decide +kernel)
theorem q_127 : Cond.fieldLink RX0 19 "SeenLand$Land" "tops" "[I" ∈ lw_tbl := List.mem_of_getElem? (i := 127) (by decide +kernel)
theorem q_128 : Cond.fieldLinkNest RX4 81 "SeenLand$Land" "tops" "[I" "SeenLand" ∈ lw_tbl := List.mem_of_getElem? (i := 128) (by decide +kernel)
theorem q_129 : Cond.fieldLink RX0 22 "SeenLand$Land" "homes" "[I" ∈ lw_tbl := List.mem_of_getElem? (i := 129) (by decide +kernel)
theorem q_130 : Cond.fieldLinkNest RX4 105 "SeenLand$Land" "homes" "[I" "SeenLand" ∈ lw_tbl := List.mem_of_getElem? (i := 130) (by decide +kernel)
theorem q_131 : Cond.fieldLink RX0 25 "SeenLand$Land" "floors" "[I" ∈ lw_tbl := List.mem_of_getElem? (i := 131) (by decide +kernel)
theorem q_132 : Cond.fieldLinkNest RX4 108 "SeenLand$Land" "floors" "[I" "SeenLand" ∈ lw_tbl := List.mem_of_getElem? (i := 132) (by decide +kernel)
theorem q_133 : Cond.fieldLink RX0 28 "SeenLand$Land" "opens" "[I" ∈ lw_tbl := List.mem_of_getElem? (i := 133) (by decide +kernel)
theorem q_134 : Cond.fieldLinkNest RX4 114 "SeenLand$Land" "opens" "[I" "SeenLand" ∈ lw_tbl := List.mem_of_getElem? (i := 134) (by decide +kernel)
theorem q_135 : Cond.fieldLink RX0 31 "SeenLand$Land" "spots" "[I" ∈ lw_tbl := List.mem_of_getElem? (i := 135) (by decide +kernel)
theorem q_136 : Cond.fieldLinkNest RX4 232 "SeenLand$Land" "spots" "[I" "SeenLand" ∈ lw_tbl := List.mem_of_getElem? (i := 136) (by decide +kernel)
theorem q_137 : Cond.fieldLink RX0 34 "SeenLand$Land" "houses" "I" ∈ lw_tbl := List.mem_of_getElem? (i := 137) (by decide +kernel)
theorem q_138 : Cond.fieldLinkNest RX4 98 "SeenLand$Land" "houses" "I" "SeenLand" ∈ lw_tbl := List.mem_of_getElem? (i := 138) (by decide +kernel)
theorem q_139 : Cond.fieldLink RX0 38 "SeenLand$Land" "haze" "I" ∈ lw_tbl := List.mem_of_getElem? (i := 139) (by decide +kernel)
theorem q_140 : Cond.fieldLinkNest RX3 118 "SeenLand$Land" "haze" "I" "SeenLand" ∈ lw_tbl := List.mem_of_getElem? (i := 140) (by decide +kernel)
theorem q_141 : Cond.fieldLinkNest RX4 117 "SeenLand$Land" "haze" "I" "SeenLand" ∈ lw_tbl := List.mem_of_getElem? (i := 141) (by decide +kernel)
theorem q_142 : Cond.fieldLink RX0 41 "SeenLand$Land" "rate" "I" ∈ lw_tbl := List.mem_of_getElem? (i := 142) (by decide +kernel)
theorem q_143 : Cond.fieldLinkNest RX3 120 "SeenLand$Land" "rate" "I" "SeenLand" ∈ lw_tbl := List.mem_of_getElem? (i := 143) (by decide +kernel)
theorem q_144 : Cond.fieldLinkNest RX4 120 "SeenLand$Land" "rate" "I" "SeenLand" ∈ lw_tbl := List.mem_of_getElem? (i := 144) (by decide +kernel)
theorem q_145 : Cond.fieldLink RX0 44 "SeenLand$Land" "year" "I" ∈ lw_tbl := List.mem_of_getElem? (i := 145) (by decide +kernel)
theorem q_146 : Cond.fieldLinkNest RX4 201 "SeenLand$Land" "year" "I" "SeenLand" ∈ lw_tbl := List.mem_of_getElem? (i := 146) (by decide +kernel)
theorem q_147 : Cond.fieldLink RX0 47 "SeenLand$Land" "z" "I" ∈ lw_tbl := List.mem_of_getElem? (i := 147) (by decide +kernel)
theorem q_148 : Cond.fieldLinkNest RX4 207 "SeenLand$Land" "z" "I" "SeenLand" ∈ lw_tbl := List.mem_of_getElem? (i := 148) (by decide +kernel)
theorem q_189 : Cond.fieldLink RX2 9 "SeenLand$Tape" "bytes" "[I" ∈ lw_tbl := List.mem_of_getElem? (i := 189) (by decide +kernel)
theorem q_190 : Cond.fieldLink RX2 13 "SeenLand$Tape" "size" "I" ∈ lw_tbl := List.mem_of_getElem? (i := 190) (by decide +kernel)
theorem q_191 : Cond.fieldLinkNest RX4 222 "SeenLand$Tape" "size" "I" "SeenLand" ∈ lw_tbl := List.mem_of_getElem? (i := 191) (by decide +kernel)
theorem q_192 : Cond.fieldLink RX2 17 "SeenLand$Tape" "at" "I" ∈ lw_tbl := List.mem_of_getElem? (i := 192) (by decide +kernel)
theorem q_193 : Cond.fieldLink RX2 20 "SeenLand$Tape" "sort" "I" ∈ lw_tbl := List.mem_of_getElem? (i := 193) (by decide +kernel)
theorem q_194 : Cond.fieldLinkNest RX3 27 "SeenLand$Tape" "sort" "I" "SeenLand" ∈ lw_tbl := List.mem_of_getElem? (i := 194) (by decide +kernel)
theorem q_195 : Cond.fieldLink RX2 23 "SeenLand$Tape" "start" "I" ∈ lw_tbl := List.mem_of_getElem? (i := 195) (by decide +kernel)
theorem q_196 : Cond.fieldLinkNest RX3 34 "SeenLand$Tape" "start" "I" "SeenLand" ∈ lw_tbl := List.mem_of_getElem? (i := 196) (by decide +kernel)
theorem q_197 : Cond.fieldLink RX2 26 "SeenLand$Tape" "number" "I" ∈ lw_tbl := List.mem_of_getElem? (i := 197) (by decide +kernel)
theorem q_198 : Cond.fieldLinkNest RX3 122 "SeenLand$Tape" "number" "I" "SeenLand" ∈ lw_tbl := List.mem_of_getElem? (i := 198) (by decide +kernel)
theorem q_212 : Cond.fieldLink RX3 10 "SeenLand$TextReader" "tape" "LSeenLand$Tape;" ∈ lw_tbl := List.mem_of_getElem? (i := 212) (by decide +kernel)
theorem q_213 : Cond.fieldLinkNest RX4 210 "SeenLand$TextReader" "tape" "LSeenLand$Tape;" "SeenLand" ∈ lw_tbl := List.mem_of_getElem? (i := 213) (by decide +kernel)
theorem q_223 : Cond.fieldLink RX1 9 "SeenLand$Sheets" "widths" "[I" ∈ lw_tbl := List.mem_of_getElem? (i := 223) (by decide +kernel)
theorem q_224 : Cond.fieldLinkNest RX4 256 "SeenLand$Sheets" "widths" "[I" "SeenLand" ∈ lw_tbl := List.mem_of_getElem? (i := 224) (by decide +kernel)
theorem q_225 : Cond.fieldLink RX1 13 "SeenLand$Sheets" "sizes" "[I" ∈ lw_tbl := List.mem_of_getElem? (i := 225) (by decide +kernel)
theorem q_226 : Cond.fieldLinkNest RX4 244 "SeenLand$Sheets" "sizes" "[I" "SeenLand" ∈ lw_tbl := List.mem_of_getElem? (i := 226) (by decide +kernel)
theorem q_227 : Cond.fieldLink RX1 16 "SeenLand$Sheets" "numbers" "[I" ∈ lw_tbl := List.mem_of_getElem? (i := 227) (by decide +kernel)
theorem q_235 : Cond.fieldLink RX4 10 "SeenLand" "land" "LSeenLand$Land;" ∈ lw_tbl := List.mem_of_getElem? (i := 235) (by decide +kernel)
theorem q_236 : Cond.fieldLink RX4 16 "SeenLand" "trial" "LSeenLand$Land;" ∈ lw_tbl := List.mem_of_getElem? (i := 236) (by decide +kernel)
theorem q_237 : Cond.fieldLink RX4 19 "SeenLand" "kept" "LSeenLand$Land;" ∈ lw_tbl := List.mem_of_getElem? (i := 237) (by decide +kernel)
theorem q_238 : Cond.fieldLink RX4 22 "SeenLand" "isKept" "Z" ∈ lw_tbl := List.mem_of_getElem? (i := 238) (by decide +kernel)
theorem q_239 : Cond.fieldLink RX4 29 "SeenLand" "reader" "LSeenLand$TextReader;" ∈ lw_tbl := List.mem_of_getElem? (i := 239) (by decide +kernel)
theorem q_240 : Cond.fieldLink RX4 36 "SeenLand" "sheets" "LSeenLand$Sheets;" ∈ lw_tbl := List.mem_of_getElem? (i := 240) (by decide +kernel)
theorem q_241 : Cond.fieldLink RX4 40 "SeenLand" "told" "[I" ∈ lw_tbl := List.mem_of_getElem? (i := 241) (by decide +kernel)
theorem q_242 : Cond.fieldLink RX4 44 "SeenLand" "marks" "[I" ∈ lw_tbl := List.mem_of_getElem? (i := 242) (by decide +kernel)
theorem q_263 : Cond.code yX4_cell cX4_cell 5 (some .int) ∈ lw_tbl := List.mem_of_getElem? (i := 263) (by decide +kernel)
theorem q_264 : Cond.methodLink RX4 47 yX4_isCell ∈ lw_tbl := List.mem_of_getElem? (i := 264) (by decide +kernel)
theorem q_265 : Cond.static yX4_isCell ∈ lw_tbl := List.mem_of_getElem? (i := 265) (by decide +kernel)
theorem q_266 : Cond.code yX4_isCell cX4_isCell 1 (some .boolean) ∈ lw_tbl := List.mem_of_getElem? (i := 266) (by decide +kernel)
theorem q_267 : Cond.methodLink RX4 51 yX4_isWithin ∈ lw_tbl := List.mem_of_getElem? (i := 267) (by decide +kernel)
theorem q_268 : Cond.static yX4_isWithin ∈ lw_tbl := List.mem_of_getElem? (i := 268) (by decide +kernel)
theorem q_269 : Cond.code yX4_isWithin cX4_isWithin 3 (some .boolean) ∈ lw_tbl := List.mem_of_getElem? (i := 269) (by decide +kernel)
theorem q_270 : Cond.methodLink RX4 55 yX4_tell ∈ lw_tbl := List.mem_of_getElem? (i := 270) (by decide +kernel)
theorem q_272 : Cond.instanceMethod yX4_tell ∈ lw_tbl := List.mem_of_getElem? (i := 272) (by decide +kernel)
theorem q_273 : Cond.code yX4_tell cX4_tell 2 (some .int) ∈ lw_tbl := List.mem_of_getElem? (i := 273) (by decide +kernel)
theorem q_274 : Cond.constant RX4 269 (-1000001) ∈ lw_tbl := List.mem_of_getElem? (i := 274) (by decide +kernel)
theorem q_275 : Cond.methodLinkNest RX4 62 yX0_raiseTo "SeenLand" ∈ lw_tbl := List.mem_of_getElem? (i := 275) (by decide +kernel)
theorem q_277 : Cond.instanceMethod yX0_raiseTo ∈ lw_tbl := List.mem_of_getElem? (i := 277) (by decide +kernel)
theorem q_278 : Cond.code yX0_raiseTo cX0_raiseTo 3 none ∈ lw_tbl := List.mem_of_getElem? (i := 278) (by decide +kernel)
theorem q_279 : Cond.methodLink RX0 56 yX0_renewTop ∈ lw_tbl := List.mem_of_getElem? (i := 279) (by decide +kernel)
theorem q_281 : Cond.instanceMethod yX0_renewTop ∈ lw_tbl := List.mem_of_getElem? (i := 281) (by decide +kernel)
theorem q_282 : Cond.code yX0_renewTop cX0_renewTop 2 none ∈ lw_tbl := List.mem_of_getElem? (i := 282) (by decide +kernel)
theorem q_283 : Cond.methodLink RX0 76 yX0_topFor ∈ lw_tbl := List.mem_of_getElem? (i := 283) (by decide +kernel)
theorem q_284 : Cond.static yX0_topFor ∈ lw_tbl := List.mem_of_getElem? (i := 284) (by decide +kernel)
theorem q_285 : Cond.code yX0_topFor cX0_topFor 3 (some .int) ∈ lw_tbl := List.mem_of_getElem? (i := 285) (by decide +kernel)
theorem q_286 : Cond.methodLink RX0 70 Lib.Math.min.name ∈ lw_tbl := List.mem_of_getElem? (i := 286) (by decide +kernel)
theorem q_287 : Cond.static Lib.Math.min.name ∈ lw_tbl := List.mem_of_getElem? (i := 287) (by decide +kernel)
theorem q_288 : Cond.code Lib.Math.min.name Lib.Math.min.code 2 (some .int) ∈ lw_tbl := List.mem_of_getElem? (i := 288) (by decide +kernel)
theorem q_289 : Cond.methodLinkNest RX4 69 yX0_ageTo "SeenLand" ∈ lw_tbl := List.mem_of_getElem? (i := 289) (by decide +kernel)
theorem q_291 : Cond.instanceMethod yX0_ageTo ∈ lw_tbl := List.mem_of_getElem? (i := 291) (by decide +kernel)
theorem q_292 : Cond.code yX0_ageTo cX0_ageTo 3 none ∈ lw_tbl := List.mem_of_getElem? (i := 292) (by decide +kernel)
theorem q_296 : Cond.code yX4_set cX4_set 4 (some .int) ∈ lw_tbl := List.mem_of_getElem? (i := 296) (by decide +kernel)
theorem q_297 : Cond.methodLink RX4 72 yX4_isKind ∈ lw_tbl := List.mem_of_getElem? (i := 297) (by decide +kernel)
theorem q_298 : Cond.static yX4_isKind ∈ lw_tbl := List.mem_of_getElem? (i := 298) (by decide +kernel)
theorem q_299 : Cond.code yX4_isKind cX4_isKind 1 (some .boolean) ∈ lw_tbl := List.mem_of_getElem? (i := 299) (by decide +kernel)
theorem q_300 : Cond.methodLinkNest RX4 78 yX0_place "SeenLand" ∈ lw_tbl := List.mem_of_getElem? (i := 300) (by decide +kernel)
theorem q_302 : Cond.instanceMethod yX0_place ∈ lw_tbl := List.mem_of_getElem? (i := 302) (by decide +kernel)
theorem q_303 : Cond.code yX0_place cX0_place 3 none ∈ lw_tbl := List.mem_of_getElem? (i := 303) (by decide +kernel)
theorem q_307 : Cond.code yX4_cellOf cX4_cellOf 3 (some .int) ∈ lw_tbl := List.mem_of_getElem? (i := 307) (by decide +kernel)
theorem q_308 : Cond.methodLinkNest RX4 84 yX0_worthOf "SeenLand" ∈ lw_tbl := List.mem_of_getElem? (i := 308) (by decide +kernel)
theorem q_310 : Cond.instanceMethod yX0_worthOf ∈ lw_tbl := List.mem_of_getElem? (i := 310) (by decide +kernel)
theorem q_311 : Cond.code yX0_worthOf cX0_worthOf 2 (some .int) ∈ lw_tbl := List.mem_of_getElem? (i := 311) (by decide +kernel)
theorem q_312 : Cond.fieldLink RX0 80 "SeenLand$Land" "WORTHS" "[I" ∈ lw_tbl := List.mem_of_getElem? (i := 312) (by decide +kernel)
theorem q_317 : Cond.code yX4_house cX4_house 3 (some .int) ∈ lw_tbl := List.mem_of_getElem? (i := 317) (by decide +kernel)
theorem q_318 : Cond.methodLink RX4 87 yX4_isFloor ∈ lw_tbl := List.mem_of_getElem? (i := 318) (by decide +kernel)
theorem q_319 : Cond.static yX4_isFloor ∈ lw_tbl := List.mem_of_getElem? (i := 319) (by decide +kernel)
theorem q_320 : Cond.code yX4_isFloor cX4_isFloor 1 (some .boolean) ∈ lw_tbl := List.mem_of_getElem? (i := 320) (by decide +kernel)
theorem q_321 : Cond.methodLinkNest RX4 90 yX0_isBuiltUp "SeenLand" ∈ lw_tbl := List.mem_of_getElem? (i := 321) (by decide +kernel)
theorem q_323 : Cond.instanceMethod yX0_isBuiltUp ∈ lw_tbl := List.mem_of_getElem? (i := 323) (by decide +kernel)
theorem q_324 : Cond.code yX0_isBuiltUp cX0_isBuiltUp 1 (some .boolean) ∈ lw_tbl := List.mem_of_getElem? (i := 324) (by decide +kernel)
theorem q_325 : Cond.methodLinkNest RX4 94 yX0_build "SeenLand" ∈ lw_tbl := List.mem_of_getElem? (i := 325) (by decide +kernel)
theorem q_327 : Cond.instanceMethod yX0_build ∈ lw_tbl := List.mem_of_getElem? (i := 327) (by decide +kernel)
theorem q_328 : Cond.code yX0_build cX0_build 4 none ∈ lw_tbl := List.mem_of_getElem? (i := 328) (by decide +kernel)
theorem q_332 : Cond.code yX4_houseOf cX4_houseOf 3 (some .int) ∈ lw_tbl := List.mem_of_getElem? (i := 332) (by decide +kernel)
theorem q_333 : Cond.methodLink RX4 102 yX4_isHouse ∈ lw_tbl := List.mem_of_getElem? (i := 333) (by decide +kernel)
theorem q_335 : Cond.instanceMethod yX4_isHouse ∈ lw_tbl := List.mem_of_getElem? (i := 335) (by decide +kernel)
theorem q_336 : Cond.code yX4_isHouse cX4_isHouse 2 (some .boolean) ∈ lw_tbl := List.mem_of_getElem? (i := 336) (by decide +kernel)
theorem q_337 : Cond.methodLinkNest RX4 111 yX0_eyeOf "SeenLand" ∈ lw_tbl := List.mem_of_getElem? (i := 337) (by decide +kernel)
theorem q_339 : Cond.instanceMethod yX0_eyeOf ∈ lw_tbl := List.mem_of_getElem? (i := 339) (by decide +kernel)
theorem q_340 : Cond.code yX0_eyeOf cX0_eyeOf 2 (some .int) ∈ lw_tbl := List.mem_of_getElem? (i := 340) (by decide +kernel)
theorem q_344 : Cond.code yX4_floor cX4_floor 4 (some .int) ∈ lw_tbl := List.mem_of_getElem? (i := 344) (by decide +kernel)
theorem q_348 : Cond.code yX4_windows cX4_windows 4 (some .int) ∈ lw_tbl := List.mem_of_getElem? (i := 348) (by decide +kernel)
theorem q_352 : Cond.code yX4_law cX4_law 4 (some .int) ∈ lw_tbl := List.mem_of_getElem? (i := 352) (by decide +kernel)
theorem q_356 : Cond.code yX4_dig cX4_dig 6 (some .int) ∈ lw_tbl := List.mem_of_getElem? (i := 356) (by decide +kernel)
theorem q_357 : Cond.methodLinkNest RX4 123 yX0_lower "SeenLand" ∈ lw_tbl := List.mem_of_getElem? (i := 357) (by decide +kernel)
theorem q_359 : Cond.instanceMethod yX0_lower ∈ lw_tbl := List.mem_of_getElem? (i := 359) (by decide +kernel)
theorem q_360 : Cond.code yX0_lower cX0_lower 3 none ∈ lw_tbl := List.mem_of_getElem? (i := 360) (by decide +kernel)
theorem q_361 : Cond.methodLink RX0 60 Lib.Math.max.name ∈ lw_tbl := List.mem_of_getElem? (i := 361) (by decide +kernel)
theorem q_362 : Cond.static Lib.Math.max.name ∈ lw_tbl := List.mem_of_getElem? (i := 362) (by decide +kernel)
theorem q_363 : Cond.code Lib.Math.max.name Lib.Math.max.code 2 (some .int) ∈ lw_tbl := List.mem_of_getElem? (i := 363) (by decide +kernel)
theorem q_364 : Cond.methodLink RX0 66 yX0_raiseTo ∈ lw_tbl := List.mem_of_getElem? (i := 364) (by decide +kernel)
theorem q_368 : Cond.code yX4_drain cX4_drain 4 (some .int) ∈ lw_tbl := List.mem_of_getElem? (i := 368) (by decide +kernel)
theorem q_369 : Cond.methodLinkNest RX4 126 yX0_turnInto "SeenLand" ∈ lw_tbl := List.mem_of_getElem? (i := 369) (by decide +kernel)
theorem q_371 : Cond.instanceMethod yX0_turnInto ∈ lw_tbl := List.mem_of_getElem? (i := 371) (by decide +kernel)
theorem q_372 : Cond.code yX0_turnInto cX0_turnInto 3 none ∈ lw_tbl := List.mem_of_getElem? (i := 372) (by decide +kernel)
theorem q_376 : Cond.code yX4_sight cX4_sight 2 (some .int) ∈ lw_tbl := List.mem_of_getElem? (i := 376) (by decide +kernel)
theorem q_377 : Cond.methodLinkNest RX4 129 yX0_sightOf "SeenLand" ∈ lw_tbl := List.mem_of_getElem? (i := 377) (by decide +kernel)
theorem q_379 : Cond.instanceMethod yX0_sightOf ∈ lw_tbl := List.mem_of_getElem? (i := 379) (by decide +kernel)
theorem q_380 : Cond.code yX0_sightOf cX0_sightOf 3 (some .int) ∈ lw_tbl := List.mem_of_getElem? (i := 380) (by decide +kernel)
theorem q_381 : Cond.methodLink RX0 86 yX0_lookOut ∈ lw_tbl := List.mem_of_getElem? (i := 381) (by decide +kernel)
theorem q_383 : Cond.instanceMethod yX0_lookOut ∈ lw_tbl := List.mem_of_getElem? (i := 383) (by decide +kernel)
theorem q_384 : Cond.code yX0_lookOut cX0_lookOut 12 (some .int) ∈ lw_tbl := List.mem_of_getElem? (i := 384) (by decide +kernel)
theorem q_385 : Cond.methodLink RX0 89 yX0_eyeOf ∈ lw_tbl := List.mem_of_getElem? (i := 385) (by decide +kernel)
theorem q_389 : Cond.code yX4_sees cX4_sees 3 (some .int) ∈ lw_tbl := List.mem_of_getElem? (i := 389) (by decide +kernel)
theorem q_390 : Cond.methodLinkNest RX4 132 yX0_hasInSight "SeenLand" ∈ lw_tbl := List.mem_of_getElem? (i := 390) (by decide +kernel)
theorem q_392 : Cond.instanceMethod yX0_hasInSight ∈ lw_tbl := List.mem_of_getElem? (i := 392) (by decide +kernel)
theorem q_393 : Cond.code yX0_hasInSight cX0_hasInSight 3 (some .boolean) ∈ lw_tbl := List.mem_of_getElem? (i := 393) (by decide +kernel)
theorem q_394 : Cond.methodLink RX0 93 yX0_sightOf ∈ lw_tbl := List.mem_of_getElem? (i := 394) (by decide +kernel)
theorem q_395 : Cond.methodLink RX0 96 yX0_isIn ∈ lw_tbl := List.mem_of_getElem? (i := 395) (by decide +kernel)
theorem q_396 : Cond.static yX0_isIn ∈ lw_tbl := List.mem_of_getElem? (i := 396) (by decide +kernel)
theorem q_397 : Cond.code yX0_isIn cX0_isIn 2 (some .boolean) ∈ lw_tbl := List.mem_of_getElem? (i := 397) (by decide +kernel)
theorem q_401 : Cond.code yX4_seenBy cX4_seenBy 4 (some .int) ∈ lw_tbl := List.mem_of_getElem? (i := 401) (by decide +kernel)
theorem q_405 : Cond.code yX4_neighbours cX4_neighbours 5 (some .int) ∈ lw_tbl := List.mem_of_getElem? (i := 405) (by decide +kernel)
theorem q_406 : Cond.methodLinkNest RX4 136 yX0_isIn "SeenLand" ∈ lw_tbl := List.mem_of_getElem? (i := 406) (by decide +kernel)
theorem q_410 : Cond.code yX4_hidden cX4_hidden 4 (some .int) ∈ lw_tbl := List.mem_of_getElem? (i := 410) (by decide +kernel)
theorem q_411 : Cond.methodLinkNest RX4 139 yX0_looksTowards "SeenLand" ∈ lw_tbl := List.mem_of_getElem? (i := 411) (by decide +kernel)
theorem q_413 : Cond.instanceMethod yX0_looksTowards ∈ lw_tbl := List.mem_of_getElem? (i := 413) (by decide +kernel)
theorem q_414 : Cond.code yX0_looksTowards cX0_looksTowards 5 (some .boolean) ∈ lw_tbl := List.mem_of_getElem? (i := 414) (by decide +kernel)
theorem q_415 : Cond.methodLink RX0 100 Lib.Math.abs.name ∈ lw_tbl := List.mem_of_getElem? (i := 415) (by decide +kernel)
theorem q_416 : Cond.static Lib.Math.abs.name ∈ lw_tbl := List.mem_of_getElem? (i := 416) (by decide +kernel)
theorem q_417 : Cond.code Lib.Math.abs.name Lib.Math.abs.code 1 (some .int) ∈ lw_tbl := List.mem_of_getElem? (i := 417) (by decide +kernel)
theorem q_418 : Cond.methodLinkNest RX4 142 yX0_hiderOf "SeenLand" ∈ lw_tbl := List.mem_of_getElem? (i := 418) (by decide +kernel)
theorem q_420 : Cond.instanceMethod yX0_hiderOf ∈ lw_tbl := List.mem_of_getElem? (i := 420) (by decide +kernel)
theorem q_421 : Cond.code yX0_hiderOf cX0_hiderOf 10 (some .int) ∈ lw_tbl := List.mem_of_getElem? (i := 421) (by decide +kernel)
theorem q_425 : Cond.code yX4_tax cX4_tax 2 (some .int) ∈ lw_tbl := List.mem_of_getElem? (i := 425) (by decide +kernel)
theorem q_426 : Cond.methodLinkNest RX4 146 yX0_taxOf "SeenLand" ∈ lw_tbl := List.mem_of_getElem? (i := 426) (by decide +kernel)
theorem q_428 : Cond.instanceMethod yX0_taxOf ∈ lw_tbl := List.mem_of_getElem? (i := 428) (by decide +kernel)
theorem q_429 : Cond.code yX0_taxOf cX0_taxOf 2 (some .int) ∈ lw_tbl := List.mem_of_getElem? (i := 429) (by decide +kernel)
theorem q_430 : Cond.methodLink RX0 106 yX0_worthSeenBy ∈ lw_tbl := List.mem_of_getElem? (i := 430) (by decide +kernel)
theorem q_432 : Cond.instanceMethod yX0_worthSeenBy ∈ lw_tbl := List.mem_of_getElem? (i := 432) (by decide +kernel)
theorem q_433 : Cond.code yX0_worthSeenBy cX0_worthSeenBy 5 (some .int) ∈ lw_tbl := List.mem_of_getElem? (i := 433) (by decide +kernel)
theorem q_434 : Cond.methodLink RX0 103 yX0_worthOf ∈ lw_tbl := List.mem_of_getElem? (i := 434) (by decide +kernel)
theorem q_435 : Cond.methodLink RX0 109 yX0_taxFor ∈ lw_tbl := List.mem_of_getElem? (i := 435) (by decide +kernel)
theorem q_436 : Cond.static yX0_taxFor ∈ lw_tbl := List.mem_of_getElem? (i := 436) (by decide +kernel)
theorem q_437 : Cond.code yX0_taxFor cX0_taxFor 2 (some .int) ∈ lw_tbl := List.mem_of_getElem? (i := 437) (by decide +kernel)
theorem q_441 : Cond.code yX4_all cX4_all 1 (some .int) ∈ lw_tbl := List.mem_of_getElem? (i := 441) (by decide +kernel)
theorem q_442 : Cond.methodLinkNest RX4 149 yX0_allTax "SeenLand" ∈ lw_tbl := List.mem_of_getElem? (i := 442) (by decide +kernel)
theorem q_444 : Cond.instanceMethod yX0_allTax ∈ lw_tbl := List.mem_of_getElem? (i := 444) (by decide +kernel)
theorem q_445 : Cond.code yX0_allTax cX0_allTax 3 (some .int) ∈ lw_tbl := List.mem_of_getElem? (i := 445) (by decide +kernel)
theorem q_446 : Cond.methodLink RX0 112 yX0_taxOf ∈ lw_tbl := List.mem_of_getElem? (i := 446) (by decide +kernel)
theorem q_450 : Cond.code yX4_cheapest cX4_cheapest 2 (some .int) ∈ lw_tbl := List.mem_of_getElem? (i := 450) (by decide +kernel)
theorem q_451 : Cond.methodLink RX4 153 yX4_thriftyFloor ∈ lw_tbl := List.mem_of_getElem? (i := 451) (by decide +kernel)
theorem q_453 : Cond.instanceMethod yX4_thriftyFloor ∈ lw_tbl := List.mem_of_getElem? (i := 453) (by decide +kernel)
theorem q_454 : Cond.code yX4_thriftyFloor cX4_thriftyFloor 6 (some .int) ∈ lw_tbl := List.mem_of_getElem? (i := 454) (by decide +kernel)
theorem q_455 : Cond.methodLinkNest RX4 156 yX0_takeAll "SeenLand" ∈ lw_tbl := List.mem_of_getElem? (i := 455) (by decide +kernel)
theorem q_457 : Cond.instanceMethod yX0_takeAll ∈ lw_tbl := List.mem_of_getElem? (i := 457) (by decide +kernel)
theorem q_458 : Cond.code yX0_takeAll cX0_takeAll 2 none ∈ lw_tbl := List.mem_of_getElem? (i := 458) (by decide +kernel)
theorem q_459 : Cond.methodLink RX0 50 arraycopyName ∈ lw_tbl := List.mem_of_getElem? (i := 459) (by decide +kernel)
theorem q_460 : Cond.static arraycopyName ∈ lw_tbl := List.mem_of_getElem? (i := 460) (by decide +kernel)
theorem q_461 : Cond.native arraycopyName ∈ lw_tbl := List.mem_of_getElem? (i := 461) (by decide +kernel)
theorem q_465 : Cond.code yX4_widest cX4_widest 6 (some .int) ∈ lw_tbl := List.mem_of_getElem? (i := 465) (by decide +kernel)
theorem q_466 : Cond.methodLink RX4 160 yJ6_bitCount_0f7a4 ∈ lw_tbl := List.mem_of_getElem? (i := 466) (by decide +kernel)
theorem q_467 : Cond.static yJ6_bitCount_0f7a4 ∈ lw_tbl := List.mem_of_getElem? (i := 467) (by decide +kernel)
theorem q_468 : Cond.code yJ6_bitCount_0f7a4 cJ6_bitCount_0f7a4 1 (some .int) ∈ lw_tbl := List.mem_of_getElem? (i := 468) (by decide +kernel)
theorem q_469 : Cond.constant RJ6 265 (1431655765) ∈ lw_tbl := List.mem_of_getElem? (i := 469) (by decide +kernel)
theorem q_470 : Cond.constant RJ6 266 (858993459) ∈ lw_tbl := List.mem_of_getElem? (i := 470) (by decide +kernel)
theorem q_471 : Cond.constant RJ6 267 (252645135) ∈ lw_tbl := List.mem_of_getElem? (i := 471) (by decide +kernel)
theorem q_475 : Cond.code yX4_wall cX4_wall 7 (some .int) ∈ lw_tbl := List.mem_of_getElem? (i := 475) (by decide +kernel)
theorem q_479 : Cond.code yX4_rateFor cX4_rateFor 5 (some .int) ∈ lw_tbl := List.mem_of_getElem? (i := 479) (by decide +kernel)
theorem q_480 : Cond.methodLink RX4 165 yX4_isTaxAsked ∈ lw_tbl := List.mem_of_getElem? (i := 480) (by decide +kernel)
theorem q_481 : Cond.static yX4_isTaxAsked ∈ lw_tbl := List.mem_of_getElem? (i := 481) (by decide +kernel)
theorem q_482 : Cond.code yX4_isTaxAsked cX4_isTaxAsked 1 (some .boolean) ∈ lw_tbl := List.mem_of_getElem? (i := 482) (by decide +kernel)
theorem q_483 : Cond.constant RX4 270 (99999) ∈ lw_tbl := List.mem_of_getElem? (i := 483) (by decide +kernel)
theorem q_484 : Cond.methodLinkNest RX4 168 yX0_worthSeenBy "SeenLand" ∈ lw_tbl := List.mem_of_getElem? (i := 484) (by decide +kernel)
theorem q_485 : Cond.methodLinkNest RX4 171 yX0_taxFor "SeenLand" ∈ lw_tbl := List.mem_of_getElem? (i := 485) (by decide +kernel)
theorem q_489 : Cond.code yX4_shade cX4_shade 8 (some .int) ∈ lw_tbl := List.mem_of_getElem? (i := 489) (by decide +kernel)
theorem q_490 : Cond.methodLink RX4 174 yX4_isSpan ∈ lw_tbl := List.mem_of_getElem? (i := 490) (by decide +kernel)
theorem q_491 : Cond.static yX4_isSpan ∈ lw_tbl := List.mem_of_getElem? (i := 491) (by decide +kernel)
theorem q_492 : Cond.code yX4_isSpan cX4_isSpan 1 (some .boolean) ∈ lw_tbl := List.mem_of_getElem? (i := 492) (by decide +kernel)
theorem q_493 : Cond.methodLink RX4 177 yX4_isTooLate ∈ lw_tbl := List.mem_of_getElem? (i := 493) (by decide +kernel)
theorem q_495 : Cond.instanceMethod yX4_isTooLate ∈ lw_tbl := List.mem_of_getElem? (i := 495) (by decide +kernel)
theorem q_496 : Cond.code yX4_isTooLate cX4_isTooLate 2 (some .boolean) ∈ lw_tbl := List.mem_of_getElem? (i := 496) (by decide +kernel)
theorem q_497 : Cond.methodLink RX4 180 yX4_tryThing ∈ lw_tbl := List.mem_of_getElem? (i := 497) (by decide +kernel)
theorem q_499 : Cond.instanceMethod yX4_tryThing ∈ lw_tbl := List.mem_of_getElem? (i := 499) (by decide +kernel)
theorem q_500 : Cond.code yX4_tryThing cX4_tryThing 4 none ∈ lw_tbl := List.mem_of_getElem? (i := 500) (by decide +kernel)
theorem q_501 : Cond.methodLinkNest RX4 198 yX0_grow "SeenLand" ∈ lw_tbl := List.mem_of_getElem? (i := 501) (by decide +kernel)
theorem q_503 : Cond.instanceMethod yX0_grow ∈ lw_tbl := List.mem_of_getElem? (i := 503) (by decide +kernel)
theorem q_504 : Cond.code yX0_grow cX0_grow 3 none ∈ lw_tbl := List.mem_of_getElem? (i := 504) (by decide +kernel)
theorem q_505 : Cond.methodLink RX0 73 yX0_ageTo ∈ lw_tbl := List.mem_of_getElem? (i := 505) (by decide +kernel)
theorem q_509 : Cond.code yX4_gains cX4_gains 6 (some .int) ∈ lw_tbl := List.mem_of_getElem? (i := 509) (by decide +kernel)
theorem q_510 : Cond.methodLink RX4 183 yX4_tryYears ∈ lw_tbl := List.mem_of_getElem? (i := 510) (by decide +kernel)
theorem q_512 : Cond.instanceMethod yX4_tryYears ∈ lw_tbl := List.mem_of_getElem? (i := 512) (by decide +kernel)
theorem q_513 : Cond.code yX4_tryYears cX4_tryYears 2 none ∈ lw_tbl := List.mem_of_getElem? (i := 513) (by decide +kernel)
theorem q_517 : Cond.code yX4_plant cX4_plant 6 (some .int) ∈ lw_tbl := List.mem_of_getElem? (i := 517) (by decide +kernel)
theorem q_521 : Cond.code yX4_two cX4_two 7 (some .int) ∈ lw_tbl := List.mem_of_getElem? (i := 521) (by decide +kernel)
theorem q_522 : Cond.methodLinkNest RX4 187 yX0_takeCell "SeenLand" ∈ lw_tbl := List.mem_of_getElem? (i := 522) (by decide +kernel)
theorem q_524 : Cond.instanceMethod yX0_takeCell ∈ lw_tbl := List.mem_of_getElem? (i := 524) (by decide +kernel)
theorem q_525 : Cond.code yX0_takeCell cX0_takeCell 3 none ∈ lw_tbl := List.mem_of_getElem? (i := 525) (by decide +kernel)
theorem q_529 : Cond.code yX4_restless cX4_restless 4 (some .int) ∈ lw_tbl := List.mem_of_getElem? (i := 529) (by decide +kernel)
theorem q_533 : Cond.code yX4_walk cX4_walk 6 (some .int) ∈ lw_tbl := List.mem_of_getElem? (i := 533) (by decide +kernel)
theorem q_534 : Cond.methodLink RX4 191 yX4_sightsOf ∈ lw_tbl := List.mem_of_getElem? (i := 534) (by decide +kernel)
theorem q_536 : Cond.instanceMethod yX4_sightsOf ∈ lw_tbl := List.mem_of_getElem? (i := 536) (by decide +kernel)
theorem q_537 : Cond.code yX4_sightsOf cX4_sightsOf 4 (some .int) ∈ lw_tbl := List.mem_of_getElem? (i := 537) (by decide +kernel)
theorem q_541 : Cond.code yX4_blind cX4_blind 1 (some .int) ∈ lw_tbl := List.mem_of_getElem? (i := 541) (by decide +kernel)
theorem q_542 : Cond.constant RX4 194 (16777215) ∈ lw_tbl := List.mem_of_getElem? (i := 542) (by decide +kernel)
theorem q_543 : Cond.methodLinkNest RX4 195 yX0_allSight "SeenLand" ∈ lw_tbl := List.mem_of_getElem? (i := 543) (by decide +kernel)
theorem q_545 : Cond.instanceMethod yX0_allSight ∈ lw_tbl := List.mem_of_getElem? (i := 545) (by decide +kernel)
theorem q_546 : Cond.code yX0_allSight cX0_allSight 3 (some .int) ∈ lw_tbl := List.mem_of_getElem? (i := 546) (by decide +kernel)
theorem q_550 : Cond.code yX4_heights cX4_heights 6 (some .int) ∈ lw_tbl := List.mem_of_getElem? (i := 550) (by decide +kernel)
theorem q_554 : Cond.code yX4_height cX4_height 7 (some .int) ∈ lw_tbl := List.mem_of_getElem? (i := 554) (by decide +kernel)
theorem q_558 : Cond.code yX4_which cX4_which 4 (some .int) ∈ lw_tbl := List.mem_of_getElem? (i := 558) (by decide +kernel)
theorem q_562 : Cond.code yX4_years cX4_years 2 (some .int) ∈ lw_tbl := List.mem_of_getElem? (i := 562) (by decide +kernel)
theorem q_566 : Cond.code yX4_ahead cX4_ahead 3 (some .int) ∈ lw_tbl := List.mem_of_getElem? (i := 566) (by decide +kernel)
theorem q_570 : Cond.code yX4_lost cX4_lost 4 (some .int) ∈ lw_tbl := List.mem_of_getElem? (i := 570) (by decide +kernel)
theorem q_574 : Cond.code yX4_when cX4_when 6 (some .int) ∈ lw_tbl := List.mem_of_getElem? (i := 574) (by decide +kernel)
theorem q_578 : Cond.code yX4_quake cX4_quake 4 (some .int) ∈ lw_tbl := List.mem_of_getElem? (i := 578) (by decide +kernel)
theorem q_579 : Cond.methodLinkNest RX4 204 yX0_draw "SeenLand" ∈ lw_tbl := List.mem_of_getElem? (i := 579) (by decide +kernel)
theorem q_581 : Cond.instanceMethod yX0_draw ∈ lw_tbl := List.mem_of_getElem? (i := 581) (by decide +kernel)
theorem q_582 : Cond.code yX0_draw cX0_draw 1 (some .int) ∈ lw_tbl := List.mem_of_getElem? (i := 582) (by decide +kernel)
theorem q_583 : Cond.constant RX0 115 (1103515245) ∈ lw_tbl := List.mem_of_getElem? (i := 583) (by decide +kernel)
theorem q_587 : Cond.code yX4_seed cX4_seed 3 (some .int) ∈ lw_tbl := List.mem_of_getElem? (i := 587) (by decide +kernel)
theorem q_591 : Cond.code yX4_feed cX4_feed 4 (some .int) ∈ lw_tbl := List.mem_of_getElem? (i := 591) (by decide +kernel)
theorem q_592 : Cond.methodLinkNest RX4 214 yX2_hasRoomFor "SeenLand" ∈ lw_tbl := List.mem_of_getElem? (i := 592) (by decide +kernel)
theorem q_594 : Cond.instanceMethod yX2_hasRoomFor ∈ lw_tbl := List.mem_of_getElem? (i := 594) (by decide +kernel)
theorem q_595 : Cond.code yX2_hasRoomFor cX2_hasRoomFor 2 (some .boolean) ∈ lw_tbl := List.mem_of_getElem? (i := 595) (by decide +kernel)
theorem q_596 : Cond.methodLinkNest RX4 219 yX2_append "SeenLand" ∈ lw_tbl := List.mem_of_getElem? (i := 596) (by decide +kernel)
theorem q_598 : Cond.instanceMethod yX2_append ∈ lw_tbl := List.mem_of_getElem? (i := 598) (by decide +kernel)
theorem q_599 : Cond.code yX2_append cX2_append 2 none ∈ lw_tbl := List.mem_of_getElem? (i := 599) (by decide +kernel)
theorem q_603 : Cond.code yX4_wipe cX4_wipe 2 (some .int) ∈ lw_tbl := List.mem_of_getElem? (i := 603) (by decide +kernel)
theorem q_607 : Cond.code yX4_text cX4_text 2 (some .int) ∈ lw_tbl := List.mem_of_getElem? (i := 607) (by decide +kernel)
theorem q_608 : Cond.methodLinkNest RX4 225 yX3_readInto "SeenLand" ∈ lw_tbl := List.mem_of_getElem? (i := 608) (by decide +kernel)
theorem q_610 : Cond.instanceMethod yX3_readInto ∈ lw_tbl := List.mem_of_getElem? (i := 610) (by decide +kernel)
theorem q_611 : Cond.code yX3_readInto cX3_readInto 3 (some .int) ∈ lw_tbl := List.mem_of_getElem? (i := 611) (by decide +kernel)
theorem q_612 : Cond.methodLinkNest RX3 16 yX2_rewind "SeenLand" ∈ lw_tbl := List.mem_of_getElem? (i := 612) (by decide +kernel)
theorem q_614 : Cond.instanceMethod yX2_rewind ∈ lw_tbl := List.mem_of_getElem? (i := 614) (by decide +kernel)
theorem q_615 : Cond.code yX2_rewind cX2_rewind 1 none ∈ lw_tbl := List.mem_of_getElem? (i := 615) (by decide +kernel)
theorem q_616 : Cond.methodLink RX2 29 yX2_step ∈ lw_tbl := List.mem_of_getElem? (i := 616) (by decide +kernel)
theorem q_618 : Cond.instanceMethod yX2_step ∈ lw_tbl := List.mem_of_getElem? (i := 618) (by decide +kernel)
theorem q_619 : Cond.code yX2_step cX2_step 1 none ∈ lw_tbl := List.mem_of_getElem? (i := 619) (by decide +kernel)
theorem q_620 : Cond.methodLink RX2 32 yX2_sortAt ∈ lw_tbl := List.mem_of_getElem? (i := 620) (by decide +kernel)
theorem q_622 : Cond.instanceMethod yX2_sortAt ∈ lw_tbl := List.mem_of_getElem? (i := 622) (by decide +kernel)
theorem q_623 : Cond.code yX2_sortAt cX2_sortAt 3 (some .int) ∈ lw_tbl := List.mem_of_getElem? (i := 623) (by decide +kernel)
theorem q_624 : Cond.methodLink RX2 36 yX2_takeDigit ∈ lw_tbl := List.mem_of_getElem? (i := 624) (by decide +kernel)
theorem q_626 : Cond.instanceMethod yX2_takeDigit ∈ lw_tbl := List.mem_of_getElem? (i := 626) (by decide +kernel)
theorem q_627 : Cond.code yX2_takeDigit cX2_takeDigit 2 none ∈ lw_tbl := List.mem_of_getElem? (i := 627) (by decide +kernel)
theorem q_628 : Cond.methodLink RX3 19 yX3_readItem ∈ lw_tbl := List.mem_of_getElem? (i := 628) (by decide +kernel)
theorem q_630 : Cond.instanceMethod yX3_readItem ∈ lw_tbl := List.mem_of_getElem? (i := 630) (by decide +kernel)
theorem q_631 : Cond.code yX3_readItem cX3_readItem 3 (some .boolean) ∈ lw_tbl := List.mem_of_getElem? (i := 631) (by decide +kernel)
theorem q_633 : Cond.methodLinkNest RX3 39 yX2_isWord "SeenLand" ∈ lw_tbl := List.mem_of_getElem? (i := 633) (by decide +kernel)
theorem q_635 : Cond.instanceMethod yX2_isWord ∈ lw_tbl := List.mem_of_getElem? (i := 635) (by decide +kernel)
theorem q_636 : Cond.code yX2_isWord cX2_isWord 3 (some .boolean) ∈ lw_tbl := List.mem_of_getElem? (i := 636) (by decide +kernel)
theorem q_637 : Cond.methodLink RX2 40 yJ0_length_8abf5 ∈ lw_tbl := List.mem_of_getElem? (i := 637) (by decide +kernel)
theorem q_647 : Cond.methodLink RX2 46 yJ0_charAt_5068e ∈ lw_tbl := List.mem_of_getElem? (i := 647) (by decide +kernel)
theorem q_685 : Cond.methodLinkNest RX3 43 yX0_isBuiltUp "SeenLand" ∈ lw_tbl := List.mem_of_getElem? (i := 685) (by decide +kernel)
theorem q_686 : Cond.methodLink RX3 49 yX3_readHouse ∈ lw_tbl := List.mem_of_getElem? (i := 686) (by decide +kernel)
theorem q_688 : Cond.instanceMethod yX3_readHouse ∈ lw_tbl := List.mem_of_getElem? (i := 688) (by decide +kernel)
theorem q_689 : Cond.code yX3_readHouse cX3_readHouse 5 (some .boolean) ∈ lw_tbl := List.mem_of_getElem? (i := 689) (by decide +kernel)
theorem q_690 : Cond.methodLinkNest RX3 31 yX2_step "SeenLand" ∈ lw_tbl := List.mem_of_getElem? (i := 690) (by decide +kernel)
theorem q_691 : Cond.methodLink RX3 86 yX3_readNumber ∈ lw_tbl := List.mem_of_getElem? (i := 691) (by decide +kernel)
theorem q_693 : Cond.instanceMethod yX3_readNumber ∈ lw_tbl := List.mem_of_getElem? (i := 693) (by decide +kernel)
theorem q_694 : Cond.code yX3_readNumber cX3_readNumber 4 (some .int) ∈ lw_tbl := List.mem_of_getElem? (i := 694) (by decide +kernel)
theorem q_696 : Cond.methodLink RX3 54 yX3_passes ∈ lw_tbl := List.mem_of_getElem? (i := 696) (by decide +kernel)
theorem q_698 : Cond.instanceMethod yX3_passes ∈ lw_tbl := List.mem_of_getElem? (i := 698) (by decide +kernel)
theorem q_699 : Cond.code yX3_passes cX3_passes 2 (some .boolean) ∈ lw_tbl := List.mem_of_getElem? (i := 699) (by decide +kernel)
theorem q_703 : Cond.methodLinkNest RX3 114 yX0_build "SeenLand" ∈ lw_tbl := List.mem_of_getElem? (i := 703) (by decide +kernel)
theorem q_705 : Cond.methodLink RX3 57 yX3_readHaze ∈ lw_tbl := List.mem_of_getElem? (i := 705) (by decide +kernel)
theorem q_707 : Cond.instanceMethod yX3_readHaze ∈ lw_tbl := List.mem_of_getElem? (i := 707) (by decide +kernel)
theorem q_708 : Cond.code yX3_readHaze cX3_readHaze 3 (some .boolean) ∈ lw_tbl := List.mem_of_getElem? (i := 708) (by decide +kernel)
theorem q_710 : Cond.methodLink RX3 62 yX3_readRate ∈ lw_tbl := List.mem_of_getElem? (i := 710) (by decide +kernel)
theorem q_712 : Cond.instanceMethod yX3_readRate ∈ lw_tbl := List.mem_of_getElem? (i := 712) (by decide +kernel)
theorem q_713 : Cond.code yX3_readRate cX3_readRate 3 (some .boolean) ∈ lw_tbl := List.mem_of_getElem? (i := 713) (by decide +kernel)
theorem q_714 : Cond.methodLink RX3 65 yX3_readKind ∈ lw_tbl := List.mem_of_getElem? (i := 714) (by decide +kernel)
theorem q_716 : Cond.instanceMethod yX3_readKind ∈ lw_tbl := List.mem_of_getElem? (i := 716) (by decide +kernel)
theorem q_717 : Cond.code yX3_readKind cX3_readKind 1 (some .int) ∈ lw_tbl := List.mem_of_getElem? (i := 717) (by decide +kernel)
theorem q_725 : Cond.methodLink RX3 68 yX3_readThing ∈ lw_tbl := List.mem_of_getElem? (i := 725) (by decide +kernel)
theorem q_727 : Cond.instanceMethod yX3_readThing ∈ lw_tbl := List.mem_of_getElem? (i := 727) (by decide +kernel)
theorem q_728 : Cond.code yX3_readThing cX3_readThing 8 (some .boolean) ∈ lw_tbl := List.mem_of_getElem? (i := 728) (by decide +kernel)
theorem q_732 : Cond.methodLinkNest RX3 96 yX0_place "SeenLand" ∈ lw_tbl := List.mem_of_getElem? (i := 732) (by decide +kernel)
theorem q_733 : Cond.methodLinkNest RX3 100 yX0_ageTo "SeenLand" ∈ lw_tbl := List.mem_of_getElem? (i := 733) (by decide +kernel)
theorem q_734 : Cond.methodLinkNest RX3 103 yX0_raiseTo "SeenLand" ∈ lw_tbl := List.mem_of_getElem? (i := 734) (by decide +kernel)
theorem q_735 : Cond.methodLink RX3 23 yX3_faultHere ∈ lw_tbl := List.mem_of_getElem? (i := 735) (by decide +kernel)
theorem q_737 : Cond.instanceMethod yX3_faultHere ∈ lw_tbl := List.mem_of_getElem? (i := 737) (by decide +kernel)
theorem q_738 : Cond.code yX3_faultHere cX3_faultHere 1 (some .int) ∈ lw_tbl := List.mem_of_getElem? (i := 738) (by decide +kernel)
theorem q_743 : Cond.code yX4_hold cX4_hold 3 (some .int) ∈ lw_tbl := List.mem_of_getElem? (i := 743) (by decide +kernel)
theorem q_744 : Cond.methodLink RX4 229 yX4_isSpot ∈ lw_tbl := List.mem_of_getElem? (i := 744) (by decide +kernel)
theorem q_745 : Cond.static yX4_isSpot ∈ lw_tbl := List.mem_of_getElem? (i := 745) (by decide +kernel)
theorem q_746 : Cond.code yX4_isSpot cX4_isSpot 1 (some .boolean) ∈ lw_tbl := List.mem_of_getElem? (i := 746) (by decide +kernel)
theorem q_750 : Cond.code yX4_as cX4_as 4 (some .int) ∈ lw_tbl := List.mem_of_getElem? (i := 750) (by decide +kernel)
theorem q_751 : Cond.methodLinkNest RX4 235 yX0_isOfKind "SeenLand" ∈ lw_tbl := List.mem_of_getElem? (i := 751) (by decide +kernel)
theorem q_752 : Cond.static yX0_isOfKind ∈ lw_tbl := List.mem_of_getElem? (i := 752) (by decide +kernel)
theorem q_753 : Cond.code yX0_isOfKind cX0_isOfKind 4 (some .boolean) ∈ lw_tbl := List.mem_of_getElem? (i := 753) (by decide +kernel)
theorem q_754 : Cond.fieldLink RX0 83 "SeenLand$Land" "KIND_ABOVE" "[I" ∈ lw_tbl := List.mem_of_getElem? (i := 754) (by decide +kernel)
theorem q_759 : Cond.code yX4_sheet cX4_sheet 4 (some .int) ∈ lw_tbl := List.mem_of_getElem? (i := 759) (by decide +kernel)
theorem q_760 : Cond.methodLinkNest RX4 238 yX1_isSheet "SeenLand" ∈ lw_tbl := List.mem_of_getElem? (i := 760) (by decide +kernel)
theorem q_761 : Cond.static yX1_isSheet ∈ lw_tbl := List.mem_of_getElem? (i := 761) (by decide +kernel)
theorem q_762 : Cond.code yX1_isSheet cX1_isSheet 1 (some .boolean) ∈ lw_tbl := List.mem_of_getElem? (i := 762) (by decide +kernel)
theorem q_763 : Cond.methodLinkNest RX4 241 yX1_make "SeenLand" ∈ lw_tbl := List.mem_of_getElem? (i := 763) (by decide +kernel)
theorem q_765 : Cond.instanceMethod yX1_make ∈ lw_tbl := List.mem_of_getElem? (i := 765) (by decide +kernel)
theorem q_766 : Cond.code yX1_make cX1_make 5 none ∈ lw_tbl := List.mem_of_getElem? (i := 766) (by decide +kernel)
theorem q_770 : Cond.code yX4_write cX4_write 4 (some .int) ∈ lw_tbl := List.mem_of_getElem? (i := 770) (by decide +kernel)
theorem q_771 : Cond.methodLinkNest RX4 247 yX1_isMissing "SeenLand" ∈ lw_tbl := List.mem_of_getElem? (i := 771) (by decide +kernel)
theorem q_773 : Cond.instanceMethod yX1_isMissing ∈ lw_tbl := List.mem_of_getElem? (i := 773) (by decide +kernel)
theorem q_774 : Cond.code yX1_isMissing cX1_isMissing 2 (some .boolean) ∈ lw_tbl := List.mem_of_getElem? (i := 774) (by decide +kernel)
theorem q_775 : Cond.methodLinkNest RX4 250 yX1_hasRun "SeenLand" ∈ lw_tbl := List.mem_of_getElem? (i := 775) (by decide +kernel)
theorem q_777 : Cond.instanceMethod yX1_hasRun ∈ lw_tbl := List.mem_of_getElem? (i := 777) (by decide +kernel)
theorem q_778 : Cond.code yX1_hasRun cX1_hasRun 4 (some .boolean) ∈ lw_tbl := List.mem_of_getElem? (i := 778) (by decide +kernel)
theorem q_779 : Cond.methodLinkNest RX4 253 yX1_put "SeenLand" ∈ lw_tbl := List.mem_of_getElem? (i := 779) (by decide +kernel)
theorem q_781 : Cond.instanceMethod yX1_put ∈ lw_tbl := List.mem_of_getElem? (i := 781) (by decide +kernel)
theorem q_782 : Cond.code yX1_put cX1_put 4 none ∈ lw_tbl := List.mem_of_getElem? (i := 782) (by decide +kernel)
theorem q_783 : Cond.methodLink RX1 19 yX1_cutTo ∈ lw_tbl := List.mem_of_getElem? (i := 783) (by decide +kernel)
theorem q_784 : Cond.static yX1_cutTo ∈ lw_tbl := List.mem_of_getElem? (i := 784) (by decide +kernel)
theorem q_785 : Cond.code yX1_cutTo cX1_cutTo 2 (some .int) ∈ lw_tbl := List.mem_of_getElem? (i := 785) (by decide +kernel)
theorem q_789 : Cond.code yX4_copy cX4_copy 6 (some .int) ∈ lw_tbl := List.mem_of_getElem? (i := 789) (by decide +kernel)
theorem q_790 : Cond.methodLinkNest RX4 259 yX1_move "SeenLand" ∈ lw_tbl := List.mem_of_getElem? (i := 790) (by decide +kernel)
theorem q_792 : Cond.instanceMethod yX1_move ∈ lw_tbl := List.mem_of_getElem? (i := 792) (by decide +kernel)
theorem q_793 : Cond.code yX1_move cX1_move 6 none ∈ lw_tbl := List.mem_of_getElem? (i := 793) (by decide +kernel)
theorem q_794 : Cond.methodLink RX1 23 arraycopyName ∈ lw_tbl := List.mem_of_getElem? (i := 794) (by decide +kernel)
theorem q_798 : Cond.code yX4_load cX4_load 4 (some .int) ∈ lw_tbl := List.mem_of_getElem? (i := 798) (by decide +kernel)
theorem q_799 : Cond.methodLinkNest RX4 263 yX1_numberAt "SeenLand" ∈ lw_tbl := List.mem_of_getElem? (i := 799) (by decide +kernel)
theorem q_801 : Cond.instanceMethod yX1_numberAt ∈ lw_tbl := List.mem_of_getElem? (i := 801) (by decide +kernel)
theorem q_802 : Cond.code yX1_numberAt cX1_numberAt 3 (some .int) ∈ lw_tbl := List.mem_of_getElem? (i := 802) (by decide +kernel)
theorem q_806 : Cond.code yX4_judge cX4_judge 5 (some .int) ∈ lw_tbl := List.mem_of_getElem? (i := 806) (by decide +kernel)
theorem q_810 : Cond.code yX4_image cX4_image 1 (some .int) ∈ lw_tbl := List.mem_of_getElem? (i := 810) (by decide +kernel)
theorem q_814 : Cond.code yX4_undo cX4_undo 1 (some .int) ∈ lw_tbl := List.mem_of_getElem? (i := 814) (by decide +kernel)
theorem q_818 : Cond.code yX4_tear cX4_tear 2 (some .int) ∈ lw_tbl := List.mem_of_getElem? (i := 818) (by decide +kernel)
theorem q_822 : Cond.code yX4_count cX4_count 2 (some .int) ∈ lw_tbl := List.mem_of_getElem? (i := 822) (by decide +kernel)
theorem q_823 : Cond.methodLinkNest RX4 266 yX0_spotsInUse "SeenLand" ∈ lw_tbl := List.mem_of_getElem? (i := 823) (by decide +kernel)
theorem q_825 : Cond.instanceMethod yX0_spotsInUse ∈ lw_tbl := List.mem_of_getElem? (i := 825) (by decide +kernel)
theorem q_826 : Cond.code yX0_spotsInUse cX0_spotsInUse 3 (some .int) ∈ lw_tbl := List.mem_of_getElem? (i := 826) (by decide +kernel)
theorem q_830 : Cond.code yX4_status cX4_status 4 (some .int) ∈ lw_tbl := List.mem_of_getElem? (i := 830) (by decide +kernel)
theorem q_837 : Cond.fieldLink RX5 7 "SeenLandModel" "s" "[I" ∈ lw_tbl := List.mem_of_getElem? (i := 837) (by decide +kernel)
theorem q_838 : Cond.fieldLink RX5 13 "SeenLandModel" "keptS" "[I" ∈ lw_tbl := List.mem_of_getElem? (i := 838) (by decide +kernel)
theorem q_839 : Cond.fieldLink RX5 16 "SeenLandModel" "other" "[I" ∈ lw_tbl := List.mem_of_getElem? (i := 839) (by decide +kernel)
theorem q_840 : Cond.fieldLink RX5 19 "SeenLandModel" "statuses" "[I" ∈ lw_tbl := List.mem_of_getElem? (i := 840) (by decide +kernel)
theorem q_841 : Cond.fieldLink RX5 320 "SeenLandModel" "isKept" "Z" ∈ lw_tbl := List.mem_of_getElem? (i := 841) (by decide +kernel)
theorem q_842 : Cond.fieldLink RX5 22 "SeenLandModel" "taxes" "[I" ∈ lw_tbl := List.mem_of_getElem? (i := 842) (by decide +kernel)
theorem q_843 : Cond.fieldLink RX5 25 "SeenLandModel" "sights" "[I" ∈ lw_tbl := List.mem_of_getElem? (i := 843) (by decide +kernel)
theorem q_844 : Cond.fieldLink RX5 185 "SeenLandModel" "heightMany" "I" ∈ lw_tbl := List.mem_of_getElem? (i := 844) (by decide +kernel)
theorem q_845 : Cond.fieldLink RX5 189 "SeenLandModel" "heightLeast" "I" ∈ lw_tbl := List.mem_of_getElem? (i := 845) (by decide +kernel)
theorem q_846 : Cond.fieldLink RX5 192 "SeenLandModel" "heightMost" "I" ∈ lw_tbl := List.mem_of_getElem? (i := 846) (by decide +kernel)
theorem q_847 : Cond.fieldLink RX5 28 "SeenLandModel" "tape" "[I" ∈ lw_tbl := List.mem_of_getElem? (i := 847) (by decide +kernel)
theorem q_848 : Cond.fieldLink RX5 204 "SeenLandModel" "taped" "I" ∈ lw_tbl := List.mem_of_getElem? (i := 848) (by decide +kernel)
theorem q_849 : Cond.fieldLink RX5 218 "SeenLandModel" "from" "I" ∈ lw_tbl := List.mem_of_getElem? (i := 849) (by decide +kernel)
theorem q_850 : Cond.fieldLink RX5 215 "SeenLandModel" "to" "I" ∈ lw_tbl := List.mem_of_getElem? (i := 850) (by decide +kernel)
theorem q_851 : Cond.fieldLink RX5 241 "SeenLandModel" "value" "I" ∈ lw_tbl := List.mem_of_getElem? (i := 851) (by decide +kernel)
theorem q_852 : Cond.fieldLink RX5 230 "SeenLandModel" "isWrong" "Z" ∈ lw_tbl := List.mem_of_getElem? (i := 852) (by decide +kernel)
theorem q_853 : Cond.fieldLink RX5 31 "SeenLandModel" "bitsOf" "[I" ∈ lw_tbl := List.mem_of_getElem? (i := 853) (by decide +kernel)
theorem q_854 : Cond.fieldLink RX5 34 "SeenLandModel" "sizeOf" "[I" ∈ lw_tbl := List.mem_of_getElem? (i := 854) (by decide +kernel)
theorem q_855 : Cond.fieldLink RX5 37 "SeenLandModel" "number" "[I" ∈ lw_tbl := List.mem_of_getElem? (i := 855) (by decide +kernel)
theorem q_856 : Cond.fieldLink RX5 40 "SeenLandModel" "moved" "[I" ∈ lw_tbl := List.mem_of_getElem? (i := 856) (by decide +kernel)
theorem q_901 : Cond.code yX5_cell cX5_cell 5 (some .int) ∈ lw_tbl := List.mem_of_getElem? (i := 901) (by decide +kernel)
theorem q_902 : Cond.methodLink RX5 58 yX5_isCell ∈ lw_tbl := List.mem_of_getElem? (i := 902) (by decide +kernel)
theorem q_903 : Cond.static yX5_isCell ∈ lw_tbl := List.mem_of_getElem? (i := 903) (by decide +kernel)
theorem q_904 : Cond.code yX5_isCell cX5_isCell 1 (some .boolean) ∈ lw_tbl := List.mem_of_getElem? (i := 904) (by decide +kernel)
theorem q_905 : Cond.constantLong RX5 44 (23) ∈ lw_tbl := List.mem_of_getElem? (i := 905) (by decide +kernel)
theorem q_906 : Cond.methodLink RX5 46 yX5_in ∈ lw_tbl := List.mem_of_getElem? (i := 906) (by decide +kernel)
theorem q_907 : Cond.static yX5_in ∈ lw_tbl := List.mem_of_getElem? (i := 907) (by decide +kernel)
theorem q_908 : Cond.code yX5_in cX5_in 6 (some .boolean) ∈ lw_tbl := List.mem_of_getElem? (i := 908) (by decide +kernel)
theorem q_909 : Cond.constantLong RX5 73 (99) ∈ lw_tbl := List.mem_of_getElem? (i := 909) (by decide +kernel)
theorem q_910 : Cond.constant RX5 43 (-1000001) ∈ lw_tbl := List.mem_of_getElem? (i := 910) (by decide +kernel)
theorem q_911 : Cond.methodLink RX5 75 yX5_finds ∈ lw_tbl := List.mem_of_getElem? (i := 911) (by decide +kernel)
theorem q_913 : Cond.instanceMethod yX5_finds ∈ lw_tbl := List.mem_of_getElem? (i := 913) (by decide +kernel)
theorem q_914 : Cond.code yX5_finds cX5_finds 2 (some .int) ∈ lw_tbl := List.mem_of_getElem? (i := 914) (by decide +kernel)
theorem q_918 : Cond.code yX5_set cX5_set 4 (some .int) ∈ lw_tbl := List.mem_of_getElem? (i := 918) (by decide +kernel)
theorem q_919 : Cond.methodLink RX5 78 yX5_isKind ∈ lw_tbl := List.mem_of_getElem? (i := 919) (by decide +kernel)
theorem q_920 : Cond.static yX5_isKind ∈ lw_tbl := List.mem_of_getElem? (i := 920) (by decide +kernel)
theorem q_921 : Cond.code yX5_isKind cX5_isKind 1 (some .boolean) ∈ lw_tbl := List.mem_of_getElem? (i := 921) (by decide +kernel)
theorem q_922 : Cond.constantLong RX5 50 (6) ∈ lw_tbl := List.mem_of_getElem? (i := 922) (by decide +kernel)
theorem q_923 : Cond.methodLink RX5 67 yX5_kindOf ∈ lw_tbl := List.mem_of_getElem? (i := 923) (by decide +kernel)
theorem q_925 : Cond.instanceMethod yX5_kindOf ∈ lw_tbl := List.mem_of_getElem? (i := 925) (by decide +kernel)
theorem q_926 : Cond.code yX5_kindOf cX5_kindOf 2 (some .int) ∈ lw_tbl := List.mem_of_getElem? (i := 926) (by decide +kernel)
theorem q_927 : Cond.methodLink RX5 81 yX5_sets ∈ lw_tbl := List.mem_of_getElem? (i := 927) (by decide +kernel)
theorem q_929 : Cond.instanceMethod yX5_sets ∈ lw_tbl := List.mem_of_getElem? (i := 929) (by decide +kernel)
theorem q_930 : Cond.code yX5_sets cX5_sets 3 none ∈ lw_tbl := List.mem_of_getElem? (i := 930) (by decide +kernel)
theorem q_934 : Cond.code yX5_cellOf cX5_cellOf 3 (some .int) ∈ lw_tbl := List.mem_of_getElem? (i := 934) (by decide +kernel)
theorem q_935 : Cond.constantLong RX5 85 (4) ∈ lw_tbl := List.mem_of_getElem? (i := 935) (by decide +kernel)
theorem q_936 : Cond.methodLink RX5 87 yX5_top ∈ lw_tbl := List.mem_of_getElem? (i := 936) (by decide +kernel)
theorem q_938 : Cond.instanceMethod yX5_top ∈ lw_tbl := List.mem_of_getElem? (i := 938) (by decide +kernel)
theorem q_939 : Cond.code yX5_top cX5_top 3 (some .int) ∈ lw_tbl := List.mem_of_getElem? (i := 939) (by decide +kernel)
theorem q_940 : Cond.methodLink RX5 63 yX5_ageOf ∈ lw_tbl := List.mem_of_getElem? (i := 940) (by decide +kernel)
theorem q_942 : Cond.instanceMethod yX5_ageOf ∈ lw_tbl := List.mem_of_getElem? (i := 942) (by decide +kernel)
theorem q_943 : Cond.code yX5_ageOf cX5_ageOf 2 (some .int) ∈ lw_tbl := List.mem_of_getElem? (i := 943) (by decide +kernel)
theorem q_944 : Cond.methodLink RX5 70 yX5_heightOf ∈ lw_tbl := List.mem_of_getElem? (i := 944) (by decide +kernel)
theorem q_946 : Cond.instanceMethod yX5_heightOf ∈ lw_tbl := List.mem_of_getElem? (i := 946) (by decide +kernel)
theorem q_947 : Cond.code yX5_heightOf cX5_heightOf 2 (some .int) ∈ lw_tbl := List.mem_of_getElem? (i := 947) (by decide +kernel)
theorem q_948 : Cond.methodLink RX5 90 yX5_worth ∈ lw_tbl := List.mem_of_getElem? (i := 948) (by decide +kernel)
theorem q_950 : Cond.instanceMethod yX5_worth ∈ lw_tbl := List.mem_of_getElem? (i := 950) (by decide +kernel)
theorem q_951 : Cond.code yX5_worth cX5_worth 2 (some .int) ∈ lw_tbl := List.mem_of_getElem? (i := 951) (by decide +kernel)
theorem q_955 : Cond.code yX5_house cX5_house 3 (some .int) ∈ lw_tbl := List.mem_of_getElem? (i := 955) (by decide +kernel)
theorem q_956 : Cond.methodLink RX5 96 yX5_isFloor ∈ lw_tbl := List.mem_of_getElem? (i := 956) (by decide +kernel)
theorem q_957 : Cond.static yX5_isFloor ∈ lw_tbl := List.mem_of_getElem? (i := 957) (by decide +kernel)
theorem q_958 : Cond.code yX5_isFloor cX5_isFloor 1 (some .boolean) ∈ lw_tbl := List.mem_of_getElem? (i := 958) (by decide +kernel)
theorem q_959 : Cond.constantLong RX5 52 (40) ∈ lw_tbl := List.mem_of_getElem? (i := 959) (by decide +kernel)
theorem q_960 : Cond.constant RX5 99 (-1000002) ∈ lw_tbl := List.mem_of_getElem? (i := 960) (by decide +kernel)
theorem q_961 : Cond.methodLink RX5 100 yX5_newHouse ∈ lw_tbl := List.mem_of_getElem? (i := 961) (by decide +kernel)
theorem q_963 : Cond.instanceMethod yX5_newHouse ∈ lw_tbl := List.mem_of_getElem? (i := 963) (by decide +kernel)
theorem q_964 : Cond.code yX5_newHouse cX5_newHouse 5 (some .int) ∈ lw_tbl := List.mem_of_getElem? (i := 964) (by decide +kernel)
theorem q_968 : Cond.code yX5_houseOf cX5_houseOf 3 (some .int) ∈ lw_tbl := List.mem_of_getElem? (i := 968) (by decide +kernel)
theorem q_969 : Cond.methodLink RX5 104 yX5_isHouse ∈ lw_tbl := List.mem_of_getElem? (i := 969) (by decide +kernel)
theorem q_971 : Cond.instanceMethod yX5_isHouse ∈ lw_tbl := List.mem_of_getElem? (i := 971) (by decide +kernel)
theorem q_972 : Cond.code yX5_isHouse cX5_isHouse 2 (some .boolean) ∈ lw_tbl := List.mem_of_getElem? (i := 972) (by decide +kernel)
theorem q_973 : Cond.constantLong RX5 107 (3) ∈ lw_tbl := List.mem_of_getElem? (i := 973) (by decide +kernel)
theorem q_974 : Cond.methodLink RX5 109 yX5_eye ∈ lw_tbl := List.mem_of_getElem? (i := 974) (by decide +kernel)
theorem q_976 : Cond.instanceMethod yX5_eye ∈ lw_tbl := List.mem_of_getElem? (i := 976) (by decide +kernel)
theorem q_977 : Cond.code yX5_eye cX5_eye 2 (some .int) ∈ lw_tbl := List.mem_of_getElem? (i := 977) (by decide +kernel)
theorem q_978 : Cond.methodLink RX5 93 yX5_cellAt ∈ lw_tbl := List.mem_of_getElem? (i := 978) (by decide +kernel)
theorem q_980 : Cond.instanceMethod yX5_cellAt ∈ lw_tbl := List.mem_of_getElem? (i := 980) (by decide +kernel)
theorem q_981 : Cond.code yX5_cellAt cX5_cellAt 2 (some .int) ∈ lw_tbl := List.mem_of_getElem? (i := 981) (by decide +kernel)
theorem q_982 : Cond.methodLink RX5 112 yX5_openOf ∈ lw_tbl := List.mem_of_getElem? (i := 982) (by decide +kernel)
theorem q_984 : Cond.instanceMethod yX5_openOf ∈ lw_tbl := List.mem_of_getElem? (i := 984) (by decide +kernel)
theorem q_985 : Cond.code yX5_openOf cX5_openOf 2 (some .int) ∈ lw_tbl := List.mem_of_getElem? (i := 985) (by decide +kernel)
theorem q_989 : Cond.code yX5_floor cX5_floor 4 (some .int) ∈ lw_tbl := List.mem_of_getElem? (i := 989) (by decide +kernel)
theorem q_993 : Cond.code yX5_windows cX5_windows 4 (some .int) ∈ lw_tbl := List.mem_of_getElem? (i := 993) (by decide +kernel)
theorem q_997 : Cond.code yX5_law cX5_law 4 (some .int) ∈ lw_tbl := List.mem_of_getElem? (i := 997) (by decide +kernel)
theorem q_1001 : Cond.code yX5_dig cX5_dig 6 (some .int) ∈ lw_tbl := List.mem_of_getElem? (i := 1001) (by decide +kernel)
theorem q_1002 : Cond.methodLink RX5 115 yX5_isStretch ∈ lw_tbl := List.mem_of_getElem? (i := 1002) (by decide +kernel)
theorem q_1003 : Cond.static yX5_isStretch ∈ lw_tbl := List.mem_of_getElem? (i := 1003) (by decide +kernel)
theorem q_1004 : Cond.code yX5_isStretch cX5_isStretch 2 (some .boolean) ∈ lw_tbl := List.mem_of_getElem? (i := 1004) (by decide +kernel)
theorem q_1005 : Cond.methodLink RX5 119 yX5_lowers ∈ lw_tbl := List.mem_of_getElem? (i := 1005) (by decide +kernel)
theorem q_1007 : Cond.instanceMethod yX5_lowers ∈ lw_tbl := List.mem_of_getElem? (i := 1007) (by decide +kernel)
theorem q_1008 : Cond.code yX5_lowers cX5_lowers 3 none ∈ lw_tbl := List.mem_of_getElem? (i := 1008) (by decide +kernel)
theorem q_1012 : Cond.code yX5_drain cX5_drain 4 (some .int) ∈ lw_tbl := List.mem_of_getElem? (i := 1012) (by decide +kernel)
theorem q_1013 : Cond.constantLong RX5 122 (20) ∈ lw_tbl := List.mem_of_getElem? (i := 1013) (by decide +kernel)
theorem q_1017 : Cond.code yX5_sight cX5_sight 2 (some .int) ∈ lw_tbl := List.mem_of_getElem? (i := 1017) (by decide +kernel)
theorem q_1018 : Cond.methodLink RX5 141 yX5_sightOf ∈ lw_tbl := List.mem_of_getElem? (i := 1018) (by decide +kernel)
theorem q_1020 : Cond.instanceMethod yX5_sightOf ∈ lw_tbl := List.mem_of_getElem? (i := 1020) (by decide +kernel)
theorem q_1021 : Cond.code yX5_sightOf cX5_sightOf 4 (some .int) ∈ lw_tbl := List.mem_of_getElem? (i := 1021) (by decide +kernel)
theorem q_1022 : Cond.methodLink RX5 134 yX5_isTowards ∈ lw_tbl := List.mem_of_getElem? (i := 1022) (by decide +kernel)
theorem q_1024 : Cond.instanceMethod yX5_isTowards ∈ lw_tbl := List.mem_of_getElem? (i := 1024) (by decide +kernel)
theorem q_1025 : Cond.code yX5_isTowards cX5_isTowards 4 (some .boolean) ∈ lw_tbl := List.mem_of_getElem? (i := 1025) (by decide +kernel)
theorem q_1026 : Cond.methodLink RX5 124 yX5_size ∈ lw_tbl := List.mem_of_getElem? (i := 1026) (by decide +kernel)
theorem q_1027 : Cond.static yX5_size ∈ lw_tbl := List.mem_of_getElem? (i := 1027) (by decide +kernel)
theorem q_1028 : Cond.code yX5_size cX5_size 1 (some .int) ∈ lw_tbl := List.mem_of_getElem? (i := 1028) (by decide +kernel)
theorem q_1029 : Cond.methodLink RX5 127 yX5_has ∈ lw_tbl := List.mem_of_getElem? (i := 1029) (by decide +kernel)
theorem q_1030 : Cond.static yX5_has ∈ lw_tbl := List.mem_of_getElem? (i := 1030) (by decide +kernel)
theorem q_1031 : Cond.code yX5_has cX5_has 2 (some .boolean) ∈ lw_tbl := List.mem_of_getElem? (i := 1031) (by decide +kernel)
theorem q_1032 : Cond.methodLink RX5 137 yX5_hider ∈ lw_tbl := List.mem_of_getElem? (i := 1032) (by decide +kernel)
theorem q_1034 : Cond.instanceMethod yX5_hider ∈ lw_tbl := List.mem_of_getElem? (i := 1034) (by decide +kernel)
theorem q_1035 : Cond.code yX5_hider cX5_hider 5 (some .int) ∈ lw_tbl := List.mem_of_getElem? (i := 1035) (by decide +kernel)
theorem q_1036 : Cond.methodLink RX5 130 yX5_isHiding ∈ lw_tbl := List.mem_of_getElem? (i := 1036) (by decide +kernel)
theorem q_1038 : Cond.instanceMethod yX5_isHiding ∈ lw_tbl := List.mem_of_getElem? (i := 1038) (by decide +kernel)
theorem q_1039 : Cond.code yX5_isHiding cX5_isHiding 7 (some .boolean) ∈ lw_tbl := List.mem_of_getElem? (i := 1039) (by decide +kernel)
theorem q_1043 : Cond.code yX5_sees cX5_sees 3 (some .int) ∈ lw_tbl := List.mem_of_getElem? (i := 1043) (by decide +kernel)
theorem q_1047 : Cond.code yX5_seenBy cX5_seenBy 4 (some .int) ∈ lw_tbl := List.mem_of_getElem? (i := 1047) (by decide +kernel)
theorem q_1051 : Cond.code yX5_neighbours cX5_neighbours 5 (some .int) ∈ lw_tbl := List.mem_of_getElem? (i := 1051) (by decide +kernel)
theorem q_1055 : Cond.code yX5_hidden cX5_hidden 4 (some .int) ∈ lw_tbl := List.mem_of_getElem? (i := 1055) (by decide +kernel)
theorem q_1056 : Cond.constant RX5 144 (-1000005) ∈ lw_tbl := List.mem_of_getElem? (i := 1056) (by decide +kernel)
theorem q_1057 : Cond.constant RX5 145 (-1000004) ∈ lw_tbl := List.mem_of_getElem? (i := 1057) (by decide +kernel)
theorem q_1061 : Cond.code yX5_tax cX5_tax 2 (some .int) ∈ lw_tbl := List.mem_of_getElem? (i := 1061) (by decide +kernel)
theorem q_1062 : Cond.methodLink RX5 146 yX5_taxOf ∈ lw_tbl := List.mem_of_getElem? (i := 1062) (by decide +kernel)
theorem q_1064 : Cond.instanceMethod yX5_taxOf ∈ lw_tbl := List.mem_of_getElem? (i := 1064) (by decide +kernel)
theorem q_1065 : Cond.code yX5_taxOf cX5_taxOf 5 (some .int) ∈ lw_tbl := List.mem_of_getElem? (i := 1065) (by decide +kernel)
theorem q_1069 : Cond.code yX5_all cX5_all 1 (some .int) ∈ lw_tbl := List.mem_of_getElem? (i := 1069) (by decide +kernel)
theorem q_1070 : Cond.methodLink RX5 149 yX5_allTax ∈ lw_tbl := List.mem_of_getElem? (i := 1070) (by decide +kernel)
theorem q_1072 : Cond.instanceMethod yX5_allTax ∈ lw_tbl := List.mem_of_getElem? (i := 1072) (by decide +kernel)
theorem q_1073 : Cond.code yX5_allTax cX5_allTax 3 (some .int) ∈ lw_tbl := List.mem_of_getElem? (i := 1073) (by decide +kernel)
theorem q_1077 : Cond.code yX5_cheapest cX5_cheapest 2 (some .int) ∈ lw_tbl := List.mem_of_getElem? (i := 1077) (by decide +kernel)
theorem q_1078 : Cond.methodLink RX5 153 yX5_leastFloor ∈ lw_tbl := List.mem_of_getElem? (i := 1078) (by decide +kernel)
theorem q_1080 : Cond.instanceMethod yX5_leastFloor ∈ lw_tbl := List.mem_of_getElem? (i := 1080) (by decide +kernel)
theorem q_1081 : Cond.code yX5_leastFloor cX5_leastFloor 7 (some .int) ∈ lw_tbl := List.mem_of_getElem? (i := 1081) (by decide +kernel)
theorem q_1085 : Cond.code yX5_widest cX5_widest 7 (some .int) ∈ lw_tbl := List.mem_of_getElem? (i := 1085) (by decide +kernel)
theorem q_1086 : Cond.methodLink RX5 156 yX5_ones ∈ lw_tbl := List.mem_of_getElem? (i := 1086) (by decide +kernel)
theorem q_1087 : Cond.static yX5_ones ∈ lw_tbl := List.mem_of_getElem? (i := 1087) (by decide +kernel)
theorem q_1088 : Cond.code yX5_ones cX5_ones 3 (some .int) ∈ lw_tbl := List.mem_of_getElem? (i := 1088) (by decide +kernel)
theorem q_1092 : Cond.code yX5_wall cX5_wall 8 (some .int) ∈ lw_tbl := List.mem_of_getElem? (i := 1092) (by decide +kernel)
theorem q_1096 : Cond.code yX5_rateFor cX5_rateFor 5 (some .int) ∈ lw_tbl := List.mem_of_getElem? (i := 1096) (by decide +kernel)
theorem q_1097 : Cond.methodLink RX5 159 yX5_isTax ∈ lw_tbl := List.mem_of_getElem? (i := 1097) (by decide +kernel)
theorem q_1098 : Cond.static yX5_isTax ∈ lw_tbl := List.mem_of_getElem? (i := 1098) (by decide +kernel)
theorem q_1099 : Cond.code yX5_isTax cX5_isTax 1 (some .boolean) ∈ lw_tbl := List.mem_of_getElem? (i := 1099) (by decide +kernel)
theorem q_1100 : Cond.constantLong RX5 56 (99999) ∈ lw_tbl := List.mem_of_getElem? (i := 1100) (by decide +kernel)
theorem q_1104 : Cond.code yX5_shade cX5_shade 8 (some .int) ∈ lw_tbl := List.mem_of_getElem? (i := 1104) (by decide +kernel)
theorem q_1105 : Cond.methodLink RX5 165 yX5_isAhead ∈ lw_tbl := List.mem_of_getElem? (i := 1105) (by decide +kernel)
theorem q_1106 : Cond.static yX5_isAhead ∈ lw_tbl := List.mem_of_getElem? (i := 1106) (by decide +kernel)
theorem q_1107 : Cond.code yX5_isAhead cX5_isAhead 1 (some .boolean) ∈ lw_tbl := List.mem_of_getElem? (i := 1107) (by decide +kernel)
theorem q_1108 : Cond.constantLong RX5 54 (60) ∈ lw_tbl := List.mem_of_getElem? (i := 1108) (by decide +kernel)
theorem q_1109 : Cond.methodLink RX5 168 yX5_isTooFar ∈ lw_tbl := List.mem_of_getElem? (i := 1109) (by decide +kernel)
theorem q_1111 : Cond.instanceMethod yX5_isTooFar ∈ lw_tbl := List.mem_of_getElem? (i := 1111) (by decide +kernel)
theorem q_1112 : Cond.code yX5_isTooFar cX5_isTooFar 2 (some .boolean) ∈ lw_tbl := List.mem_of_getElem? (i := 1112) (by decide +kernel)
theorem q_1113 : Cond.methodLink RX5 171 yX5_puts ∈ lw_tbl := List.mem_of_getElem? (i := 1113) (by decide +kernel)
theorem q_1115 : Cond.instanceMethod yX5_puts ∈ lw_tbl := List.mem_of_getElem? (i := 1115) (by decide +kernel)
theorem q_1116 : Cond.code yX5_puts cX5_puts 2 none ∈ lw_tbl := List.mem_of_getElem? (i := 1116) (by decide +kernel)
theorem q_1117 : Cond.methodLink RX5 174 yX5_yearsGo ∈ lw_tbl := List.mem_of_getElem? (i := 1117) (by decide +kernel)
theorem q_1119 : Cond.instanceMethod yX5_yearsGo ∈ lw_tbl := List.mem_of_getElem? (i := 1119) (by decide +kernel)
theorem q_1120 : Cond.code yX5_yearsGo cX5_yearsGo 3 none ∈ lw_tbl := List.mem_of_getElem? (i := 1120) (by decide +kernel)
theorem q_1121 : Cond.methodLink RX5 162 yX5_year ∈ lw_tbl := List.mem_of_getElem? (i := 1121) (by decide +kernel)
theorem q_1123 : Cond.instanceMethod yX5_year ∈ lw_tbl := List.mem_of_getElem? (i := 1123) (by decide +kernel)
theorem q_1124 : Cond.code yX5_year cX5_year 2 none ∈ lw_tbl := List.mem_of_getElem? (i := 1124) (by decide +kernel)
theorem q_1125 : Cond.methodLink RX5 178 yX5_putsBack ∈ lw_tbl := List.mem_of_getElem? (i := 1125) (by decide +kernel)
theorem q_1127 : Cond.instanceMethod yX5_putsBack ∈ lw_tbl := List.mem_of_getElem? (i := 1127) (by decide +kernel)
theorem q_1128 : Cond.code yX5_putsBack cX5_putsBack 2 none ∈ lw_tbl := List.mem_of_getElem? (i := 1128) (by decide +kernel)
theorem q_1132 : Cond.code yX5_gains cX5_gains 6 (some .int) ∈ lw_tbl := List.mem_of_getElem? (i := 1132) (by decide +kernel)
theorem q_1136 : Cond.code yX5_plant cX5_plant 6 (some .int) ∈ lw_tbl := List.mem_of_getElem? (i := 1136) (by decide +kernel)
theorem q_1140 : Cond.code yX5_two cX5_two 7 (some .int) ∈ lw_tbl := List.mem_of_getElem? (i := 1140) (by decide +kernel)
theorem q_1144 : Cond.code yX5_restless cX5_restless 6 (some .int) ∈ lw_tbl := List.mem_of_getElem? (i := 1144) (by decide +kernel)
theorem q_1148 : Cond.code yX5_walk cX5_walk 6 (some .int) ∈ lw_tbl := List.mem_of_getElem? (i := 1148) (by decide +kernel)
theorem q_1149 : Cond.methodLink RX5 181 yX5_findSights ∈ lw_tbl := List.mem_of_getElem? (i := 1149) (by decide +kernel)
theorem q_1151 : Cond.instanceMethod yX5_findSights ∈ lw_tbl := List.mem_of_getElem? (i := 1151) (by decide +kernel)
theorem q_1152 : Cond.code yX5_findSights cX5_findSights 3 (some .int) ∈ lw_tbl := List.mem_of_getElem? (i := 1152) (by decide +kernel)
theorem q_1156 : Cond.code yX5_blind cX5_blind 1 (some .int) ∈ lw_tbl := List.mem_of_getElem? (i := 1156) (by decide +kernel)
theorem q_1157 : Cond.constant RX5 184 (16777215) ∈ lw_tbl := List.mem_of_getElem? (i := 1157) (by decide +kernel)
theorem q_1161 : Cond.code yX5_heights cX5_heights 4 (some .int) ∈ lw_tbl := List.mem_of_getElem? (i := 1161) (by decide +kernel)
theorem q_1162 : Cond.methodLink RX5 195 yX5_findHeights ∈ lw_tbl := List.mem_of_getElem? (i := 1162) (by decide +kernel)
theorem q_1164 : Cond.instanceMethod yX5_findHeights ∈ lw_tbl := List.mem_of_getElem? (i := 1164) (by decide +kernel)
theorem q_1165 : Cond.code yX5_findHeights cX5_findHeights 6 none ∈ lw_tbl := List.mem_of_getElem? (i := 1165) (by decide +kernel)
theorem q_1169 : Cond.code yX5_height cX5_height 5 (some .int) ∈ lw_tbl := List.mem_of_getElem? (i := 1169) (by decide +kernel)
theorem q_1173 : Cond.code yX5_which cX5_which 6 (some .int) ∈ lw_tbl := List.mem_of_getElem? (i := 1173) (by decide +kernel)
theorem q_1177 : Cond.code yX5_years cX5_years 2 (some .int) ∈ lw_tbl := List.mem_of_getElem? (i := 1177) (by decide +kernel)
theorem q_1181 : Cond.code yX5_ahead cX5_ahead 4 (some .int) ∈ lw_tbl := List.mem_of_getElem? (i := 1181) (by decide +kernel)
theorem q_1185 : Cond.code yX5_lost cX5_lost 5 (some .int) ∈ lw_tbl := List.mem_of_getElem? (i := 1185) (by decide +kernel)
theorem q_1189 : Cond.code yX5_when cX5_when 6 (some .int) ∈ lw_tbl := List.mem_of_getElem? (i := 1189) (by decide +kernel)
theorem q_1193 : Cond.code yX5_quake cX5_quake 4 (some .int) ∈ lw_tbl := List.mem_of_getElem? (i := 1193) (by decide +kernel)
theorem q_1194 : Cond.constantLong RX5 199 (10) ∈ lw_tbl := List.mem_of_getElem? (i := 1194) (by decide +kernel)
theorem q_1195 : Cond.methodLink RX5 201 yX5_next ∈ lw_tbl := List.mem_of_getElem? (i := 1195) (by decide +kernel)
theorem q_1197 : Cond.instanceMethod yX5_next ∈ lw_tbl := List.mem_of_getElem? (i := 1197) (by decide +kernel)
theorem q_1198 : Cond.code yX5_next cX5_next 1 (some .int) ∈ lw_tbl := List.mem_of_getElem? (i := 1198) (by decide +kernel)
theorem q_1199 : Cond.constant RX5 62 (1103515245) ∈ lw_tbl := List.mem_of_getElem? (i := 1199) (by decide +kernel)
theorem q_1203 : Cond.code yX5_seed cX5_seed 3 (some .int) ∈ lw_tbl := List.mem_of_getElem? (i := 1203) (by decide +kernel)
theorem q_1207 : Cond.code yX5_feed cX5_feed 4 (some .int) ∈ lw_tbl := List.mem_of_getElem? (i := 1207) (by decide +kernel)
theorem q_1211 : Cond.code yX5_wipe cX5_wipe 2 (some .int) ∈ lw_tbl := List.mem_of_getElem? (i := 1211) (by decide +kernel)
theorem q_1215 : Cond.code yX5_text cX5_text 2 (some .int) ∈ lw_tbl := List.mem_of_getElem? (i := 1215) (by decide +kernel)
theorem q_1216 : Cond.methodLink RX5 234 yX5_token ∈ lw_tbl := List.mem_of_getElem? (i := 1216) (by decide +kernel)
theorem q_1218 : Cond.instanceMethod yX5_token ∈ lw_tbl := List.mem_of_getElem? (i := 1218) (by decide +kernel)
theorem q_1219 : Cond.code yX5_token cX5_token 3 none ∈ lw_tbl := List.mem_of_getElem? (i := 1219) (by decide +kernel)
theorem q_1220 : Cond.methodLink RX5 221 yX5_byteAt ∈ lw_tbl := List.mem_of_getElem? (i := 1220) (by decide +kernel)
theorem q_1222 : Cond.instanceMethod yX5_byteAt ∈ lw_tbl := List.mem_of_getElem? (i := 1222) (by decide +kernel)
theorem q_1223 : Cond.code yX5_byteAt cX5_byteAt 2 (some .int) ∈ lw_tbl := List.mem_of_getElem? (i := 1223) (by decide +kernel)
theorem q_1224 : Cond.methodLink RX5 224 yX5_isLetter ∈ lw_tbl := List.mem_of_getElem? (i := 1224) (by decide +kernel)
theorem q_1225 : Cond.static yX5_isLetter ∈ lw_tbl := List.mem_of_getElem? (i := 1225) (by decide +kernel)
theorem q_1226 : Cond.code yX5_isLetter cX5_isLetter 1 (some .boolean) ∈ lw_tbl := List.mem_of_getElem? (i := 1226) (by decide +kernel)
theorem q_1227 : Cond.constantLong RX5 207 (97) ∈ lw_tbl := List.mem_of_getElem? (i := 1227) (by decide +kernel)
theorem q_1228 : Cond.constantLong RX5 209 (122) ∈ lw_tbl := List.mem_of_getElem? (i := 1228) (by decide +kernel)
theorem q_1229 : Cond.methodLink RX5 227 yX5_isDigit ∈ lw_tbl := List.mem_of_getElem? (i := 1229) (by decide +kernel)
theorem q_1230 : Cond.static yX5_isDigit ∈ lw_tbl := List.mem_of_getElem? (i := 1230) (by decide +kernel)
theorem q_1231 : Cond.code yX5_isDigit cX5_isDigit 1 (some .boolean) ∈ lw_tbl := List.mem_of_getElem? (i := 1231) (by decide +kernel)
theorem q_1232 : Cond.constantLong RX5 211 (48) ∈ lw_tbl := List.mem_of_getElem? (i := 1232) (by decide +kernel)
theorem q_1233 : Cond.constantLong RX5 213 (57) ∈ lw_tbl := List.mem_of_getElem? (i := 1233) (by decide +kernel)
theorem q_1234 : Cond.methodLink RX5 301 yX5_item ∈ lw_tbl := List.mem_of_getElem? (i := 1234) (by decide +kernel)
theorem q_1236 : Cond.instanceMethod yX5_item ∈ lw_tbl := List.mem_of_getElem? (i := 1236) (by decide +kernel)
theorem q_1237 : Cond.code yX5_item cX5_item 2 none ∈ lw_tbl := List.mem_of_getElem? (i := 1237) (by decide +kernel)
theorem q_1238 : Cond.methodLink RX5 286 yX5_kindHere ∈ lw_tbl := List.mem_of_getElem? (i := 1238) (by decide +kernel)
theorem q_1240 : Cond.instanceMethod yX5_kindHere ∈ lw_tbl := List.mem_of_getElem? (i := 1240) (by decide +kernel)
theorem q_1241 : Cond.code yX5_kindHere cX5_kindHere 3 (some .int) ∈ lw_tbl := List.mem_of_getElem? (i := 1241) (by decide +kernel)
theorem q_1242 : Cond.methodLink RX5 248 yX5_word ∈ lw_tbl := List.mem_of_getElem? (i := 1242) (by decide +kernel)
theorem q_1244 : Cond.instanceMethod yX5_word ∈ lw_tbl := List.mem_of_getElem? (i := 1244) (by decide +kernel)
theorem q_1245 : Cond.code yX5_word cX5_word 4 (some .long) ∈ lw_tbl := List.mem_of_getElem? (i := 1245) (by decide +kernel)
theorem q_1246 : Cond.constantLong RX5 237 (36028797018963967) ∈ lw_tbl := List.mem_of_getElem? (i := 1246) (by decide +kernel)
theorem q_1247 : Cond.constantLong RX5 239 (32) ∈ lw_tbl := List.mem_of_getElem? (i := 1247) (by decide +kernel)
theorem q_1248 : Cond.constantLong RX5 252 (394692) ∈ lw_tbl := List.mem_of_getElem? (i := 1248) (by decide +kernel)
theorem q_1249 : Cond.constantLong RX5 254 (24170674) ∈ lw_tbl := List.mem_of_getElem? (i := 1249) (by decide +kernel)
theorem q_1250 : Cond.constantLong RX5 256 (6591876) ∈ lw_tbl := List.mem_of_getElem? (i := 1250) (by decide +kernel)
theorem q_1251 : Cond.constantLong RX5 258 (19617) ∈ lw_tbl := List.mem_of_getElem? (i := 1251) (by decide +kernel)
theorem q_1252 : Cond.constantLong RX5 260 (605670) ∈ lw_tbl := List.mem_of_getElem? (i := 1252) (by decide +kernel)
theorem q_1253 : Cond.constantLong RX5 262 (769508) ∈ lw_tbl := List.mem_of_getElem? (i := 1253) (by decide +kernel)
theorem q_1254 : Cond.constantLong RX5 264 (5517) ∈ lw_tbl := List.mem_of_getElem? (i := 1254) (by decide +kernel)
theorem q_1255 : Cond.methodLink RX5 289 yX5_cellItem ∈ lw_tbl := List.mem_of_getElem? (i := 1255) (by decide +kernel)
theorem q_1257 : Cond.instanceMethod yX5_cellItem ∈ lw_tbl := List.mem_of_getElem? (i := 1257) (by decide +kernel)
theorem q_1258 : Cond.code yX5_cellItem cX5_cellItem 7 none ∈ lw_tbl := List.mem_of_getElem? (i := 1258) (by decide +kernel)
theorem q_1259 : Cond.methodLink RX5 244 yX5_needs ∈ lw_tbl := List.mem_of_getElem? (i := 1259) (by decide +kernel)
theorem q_1261 : Cond.instanceMethod yX5_needs ∈ lw_tbl := List.mem_of_getElem? (i := 1261) (by decide +kernel)
theorem q_1262 : Cond.code yX5_needs cX5_needs 2 none ∈ lw_tbl := List.mem_of_getElem? (i := 1262) (by decide +kernel)
theorem q_1263 : Cond.methodLink RX5 266 yX5_number ∈ lw_tbl := List.mem_of_getElem? (i := 1263) (by decide +kernel)
theorem q_1265 : Cond.instanceMethod yX5_number ∈ lw_tbl := List.mem_of_getElem? (i := 1265) (by decide +kernel)
theorem q_1266 : Cond.code yX5_number cX5_number 6 none ∈ lw_tbl := List.mem_of_getElem? (i := 1266) (by decide +kernel)
theorem q_1267 : Cond.constantLong RX5 268 (655) ∈ lw_tbl := List.mem_of_getElem? (i := 1267) (by decide +kernel)
theorem q_1268 : Cond.methodLink RX5 270 yX5_perhaps ∈ lw_tbl := List.mem_of_getElem? (i := 1268) (by decide +kernel)
theorem q_1270 : Cond.instanceMethod yX5_perhaps ∈ lw_tbl := List.mem_of_getElem? (i := 1270) (by decide +kernel)
theorem q_1271 : Cond.code yX5_perhaps cX5_perhaps 5 (some .int) ∈ lw_tbl := List.mem_of_getElem? (i := 1271) (by decide +kernel)
theorem q_1272 : Cond.constantLong RX5 274 (271592) ∈ lw_tbl := List.mem_of_getElem? (i := 1272) (by decide +kernel)
theorem q_1273 : Cond.constantLong RX5 276 (1253) ∈ lw_tbl := List.mem_of_getElem? (i := 1273) (by decide +kernel)
theorem q_1274 : Cond.constantLong RX5 292 (8902245) ∈ lw_tbl := List.mem_of_getElem? (i := 1274) (by decide +kernel)
theorem q_1275 : Cond.methodLink RX5 294 yX5_houseItem ∈ lw_tbl := List.mem_of_getElem? (i := 1275) (by decide +kernel)
theorem q_1277 : Cond.instanceMethod yX5_houseItem ∈ lw_tbl := List.mem_of_getElem? (i := 1277) (by decide +kernel)
theorem q_1278 : Cond.code yX5_houseItem cX5_houseItem 5 none ∈ lw_tbl := List.mem_of_getElem? (i := 1278) (by decide +kernel)
theorem q_1279 : Cond.constantLong RX5 278 (6700530) ∈ lw_tbl := List.mem_of_getElem? (i := 1279) (by decide +kernel)
theorem q_1280 : Cond.constantLong RX5 280 (2500036) ∈ lw_tbl := List.mem_of_getElem? (i := 1280) (by decide +kernel)
theorem q_1281 : Cond.constantLong RX5 282 (759412) ∈ lw_tbl := List.mem_of_getElem? (i := 1281) (by decide +kernel)
theorem q_1282 : Cond.constantLong RX5 284 (165492) ∈ lw_tbl := List.mem_of_getElem? (i := 1282) (by decide +kernel)
theorem q_1283 : Cond.constantLong RX5 297 (264005) ∈ lw_tbl := List.mem_of_getElem? (i := 1283) (by decide +kernel)
theorem q_1284 : Cond.constantLong RX5 299 (591493) ∈ lw_tbl := List.mem_of_getElem? (i := 1284) (by decide +kernel)
theorem q_1288 : Cond.code yX5_hold cX5_hold 3 (some .int) ∈ lw_tbl := List.mem_of_getElem? (i := 1288) (by decide +kernel)
theorem q_1289 : Cond.constantLong RX5 304 (9) ∈ lw_tbl := List.mem_of_getElem? (i := 1289) (by decide +kernel)
theorem q_1290 : Cond.constantLong RX5 306 (-1) ∈ lw_tbl := List.mem_of_getElem? (i := 1290) (by decide +kernel)
theorem q_1294 : Cond.code yX5_as cX5_as 6 (some .int) ∈ lw_tbl := List.mem_of_getElem? (i := 1294) (by decide +kernel)
theorem q_1295 : Cond.constant RX5 308 (-1000006) ∈ lw_tbl := List.mem_of_getElem? (i := 1295) (by decide +kernel)
theorem q_1296 : Cond.constant RX5 309 (-1000003) ∈ lw_tbl := List.mem_of_getElem? (i := 1296) (by decide +kernel)
theorem q_1300 : Cond.code yX5_sheet cX5_sheet 5 (some .int) ∈ lw_tbl := List.mem_of_getElem? (i := 1300) (by decide +kernel)
theorem q_1301 : Cond.methodLink RX5 310 yX5_isOne ∈ lw_tbl := List.mem_of_getElem? (i := 1301) (by decide +kernel)
theorem q_1302 : Cond.static yX5_isOne ∈ lw_tbl := List.mem_of_getElem? (i := 1302) (by decide +kernel)
theorem q_1303 : Cond.code yX5_isOne cX5_isOne 1 (some .boolean) ∈ lw_tbl := List.mem_of_getElem? (i := 1303) (by decide +kernel)
theorem q_1304 : Cond.constant RX5 313 (-1000007) ∈ lw_tbl := List.mem_of_getElem? (i := 1304) (by decide +kernel)
theorem q_1308 : Cond.code yX5_write cX5_write 5 (some .int) ∈ lw_tbl := List.mem_of_getElem? (i := 1308) (by decide +kernel)
theorem q_1309 : Cond.methodLink RX5 314 yX5_wrong ∈ lw_tbl := List.mem_of_getElem? (i := 1309) (by decide +kernel)
theorem q_1311 : Cond.instanceMethod yX5_wrong ∈ lw_tbl := List.mem_of_getElem? (i := 1311) (by decide +kernel)
theorem q_1312 : Cond.code yX5_wrong cX5_wrong 2 (some .int) ∈ lw_tbl := List.mem_of_getElem? (i := 1312) (by decide +kernel)
theorem q_1313 : Cond.methodLink RX5 317 yX5_narrowed ∈ lw_tbl := List.mem_of_getElem? (i := 1313) (by decide +kernel)
theorem q_1314 : Cond.static yX5_narrowed ∈ lw_tbl := List.mem_of_getElem? (i := 1314) (by decide +kernel)
theorem q_1315 : Cond.code yX5_narrowed cX5_narrowed 2 (some .int) ∈ lw_tbl := List.mem_of_getElem? (i := 1315) (by decide +kernel)
theorem q_1319 : Cond.code yX5_copy cX5_copy 7 (some .int) ∈ lw_tbl := List.mem_of_getElem? (i := 1319) (by decide +kernel)
theorem q_1323 : Cond.code yX5_load cX5_load 5 (some .int) ∈ lw_tbl := List.mem_of_getElem? (i := 1323) (by decide +kernel)
theorem q_1327 : Cond.code yX5_judge cX5_judge 5 (some .int) ∈ lw_tbl := List.mem_of_getElem? (i := 1327) (by decide +kernel)
theorem q_1331 : Cond.code yX5_image cX5_image 2 (some .int) ∈ lw_tbl := List.mem_of_getElem? (i := 1331) (by decide +kernel)
theorem q_1335 : Cond.code yX5_undo cX5_undo 2 (some .int) ∈ lw_tbl := List.mem_of_getElem? (i := 1335) (by decide +kernel)
theorem q_1339 : Cond.code yX5_tear cX5_tear 2 (some .int) ∈ lw_tbl := List.mem_of_getElem? (i := 1339) (by decide +kernel)
theorem q_1343 : Cond.code yX5_count cX5_count 4 (some .int) ∈ lw_tbl := List.mem_of_getElem? (i := 1343) (by decide +kernel)
theorem q_1347 : Cond.code yX5_status cX5_status 4 (some .int) ∈ lw_tbl := List.mem_of_getElem? (i := 1347) (by decide +kernel)
theorem yy_X0_takeAll : sl_Y yX0_takeAll cX0_takeAll 2 1 none := ⟨q_458, q_95, ⟨by decide +kernel, by decide +kernel⟩, by decide +kernel⟩
theorem yy_X0_takeCell : sl_Y yX0_takeCell cX0_takeCell 3 2 none := ⟨q_525, q_95, ⟨by decide +kernel, by decide +kernel⟩, by decide +kernel⟩
theorem yy_X0_topFor : sl_Y yX0_topFor cX0_topFor 3 3 (some .int) := ⟨q_285, q_95, ⟨by decide +kernel, by decide +kernel⟩, by decide +kernel⟩
theorem yy_X0_renewTop : sl_Y yX0_renewTop cX0_renewTop 2 1 none := ⟨q_282, q_95, ⟨by decide +kernel, by decide +kernel⟩, by decide +kernel⟩
theorem yy_X0_place : sl_Y yX0_place cX0_place 3 2 none := ⟨q_303, q_95, ⟨by decide +kernel, by decide +kernel⟩, by decide +kernel⟩
theorem yy_X0_turnInto : sl_Y yX0_turnInto cX0_turnInto 3 2 none := ⟨q_372, q_95, ⟨by decide +kernel, by decide +kernel⟩, by decide +kernel⟩
theorem yy_X0_raiseTo : sl_Y yX0_raiseTo cX0_raiseTo 3 2 none := ⟨q_278, q_95, ⟨by decide +kernel, by decide +kernel⟩, by decide +kernel⟩
theorem yy_X0_lower : sl_Y yX0_lower cX0_lower 3 2 none := ⟨q_360, q_95, ⟨by decide +kernel, by decide +kernel⟩, by decide +kernel⟩
theorem yy_X0_ageTo : sl_Y yX0_ageTo cX0_ageTo 3 2 none := ⟨q_292, q_95, ⟨by decide +kernel, by decide +kernel⟩, by decide +kernel⟩
theorem yy_X0_grow : sl_Y yX0_grow cX0_grow 3 1 none := ⟨q_504, q_95, ⟨by decide +kernel, by decide +kernel⟩, by decide +kernel⟩
theorem yy_X0_worthOf : sl_Y yX0_worthOf cX0_worthOf 2 1 (some .int) := ⟨q_311, q_95, ⟨by decide +kernel, by decide +kernel⟩, by decide +kernel⟩
theorem yy_X0_isOfKind : sl_Y yX0_isOfKind cX0_isOfKind 4 2 (some .boolean) := ⟨q_753, q_95, ⟨by decide +kernel, by decide +kernel⟩, by decide +kernel⟩
theorem yy_X0_isIn : sl_Y yX0_isIn cX0_isIn 2 2 (some .boolean) := ⟨q_397, q_95, ⟨by decide +kernel, by decide +kernel⟩, by decide +kernel⟩
theorem yy_X0_isBuiltUp : sl_Y yX0_isBuiltUp cX0_isBuiltUp 1 0 (some .boolean) := ⟨q_324, q_95, ⟨by decide +kernel, by decide +kernel⟩, by decide +kernel⟩
theorem yy_X0_build : sl_Y yX0_build cX0_build 4 3 none := ⟨q_328, q_95, ⟨by decide +kernel, by decide +kernel⟩, by decide +kernel⟩
theorem yy_X0_eyeOf : sl_Y yX0_eyeOf cX0_eyeOf 2 1 (some .int) := ⟨q_340, q_95, ⟨by decide +kernel, by decide +kernel⟩, by decide +kernel⟩
theorem yy_X0_lookOut : sl_Y yX0_lookOut cX0_lookOut 12 2 (some .int) := ⟨q_384, q_95, ⟨by decide +kernel, by decide +kernel⟩, by decide +kernel⟩
theorem yy_X0_sightOf : sl_Y yX0_sightOf cX0_sightOf 3 1 (some .int) := ⟨q_380, q_95, ⟨by decide +kernel, by decide +kernel⟩, by decide +kernel⟩
theorem yy_X0_hasInSight : sl_Y yX0_hasInSight cX0_hasInSight 3 2 (some .boolean) := ⟨q_393, q_95, ⟨by decide +kernel, by decide +kernel⟩, by decide +kernel⟩
theorem yy_X0_looksTowards : sl_Y yX0_looksTowards cX0_looksTowards 5 2 (some .boolean) := ⟨q_414, q_95, ⟨by decide +kernel, by decide +kernel⟩, by decide +kernel⟩
theorem yy_X0_hiderOf : sl_Y yX0_hiderOf cX0_hiderOf 10 2 (some .int) := ⟨q_421, q_95, ⟨by decide +kernel, by decide +kernel⟩, by decide +kernel⟩
theorem yy_X0_allSight : sl_Y yX0_allSight cX0_allSight 3 0 (some .int) := ⟨q_546, q_95, ⟨by decide +kernel, by decide +kernel⟩, by decide +kernel⟩
theorem yy_X0_worthSeenBy : sl_Y yX0_worthSeenBy cX0_worthSeenBy 5 1 (some .int) := ⟨q_433, q_95, ⟨by decide +kernel, by decide +kernel⟩, by decide +kernel⟩
theorem yy_X0_taxFor : sl_Y yX0_taxFor cX0_taxFor 2 2 (some .int) := ⟨q_437, q_95, ⟨by decide +kernel, by decide +kernel⟩, by decide +kernel⟩
theorem yy_X0_taxOf : sl_Y yX0_taxOf cX0_taxOf 2 1 (some .int) := ⟨q_429, q_95, ⟨by decide +kernel, by decide +kernel⟩, by decide +kernel⟩
theorem yy_X0_allTax : sl_Y yX0_allTax cX0_allTax 3 0 (some .int) := ⟨q_445, q_95, ⟨by decide +kernel, by decide +kernel⟩, by decide +kernel⟩
theorem yy_X0_draw : sl_Y yX0_draw cX0_draw 1 0 (some .int) := ⟨q_582, q_95, ⟨by decide +kernel, by decide +kernel⟩, by decide +kernel⟩
theorem yy_X0_spotsInUse : sl_Y yX0_spotsInUse cX0_spotsInUse 3 0 (some .int) := ⟨q_826, q_95, ⟨by decide +kernel, by decide +kernel⟩, by decide +kernel⟩
theorem yy_X1_isSheet : sl_Y yX1_isSheet cX1_isSheet 1 1 (some .boolean) := ⟨q_762, q_98, ⟨by decide +kernel, by decide +kernel⟩, by decide +kernel⟩
theorem yy_X1_isMissing : sl_Y yX1_isMissing cX1_isMissing 2 1 (some .boolean) := ⟨q_774, q_98, ⟨by decide +kernel, by decide +kernel⟩, by decide +kernel⟩
theorem yy_X1_make : sl_Y yX1_make cX1_make 5 3 none := ⟨q_766, q_98, ⟨by decide +kernel, by decide +kernel⟩, by decide +kernel⟩
theorem yy_X1_hasRun : sl_Y yX1_hasRun cX1_hasRun 4 3 (some .boolean) := ⟨q_778, q_98, ⟨by decide +kernel, by decide +kernel⟩, by decide +kernel⟩
theorem yy_X1_numberAt : sl_Y yX1_numberAt cX1_numberAt 3 2 (some .int) := ⟨q_802, q_98, ⟨by decide +kernel, by decide +kernel⟩, by decide +kernel⟩
theorem yy_X1_cutTo : sl_Y yX1_cutTo cX1_cutTo 2 2 (some .int) := ⟨q_785, q_98, ⟨by decide +kernel, by decide +kernel⟩, by decide +kernel⟩
theorem yy_X1_put : sl_Y yX1_put cX1_put 4 3 none := ⟨q_782, q_98, ⟨by decide +kernel, by decide +kernel⟩, by decide +kernel⟩
theorem yy_X1_move : sl_Y yX1_move cX1_move 6 5 none := ⟨q_793, q_98, ⟨by decide +kernel, by decide +kernel⟩, by decide +kernel⟩
theorem yy_X2_hasRoomFor : sl_Y yX2_hasRoomFor cX2_hasRoomFor 2 1 (some .boolean) := ⟨q_595, q_97, ⟨by decide +kernel, by decide +kernel⟩, by decide +kernel⟩
theorem yy_X2_append : sl_Y yX2_append cX2_append 2 1 none := ⟨q_599, q_97, ⟨by decide +kernel, by decide +kernel⟩, by decide +kernel⟩
theorem yy_X2_sortAt : sl_Y yX2_sortAt cX2_sortAt 3 1 (some .int) := ⟨q_623, q_97, ⟨by decide +kernel, by decide +kernel⟩, by decide +kernel⟩
theorem yy_X2_takeDigit : sl_Y yX2_takeDigit cX2_takeDigit 2 1 none := ⟨q_627, q_97, ⟨by decide +kernel, by decide +kernel⟩, by decide +kernel⟩
theorem yy_X2_step : sl_Y yX2_step cX2_step 1 0 none := ⟨q_619, q_97, ⟨by decide +kernel, by decide +kernel⟩, by decide +kernel⟩
theorem yy_X2_rewind : sl_Y yX2_rewind cX2_rewind 1 0 none := ⟨q_615, q_97, ⟨by decide +kernel, by decide +kernel⟩, by decide +kernel⟩
theorem yy_X2_isWord : sl_Y yX2_isWord cX2_isWord 3 1 (some .boolean) := ⟨q_636, q_97, ⟨by decide +kernel, by decide +kernel⟩, by decide +kernel⟩
theorem yy_X3_readNumber : sl_Y yX3_readNumber cX3_readNumber 4 2 (some .int) := ⟨q_694, q_96, ⟨by decide +kernel, by decide +kernel⟩, by decide +kernel⟩
theorem yy_X3_passes : sl_Y yX3_passes cX3_passes 2 1 (some .boolean) := ⟨q_699, q_96, ⟨by decide +kernel, by decide +kernel⟩, by decide +kernel⟩
theorem yy_X3_readHouse : sl_Y yX3_readHouse cX3_readHouse 5 1 (some .boolean) := ⟨q_689, q_96, ⟨by decide +kernel, by decide +kernel⟩, by decide +kernel⟩
theorem yy_X3_readHaze : sl_Y yX3_readHaze cX3_readHaze 3 1 (some .boolean) := ⟨q_708, q_96, ⟨by decide +kernel, by decide +kernel⟩, by decide +kernel⟩
theorem yy_X3_readRate : sl_Y yX3_readRate cX3_readRate 3 1 (some .boolean) := ⟨q_713, q_96, ⟨by decide +kernel, by decide +kernel⟩, by decide +kernel⟩
theorem yy_X3_readKind : sl_Y yX3_readKind cX3_readKind 1 0 (some .int) := ⟨q_717, q_96, ⟨by decide +kernel, by decide +kernel⟩, by decide +kernel⟩
theorem yy_X3_readThing : sl_Y yX3_readThing cX3_readThing 8 2 (some .boolean) := ⟨q_728, q_96, ⟨by decide +kernel, by decide +kernel⟩, by decide +kernel⟩
theorem yy_X3_readItem : sl_Y yX3_readItem cX3_readItem 3 1 (some .boolean) := ⟨q_631, q_96, ⟨by decide +kernel, by decide +kernel⟩, by decide +kernel⟩
theorem yy_X3_faultHere : sl_Y yX3_faultHere cX3_faultHere 1 0 (some .int) := ⟨q_738, q_96, ⟨by decide +kernel, by decide +kernel⟩, by decide +kernel⟩
theorem yy_X3_readInto : sl_Y yX3_readInto cX3_readInto 3 1 (some .int) := ⟨q_611, q_96, ⟨by decide +kernel, by decide +kernel⟩, by decide +kernel⟩
theorem yy_X4_isWithin : sl_Y yX4_isWithin cX4_isWithin 3 3 (some .boolean) := ⟨q_269, q_94, ⟨by decide +kernel, by decide +kernel⟩, by decide +kernel⟩
theorem yy_X4_isCell : sl_Y yX4_isCell cX4_isCell 1 1 (some .boolean) := ⟨q_266, q_94, ⟨by decide +kernel, by decide +kernel⟩, by decide +kernel⟩
theorem yy_X4_tell : sl_Y yX4_tell cX4_tell 2 1 (some .int) := ⟨q_273, q_94, ⟨by decide +kernel, by decide +kernel⟩, by decide +kernel⟩
theorem yy_X4_cell : sl_Y yX4_cell cX4_cell 5 3 (some .int) := ⟨q_263, q_94, ⟨by decide +kernel, by decide +kernel⟩, by decide +kernel⟩
theorem yy_X4_isKind : sl_Y yX4_isKind cX4_isKind 1 1 (some .boolean) := ⟨q_299, q_94, ⟨by decide +kernel, by decide +kernel⟩, by decide +kernel⟩
theorem yy_X4_set : sl_Y yX4_set cX4_set 4 2 (some .int) := ⟨q_296, q_94, ⟨by decide +kernel, by decide +kernel⟩, by decide +kernel⟩
theorem yy_X4_cellOf : sl_Y yX4_cellOf cX4_cellOf 3 2 (some .int) := ⟨q_307, q_94, ⟨by decide +kernel, by decide +kernel⟩, by decide +kernel⟩
theorem yy_X4_isFloor : sl_Y yX4_isFloor cX4_isFloor 1 1 (some .boolean) := ⟨q_320, q_94, ⟨by decide +kernel, by decide +kernel⟩, by decide +kernel⟩
theorem yy_X4_house : sl_Y yX4_house cX4_house 3 2 (some .int) := ⟨q_317, q_94, ⟨by decide +kernel, by decide +kernel⟩, by decide +kernel⟩
theorem yy_X4_isHouse : sl_Y yX4_isHouse cX4_isHouse 2 1 (some .boolean) := ⟨q_336, q_94, ⟨by decide +kernel, by decide +kernel⟩, by decide +kernel⟩
theorem yy_X4_houseOf : sl_Y yX4_houseOf cX4_houseOf 3 2 (some .int) := ⟨q_332, q_94, ⟨by decide +kernel, by decide +kernel⟩, by decide +kernel⟩
theorem yy_X4_floor : sl_Y yX4_floor cX4_floor 4 2 (some .int) := ⟨q_344, q_94, ⟨by decide +kernel, by decide +kernel⟩, by decide +kernel⟩
theorem yy_X4_windows : sl_Y yX4_windows cX4_windows 4 2 (some .int) := ⟨q_348, q_94, ⟨by decide +kernel, by decide +kernel⟩, by decide +kernel⟩
theorem yy_X4_law : sl_Y yX4_law cX4_law 4 2 (some .int) := ⟨q_352, q_94, ⟨by decide +kernel, by decide +kernel⟩, by decide +kernel⟩
theorem yy_X4_dig : sl_Y yX4_dig cX4_dig 6 3 (some .int) := ⟨q_356, q_94, ⟨by decide +kernel, by decide +kernel⟩, by decide +kernel⟩
theorem yy_X4_drain : sl_Y yX4_drain cX4_drain 4 1 (some .int) := ⟨q_368, q_94, ⟨by decide +kernel, by decide +kernel⟩, by decide +kernel⟩
theorem yy_X4_sight : sl_Y yX4_sight cX4_sight 2 1 (some .int) := ⟨q_376, q_94, ⟨by decide +kernel, by decide +kernel⟩, by decide +kernel⟩
theorem yy_X4_sees : sl_Y yX4_sees cX4_sees 3 2 (some .int) := ⟨q_389, q_94, ⟨by decide +kernel, by decide +kernel⟩, by decide +kernel⟩
theorem yy_X4_seenBy : sl_Y yX4_seenBy cX4_seenBy 4 1 (some .int) := ⟨q_401, q_94, ⟨by decide +kernel, by decide +kernel⟩, by decide +kernel⟩
theorem yy_X4_neighbours : sl_Y yX4_neighbours cX4_neighbours 5 1 (some .int) := ⟨q_405, q_94, ⟨by decide +kernel, by decide +kernel⟩, by decide +kernel⟩
theorem yy_X4_hidden : sl_Y yX4_hidden cX4_hidden 4 2 (some .int) := ⟨q_410, q_94, ⟨by decide +kernel, by decide +kernel⟩, by decide +kernel⟩
theorem yy_X4_tax : sl_Y yX4_tax cX4_tax 2 1 (some .int) := ⟨q_425, q_94, ⟨by decide +kernel, by decide +kernel⟩, by decide +kernel⟩
theorem yy_X4_all : sl_Y yX4_all cX4_all 1 0 (some .int) := ⟨q_441, q_94, ⟨by decide +kernel, by decide +kernel⟩, by decide +kernel⟩
theorem yy_X4_thriftyFloor : sl_Y yX4_thriftyFloor cX4_thriftyFloor 6 1 (some .int) := ⟨q_454, q_94, ⟨by decide +kernel, by decide +kernel⟩, by decide +kernel⟩
theorem yy_X4_cheapest : sl_Y yX4_cheapest cX4_cheapest 2 1 (some .int) := ⟨q_450, q_94, ⟨by decide +kernel, by decide +kernel⟩, by decide +kernel⟩
theorem yy_J6_bitCount_0f7a4 : sl_Y yJ6_bitCount_0f7a4 cJ6_bitCount_0f7a4 1 1 (some .int) := ⟨q_468, q_102, ⟨by decide +kernel, by decide +kernel⟩, by decide +kernel⟩
theorem yy_X4_widest : sl_Y yX4_widest cX4_widest 6 1 (some .int) := ⟨q_465, q_94, ⟨by decide +kernel, by decide +kernel⟩, by decide +kernel⟩
theorem yy_X4_wall : sl_Y yX4_wall cX4_wall 7 2 (some .int) := ⟨q_475, q_94, ⟨by decide +kernel, by decide +kernel⟩, by decide +kernel⟩
theorem yy_X4_isTaxAsked : sl_Y yX4_isTaxAsked cX4_isTaxAsked 1 1 (some .boolean) := ⟨q_482, q_94, ⟨by decide +kernel, by decide +kernel⟩, by decide +kernel⟩
theorem yy_X4_rateFor : sl_Y yX4_rateFor cX4_rateFor 5 1 (some .int) := ⟨q_479, q_94, ⟨by decide +kernel, by decide +kernel⟩, by decide +kernel⟩
theorem yy_X4_isSpan : sl_Y yX4_isSpan cX4_isSpan 1 1 (some .boolean) := ⟨q_492, q_94, ⟨by decide +kernel, by decide +kernel⟩, by decide +kernel⟩
theorem yy_X4_isTooLate : sl_Y yX4_isTooLate cX4_isTooLate 2 1 (some .boolean) := ⟨q_496, q_94, ⟨by decide +kernel, by decide +kernel⟩, by decide +kernel⟩
theorem yy_X4_tryThing : sl_Y yX4_tryThing cX4_tryThing 4 3 none := ⟨q_500, q_94, ⟨by decide +kernel, by decide +kernel⟩, by decide +kernel⟩
theorem yy_X4_shade : sl_Y yX4_shade cX4_shade 8 3 (some .int) := ⟨q_489, q_94, ⟨by decide +kernel, by decide +kernel⟩, by decide +kernel⟩
theorem yy_X4_tryYears : sl_Y yX4_tryYears cX4_tryYears 2 1 none := ⟨q_513, q_94, ⟨by decide +kernel, by decide +kernel⟩, by decide +kernel⟩
theorem yy_X4_gains : sl_Y yX4_gains cX4_gains 6 3 (some .int) := ⟨q_509, q_94, ⟨by decide +kernel, by decide +kernel⟩, by decide +kernel⟩
theorem yy_X4_plant : sl_Y yX4_plant cX4_plant 6 1 (some .int) := ⟨q_517, q_94, ⟨by decide +kernel, by decide +kernel⟩, by decide +kernel⟩
theorem yy_X4_two : sl_Y yX4_two cX4_two 7 1 (some .int) := ⟨q_521, q_94, ⟨by decide +kernel, by decide +kernel⟩, by decide +kernel⟩
theorem yy_X4_restless : sl_Y yX4_restless cX4_restless 4 0 (some .int) := ⟨q_529, q_94, ⟨by decide +kernel, by decide +kernel⟩, by decide +kernel⟩
theorem yy_X4_sightsOf : sl_Y yX4_sightsOf cX4_sightsOf 4 1 (some .int) := ⟨q_537, q_94, ⟨by decide +kernel, by decide +kernel⟩, by decide +kernel⟩
theorem yy_X4_walk : sl_Y yX4_walk cX4_walk 6 0 (some .int) := ⟨q_533, q_94, ⟨by decide +kernel, by decide +kernel⟩, by decide +kernel⟩
theorem yy_X4_blind : sl_Y yX4_blind cX4_blind 1 0 (some .int) := ⟨q_541, q_94, ⟨by decide +kernel, by decide +kernel⟩, by decide +kernel⟩
theorem yy_X4_heights : sl_Y yX4_heights cX4_heights 6 3 (some .int) := ⟨q_550, q_94, ⟨by decide +kernel, by decide +kernel⟩, by decide +kernel⟩
theorem yy_X4_height : sl_Y yX4_height cX4_height 7 4 (some .int) := ⟨q_554, q_94, ⟨by decide +kernel, by decide +kernel⟩, by decide +kernel⟩
theorem yy_X4_which : sl_Y yX4_which cX4_which 4 2 (some .int) := ⟨q_558, q_94, ⟨by decide +kernel, by decide +kernel⟩, by decide +kernel⟩
theorem yy_X4_years : sl_Y yX4_years cX4_years 2 1 (some .int) := ⟨q_562, q_94, ⟨by decide +kernel, by decide +kernel⟩, by decide +kernel⟩
theorem yy_X4_ahead : sl_Y yX4_ahead cX4_ahead 3 2 (some .int) := ⟨q_566, q_94, ⟨by decide +kernel, by decide +kernel⟩, by decide +kernel⟩
theorem yy_X4_lost : sl_Y yX4_lost cX4_lost 4 2 (some .int) := ⟨q_570, q_94, ⟨by decide +kernel, by decide +kernel⟩, by decide +kernel⟩
theorem yy_X4_when : sl_Y yX4_when cX4_when 6 1 (some .int) := ⟨q_574, q_94, ⟨by decide +kernel, by decide +kernel⟩, by decide +kernel⟩
theorem yy_X4_quake : sl_Y yX4_quake cX4_quake 4 1 (some .int) := ⟨q_578, q_94, ⟨by decide +kernel, by decide +kernel⟩, by decide +kernel⟩
theorem yy_X4_seed : sl_Y yX4_seed cX4_seed 3 1 (some .int) := ⟨q_587, q_94, ⟨by decide +kernel, by decide +kernel⟩, by decide +kernel⟩
theorem yy_X4_feed : sl_Y yX4_feed cX4_feed 4 2 (some .int) := ⟨q_591, q_94, ⟨by decide +kernel, by decide +kernel⟩, by decide +kernel⟩
theorem yy_X4_wipe : sl_Y yX4_wipe cX4_wipe 2 0 (some .int) := ⟨q_603, q_94, ⟨by decide +kernel, by decide +kernel⟩, by decide +kernel⟩
theorem yy_X4_text : sl_Y yX4_text cX4_text 2 0 (some .int) := ⟨q_607, q_94, ⟨by decide +kernel, by decide +kernel⟩, by decide +kernel⟩
theorem yy_X4_isSpot : sl_Y yX4_isSpot cX4_isSpot 1 1 (some .boolean) := ⟨q_746, q_94, ⟨by decide +kernel, by decide +kernel⟩, by decide +kernel⟩
theorem yy_X4_hold : sl_Y yX4_hold cX4_hold 3 2 (some .int) := ⟨q_743, q_94, ⟨by decide +kernel, by decide +kernel⟩, by decide +kernel⟩
theorem yy_X4_as : sl_Y yX4_as cX4_as 4 2 (some .int) := ⟨q_750, q_94, ⟨by decide +kernel, by decide +kernel⟩, by decide +kernel⟩
theorem yy_X4_sheet : sl_Y yX4_sheet cX4_sheet 4 3 (some .int) := ⟨q_759, q_94, ⟨by decide +kernel, by decide +kernel⟩, by decide +kernel⟩
theorem yy_X4_write : sl_Y yX4_write cX4_write 4 3 (some .int) := ⟨q_770, q_94, ⟨by decide +kernel, by decide +kernel⟩, by decide +kernel⟩
theorem yy_X4_copy : sl_Y yX4_copy cX4_copy 6 5 (some .int) := ⟨q_789, q_94, ⟨by decide +kernel, by decide +kernel⟩, by decide +kernel⟩
theorem yy_X4_load : sl_Y yX4_load cX4_load 4 2 (some .int) := ⟨q_798, q_94, ⟨by decide +kernel, by decide +kernel⟩, by decide +kernel⟩
theorem yy_X4_judge : sl_Y yX4_judge cX4_judge 5 2 (some .int) := ⟨q_806, q_94, ⟨by decide +kernel, by decide +kernel⟩, by decide +kernel⟩
theorem yy_X4_image : sl_Y yX4_image cX4_image 1 0 (some .int) := ⟨q_810, q_94, ⟨by decide +kernel, by decide +kernel⟩, by decide +kernel⟩
theorem yy_X4_undo : sl_Y yX4_undo cX4_undo 1 0 (some .int) := ⟨q_814, q_94, ⟨by decide +kernel, by decide +kernel⟩, by decide +kernel⟩
theorem yy_X4_tear : sl_Y yX4_tear cX4_tear 2 0 (some .int) := ⟨q_818, q_94, ⟨by decide +kernel, by decide +kernel⟩, by decide +kernel⟩
theorem yy_X4_count : sl_Y yX4_count cX4_count 2 1 (some .int) := ⟨q_822, q_94, ⟨by decide +kernel, by decide +kernel⟩, by decide +kernel⟩
theorem yy_X4_status : sl_Y yX4_status cX4_status 4 1 (some .int) := ⟨q_830, q_94, ⟨by decide +kernel, by decide +kernel⟩, by decide +kernel⟩
theorem yy_X5_in : sl_Y yX5_in cX5_in 6 3 (some .boolean) := ⟨q_908, q_99, ⟨by decide +kernel, by decide +kernel⟩, by decide +kernel⟩
theorem yy_X5_finds : sl_Y yX5_finds cX5_finds 2 1 (some .int) := ⟨q_914, q_99, ⟨by decide +kernel, by decide +kernel⟩, by decide +kernel⟩
theorem yy_X5_isCell : sl_Y yX5_isCell cX5_isCell 1 1 (some .boolean) := ⟨q_904, q_99, ⟨by decide +kernel, by decide +kernel⟩, by decide +kernel⟩
theorem yy_X5_isKind : sl_Y yX5_isKind cX5_isKind 1 1 (some .boolean) := ⟨q_921, q_99, ⟨by decide +kernel, by decide +kernel⟩, by decide +kernel⟩
theorem yy_X5_isFloor : sl_Y yX5_isFloor cX5_isFloor 1 1 (some .boolean) := ⟨q_958, q_99, ⟨by decide +kernel, by decide +kernel⟩, by decide +kernel⟩
theorem yy_X5_isAhead : sl_Y yX5_isAhead cX5_isAhead 1 1 (some .boolean) := ⟨q_1107, q_99, ⟨by decide +kernel, by decide +kernel⟩, by decide +kernel⟩
theorem yy_X5_isTax : sl_Y yX5_isTax cX5_isTax 1 1 (some .boolean) := ⟨q_1099, q_99, ⟨by decide +kernel, by decide +kernel⟩, by decide +kernel⟩
theorem yy_X5_isHouse : sl_Y yX5_isHouse cX5_isHouse 2 1 (some .boolean) := ⟨q_972, q_99, ⟨by decide +kernel, by decide +kernel⟩, by decide +kernel⟩
theorem yy_X5_isStretch : sl_Y yX5_isStretch cX5_isStretch 2 2 (some .boolean) := ⟨q_1004, q_99, ⟨by decide +kernel, by decide +kernel⟩, by decide +kernel⟩
theorem yy_X5_has : sl_Y yX5_has cX5_has 2 2 (some .boolean) := ⟨q_1031, q_99, ⟨by decide +kernel, by decide +kernel⟩, by decide +kernel⟩
theorem yy_X5_ones : sl_Y yX5_ones cX5_ones 3 1 (some .int) := ⟨q_1088, q_99, ⟨by decide +kernel, by decide +kernel⟩, by decide +kernel⟩
theorem yy_X5_size : sl_Y yX5_size cX5_size 1 1 (some .int) := ⟨q_1028, q_99, ⟨by decide +kernel, by decide +kernel⟩, by decide +kernel⟩
theorem yy_X5_next : sl_Y yX5_next cX5_next 1 0 (some .int) := ⟨q_1198, q_99, ⟨by decide +kernel, by decide +kernel⟩, by decide +kernel⟩
theorem yy_X5_puts : sl_Y yX5_puts cX5_puts 2 0 none := ⟨q_1116, q_99, ⟨by decide +kernel, by decide +kernel⟩, by decide +kernel⟩
theorem yy_X5_putsBack : sl_Y yX5_putsBack cX5_putsBack 2 0 none := ⟨q_1128, q_99, ⟨by decide +kernel, by decide +kernel⟩, by decide +kernel⟩
theorem yy_X5_kindOf : sl_Y yX5_kindOf cX5_kindOf 2 1 (some .int) := ⟨q_926, q_99, ⟨by decide +kernel, by decide +kernel⟩, by decide +kernel⟩
theorem yy_X5_heightOf : sl_Y yX5_heightOf cX5_heightOf 2 1 (some .int) := ⟨q_947, q_99, ⟨by decide +kernel, by decide +kernel⟩, by decide +kernel⟩
theorem yy_X5_ageOf : sl_Y yX5_ageOf cX5_ageOf 2 1 (some .int) := ⟨q_943, q_99, ⟨by decide +kernel, by decide +kernel⟩, by decide +kernel⟩
theorem yy_X5_top : sl_Y yX5_top cX5_top 3 1 (some .int) := ⟨q_939, q_99, ⟨by decide +kernel, by decide +kernel⟩, by decide +kernel⟩
theorem yy_X5_worth : sl_Y yX5_worth cX5_worth 2 1 (some .int) := ⟨q_951, q_99, ⟨by decide +kernel, by decide +kernel⟩, by decide +kernel⟩
theorem yy_X5_cell : sl_Y yX5_cell cX5_cell 5 3 (some .int) := ⟨q_901, q_99, ⟨by decide +kernel, by decide +kernel⟩, by decide +kernel⟩
theorem yy_X5_sets : sl_Y yX5_sets cX5_sets 3 2 none := ⟨q_930, q_99, ⟨by decide +kernel, by decide +kernel⟩, by decide +kernel⟩
theorem yy_X5_set : sl_Y yX5_set cX5_set 4 2 (some .int) := ⟨q_918, q_99, ⟨by decide +kernel, by decide +kernel⟩, by decide +kernel⟩
theorem yy_X5_cellOf : sl_Y yX5_cellOf cX5_cellOf 3 2 (some .int) := ⟨q_934, q_99, ⟨by decide +kernel, by decide +kernel⟩, by decide +kernel⟩
theorem yy_X5_cellAt : sl_Y yX5_cellAt cX5_cellAt 2 1 (some .int) := ⟨q_981, q_99, ⟨by decide +kernel, by decide +kernel⟩, by decide +kernel⟩
theorem yy_X5_openOf : sl_Y yX5_openOf cX5_openOf 2 1 (some .int) := ⟨q_985, q_99, ⟨by decide +kernel, by decide +kernel⟩, by decide +kernel⟩
theorem yy_X5_eye : sl_Y yX5_eye cX5_eye 2 1 (some .int) := ⟨q_977, q_99, ⟨by decide +kernel, by decide +kernel⟩, by decide +kernel⟩
theorem yy_X5_newHouse : sl_Y yX5_newHouse cX5_newHouse 5 3 (some .int) := ⟨q_964, q_99, ⟨by decide +kernel, by decide +kernel⟩, by decide +kernel⟩
theorem yy_X5_house : sl_Y yX5_house cX5_house 3 2 (some .int) := ⟨q_955, q_99, ⟨by decide +kernel, by decide +kernel⟩, by decide +kernel⟩
theorem yy_X5_houseOf : sl_Y yX5_houseOf cX5_houseOf 3 2 (some .int) := ⟨q_968, q_99, ⟨by decide +kernel, by decide +kernel⟩, by decide +kernel⟩
theorem yy_X5_floor : sl_Y yX5_floor cX5_floor 4 2 (some .int) := ⟨q_989, q_99, ⟨by decide +kernel, by decide +kernel⟩, by decide +kernel⟩
theorem yy_X5_windows : sl_Y yX5_windows cX5_windows 4 2 (some .int) := ⟨q_993, q_99, ⟨by decide +kernel, by decide +kernel⟩, by decide +kernel⟩
theorem yy_X5_law : sl_Y yX5_law cX5_law 4 2 (some .int) := ⟨q_997, q_99, ⟨by decide +kernel, by decide +kernel⟩, by decide +kernel⟩
theorem yy_X5_lowers : sl_Y yX5_lowers cX5_lowers 3 2 none := ⟨q_1008, q_99, ⟨by decide +kernel, by decide +kernel⟩, by decide +kernel⟩
theorem yy_X5_dig : sl_Y yX5_dig cX5_dig 6 3 (some .int) := ⟨q_1001, q_99, ⟨by decide +kernel, by decide +kernel⟩, by decide +kernel⟩
theorem yy_X5_drain : sl_Y yX5_drain cX5_drain 4 1 (some .int) := ⟨q_1012, q_99, ⟨by decide +kernel, by decide +kernel⟩, by decide +kernel⟩
theorem yy_X5_isHiding : sl_Y yX5_isHiding cX5_isHiding 7 3 (some .boolean) := ⟨q_1039, q_99, ⟨by decide +kernel, by decide +kernel⟩, by decide +kernel⟩
theorem yy_X5_isTowards : sl_Y yX5_isTowards cX5_isTowards 4 2 (some .boolean) := ⟨q_1025, q_99, ⟨by decide +kernel, by decide +kernel⟩, by decide +kernel⟩
theorem yy_X5_hider : sl_Y yX5_hider cX5_hider 5 2 (some .int) := ⟨q_1035, q_99, ⟨by decide +kernel, by decide +kernel⟩, by decide +kernel⟩
theorem yy_X5_sightOf : sl_Y yX5_sightOf cX5_sightOf 4 1 (some .int) := ⟨q_1021, q_99, ⟨by decide +kernel, by decide +kernel⟩, by decide +kernel⟩
theorem yy_X5_sight : sl_Y yX5_sight cX5_sight 2 1 (some .int) := ⟨q_1017, q_99, ⟨by decide +kernel, by decide +kernel⟩, by decide +kernel⟩
theorem yy_X5_sees : sl_Y yX5_sees cX5_sees 3 2 (some .int) := ⟨q_1043, q_99, ⟨by decide +kernel, by decide +kernel⟩, by decide +kernel⟩
theorem yy_X5_seenBy : sl_Y yX5_seenBy cX5_seenBy 4 1 (some .int) := ⟨q_1047, q_99, ⟨by decide +kernel, by decide +kernel⟩, by decide +kernel⟩
theorem yy_X5_neighbours : sl_Y yX5_neighbours cX5_neighbours 5 1 (some .int) := ⟨q_1051, q_99, ⟨by decide +kernel, by decide +kernel⟩, by decide +kernel⟩
theorem yy_X5_hidden : sl_Y yX5_hidden cX5_hidden 4 2 (some .int) := ⟨q_1055, q_99, ⟨by decide +kernel, by decide +kernel⟩, by decide +kernel⟩
theorem yy_X5_taxOf : sl_Y yX5_taxOf cX5_taxOf 5 1 (some .int) := ⟨q_1065, q_99, ⟨by decide +kernel, by decide +kernel⟩, by decide +kernel⟩
theorem yy_X5_allTax : sl_Y yX5_allTax cX5_allTax 3 0 (some .int) := ⟨q_1073, q_99, ⟨by decide +kernel, by decide +kernel⟩, by decide +kernel⟩
theorem yy_X5_tax : sl_Y yX5_tax cX5_tax 2 1 (some .int) := ⟨q_1061, q_99, ⟨by decide +kernel, by decide +kernel⟩, by decide +kernel⟩
theorem yy_X5_all : sl_Y yX5_all cX5_all 1 0 (some .int) := ⟨q_1069, q_99, ⟨by decide +kernel, by decide +kernel⟩, by decide +kernel⟩
theorem yy_X5_leastFloor : sl_Y yX5_leastFloor cX5_leastFloor 7 1 (some .int) := ⟨q_1081, q_99, ⟨by decide +kernel, by decide +kernel⟩, by decide +kernel⟩
theorem yy_X5_cheapest : sl_Y yX5_cheapest cX5_cheapest 2 1 (some .int) := ⟨q_1077, q_99, ⟨by decide +kernel, by decide +kernel⟩, by decide +kernel⟩
theorem yy_X5_widest : sl_Y yX5_widest cX5_widest 7 1 (some .int) := ⟨q_1085, q_99, ⟨by decide +kernel, by decide +kernel⟩, by decide +kernel⟩
theorem yy_X5_wall : sl_Y yX5_wall cX5_wall 8 2 (some .int) := ⟨q_1092, q_99, ⟨by decide +kernel, by decide +kernel⟩, by decide +kernel⟩
theorem yy_X5_rateFor : sl_Y yX5_rateFor cX5_rateFor 5 1 (some .int) := ⟨q_1096, q_99, ⟨by decide +kernel, by decide +kernel⟩, by decide +kernel⟩
theorem yy_X5_year : sl_Y yX5_year cX5_year 2 0 none := ⟨q_1124, q_99, ⟨by decide +kernel, by decide +kernel⟩, by decide +kernel⟩
theorem yy_X5_yearsGo : sl_Y yX5_yearsGo cX5_yearsGo 3 1 none := ⟨q_1120, q_99, ⟨by decide +kernel, by decide +kernel⟩, by decide +kernel⟩
theorem yy_X5_isTooFar : sl_Y yX5_isTooFar cX5_isTooFar 2 1 (some .boolean) := ⟨q_1112, q_99, ⟨by decide +kernel, by decide +kernel⟩, by decide +kernel⟩
theorem yy_X5_shade : sl_Y yX5_shade cX5_shade 8 3 (some .int) := ⟨q_1104, q_99, ⟨by decide +kernel, by decide +kernel⟩, by decide +kernel⟩
theorem yy_X5_gains : sl_Y yX5_gains cX5_gains 6 3 (some .int) := ⟨q_1132, q_99, ⟨by decide +kernel, by decide +kernel⟩, by decide +kernel⟩
theorem yy_X5_plant : sl_Y yX5_plant cX5_plant 6 1 (some .int) := ⟨q_1136, q_99, ⟨by decide +kernel, by decide +kernel⟩, by decide +kernel⟩
theorem yy_X5_two : sl_Y yX5_two cX5_two 7 1 (some .int) := ⟨q_1140, q_99, ⟨by decide +kernel, by decide +kernel⟩, by decide +kernel⟩
theorem yy_X5_restless : sl_Y yX5_restless cX5_restless 6 0 (some .int) := ⟨q_1144, q_99, ⟨by decide +kernel, by decide +kernel⟩, by decide +kernel⟩
theorem yy_X5_findSights : sl_Y yX5_findSights cX5_findSights 3 0 (some .int) := ⟨q_1152, q_99, ⟨by decide +kernel, by decide +kernel⟩, by decide +kernel⟩
theorem yy_X5_walk : sl_Y yX5_walk cX5_walk 6 0 (some .int) := ⟨q_1148, q_99, ⟨by decide +kernel, by decide +kernel⟩, by decide +kernel⟩
theorem yy_X5_blind : sl_Y yX5_blind cX5_blind 1 0 (some .int) := ⟨q_1156, q_99, ⟨by decide +kernel, by decide +kernel⟩, by decide +kernel⟩
theorem yy_X5_findHeights : sl_Y yX5_findHeights cX5_findHeights 6 3 none := ⟨q_1165, q_99, ⟨by decide +kernel, by decide +kernel⟩, by decide +kernel⟩
theorem yy_X5_heights : sl_Y yX5_heights cX5_heights 4 3 (some .int) := ⟨q_1161, q_99, ⟨by decide +kernel, by decide +kernel⟩, by decide +kernel⟩
theorem yy_X5_height : sl_Y yX5_height cX5_height 5 4 (some .int) := ⟨q_1169, q_99, ⟨by decide +kernel, by decide +kernel⟩, by decide +kernel⟩
theorem yy_X5_which : sl_Y yX5_which cX5_which 6 2 (some .int) := ⟨q_1173, q_99, ⟨by decide +kernel, by decide +kernel⟩, by decide +kernel⟩
theorem yy_X5_years : sl_Y yX5_years cX5_years 2 1 (some .int) := ⟨q_1177, q_99, ⟨by decide +kernel, by decide +kernel⟩, by decide +kernel⟩
theorem yy_X5_ahead : sl_Y yX5_ahead cX5_ahead 4 2 (some .int) := ⟨q_1181, q_99, ⟨by decide +kernel, by decide +kernel⟩, by decide +kernel⟩
theorem yy_X5_lost : sl_Y yX5_lost cX5_lost 5 2 (some .int) := ⟨q_1185, q_99, ⟨by decide +kernel, by decide +kernel⟩, by decide +kernel⟩
theorem yy_X5_when : sl_Y yX5_when cX5_when 6 1 (some .int) := ⟨q_1189, q_99, ⟨by decide +kernel, by decide +kernel⟩, by decide +kernel⟩
theorem yy_X5_quake : sl_Y yX5_quake cX5_quake 4 1 (some .int) := ⟨q_1193, q_99, ⟨by decide +kernel, by decide +kernel⟩, by decide +kernel⟩
theorem yy_X5_seed : sl_Y yX5_seed cX5_seed 3 1 (some .int) := ⟨q_1203, q_99, ⟨by decide +kernel, by decide +kernel⟩, by decide +kernel⟩
theorem yy_X5_feed : sl_Y yX5_feed cX5_feed 4 2 (some .int) := ⟨q_1207, q_99, ⟨by decide +kernel, by decide +kernel⟩, by decide +kernel⟩
theorem yy_X5_wipe : sl_Y yX5_wipe cX5_wipe 2 0 (some .int) := ⟨q_1211, q_99, ⟨by decide +kernel, by decide +kernel⟩, by decide +kernel⟩
theorem yy_X5_byteAt : sl_Y yX5_byteAt cX5_byteAt 2 1 (some .int) := ⟨q_1223, q_99, ⟨by decide +kernel, by decide +kernel⟩, by decide +kernel⟩
theorem yy_X5_isLetter : sl_Y yX5_isLetter cX5_isLetter 1 1 (some .boolean) := ⟨q_1226, q_99, ⟨by decide +kernel, by decide +kernel⟩, by decide +kernel⟩
theorem yy_X5_isDigit : sl_Y yX5_isDigit cX5_isDigit 1 1 (some .boolean) := ⟨q_1231, q_99, ⟨by decide +kernel, by decide +kernel⟩, by decide +kernel⟩
theorem yy_X5_token : sl_Y yX5_token cX5_token 3 0 none := ⟨q_1219, q_99, ⟨by decide +kernel, by decide +kernel⟩, by decide +kernel⟩
theorem yy_X5_needs : sl_Y yX5_needs cX5_needs 2 1 none := ⟨q_1262, q_99, ⟨by decide +kernel, by decide +kernel⟩, by decide +kernel⟩
theorem yy_X5_word : sl_Y yX5_word cX5_word 4 0 (some .long) := ⟨q_1245, q_99, ⟨by decide +kernel, by decide +kernel⟩, by decide +kernel⟩
theorem yy_X5_number : sl_Y yX5_number cX5_number 6 2 none := ⟨q_1266, q_99, ⟨by decide +kernel, by decide +kernel⟩, by decide +kernel⟩
theorem yy_X5_kindHere : sl_Y yX5_kindHere cX5_kindHere 3 0 (some .int) := ⟨q_1241, q_99, ⟨by decide +kernel, by decide +kernel⟩, by decide +kernel⟩
theorem yy_X5_perhaps : sl_Y yX5_perhaps cX5_perhaps 5 4 (some .int) := ⟨q_1271, q_99, ⟨by decide +kernel, by decide +kernel⟩, by decide +kernel⟩
theorem yy_X5_cellItem : sl_Y yX5_cellItem cX5_cellItem 7 1 none := ⟨q_1258, q_99, ⟨by decide +kernel, by decide +kernel⟩, by decide +kernel⟩
theorem yy_X5_houseItem : sl_Y yX5_houseItem cX5_houseItem 5 0 none := ⟨q_1278, q_99, ⟨by decide +kernel, by decide +kernel⟩, by decide +kernel⟩
theorem yy_X5_item : sl_Y yX5_item cX5_item 2 0 none := ⟨q_1237, q_99, ⟨by decide +kernel, by decide +kernel⟩, by decide +kernel⟩
theorem yy_X5_text : sl_Y yX5_text cX5_text 2 0 (some .int) := ⟨q_1215, q_99, ⟨by decide +kernel, by decide +kernel⟩, by decide +kernel⟩
theorem yy_X5_hold : sl_Y yX5_hold cX5_hold 3 2 (some .int) := ⟨q_1288, q_99, ⟨by decide +kernel, by decide +kernel⟩, by decide +kernel⟩
theorem yy_X5_as : sl_Y yX5_as cX5_as 6 2 (some .int) := ⟨q_1294, q_99, ⟨by decide +kernel, by decide +kernel⟩, by decide +kernel⟩
theorem yy_X5_isOne : sl_Y yX5_isOne cX5_isOne 1 1 (some .boolean) := ⟨q_1303, q_99, ⟨by decide +kernel, by decide +kernel⟩, by decide +kernel⟩
theorem yy_X5_sheet : sl_Y yX5_sheet cX5_sheet 5 3 (some .int) := ⟨q_1300, q_99, ⟨by decide +kernel, by decide +kernel⟩, by decide +kernel⟩
theorem yy_X5_narrowed : sl_Y yX5_narrowed cX5_narrowed 2 2 (some .int) := ⟨q_1315, q_99, ⟨by decide +kernel, by decide +kernel⟩, by decide +kernel⟩
theorem yy_X5_wrong : sl_Y yX5_wrong cX5_wrong 2 1 (some .int) := ⟨q_1312, q_99, ⟨by decide +kernel, by decide +kernel⟩, by decide +kernel⟩
theorem yy_X5_write : sl_Y yX5_write cX5_write 5 3 (some .int) := ⟨q_1308, q_99, ⟨by decide +kernel, by decide +kernel⟩, by decide +kernel⟩
theorem yy_X5_copy : sl_Y yX5_copy cX5_copy 7 5 (some .int) := ⟨q_1319, q_99, ⟨by decide +kernel, by decide +kernel⟩, by decide +kernel⟩
theorem yy_X5_load : sl_Y yX5_load cX5_load 5 2 (some .int) := ⟨q_1323, q_99, ⟨by decide +kernel, by decide +kernel⟩, by decide +kernel⟩
theorem yy_X5_judge : sl_Y yX5_judge cX5_judge 5 2 (some .int) := ⟨q_1327, q_99, ⟨by decide +kernel, by decide +kernel⟩, by decide +kernel⟩
theorem yy_X5_image : sl_Y yX5_image cX5_image 2 0 (some .int) := ⟨q_1331, q_99, ⟨by decide +kernel, by decide +kernel⟩, by decide +kernel⟩
theorem yy_X5_undo : sl_Y yX5_undo cX5_undo 2 0 (some .int) := ⟨q_1335, q_99, ⟨by decide +kernel, by decide +kernel⟩, by decide +kernel⟩
theorem yy_X5_tear : sl_Y yX5_tear cX5_tear 2 0 (some .int) := ⟨q_1339, q_99, ⟨by decide +kernel, by decide +kernel⟩, by decide +kernel⟩
theorem yy_X5_count : sl_Y yX5_count cX5_count 4 1 (some .int) := ⟨q_1343, q_99, ⟨by decide +kernel, by decide +kernel⟩, by decide +kernel⟩
theorem yy_X5_status : sl_Y yX5_status cX5_status 4 1 (some .int) := ⟨q_1347, q_99, ⟨by decide +kernel, by decide +kernel⟩, by decide +kernel⟩
