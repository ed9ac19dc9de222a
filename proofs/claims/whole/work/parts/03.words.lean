set_option maxRecDepth 20000 in
theorem tw_0 : (.selects RX3 yX3_letterOf yX3_letterOf : Cond) ∈ TB := List.mem_filter.mpr ⟨List.mem_of_getElem? (i := 0) (by decide +kernel), by decide +kernel⟩
set_option maxRecDepth 20000 in
theorem tw_1 : (.selects RX0 yX0_standUp yX0_standUp : Cond) ∈ TB := List.mem_filter.mpr ⟨List.mem_of_getElem? (i := 1) (by decide +kernel), by decide +kernel⟩
set_option maxRecDepth 20000 in
theorem tw_2 : (.selects RX0 yX0_passLoads yX0_passLoads : Cond) ∈ TB := List.mem_filter.mpr ⟨List.mem_of_getElem? (i := 2) (by decide +kernel), by decide +kernel⟩
set_option maxRecDepth 20000 in
theorem tw_3 : (.selects RX0 yX0_supportOf yX0_supportOf : Cond) ∈ TB := List.mem_filter.mpr ⟨List.mem_of_getElem? (i := 3) (by decide +kernel), by decide +kernel⟩
set_option maxRecDepth 20000 in
theorem tw_4 : (.selects RX0 yX0_fallingBits yX0_fallingBits : Cond) ∈ TB := List.mem_filter.mpr ⟨List.mem_of_getElem? (i := 4) (by decide +kernel), by decide +kernel⟩
set_option maxRecDepth 20000 in
theorem tw_5 : (.selects RX4 yX4_areMoves yX4_areMoves : Cond) ∈ TB := List.mem_filter.mpr ⟨List.mem_of_getElem? (i := 5) (by decide +kernel), by decide +kernel⟩
set_option maxRecDepth 20000 in
theorem tw_6 : (.selects RX4 yX4_isSafeOrder yX4_isSafeOrder : Cond) ∈ TB := List.mem_filter.mpr ⟨List.mem_of_getElem? (i := 6) (by decide +kernel), by decide +kernel⟩
set_option maxRecDepth 20000 in
theorem tw_7 : (.selects RX4 yX4_canMove yX4_canMove : Cond) ∈ TB := List.mem_filter.mpr ⟨List.mem_of_getElem? (i := 7) (by decide +kernel), by decide +kernel⟩
set_option maxRecDepth 20000 in
theorem tw_8 : (.selects RX4 yX4_fewestFromOne yX4_fewestFromOne : Cond) ∈ TB := List.mem_filter.mpr ⟨List.mem_of_getElem? (i := 8) (by decide +kernel), by decide +kernel⟩
set_option maxRecDepth 20000 in
theorem tw_9 : (.selects RX4 yX4_mostTaken yX4_mostTaken : Cond) ∈ TB := List.mem_filter.mpr ⟨List.mem_of_getElem? (i := 9) (by decide +kernel), by decide +kernel⟩
set_option maxRecDepth 20000 in
theorem tw_10 : (.selects RX4 yX4_isCalmWithout yX4_isCalmWithout : Cond) ∈ TB := List.mem_filter.mpr ⟨List.mem_of_getElem? (i := 10) (by decide +kernel), by decide +kernel⟩
set_option maxRecDepth 20000 in
theorem tw_11 : (.selects RX4 yX4_fewestFromTwo yX4_fewestFromTwo : Cond) ∈ TB := List.mem_filter.mpr ⟨List.mem_of_getElem? (i := 11) (by decide +kernel), by decide +kernel⟩
set_option maxRecDepth 20000 in
theorem tw_12 : (.selects RX4 yX4_canBe yX4_canBe : Cond) ∈ TB := List.mem_filter.mpr ⟨List.mem_of_getElem? (i := 12) (by decide +kernel), by decide +kernel⟩
set_option maxRecDepth 20000 in
theorem tw_13 : (.selects RX4 yX4_explainsSeen yX4_explainsSeen : Cond) ∈ TB := List.mem_filter.mpr ⟨List.mem_of_getElem? (i := 13) (by decide +kernel), by decide +kernel⟩
set_option maxRecDepth 20000 in
theorem tw_14 : (.selects RX4 yX4_standingWithStonesOf yX4_standingWithStonesOf : Cond) ∈ TB := List.mem_filter.mpr ⟨List.mem_of_getElem? (i := 14) (by decide +kernel), by decide +kernel⟩
set_option maxRecDepth 20000 in
theorem tw_15 : (.selects RX4 yX4_prefers yX4_prefers : Cond) ∈ TB := List.mem_filter.mpr ⟨List.mem_of_getElem? (i := 15) (by decide +kernel), by decide +kernel⟩
set_option maxRecDepth 20000 in
theorem tw_16 : (.selects RX4 yX4_gain yX4_gain : Cond) ∈ TB := List.mem_filter.mpr ⟨List.mem_of_getElem? (i := 16) (by decide +kernel), by decide +kernel⟩
set_option maxRecDepth 20000 in
theorem tw_17 : (.selects RX4 yX4_standingWithFailed yX4_standingWithFailed : Cond) ∈ TB := List.mem_filter.mpr ⟨List.mem_of_getElem? (i := 17) (by decide +kernel), by decide +kernel⟩
set_option maxRecDepth 20000 in
theorem tw_18 : (.selects RX4 yX4_playYear yX4_playYear : Cond) ∈ TB := List.mem_filter.mpr ⟨List.mem_of_getElem? (i := 18) (by decide +kernel), by decide +kernel⟩
set_option maxRecDepth 20000 in
theorem tw_19 : (.selects RX5 yX5_readText yX5_readText : Cond) ∈ TB := List.mem_filter.mpr ⟨List.mem_of_getElem? (i := 19) (by decide +kernel), by decide +kernel⟩
set_option maxRecDepth 20000 in
theorem tw_20 : (.selects RX5 yX5_isHouse yX5_isHouse : Cond) ∈ TB := List.mem_filter.mpr ⟨List.mem_of_getElem? (i := 20) (by decide +kernel), by decide +kernel⟩
set_option maxRecDepth 20000 in
theorem tw_21 : (.selects RX5 yX5_givesOf yX5_givesOf : Cond) ∈ TB := List.mem_filter.mpr ⟨List.mem_of_getElem? (i := 21) (by decide +kernel), by decide +kernel⟩
set_option maxRecDepth 20000 in
theorem tw_22 : (.selects RX5 yX5_at yX5_at : Cond) ∈ TB := List.mem_filter.mpr ⟨List.mem_of_getElem? (i := 22) (by decide +kernel), by decide +kernel⟩
set_option maxRecDepth 20000 in
theorem tw_23 : (.selects RX5 yX5_groundOf yX5_groundOf : Cond) ∈ TB := List.mem_filter.mpr ⟨List.mem_of_getElem? (i := 23) (by decide +kernel), by decide +kernel⟩
set_option maxRecDepth 20000 in
theorem tw_24 : (.selects RX5 yX5_keepAct yX5_keepAct : Cond) ∈ TB := List.mem_filter.mpr ⟨List.mem_of_getElem? (i := 24) (by decide +kernel), by decide +kernel⟩
set_option maxRecDepth 20000 in
theorem tw_25 : (.selects RX5 yX5_hourOn yX5_hourOn : Cond) ∈ TB := List.mem_filter.mpr ⟨List.mem_of_getElem? (i := 25) (by decide +kernel), by decide +kernel⟩
set_option maxRecDepth 20000 in
theorem tw_26 : (.selects RX5 yX5_leansOn yX5_leansOn : Cond) ∈ TB := List.mem_filter.mpr ⟨List.mem_of_getElem? (i := 26) (by decide +kernel), by decide +kernel⟩
set_option maxRecDepth 20000 in
theorem tw_27 : (.selects RX5 yX5_isHeld yX5_isHeld : Cond) ∈ TB := List.mem_filter.mpr ⟨List.mem_of_getElem? (i := 27) (by decide +kernel), by decide +kernel⟩
set_option maxRecDepth 20000 in
theorem tw_28 : (.selects RX5 yX5_canBring yX5_canBring : Cond) ∈ TB := List.mem_filter.mpr ⟨List.mem_of_getElem? (i := 28) (by decide +kernel), by decide +kernel⟩
set_option maxRecDepth 20000 in
theorem tw_29 : (.selects RX5 yX5_canTake yX5_canTake : Cond) ∈ TB := List.mem_filter.mpr ⟨List.mem_of_getElem? (i := 29) (by decide +kernel), by decide +kernel⟩
set_option maxRecDepth 20000 in
theorem tw_30 : (.selects RX5 yX5_buildOn yX5_buildOn : Cond) ∈ TB := List.mem_filter.mpr ⟨List.mem_of_getElem? (i := 30) (by decide +kernel), by decide +kernel⟩
set_option maxRecDepth 20000 in
theorem tw_31 : (.selects RX5 yX5_layTrial yX5_layTrial : Cond) ∈ TB := List.mem_filter.mpr ⟨List.mem_of_getElem? (i := 31) (by decide +kernel), by decide +kernel⟩
set_option maxRecDepth 20000 in
theorem tw_32 : (.selects RX5 yX5_goOn yX5_goOn : Cond) ∈ TB := List.mem_filter.mpr ⟨List.mem_of_getElem? (i := 32) (by decide +kernel), by decide +kernel⟩
set_option maxRecDepth 20000 in
theorem tw_33 : (.selects RX5 yX5_standingOn yX5_standingOn : Cond) ∈ TB := List.mem_filter.mpr ⟨List.mem_of_getElem? (i := 33) (by decide +kernel), by decide +kernel⟩
set_option maxRecDepth 20000 in
theorem tw_34 : (.selects RX5 yX5_areMoves yX5_areMoves : Cond) ∈ TB := List.mem_filter.mpr ⟨List.mem_of_getElem? (i := 34) (by decide +kernel), by decide +kernel⟩
set_option maxRecDepth 20000 in
theorem tw_35 : (.selects RX5 yX5_canMove yX5_canMove : Cond) ∈ TB := List.mem_filter.mpr ⟨List.mem_of_getElem? (i := 35) (by decide +kernel), by decide +kernel⟩
set_option maxRecDepth 20000 in
theorem tw_36 : (.selects RX5 yX5_isSafe yX5_isSafe : Cond) ∈ TB := List.mem_filter.mpr ⟨List.mem_of_getElem? (i := 36) (by decide +kernel), by decide +kernel⟩
set_option maxRecDepth 20000 in
theorem tw_37 : (.selects RX5 yX5_tryThing yX5_tryThing : Cond) ∈ TB := List.mem_filter.mpr ⟨List.mem_of_getElem? (i := 37) (by decide +kernel), by decide +kernel⟩
set_option maxRecDepth 20000 in
theorem tw_38 : (.selects RX5 yX5_mayBe yX5_mayBe : Cond) ∈ TB := List.mem_filter.mpr ⟨List.mem_of_getElem? (i := 38) (by decide +kernel), by decide +kernel⟩
set_option maxRecDepth 20000 in
theorem tw_39 : (.selects RX5 yX5_standWith yX5_standWith : Cond) ∈ TB := List.mem_filter.mpr ⟨List.mem_of_getElem? (i := 39) (by decide +kernel), by decide +kernel⟩
set_option maxRecDepth 20000 in
theorem tw_40 : (.selects RX5 yX5_isRest yX5_isRest : Cond) ∈ TB := List.mem_filter.mpr ⟨List.mem_of_getElem? (i := 40) (by decide +kernel), by decide +kernel⟩
set_option maxRecDepth 20000 in
theorem tw_41 : (.selects RX5 yX5_gain yX5_gain : Cond) ∈ TB := List.mem_filter.mpr ⟨List.mem_of_getElem? (i := 41) (by decide +kernel), by decide +kernel⟩
set_option maxRecDepth 20000 in
theorem tw_42 : (.selects RX5 yX5_together yX5_together : Cond) ∈ TB := List.mem_filter.mpr ⟨List.mem_of_getElem? (i := 42) (by decide +kernel), by decide +kernel⟩
set_option maxRecDepth 20000 in
theorem tw_43 : (.initialized R_law : Cond) ∈ TB := List.mem_filter.mpr ⟨List.mem_of_getElem? (i := 43) (by decide +kernel), by decide +kernel⟩
set_option maxRecDepth 20000 in
theorem tw_44 : (.initialized RX4 : Cond) ∈ TB := List.mem_filter.mpr ⟨List.mem_of_getElem? (i := 44) (by decide +kernel), by decide +kernel⟩
set_option maxRecDepth 20000 in
theorem tw_45 : (.initialized RX3 : Cond) ∈ TB := List.mem_filter.mpr ⟨List.mem_of_getElem? (i := 45) (by decide +kernel), by decide +kernel⟩
set_option maxRecDepth 20000 in
theorem tw_46 : (.initialized RX0 : Cond) ∈ TB := List.mem_filter.mpr ⟨List.mem_of_getElem? (i := 46) (by decide +kernel), by decide +kernel⟩
set_option maxRecDepth 20000 in
theorem tw_47 : (.initialized RX1 : Cond) ∈ TB := List.mem_filter.mpr ⟨List.mem_of_getElem? (i := 47) (by decide +kernel), by decide +kernel⟩
set_option maxRecDepth 20000 in
theorem tw_48 : (.initialized RX2 : Cond) ∈ TB := List.mem_filter.mpr ⟨List.mem_of_getElem? (i := 48) (by decide +kernel), by decide +kernel⟩
set_option maxRecDepth 20000 in
theorem tw_49 : (.initialized RX5 : Cond) ∈ TB := List.mem_filter.mpr ⟨List.mem_of_getElem? (i := 49) (by decide +kernel), by decide +kernel⟩
set_option maxRecDepth 20000 in
theorem tw_50 : (.initialized "java/lang/Math" : Cond) ∈ TB := List.mem_filter.mpr ⟨List.mem_of_getElem? (i := 50) (by decide +kernel), by decide +kernel⟩
set_option maxRecDepth 20000 in
theorem tw_51 : (.initialized "java/lang/System" : Cond) ∈ TB := List.mem_filter.mpr ⟨List.mem_of_getElem? (i := 51) (by decide +kernel), by decide +kernel⟩
set_option maxRecDepth 20000 in
theorem tw_52 : (.initialized "java/lang/Integer" : Cond) ∈ TB := List.mem_filter.mpr ⟨List.mem_of_getElem? (i := 52) (by decide +kernel), by decide +kernel⟩
set_option maxRecDepth 20000 in
theorem tw_53 : (.classLink R_law 7 RX4 : Cond) ∈ TB := List.mem_filter.mpr ⟨List.mem_of_getElem? (i := 53) (by decide +kernel), by decide +kernel⟩
set_option maxRecDepth 20000 in
theorem tw_54 : (.instantiable RX4 8 : Cond) ∈ TB := List.mem_filter.mpr ⟨List.mem_of_getElem? (i := 54) (by decide +kernel), by decide +kernel⟩
set_option maxRecDepth 20000 in
theorem tw_55 : (.methodLink R_law 9 yX4_init : Cond) ∈ TB := List.mem_filter.mpr ⟨List.mem_of_getElem? (i := 55) (by decide +kernel), by decide +kernel⟩
set_option maxRecDepth 20000 in
theorem tw_56 : (.instanceMethod yX4_init : Cond) ∈ TB := List.mem_filter.mpr ⟨List.mem_of_getElem? (i := 56) (by decide +kernel), by decide +kernel⟩
set_option maxRecDepth 20000 in
theorem tw_57 : (.code yX4_init cX4_init 2 none : Cond) ∈ TB := List.mem_filter.mpr ⟨List.mem_of_getElem? (i := 57) (by decide +kernel), by decide +kernel⟩
set_option maxRecDepth 20000 in
theorem tw_58 : (.methodLink RX4 3 objectInit : Cond) ∈ TB := List.mem_filter.mpr ⟨List.mem_of_getElem? (i := 58) (by decide +kernel), by decide +kernel⟩
set_option maxRecDepth 20000 in
theorem tw_59 : (.instanceMethod objectInit : Cond) ∈ TB := List.mem_filter.mpr ⟨List.mem_of_getElem? (i := 59) (by decide +kernel), by decide +kernel⟩
set_option maxRecDepth 20000 in
theorem tw_60 : (.code objectInit ⟨#[0xb1]⟩ 1 none : Cond) ∈ TB := List.mem_filter.mpr ⟨List.mem_of_getElem? (i := 60) (by decide +kernel), by decide +kernel⟩
set_option maxRecDepth 20000 in
theorem tw_61 : (.classLink RX4 9 RX3 : Cond) ∈ TB := List.mem_filter.mpr ⟨List.mem_of_getElem? (i := 61) (by decide +kernel), by decide +kernel⟩
set_option maxRecDepth 20000 in
theorem tw_62 : (.instantiable RX3 2 : Cond) ∈ TB := List.mem_filter.mpr ⟨List.mem_of_getElem? (i := 62) (by decide +kernel), by decide +kernel⟩
set_option maxRecDepth 20000 in
theorem tw_64 : (.instanceMethod yX3_init : Cond) ∈ TB := List.mem_filter.mpr ⟨List.mem_of_getElem? (i := 64) (by decide +kernel), by decide +kernel⟩
set_option maxRecDepth 20000 in
theorem tw_65 : (.code yX3_init cX3_init 1 none : Cond) ∈ TB := List.mem_filter.mpr ⟨List.mem_of_getElem? (i := 65) (by decide +kernel), by decide +kernel⟩
set_option maxRecDepth 20000 in
theorem tw_66 : (.methodLink RX3 5 objectInit : Cond) ∈ TB := List.mem_filter.mpr ⟨List.mem_of_getElem? (i := 66) (by decide +kernel), by decide +kernel⟩
set_option maxRecDepth 20000 in
theorem tw_67 : (.fieldLink RX3 11 "LeanLane$Text" "letters" "[C" : Cond) ∈ TB := List.mem_filter.mpr ⟨List.mem_of_getElem? (i := 67) (by decide +kernel), by decide +kernel⟩
set_option maxRecDepth 20000 in
theorem tw_68 : (.fieldLink RX3 15 "LeanLane$Text" "length" "I" : Cond) ∈ TB := List.mem_filter.mpr ⟨List.mem_of_getElem? (i := 68) (by decide +kernel), by decide +kernel⟩
set_option maxRecDepth 20000 in
theorem tw_74 : (.arrayClass .char : Cond) ∈ TB := List.mem_filter.mpr ⟨List.mem_of_getElem? (i := 74) (by decide +kernel), by decide +kernel⟩
set_option maxRecDepth 20000 in
theorem tw_75 : (.classLink RX4 16 RX0 : Cond) ∈ TB := List.mem_filter.mpr ⟨List.mem_of_getElem? (i := 75) (by decide +kernel), by decide +kernel⟩
set_option maxRecDepth 20000 in
theorem tw_76 : (.instantiable RX0 9 : Cond) ∈ TB := List.mem_filter.mpr ⟨List.mem_of_getElem? (i := 76) (by decide +kernel), by decide +kernel⟩
set_option maxRecDepth 20000 in
theorem tw_78 : (.instanceMethod yX0_init : Cond) ∈ TB := List.mem_filter.mpr ⟨List.mem_of_getElem? (i := 78) (by decide +kernel), by decide +kernel⟩
set_option maxRecDepth 20000 in
theorem tw_79 : (.code yX0_init cX0_init 1 none : Cond) ∈ TB := List.mem_filter.mpr ⟨List.mem_of_getElem? (i := 79) (by decide +kernel), by decide +kernel⟩
set_option maxRecDepth 20000 in
theorem tw_80 : (.methodLink RX0 3 objectInit : Cond) ∈ TB := List.mem_filter.mpr ⟨List.mem_of_getElem? (i := 80) (by decide +kernel), by decide +kernel⟩
set_option maxRecDepth 20000 in
theorem tw_81 : (.fieldLink RX0 9 "LeanLane$Lane" "kinds" "[I" : Cond) ∈ TB := List.mem_filter.mpr ⟨List.mem_of_getElem? (i := 81) (by decide +kernel), by decide +kernel⟩
set_option maxRecDepth 20000 in
theorem tw_82 : (.fieldLink RX0 15 "LeanLane$Lane" "stones" "[I" : Cond) ∈ TB := List.mem_filter.mpr ⟨List.mem_of_getElem? (i := 82) (by decide +kernel), by decide +kernel⟩
set_option maxRecDepth 20000 in
theorem tw_83 : (.fieldLink RX0 18 "LeanLane$Lane" "strengths" "[I" : Cond) ∈ TB := List.mem_filter.mpr ⟨List.mem_of_getElem? (i := 83) (by decide +kernel), by decide +kernel⟩
set_option maxRecDepth 20000 in
theorem tw_84 : (.fieldLink RX0 21 "LeanLane$Lane" "deeds" "[I" : Cond) ∈ TB := List.mem_filter.mpr ⟨List.mem_of_getElem? (i := 84) (by decide +kernel), by decide +kernel⟩
set_option maxRecDepth 20000 in
theorem tw_85 : (.fieldLink RX0 24 "LeanLane$Lane" "loads" "[I" : Cond) ∈ TB := List.mem_filter.mpr ⟨List.mem_of_getElem? (i := 85) (by decide +kernel), by decide +kernel⟩
set_option maxRecDepth 20000 in
theorem tw_86 : (.fieldLink RX0 27 "LeanLane$Lane" "coming" "[I" : Cond) ∈ TB := List.mem_filter.mpr ⟨List.mem_of_getElem? (i := 86) (by decide +kernel), by decide +kernel⟩
set_option maxRecDepth 20000 in
theorem tw_87 : (.fieldLink RX0 36 "LeanLane$Lane" "houses" "I" : Cond) ∈ TB := List.mem_filter.mpr ⟨List.mem_of_getElem? (i := 87) (by decide +kernel), by decide +kernel⟩
set_option maxRecDepth 20000 in
theorem tw_88 : (.fieldLink RX0 40 "LeanLane$Lane" "up" "I" : Cond) ∈ TB := List.mem_filter.mpr ⟨List.mem_of_getElem? (i := 88) (by decide +kernel), by decide +kernel⟩
set_option maxRecDepth 20000 in
theorem tw_89 : (.fieldLink RX0 43 "LeanLane$Lane" "passed" "I" : Cond) ∈ TB := List.mem_filter.mpr ⟨List.mem_of_getElem? (i := 89) (by decide +kernel), by decide +kernel⟩
set_option maxRecDepth 20000 in
theorem tw_109 : (.arrayClass .int : Cond) ∈ TB := List.mem_filter.mpr ⟨List.mem_of_getElem? (i := 109) (by decide +kernel), by decide +kernel⟩
set_option maxRecDepth 20000 in
theorem tw_110 : (.classLink RX4 26 RX1 : Cond) ∈ TB := List.mem_filter.mpr ⟨List.mem_of_getElem? (i := 110) (by decide +kernel), by decide +kernel⟩
set_option maxRecDepth 20000 in
theorem tw_111 : (.instantiable RX1 3 : Cond) ∈ TB := List.mem_filter.mpr ⟨List.mem_of_getElem? (i := 111) (by decide +kernel), by decide +kernel⟩
set_option maxRecDepth 20000 in
theorem tw_112 : (.methodLink RX4 28 yX1_init : Cond) ∈ TB := List.mem_filter.mpr ⟨List.mem_of_getElem? (i := 112) (by decide +kernel), by decide +kernel⟩
set_option maxRecDepth 20000 in
theorem tw_113 : (.instanceMethod yX1_init : Cond) ∈ TB := List.mem_filter.mpr ⟨List.mem_of_getElem? (i := 113) (by decide +kernel), by decide +kernel⟩
set_option maxRecDepth 20000 in
theorem tw_114 : (.code yX1_init cX1_init 2 none : Cond) ∈ TB := List.mem_filter.mpr ⟨List.mem_of_getElem? (i := 114) (by decide +kernel), by decide +kernel⟩
set_option maxRecDepth 20000 in
theorem tw_115 : (.methodLink RX1 3 objectInit : Cond) ∈ TB := List.mem_filter.mpr ⟨List.mem_of_getElem? (i := 115) (by decide +kernel), by decide +kernel⟩
set_option maxRecDepth 20000 in
theorem tw_116 : (.classLink RX1 9 RX0 : Cond) ∈ TB := List.mem_filter.mpr ⟨List.mem_of_getElem? (i := 116) (by decide +kernel), by decide +kernel⟩
set_option maxRecDepth 20000 in
theorem tw_119 : (.fieldLink RX1 11 "LeanLane$Past" "lanes" "[LLeanLane$Lane;" : Cond) ∈ TB := List.mem_filter.mpr ⟨List.mem_of_getElem? (i := 119) (by decide +kernel), by decide +kernel⟩
set_option maxRecDepth 20000 in
theorem tw_120 : (.fieldLink RX1 22 "LeanLane$Past" "first" "I" : Cond) ∈ TB := List.mem_filter.mpr ⟨List.mem_of_getElem? (i := 120) (by decide +kernel), by decide +kernel⟩
set_option maxRecDepth 20000 in
theorem tw_121 : (.fieldLink RX1 18 "LeanLane$Past" "size" "I" : Cond) ∈ TB := List.mem_filter.mpr ⟨List.mem_of_getElem? (i := 121) (by decide +kernel), by decide +kernel⟩
set_option maxRecDepth 20000 in
theorem tw_129 : (.classLink RX4 33 RX2 : Cond) ∈ TB := List.mem_filter.mpr ⟨List.mem_of_getElem? (i := 129) (by decide +kernel), by decide +kernel⟩
set_option maxRecDepth 20000 in
theorem tw_130 : (.instantiable RX2 4 : Cond) ∈ TB := List.mem_filter.mpr ⟨List.mem_of_getElem? (i := 130) (by decide +kernel), by decide +kernel⟩
set_option maxRecDepth 20000 in
theorem tw_132 : (.instanceMethod yX2_init : Cond) ∈ TB := List.mem_filter.mpr ⟨List.mem_of_getElem? (i := 132) (by decide +kernel), by decide +kernel⟩
set_option maxRecDepth 20000 in
theorem tw_133 : (.code yX2_init cX2_init 1 none : Cond) ∈ TB := List.mem_filter.mpr ⟨List.mem_of_getElem? (i := 133) (by decide +kernel), by decide +kernel⟩
set_option maxRecDepth 20000 in
theorem tw_134 : (.methodLink RX2 3 objectInit : Cond) ∈ TB := List.mem_filter.mpr ⟨List.mem_of_getElem? (i := 134) (by decide +kernel), by decide +kernel⟩
set_option maxRecDepth 20000 in
theorem tw_135 : (.fieldLink RX2 9 "LeanLane$Sightings" "hours" "[I" : Cond) ∈ TB := List.mem_filter.mpr ⟨List.mem_of_getElem? (i := 135) (by decide +kernel), by decide +kernel⟩
set_option maxRecDepth 20000 in
theorem tw_136 : (.fieldLink RX2 15 "LeanLane$Sightings" "houses" "[I" : Cond) ∈ TB := List.mem_filter.mpr ⟨List.mem_of_getElem? (i := 136) (by decide +kernel), by decide +kernel⟩
set_option maxRecDepth 20000 in
theorem tw_137 : (.fieldLink RX2 18 "LeanLane$Sightings" "stood" "[I" : Cond) ∈ TB := List.mem_filter.mpr ⟨List.mem_of_getElem? (i := 137) (by decide +kernel), by decide +kernel⟩
set_option maxRecDepth 20000 in
theorem tw_138 : (.fieldLink RX2 21 "LeanLane$Sightings" "size" "I" : Cond) ∈ TB := List.mem_filter.mpr ⟨List.mem_of_getElem? (i := 138) (by decide +kernel), by decide +kernel⟩
set_option maxRecDepth 20000 in
theorem tw_148 : (.fieldLink RX4 12 "LeanLane" "text" "LLeanLane$Text;" : Cond) ∈ TB := List.mem_filter.mpr ⟨List.mem_of_getElem? (i := 148) (by decide +kernel), by decide +kernel⟩
set_option maxRecDepth 20000 in
theorem tw_149 : (.fieldLink RX4 19 "LeanLane" "now" "LLeanLane$Lane;" : Cond) ∈ TB := List.mem_filter.mpr ⟨List.mem_of_getElem? (i := 149) (by decide +kernel), by decide +kernel⟩
set_option maxRecDepth 20000 in
theorem tw_150 : (.fieldLink RX4 23 "LeanLane" "trial" "LLeanLane$Lane;" : Cond) ∈ TB := List.mem_filter.mpr ⟨List.mem_of_getElem? (i := 150) (by decide +kernel), by decide +kernel⟩
set_option maxRecDepth 20000 in
theorem tw_151 : (.fieldLink RX4 29 "LeanLane" "past" "LLeanLane$Past;" : Cond) ∈ TB := List.mem_filter.mpr ⟨List.mem_of_getElem? (i := 151) (by decide +kernel), by decide +kernel⟩
set_option maxRecDepth 20000 in
theorem tw_152 : (.fieldLink RX4 36 "LeanLane" "seen" "LLeanLane$Sightings;" : Cond) ∈ TB := List.mem_filter.mpr ⟨List.mem_of_getElem? (i := 152) (by decide +kernel), by decide +kernel⟩
set_option maxRecDepth 20000 in
theorem tw_153 : (.fieldLink RX4 40 "LeanLane" "slots" "[LLeanLane$Lane;" : Cond) ∈ TB := List.mem_filter.mpr ⟨List.mem_of_getElem? (i := 153) (by decide +kernel), by decide +kernel⟩
set_option maxRecDepth 20000 in
theorem tw_154 : (.fieldLink RX4 64 "LeanLane" "keptSlots" "I" : Cond) ∈ TB := List.mem_filter.mpr ⟨List.mem_of_getElem? (i := 154) (by decide +kernel), by decide +kernel⟩
set_option maxRecDepth 20000 in
theorem tw_155 : (.fieldLink RX4 253 "LeanLane" "theSeed" "J" : Cond) ∈ TB := List.mem_filter.mpr ⟨List.mem_of_getElem? (i := 155) (by decide +kernel), by decide +kernel⟩
set_option maxRecDepth 20000 in
theorem tw_173 : (.methodLink R_law 13 yX4_write : Cond) ∈ TB := List.mem_filter.mpr ⟨List.mem_of_getElem? (i := 173) (by decide +kernel), by decide +kernel⟩
set_option maxRecDepth 20000 in
theorem tw_174 : (.instanceMethod yX4_write : Cond) ∈ TB := List.mem_filter.mpr ⟨List.mem_of_getElem? (i := 174) (by decide +kernel), by decide +kernel⟩
set_option maxRecDepth 20000 in
theorem tw_175 : (.selects RX4 yX4_write yX4_write : Cond) ∈ TB := List.mem_filter.mpr ⟨List.mem_of_getElem? (i := 175) (by decide +kernel), by decide +kernel⟩
set_option maxRecDepth 20000 in
theorem tw_176 : (.code yX4_write cX4_write 2 (some .int) : Cond) ∈ TB := List.mem_filter.mpr ⟨List.mem_of_getElem? (i := 176) (by decide +kernel), by decide +kernel⟩
set_option maxRecDepth 20000 in
theorem tw_177 : (.methodLink RX4 44 yX3_append : Cond) ∈ TB := List.mem_filter.mpr ⟨List.mem_of_getElem? (i := 177) (by decide +kernel), by decide +kernel⟩
set_option maxRecDepth 20000 in
theorem tw_178 : (.instanceMethod yX3_append : Cond) ∈ TB := List.mem_filter.mpr ⟨List.mem_of_getElem? (i := 178) (by decide +kernel), by decide +kernel⟩
set_option maxRecDepth 20000 in
theorem tw_179 : (.selects RX3 yX3_append yX3_append : Cond) ∈ TB := List.mem_filter.mpr ⟨List.mem_of_getElem? (i := 179) (by decide +kernel), by decide +kernel⟩
set_option maxRecDepth 20000 in
theorem tw_180 : (.code yX3_append cX3_append 2 (some .boolean) : Cond) ∈ TB := List.mem_filter.mpr ⟨List.mem_of_getElem? (i := 180) (by decide +kernel), by decide +kernel⟩
set_option maxRecDepth 20000 in
theorem tw_181 : (.methodLink RX4 48 yX3_length : Cond) ∈ TB := List.mem_filter.mpr ⟨List.mem_of_getElem? (i := 181) (by decide +kernel), by decide +kernel⟩
set_option maxRecDepth 20000 in
theorem tw_182 : (.instanceMethod yX3_length : Cond) ∈ TB := List.mem_filter.mpr ⟨List.mem_of_getElem? (i := 182) (by decide +kernel), by decide +kernel⟩
set_option maxRecDepth 20000 in
theorem tw_183 : (.selects RX3 yX3_length yX3_length : Cond) ∈ TB := List.mem_filter.mpr ⟨List.mem_of_getElem? (i := 183) (by decide +kernel), by decide +kernel⟩
set_option maxRecDepth 20000 in
theorem tw_184 : (.code yX3_length cX3_length 1 (some .int) : Cond) ∈ TB := List.mem_filter.mpr ⟨List.mem_of_getElem? (i := 184) (by decide +kernel), by decide +kernel⟩
set_option maxRecDepth 20000 in
theorem tw_185 : (.methodLink R_law 18 yX4_wipe : Cond) ∈ TB := List.mem_filter.mpr ⟨List.mem_of_getElem? (i := 185) (by decide +kernel), by decide +kernel⟩
set_option maxRecDepth 20000 in
theorem tw_186 : (.instanceMethod yX4_wipe : Cond) ∈ TB := List.mem_filter.mpr ⟨List.mem_of_getElem? (i := 186) (by decide +kernel), by decide +kernel⟩
set_option maxRecDepth 20000 in
theorem tw_187 : (.selects RX4 yX4_wipe yX4_wipe : Cond) ∈ TB := List.mem_filter.mpr ⟨List.mem_of_getElem? (i := 187) (by decide +kernel), by decide +kernel⟩
set_option maxRecDepth 20000 in
theorem tw_188 : (.code yX4_wipe cX4_wipe 1 (some .int) : Cond) ∈ TB := List.mem_filter.mpr ⟨List.mem_of_getElem? (i := 188) (by decide +kernel), by decide +kernel⟩
set_option maxRecDepth 20000 in
theorem tw_189 : (.methodLink RX4 52 yX3_clear : Cond) ∈ TB := List.mem_filter.mpr ⟨List.mem_of_getElem? (i := 189) (by decide +kernel), by decide +kernel⟩
set_option maxRecDepth 20000 in
theorem tw_190 : (.instanceMethod yX3_clear : Cond) ∈ TB := List.mem_filter.mpr ⟨List.mem_of_getElem? (i := 190) (by decide +kernel), by decide +kernel⟩
set_option maxRecDepth 20000 in
theorem tw_191 : (.selects RX3 yX3_clear yX3_clear : Cond) ∈ TB := List.mem_filter.mpr ⟨List.mem_of_getElem? (i := 191) (by decide +kernel), by decide +kernel⟩
set_option maxRecDepth 20000 in
theorem tw_192 : (.code yX3_clear cX3_clear 2 (some .int) : Cond) ∈ TB := List.mem_filter.mpr ⟨List.mem_of_getElem? (i := 192) (by decide +kernel), by decide +kernel⟩
set_option maxRecDepth 20000 in
theorem tw_193 : (.methodLink R_law 23 yX4_fault : Cond) ∈ TB := List.mem_filter.mpr ⟨List.mem_of_getElem? (i := 193) (by decide +kernel), by decide +kernel⟩
set_option maxRecDepth 20000 in
theorem tw_194 : (.instanceMethod yX4_fault : Cond) ∈ TB := List.mem_filter.mpr ⟨List.mem_of_getElem? (i := 194) (by decide +kernel), by decide +kernel⟩
set_option maxRecDepth 20000 in
theorem tw_195 : (.selects RX4 yX4_fault yX4_fault : Cond) ∈ TB := List.mem_filter.mpr ⟨List.mem_of_getElem? (i := 195) (by decide +kernel), by decide +kernel⟩
set_option maxRecDepth 20000 in
theorem tw_196 : (.code yX4_fault cX4_fault 1 (some .int) : Cond) ∈ TB := List.mem_filter.mpr ⟨List.mem_of_getElem? (i := 196) (by decide +kernel), by decide +kernel⟩
set_option maxRecDepth 20000 in
theorem tw_197 : (.methodLink RX4 55 yX3_firstFault : Cond) ∈ TB := List.mem_filter.mpr ⟨List.mem_of_getElem? (i := 197) (by decide +kernel), by decide +kernel⟩
set_option maxRecDepth 20000 in
theorem tw_198 : (.instanceMethod yX3_firstFault : Cond) ∈ TB := List.mem_filter.mpr ⟨List.mem_of_getElem? (i := 198) (by decide +kernel), by decide +kernel⟩
set_option maxRecDepth 20000 in
theorem tw_199 : (.selects RX3 yX3_firstFault yX3_firstFault : Cond) ∈ TB := List.mem_filter.mpr ⟨List.mem_of_getElem? (i := 199) (by decide +kernel), by decide +kernel⟩
set_option maxRecDepth 20000 in
theorem tw_200 : (.code yX3_firstFault cX3_firstFault 2 (some .int) : Cond) ∈ TB := List.mem_filter.mpr ⟨List.mem_of_getElem? (i := 200) (by decide +kernel), by decide +kernel⟩
set_option maxRecDepth 20000 in
theorem tw_201 : (.methodLink RX3 19 yX3_fits : Cond) ∈ TB := List.mem_filter.mpr ⟨List.mem_of_getElem? (i := 201) (by decide +kernel), by decide +kernel⟩
set_option maxRecDepth 20000 in
theorem tw_202 : (.static yX3_fits : Cond) ∈ TB := List.mem_filter.mpr ⟨List.mem_of_getElem? (i := 202) (by decide +kernel), by decide +kernel⟩
set_option maxRecDepth 20000 in
theorem tw_203 : (.code yX3_fits cX3_fits 2 (some .boolean) : Cond) ∈ TB := List.mem_filter.mpr ⟨List.mem_of_getElem? (i := 203) (by decide +kernel), by decide +kernel⟩
set_option maxRecDepth 20000 in
theorem tw_204 : (.methodLink R_law 27 yX4_lane : Cond) ∈ TB := List.mem_filter.mpr ⟨List.mem_of_getElem? (i := 204) (by decide +kernel), by decide +kernel⟩
set_option maxRecDepth 20000 in
theorem tw_205 : (.instanceMethod yX4_lane : Cond) ∈ TB := List.mem_filter.mpr ⟨List.mem_of_getElem? (i := 205) (by decide +kernel), by decide +kernel⟩
set_option maxRecDepth 20000 in
theorem tw_206 : (.selects RX4 yX4_lane yX4_lane : Cond) ∈ TB := List.mem_filter.mpr ⟨List.mem_of_getElem? (i := 206) (by decide +kernel), by decide +kernel⟩
set_option maxRecDepth 20000 in
theorem tw_207 : (.code yX4_lane cX4_lane 1 (some .int) : Cond) ∈ TB := List.mem_filter.mpr ⟨List.mem_of_getElem? (i := 207) (by decide +kernel), by decide +kernel⟩
set_option maxRecDepth 20000 in
theorem tw_208 : (.methodLink RX4 58 yX0_readFrom : Cond) ∈ TB := List.mem_filter.mpr ⟨List.mem_of_getElem? (i := 208) (by decide +kernel), by decide +kernel⟩
set_option maxRecDepth 20000 in
theorem tw_209 : (.instanceMethod yX0_readFrom : Cond) ∈ TB := List.mem_filter.mpr ⟨List.mem_of_getElem? (i := 209) (by decide +kernel), by decide +kernel⟩
set_option maxRecDepth 20000 in
theorem tw_210 : (.selects RX0 yX0_readFrom yX0_readFrom : Cond) ∈ TB := List.mem_filter.mpr ⟨List.mem_of_getElem? (i := 210) (by decide +kernel), by decide +kernel⟩
set_option maxRecDepth 20000 in
theorem tw_211 : (.code yX0_readFrom cX0_readFrom 3 none : Cond) ∈ TB := List.mem_filter.mpr ⟨List.mem_of_getElem? (i := 211) (by decide +kernel), by decide +kernel⟩
set_option maxRecDepth 20000 in
theorem tw_212 : (.methodLink RX0 46 yX3_houses : Cond) ∈ TB := List.mem_filter.mpr ⟨List.mem_of_getElem? (i := 212) (by decide +kernel), by decide +kernel⟩
set_option maxRecDepth 20000 in
theorem tw_213 : (.instanceMethod yX3_houses : Cond) ∈ TB := List.mem_filter.mpr ⟨List.mem_of_getElem? (i := 213) (by decide +kernel), by decide +kernel⟩
set_option maxRecDepth 20000 in
theorem tw_214 : (.selects RX3 yX3_houses yX3_houses : Cond) ∈ TB := List.mem_filter.mpr ⟨List.mem_of_getElem? (i := 214) (by decide +kernel), by decide +kernel⟩
set_option maxRecDepth 20000 in
theorem tw_215 : (.code yX3_houses cX3_houses 1 (some .int) : Cond) ∈ TB := List.mem_filter.mpr ⟨List.mem_of_getElem? (i := 215) (by decide +kernel), by decide +kernel⟩
set_option maxRecDepth 20000 in
theorem tw_216 : (.methodLink RX3 23 Lib.Math.min.name : Cond) ∈ TB := List.mem_filter.mpr ⟨List.mem_of_getElem? (i := 216) (by decide +kernel), by decide +kernel⟩
set_option maxRecDepth 20000 in
theorem tw_217 : (.static Lib.Math.min.name : Cond) ∈ TB := List.mem_filter.mpr ⟨List.mem_of_getElem? (i := 217) (by decide +kernel), by decide +kernel⟩
set_option maxRecDepth 20000 in
theorem tw_218 : (.code Lib.Math.min.name Lib.Math.min.code 2 (some .int) : Cond) ∈ TB := List.mem_filter.mpr ⟨List.mem_of_getElem? (i := 218) (by decide +kernel), by decide +kernel⟩
set_option maxRecDepth 20000 in
theorem tw_219 : (.methodLink RX0 51 yX3_numberOf : Cond) ∈ TB := List.mem_filter.mpr ⟨List.mem_of_getElem? (i := 219) (by decide +kernel), by decide +kernel⟩
set_option maxRecDepth 20000 in
theorem tw_220 : (.instanceMethod yX3_numberOf : Cond) ∈ TB := List.mem_filter.mpr ⟨List.mem_of_getElem? (i := 220) (by decide +kernel), by decide +kernel⟩
set_option maxRecDepth 20000 in
theorem tw_221 : (.selects RX3 yX3_numberOf yX3_numberOf : Cond) ∈ TB := List.mem_filter.mpr ⟨List.mem_of_getElem? (i := 221) (by decide +kernel), by decide +kernel⟩
set_option maxRecDepth 20000 in
theorem tw_222 : (.code yX3_numberOf cX3_numberOf 3 (some .int) : Cond) ∈ TB := List.mem_filter.mpr ⟨List.mem_of_getElem? (i := 222) (by decide +kernel), by decide +kernel⟩
set_option maxRecDepth 20000 in
theorem tw_223 : (.methodLink RX3 29 yX3_letterOf : Cond) ∈ TB := List.mem_filter.mpr ⟨List.mem_of_getElem? (i := 223) (by decide +kernel), by decide +kernel⟩
set_option maxRecDepth 20000 in
theorem tw_225 : (.instanceMethod yX3_letterOf : Cond) ∈ TB := List.mem_filter.mpr ⟨List.mem_of_getElem? (i := 225) (by decide +kernel), by decide +kernel⟩
set_option maxRecDepth 20000 in
theorem tw_226 : (.code yX3_letterOf cX3_letterOf 4 (some .char) : Cond) ∈ TB := List.mem_filter.mpr ⟨List.mem_of_getElem? (i := 226) (by decide +kernel), by decide +kernel⟩
set_option maxRecDepth 20000 in
theorem tw_227 : (.methodLink RX0 55 yX3_deedOf : Cond) ∈ TB := List.mem_filter.mpr ⟨List.mem_of_getElem? (i := 227) (by decide +kernel), by decide +kernel⟩
set_option maxRecDepth 20000 in
theorem tw_228 : (.instanceMethod yX3_deedOf : Cond) ∈ TB := List.mem_filter.mpr ⟨List.mem_of_getElem? (i := 228) (by decide +kernel), by decide +kernel⟩
set_option maxRecDepth 20000 in
theorem tw_229 : (.selects RX3 yX3_deedOf yX3_deedOf : Cond) ∈ TB := List.mem_filter.mpr ⟨List.mem_of_getElem? (i := 229) (by decide +kernel), by decide +kernel⟩
set_option maxRecDepth 20000 in
theorem tw_230 : (.code yX3_deedOf cX3_deedOf 3 (some .int) : Cond) ∈ TB := List.mem_filter.mpr ⟨List.mem_of_getElem? (i := 230) (by decide +kernel), by decide +kernel⟩
set_option maxRecDepth 20000 in
theorem tw_231 : (.methodLink RX0 59 yX0_standUp : Cond) ∈ TB := List.mem_filter.mpr ⟨List.mem_of_getElem? (i := 231) (by decide +kernel), by decide +kernel⟩
set_option maxRecDepth 20000 in
theorem tw_233 : (.instanceMethod yX0_standUp : Cond) ∈ TB := List.mem_filter.mpr ⟨List.mem_of_getElem? (i := 233) (by decide +kernel), by decide +kernel⟩
set_option maxRecDepth 20000 in
theorem tw_234 : (.code yX0_standUp cX0_standUp 2 none : Cond) ∈ TB := List.mem_filter.mpr ⟨List.mem_of_getElem? (i := 234) (by decide +kernel), by decide +kernel⟩
set_option maxRecDepth 20000 in
theorem tw_235 : (.methodLink RX4 62 yX1_clear : Cond) ∈ TB := List.mem_filter.mpr ⟨List.mem_of_getElem? (i := 235) (by decide +kernel), by decide +kernel⟩
set_option maxRecDepth 20000 in
theorem tw_236 : (.instanceMethod yX1_clear : Cond) ∈ TB := List.mem_filter.mpr ⟨List.mem_of_getElem? (i := 236) (by decide +kernel), by decide +kernel⟩
set_option maxRecDepth 20000 in
theorem tw_237 : (.selects RX1 yX1_clear yX1_clear : Cond) ∈ TB := List.mem_filter.mpr ⟨List.mem_of_getElem? (i := 237) (by decide +kernel), by decide +kernel⟩
set_option maxRecDepth 20000 in
theorem tw_238 : (.code yX1_clear cX1_clear 1 none : Cond) ∈ TB := List.mem_filter.mpr ⟨List.mem_of_getElem? (i := 238) (by decide +kernel), by decide +kernel⟩
set_option maxRecDepth 20000 in
theorem tw_239 : (.methodLink RX4 68 yX0_size : Cond) ∈ TB := List.mem_filter.mpr ⟨List.mem_of_getElem? (i := 239) (by decide +kernel), by decide +kernel⟩
set_option maxRecDepth 20000 in
theorem tw_240 : (.instanceMethod yX0_size : Cond) ∈ TB := List.mem_filter.mpr ⟨List.mem_of_getElem? (i := 240) (by decide +kernel), by decide +kernel⟩
set_option maxRecDepth 20000 in
theorem tw_241 : (.selects RX0 yX0_size yX0_size : Cond) ∈ TB := List.mem_filter.mpr ⟨List.mem_of_getElem? (i := 241) (by decide +kernel), by decide +kernel⟩
set_option maxRecDepth 20000 in
theorem tw_242 : (.code yX0_size cX0_size 1 (some .int) : Cond) ∈ TB := List.mem_filter.mpr ⟨List.mem_of_getElem? (i := 242) (by decide +kernel), by decide +kernel⟩
set_option maxRecDepth 20000 in
theorem tw_243 : (.methodLink R_law 31 yX4_house : Cond) ∈ TB := List.mem_filter.mpr ⟨List.mem_of_getElem? (i := 243) (by decide +kernel), by decide +kernel⟩
set_option maxRecDepth 20000 in
theorem tw_244 : (.instanceMethod yX4_house : Cond) ∈ TB := List.mem_filter.mpr ⟨List.mem_of_getElem? (i := 244) (by decide +kernel), by decide +kernel⟩
set_option maxRecDepth 20000 in
theorem tw_245 : (.selects RX4 yX4_house yX4_house : Cond) ∈ TB := List.mem_filter.mpr ⟨List.mem_of_getElem? (i := 245) (by decide +kernel), by decide +kernel⟩
set_option maxRecDepth 20000 in
theorem tw_246 : (.code yX4_house cX4_house 3 (some .int) : Cond) ∈ TB := List.mem_filter.mpr ⟨List.mem_of_getElem? (i := 246) (by decide +kernel), by decide +kernel⟩
set_option maxRecDepth 20000 in
theorem tw_247 : (.methodLink RX4 71 yX0_has : Cond) ∈ TB := List.mem_filter.mpr ⟨List.mem_of_getElem? (i := 247) (by decide +kernel), by decide +kernel⟩
set_option maxRecDepth 20000 in
theorem tw_248 : (.instanceMethod yX0_has : Cond) ∈ TB := List.mem_filter.mpr ⟨List.mem_of_getElem? (i := 248) (by decide +kernel), by decide +kernel⟩
set_option maxRecDepth 20000 in
theorem tw_249 : (.selects RX0 yX0_has yX0_has : Cond) ∈ TB := List.mem_filter.mpr ⟨List.mem_of_getElem? (i := 249) (by decide +kernel), by decide +kernel⟩
set_option maxRecDepth 20000 in
theorem tw_250 : (.code yX0_has cX0_has 2 (some .boolean) : Cond) ∈ TB := List.mem_filter.mpr ⟨List.mem_of_getElem? (i := 250) (by decide +kernel), by decide +kernel⟩
set_option maxRecDepth 20000 in
theorem tw_251 : (.methodLink RX4 74 yX0_kindOf : Cond) ∈ TB := List.mem_filter.mpr ⟨List.mem_of_getElem? (i := 251) (by decide +kernel), by decide +kernel⟩
set_option maxRecDepth 20000 in
theorem tw_252 : (.instanceMethod yX0_kindOf : Cond) ∈ TB := List.mem_filter.mpr ⟨List.mem_of_getElem? (i := 252) (by decide +kernel), by decide +kernel⟩
set_option maxRecDepth 20000 in
theorem tw_253 : (.selects RX0 yX0_kindOf yX0_kindOf : Cond) ∈ TB := List.mem_filter.mpr ⟨List.mem_of_getElem? (i := 253) (by decide +kernel), by decide +kernel⟩
set_option maxRecDepth 20000 in
theorem tw_254 : (.code yX0_kindOf cX0_kindOf 2 (some .int) : Cond) ∈ TB := List.mem_filter.mpr ⟨List.mem_of_getElem? (i := 254) (by decide +kernel), by decide +kernel⟩
set_option maxRecDepth 20000 in
theorem tw_255 : (.methodLink RX0 63 yX0_has : Cond) ∈ TB := List.mem_filter.mpr ⟨List.mem_of_getElem? (i := 255) (by decide +kernel), by decide +kernel⟩
set_option maxRecDepth 20000 in
theorem tw_256 : (.methodLink RX4 78 yX0_stonesOf : Cond) ∈ TB := List.mem_filter.mpr ⟨List.mem_of_getElem? (i := 256) (by decide +kernel), by decide +kernel⟩
set_option maxRecDepth 20000 in
theorem tw_257 : (.instanceMethod yX0_stonesOf : Cond) ∈ TB := List.mem_filter.mpr ⟨List.mem_of_getElem? (i := 257) (by decide +kernel), by decide +kernel⟩
set_option maxRecDepth 20000 in
theorem tw_258 : (.selects RX0 yX0_stonesOf yX0_stonesOf : Cond) ∈ TB := List.mem_filter.mpr ⟨List.mem_of_getElem? (i := 258) (by decide +kernel), by decide +kernel⟩
set_option maxRecDepth 20000 in
theorem tw_259 : (.code yX0_stonesOf cX0_stonesOf 2 (some .int) : Cond) ∈ TB := List.mem_filter.mpr ⟨List.mem_of_getElem? (i := 259) (by decide +kernel), by decide +kernel⟩
set_option maxRecDepth 20000 in
theorem tw_260 : (.methodLink RX4 81 yX0_strengthOf : Cond) ∈ TB := List.mem_filter.mpr ⟨List.mem_of_getElem? (i := 260) (by decide +kernel), by decide +kernel⟩
set_option maxRecDepth 20000 in
theorem tw_261 : (.instanceMethod yX0_strengthOf : Cond) ∈ TB := List.mem_filter.mpr ⟨List.mem_of_getElem? (i := 261) (by decide +kernel), by decide +kernel⟩
set_option maxRecDepth 20000 in
theorem tw_262 : (.selects RX0 yX0_strengthOf yX0_strengthOf : Cond) ∈ TB := List.mem_filter.mpr ⟨List.mem_of_getElem? (i := 262) (by decide +kernel), by decide +kernel⟩
set_option maxRecDepth 20000 in
theorem tw_263 : (.code yX0_strengthOf cX0_strengthOf 2 (some .int) : Cond) ∈ TB := List.mem_filter.mpr ⟨List.mem_of_getElem? (i := 263) (by decide +kernel), by decide +kernel⟩
set_option maxRecDepth 20000 in
theorem tw_264 : (.methodLink RX4 84 yX0_deedOf : Cond) ∈ TB := List.mem_filter.mpr ⟨List.mem_of_getElem? (i := 264) (by decide +kernel), by decide +kernel⟩
set_option maxRecDepth 20000 in
theorem tw_265 : (.instanceMethod yX0_deedOf : Cond) ∈ TB := List.mem_filter.mpr ⟨List.mem_of_getElem? (i := 265) (by decide +kernel), by decide +kernel⟩
set_option maxRecDepth 20000 in
theorem tw_266 : (.selects RX0 yX0_deedOf yX0_deedOf : Cond) ∈ TB := List.mem_filter.mpr ⟨List.mem_of_getElem? (i := 266) (by decide +kernel), by decide +kernel⟩
set_option maxRecDepth 20000 in
theorem tw_267 : (.code yX0_deedOf cX0_deedOf 2 (some .int) : Cond) ∈ TB := List.mem_filter.mpr ⟨List.mem_of_getElem? (i := 267) (by decide +kernel), by decide +kernel⟩
set_option maxRecDepth 20000 in
theorem tw_268 : (.methodLink RX4 87 yX0_stands : Cond) ∈ TB := List.mem_filter.mpr ⟨List.mem_of_getElem? (i := 268) (by decide +kernel), by decide +kernel⟩
set_option maxRecDepth 20000 in
theorem tw_269 : (.instanceMethod yX0_stands : Cond) ∈ TB := List.mem_filter.mpr ⟨List.mem_of_getElem? (i := 269) (by decide +kernel), by decide +kernel⟩
set_option maxRecDepth 20000 in
theorem tw_270 : (.selects RX0 yX0_stands yX0_stands : Cond) ∈ TB := List.mem_filter.mpr ⟨List.mem_of_getElem? (i := 270) (by decide +kernel), by decide +kernel⟩
set_option maxRecDepth 20000 in
theorem tw_271 : (.code yX0_stands cX0_stands 2 (some .boolean) : Cond) ∈ TB := List.mem_filter.mpr ⟨List.mem_of_getElem? (i := 271) (by decide +kernel), by decide +kernel⟩
set_option maxRecDepth 20000 in
theorem tw_272 : (.methodLink RX4 90 yX0_loadOf : Cond) ∈ TB := List.mem_filter.mpr ⟨List.mem_of_getElem? (i := 272) (by decide +kernel), by decide +kernel⟩
set_option maxRecDepth 20000 in
theorem tw_273 : (.instanceMethod yX0_loadOf : Cond) ∈ TB := List.mem_filter.mpr ⟨List.mem_of_getElem? (i := 273) (by decide +kernel), by decide +kernel⟩
set_option maxRecDepth 20000 in
theorem tw_274 : (.selects RX0 yX0_loadOf yX0_loadOf : Cond) ∈ TB := List.mem_filter.mpr ⟨List.mem_of_getElem? (i := 274) (by decide +kernel), by decide +kernel⟩
set_option maxRecDepth 20000 in
theorem tw_275 : (.code yX0_loadOf cX0_loadOf 2 (some .int) : Cond) ∈ TB := List.mem_filter.mpr ⟨List.mem_of_getElem? (i := 275) (by decide +kernel), by decide +kernel⟩
set_option maxRecDepth 20000 in
theorem tw_276 : (.methodLink RX0 67 yX0_stands : Cond) ∈ TB := List.mem_filter.mpr ⟨List.mem_of_getElem? (i := 276) (by decide +kernel), by decide +kernel⟩
set_option maxRecDepth 20000 in
theorem tw_277 : (.methodLink RX4 93 yX0_givesOf : Cond) ∈ TB := List.mem_filter.mpr ⟨List.mem_of_getElem? (i := 277) (by decide +kernel), by decide +kernel⟩
set_option maxRecDepth 20000 in
theorem tw_278 : (.instanceMethod yX0_givesOf : Cond) ∈ TB := List.mem_filter.mpr ⟨List.mem_of_getElem? (i := 278) (by decide +kernel), by decide +kernel⟩
set_option maxRecDepth 20000 in
theorem tw_279 : (.selects RX0 yX0_givesOf yX0_givesOf : Cond) ∈ TB := List.mem_filter.mpr ⟨List.mem_of_getElem? (i := 279) (by decide +kernel), by decide +kernel⟩
set_option maxRecDepth 20000 in
theorem tw_280 : (.code yX0_givesOf cX0_givesOf 2 (some .int) : Cond) ∈ TB := List.mem_filter.mpr ⟨List.mem_of_getElem? (i := 280) (by decide +kernel), by decide +kernel⟩
set_option maxRecDepth 20000 in
theorem tw_281 : (.methodLink RX0 70 yX0_given : Cond) ∈ TB := List.mem_filter.mpr ⟨List.mem_of_getElem? (i := 281) (by decide +kernel), by decide +kernel⟩
set_option maxRecDepth 20000 in
theorem tw_282 : (.static yX0_given : Cond) ∈ TB := List.mem_filter.mpr ⟨List.mem_of_getElem? (i := 282) (by decide +kernel), by decide +kernel⟩
set_option maxRecDepth 20000 in
theorem tw_283 : (.code yX0_given cX0_given 2 (some .int) : Cond) ∈ TB := List.mem_filter.mpr ⟨List.mem_of_getElem? (i := 283) (by decide +kernel), by decide +kernel⟩
set_option maxRecDepth 20000 in
theorem tw_284 : (.methodLink RX4 96 yX0_groundOf : Cond) ∈ TB := List.mem_filter.mpr ⟨List.mem_of_getElem? (i := 284) (by decide +kernel), by decide +kernel⟩
set_option maxRecDepth 20000 in
theorem tw_285 : (.instanceMethod yX0_groundOf : Cond) ∈ TB := List.mem_filter.mpr ⟨List.mem_of_getElem? (i := 285) (by decide +kernel), by decide +kernel⟩
set_option maxRecDepth 20000 in
theorem tw_286 : (.selects RX0 yX0_groundOf yX0_groundOf : Cond) ∈ TB := List.mem_filter.mpr ⟨List.mem_of_getElem? (i := 286) (by decide +kernel), by decide +kernel⟩
set_option maxRecDepth 20000 in
theorem tw_287 : (.code yX0_groundOf cX0_groundOf 2 (some .int) : Cond) ∈ TB := List.mem_filter.mpr ⟨List.mem_of_getElem? (i := 287) (by decide +kernel), by decide +kernel⟩
set_option maxRecDepth 20000 in
theorem tw_288 : (.methodLink RX0 73 yX0_loadOf : Cond) ∈ TB := List.mem_filter.mpr ⟨List.mem_of_getElem? (i := 288) (by decide +kernel), by decide +kernel⟩
set_option maxRecDepth 20000 in
theorem tw_289 : (.methodLink RX0 76 yX0_givesOf : Cond) ∈ TB := List.mem_filter.mpr ⟨List.mem_of_getElem? (i := 289) (by decide +kernel), by decide +kernel⟩
set_option maxRecDepth 20000 in
theorem tw_290 : (.methodLink R_law 36 yX4_hour : Cond) ∈ TB := List.mem_filter.mpr ⟨List.mem_of_getElem? (i := 290) (by decide +kernel), by decide +kernel⟩
set_option maxRecDepth 20000 in
theorem tw_291 : (.instanceMethod yX4_hour : Cond) ∈ TB := List.mem_filter.mpr ⟨List.mem_of_getElem? (i := 291) (by decide +kernel), by decide +kernel⟩
set_option maxRecDepth 20000 in
theorem tw_292 : (.selects RX4 yX4_hour yX4_hour : Cond) ∈ TB := List.mem_filter.mpr ⟨List.mem_of_getElem? (i := 292) (by decide +kernel), by decide +kernel⟩
set_option maxRecDepth 20000 in
theorem tw_293 : (.code yX4_hour cX4_hour 1 (some .int) : Cond) ∈ TB := List.mem_filter.mpr ⟨List.mem_of_getElem? (i := 293) (by decide +kernel), by decide +kernel⟩
set_option maxRecDepth 20000 in
theorem tw_294 : (.methodLink RX4 99 yX1_remember : Cond) ∈ TB := List.mem_filter.mpr ⟨List.mem_of_getElem? (i := 294) (by decide +kernel), by decide +kernel⟩
set_option maxRecDepth 20000 in
theorem tw_295 : (.instanceMethod yX1_remember : Cond) ∈ TB := List.mem_filter.mpr ⟨List.mem_of_getElem? (i := 295) (by decide +kernel), by decide +kernel⟩
set_option maxRecDepth 20000 in
theorem tw_296 : (.selects RX1 yX1_remember yX1_remember : Cond) ∈ TB := List.mem_filter.mpr ⟨List.mem_of_getElem? (i := 296) (by decide +kernel), by decide +kernel⟩
set_option maxRecDepth 20000 in
theorem tw_297 : (.code yX1_remember cX1_remember 2 none : Cond) ∈ TB := List.mem_filter.mpr ⟨List.mem_of_getElem? (i := 297) (by decide +kernel), by decide +kernel⟩
set_option maxRecDepth 20000 in
theorem tw_298 : (.methodLink RX1 25 yX0_copyFrom : Cond) ∈ TB := List.mem_filter.mpr ⟨List.mem_of_getElem? (i := 298) (by decide +kernel), by decide +kernel⟩
set_option maxRecDepth 20000 in
theorem tw_299 : (.instanceMethod yX0_copyFrom : Cond) ∈ TB := List.mem_filter.mpr ⟨List.mem_of_getElem? (i := 299) (by decide +kernel), by decide +kernel⟩
set_option maxRecDepth 20000 in
theorem tw_300 : (.selects RX0 yX0_copyFrom yX0_copyFrom : Cond) ∈ TB := List.mem_filter.mpr ⟨List.mem_of_getElem? (i := 300) (by decide +kernel), by decide +kernel⟩
set_option maxRecDepth 20000 in
theorem tw_301 : (.code yX0_copyFrom cX0_copyFrom 2 none : Cond) ∈ TB := List.mem_filter.mpr ⟨List.mem_of_getElem? (i := 301) (by decide +kernel), by decide +kernel⟩
set_option maxRecDepth 20000 in
theorem tw_302 : (.methodLink RX0 30 arraycopyName : Cond) ∈ TB := List.mem_filter.mpr ⟨List.mem_of_getElem? (i := 302) (by decide +kernel), by decide +kernel⟩
set_option maxRecDepth 20000 in
theorem tw_303 : (.static arraycopyName : Cond) ∈ TB := List.mem_filter.mpr ⟨List.mem_of_getElem? (i := 303) (by decide +kernel), by decide +kernel⟩
set_option maxRecDepth 20000 in
theorem tw_304 : (.native arraycopyName : Cond) ∈ TB := List.mem_filter.mpr ⟨List.mem_of_getElem? (i := 304) (by decide +kernel), by decide +kernel⟩
set_option maxRecDepth 20000 in
theorem tw_305 : (.methodLink RX4 103 yX0_passHour : Cond) ∈ TB := List.mem_filter.mpr ⟨List.mem_of_getElem? (i := 305) (by decide +kernel), by decide +kernel⟩
set_option maxRecDepth 20000 in
theorem tw_306 : (.instanceMethod yX0_passHour : Cond) ∈ TB := List.mem_filter.mpr ⟨List.mem_of_getElem? (i := 306) (by decide +kernel), by decide +kernel⟩
set_option maxRecDepth 20000 in
theorem tw_307 : (.selects RX0 yX0_passHour yX0_passHour : Cond) ∈ TB := List.mem_filter.mpr ⟨List.mem_of_getElem? (i := 307) (by decide +kernel), by decide +kernel⟩
set_option maxRecDepth 20000 in
theorem tw_308 : (.code yX0_passHour cX0_passHour 2 (some .int) : Cond) ∈ TB := List.mem_filter.mpr ⟨List.mem_of_getElem? (i := 308) (by decide +kernel), by decide +kernel⟩
set_option maxRecDepth 20000 in
theorem tw_309 : (.methodLink RX0 79 yX0_passLoads : Cond) ∈ TB := List.mem_filter.mpr ⟨List.mem_of_getElem? (i := 309) (by decide +kernel), by decide +kernel⟩
set_option maxRecDepth 20000 in
theorem tw_311 : (.instanceMethod yX0_passLoads : Cond) ∈ TB := List.mem_filter.mpr ⟨List.mem_of_getElem? (i := 311) (by decide +kernel), by decide +kernel⟩
set_option maxRecDepth 20000 in
theorem tw_312 : (.code yX0_passLoads cX0_passLoads 3 none : Cond) ∈ TB := List.mem_filter.mpr ⟨List.mem_of_getElem? (i := 312) (by decide +kernel), by decide +kernel⟩
set_option maxRecDepth 20000 in
theorem tw_313 : (.methodLink RX0 93 yX0_supportOf : Cond) ∈ TB := List.mem_filter.mpr ⟨List.mem_of_getElem? (i := 313) (by decide +kernel), by decide +kernel⟩
set_option maxRecDepth 20000 in
theorem tw_315 : (.instanceMethod yX0_supportOf : Cond) ∈ TB := List.mem_filter.mpr ⟨List.mem_of_getElem? (i := 315) (by decide +kernel), by decide +kernel⟩
set_option maxRecDepth 20000 in
theorem tw_316 : (.code yX0_supportOf cX0_supportOf 2 (some .int) : Cond) ∈ TB := List.mem_filter.mpr ⟨List.mem_of_getElem? (i := 316) (by decide +kernel), by decide +kernel⟩
set_option maxRecDepth 20000 in
theorem tw_317 : (.methodLink RX0 82 yX0_fallingBits : Cond) ∈ TB := List.mem_filter.mpr ⟨List.mem_of_getElem? (i := 317) (by decide +kernel), by decide +kernel⟩
set_option maxRecDepth 20000 in
theorem tw_319 : (.instanceMethod yX0_fallingBits : Cond) ∈ TB := List.mem_filter.mpr ⟨List.mem_of_getElem? (i := 319) (by decide +kernel), by decide +kernel⟩
set_option maxRecDepth 20000 in
theorem tw_320 : (.code yX0_fallingBits cX0_fallingBits 6 (some .int) : Cond) ∈ TB := List.mem_filter.mpr ⟨List.mem_of_getElem? (i := 320) (by decide +kernel), by decide +kernel⟩
set_option maxRecDepth 20000 in
theorem tw_321 : (.methodLink RX0 85 yJ6_bitCount : Cond) ∈ TB := List.mem_filter.mpr ⟨List.mem_of_getElem? (i := 321) (by decide +kernel), by decide +kernel⟩
set_option maxRecDepth 20000 in
theorem tw_322 : (.static yJ6_bitCount : Cond) ∈ TB := List.mem_filter.mpr ⟨List.mem_of_getElem? (i := 322) (by decide +kernel), by decide +kernel⟩
set_option maxRecDepth 20000 in
theorem tw_323 : (.code yJ6_bitCount cJ6_bitCount 1 (some .int) : Cond) ∈ TB := List.mem_filter.mpr ⟨List.mem_of_getElem? (i := 323) (by decide +kernel), by decide +kernel⟩
set_option maxRecDepth 20000 in
theorem tw_324 : (.constant "java/lang/Integer" 265 1431655765 : Cond) ∈ TB := List.mem_filter.mpr ⟨List.mem_of_getElem? (i := 324) (by decide +kernel), by decide +kernel⟩
set_option maxRecDepth 20000 in
theorem tw_325 : (.constant "java/lang/Integer" 266 858993459 : Cond) ∈ TB := List.mem_filter.mpr ⟨List.mem_of_getElem? (i := 325) (by decide +kernel), by decide +kernel⟩
set_option maxRecDepth 20000 in
theorem tw_326 : (.constant "java/lang/Integer" 267 252645135 : Cond) ∈ TB := List.mem_filter.mpr ⟨List.mem_of_getElem? (i := 326) (by decide +kernel), by decide +kernel⟩
set_option maxRecDepth 20000 in
theorem tw_327 : (.methodLink R_law 40 yX4_bring : Cond) ∈ TB := List.mem_filter.mpr ⟨List.mem_of_getElem? (i := 327) (by decide +kernel), by decide +kernel⟩
set_option maxRecDepth 20000 in
theorem tw_328 : (.instanceMethod yX4_bring : Cond) ∈ TB := List.mem_filter.mpr ⟨List.mem_of_getElem? (i := 328) (by decide +kernel), by decide +kernel⟩
set_option maxRecDepth 20000 in
theorem tw_329 : (.selects RX4 yX4_bring yX4_bring : Cond) ∈ TB := List.mem_filter.mpr ⟨List.mem_of_getElem? (i := 329) (by decide +kernel), by decide +kernel⟩
set_option maxRecDepth 20000 in
theorem tw_330 : (.code yX4_bring cX4_bring 3 (some .int) : Cond) ∈ TB := List.mem_filter.mpr ⟨List.mem_of_getElem? (i := 330) (by decide +kernel), by decide +kernel⟩
set_option maxRecDepth 20000 in
theorem tw_331 : (.methodLink RX4 106 yX4_isCarried : Cond) ∈ TB := List.mem_filter.mpr ⟨List.mem_of_getElem? (i := 331) (by decide +kernel), by decide +kernel⟩
set_option maxRecDepth 20000 in
theorem tw_332 : (.static yX4_isCarried : Cond) ∈ TB := List.mem_filter.mpr ⟨List.mem_of_getElem? (i := 332) (by decide +kernel), by decide +kernel⟩
set_option maxRecDepth 20000 in
theorem tw_333 : (.code yX4_isCarried cX4_isCarried 1 (some .boolean) : Cond) ∈ TB := List.mem_filter.mpr ⟨List.mem_of_getElem? (i := 333) (by decide +kernel), by decide +kernel⟩
set_option maxRecDepth 20000 in
theorem tw_334 : (.methodLink RX4 109 yX0_canAdd : Cond) ∈ TB := List.mem_filter.mpr ⟨List.mem_of_getElem? (i := 334) (by decide +kernel), by decide +kernel⟩
set_option maxRecDepth 20000 in
theorem tw_335 : (.instanceMethod yX0_canAdd : Cond) ∈ TB := List.mem_filter.mpr ⟨List.mem_of_getElem? (i := 335) (by decide +kernel), by decide +kernel⟩
set_option maxRecDepth 20000 in
theorem tw_336 : (.selects RX0 yX0_canAdd yX0_canAdd : Cond) ∈ TB := List.mem_filter.mpr ⟨List.mem_of_getElem? (i := 336) (by decide +kernel), by decide +kernel⟩
set_option maxRecDepth 20000 in
theorem tw_337 : (.code yX0_canAdd cX0_canAdd 3 (some .boolean) : Cond) ∈ TB := List.mem_filter.mpr ⟨List.mem_of_getElem? (i := 337) (by decide +kernel), by decide +kernel⟩
set_option maxRecDepth 20000 in
theorem tw_339 : (.methodLink RX4 113 yX0_addStones : Cond) ∈ TB := List.mem_filter.mpr ⟨List.mem_of_getElem? (i := 339) (by decide +kernel), by decide +kernel⟩
set_option maxRecDepth 20000 in
theorem tw_340 : (.instanceMethod yX0_addStones : Cond) ∈ TB := List.mem_filter.mpr ⟨List.mem_of_getElem? (i := 340) (by decide +kernel), by decide +kernel⟩
set_option maxRecDepth 20000 in
theorem tw_341 : (.selects RX0 yX0_addStones yX0_addStones : Cond) ∈ TB := List.mem_filter.mpr ⟨List.mem_of_getElem? (i := 341) (by decide +kernel), by decide +kernel⟩
set_option maxRecDepth 20000 in
theorem tw_342 : (.code yX0_addStones cX0_addStones 3 (some .boolean) : Cond) ∈ TB := List.mem_filter.mpr ⟨List.mem_of_getElem? (i := 342) (by decide +kernel), by decide +kernel⟩
set_option maxRecDepth 20000 in
theorem tw_343 : (.methodLink RX0 99 yX0_canAdd : Cond) ∈ TB := List.mem_filter.mpr ⟨List.mem_of_getElem? (i := 343) (by decide +kernel), by decide +kernel⟩
set_option maxRecDepth 20000 in
theorem tw_344 : (.methodLink R_law 44 yX4_take : Cond) ∈ TB := List.mem_filter.mpr ⟨List.mem_of_getElem? (i := 344) (by decide +kernel), by decide +kernel⟩
set_option maxRecDepth 20000 in
theorem tw_345 : (.instanceMethod yX4_take : Cond) ∈ TB := List.mem_filter.mpr ⟨List.mem_of_getElem? (i := 345) (by decide +kernel), by decide +kernel⟩
set_option maxRecDepth 20000 in
theorem tw_346 : (.selects RX4 yX4_take yX4_take : Cond) ∈ TB := List.mem_filter.mpr ⟨List.mem_of_getElem? (i := 346) (by decide +kernel), by decide +kernel⟩
set_option maxRecDepth 20000 in
theorem tw_347 : (.code yX4_take cX4_take 3 (some .int) : Cond) ∈ TB := List.mem_filter.mpr ⟨List.mem_of_getElem? (i := 347) (by decide +kernel), by decide +kernel⟩
set_option maxRecDepth 20000 in
theorem tw_348 : (.methodLink RX4 116 yX0_canRemove : Cond) ∈ TB := List.mem_filter.mpr ⟨List.mem_of_getElem? (i := 348) (by decide +kernel), by decide +kernel⟩
set_option maxRecDepth 20000 in
theorem tw_349 : (.instanceMethod yX0_canRemove : Cond) ∈ TB := List.mem_filter.mpr ⟨List.mem_of_getElem? (i := 349) (by decide +kernel), by decide +kernel⟩
set_option maxRecDepth 20000 in
theorem tw_350 : (.selects RX0 yX0_canRemove yX0_canRemove : Cond) ∈ TB := List.mem_filter.mpr ⟨List.mem_of_getElem? (i := 350) (by decide +kernel), by decide +kernel⟩
set_option maxRecDepth 20000 in
theorem tw_351 : (.code yX0_canRemove cX0_canRemove 3 (some .boolean) : Cond) ∈ TB := List.mem_filter.mpr ⟨List.mem_of_getElem? (i := 351) (by decide +kernel), by decide +kernel⟩
set_option maxRecDepth 20000 in
theorem tw_352 : (.methodLink RX4 119 yX0_removeStones : Cond) ∈ TB := List.mem_filter.mpr ⟨List.mem_of_getElem? (i := 352) (by decide +kernel), by decide +kernel⟩
set_option maxRecDepth 20000 in
theorem tw_353 : (.instanceMethod yX0_removeStones : Cond) ∈ TB := List.mem_filter.mpr ⟨List.mem_of_getElem? (i := 353) (by decide +kernel), by decide +kernel⟩
set_option maxRecDepth 20000 in
theorem tw_354 : (.selects RX0 yX0_removeStones yX0_removeStones : Cond) ∈ TB := List.mem_filter.mpr ⟨List.mem_of_getElem? (i := 354) (by decide +kernel), by decide +kernel⟩
set_option maxRecDepth 20000 in
theorem tw_355 : (.code yX0_removeStones cX0_removeStones 3 (some .boolean) : Cond) ∈ TB := List.mem_filter.mpr ⟨List.mem_of_getElem? (i := 355) (by decide +kernel), by decide +kernel⟩
set_option maxRecDepth 20000 in
theorem tw_356 : (.methodLink RX0 103 yX0_canRemove : Cond) ∈ TB := List.mem_filter.mpr ⟨List.mem_of_getElem? (i := 356) (by decide +kernel), by decide +kernel⟩
set_option maxRecDepth 20000 in
theorem tw_357 : (.methodLink R_law 48 yX4_deed : Cond) ∈ TB := List.mem_filter.mpr ⟨List.mem_of_getElem? (i := 357) (by decide +kernel), by decide +kernel⟩
set_option maxRecDepth 20000 in
theorem tw_358 : (.instanceMethod yX4_deed : Cond) ∈ TB := List.mem_filter.mpr ⟨List.mem_of_getElem? (i := 358) (by decide +kernel), by decide +kernel⟩
set_option maxRecDepth 20000 in
theorem tw_359 : (.selects RX4 yX4_deed yX4_deed : Cond) ∈ TB := List.mem_filter.mpr ⟨List.mem_of_getElem? (i := 359) (by decide +kernel), by decide +kernel⟩
set_option maxRecDepth 20000 in
theorem tw_360 : (.code yX4_deed cX4_deed 4 (some .int) : Cond) ∈ TB := List.mem_filter.mpr ⟨List.mem_of_getElem? (i := 360) (by decide +kernel), by decide +kernel⟩
set_option maxRecDepth 20000 in
theorem tw_361 : (.methodLink RX4 122 yX0_isDeed : Cond) ∈ TB := List.mem_filter.mpr ⟨List.mem_of_getElem? (i := 361) (by decide +kernel), by decide +kernel⟩
set_option maxRecDepth 20000 in
theorem tw_362 : (.static yX0_isDeed : Cond) ∈ TB := List.mem_filter.mpr ⟨List.mem_of_getElem? (i := 362) (by decide +kernel), by decide +kernel⟩
set_option maxRecDepth 20000 in
theorem tw_363 : (.code yX0_isDeed cX0_isDeed 1 (some .boolean) : Cond) ∈ TB := List.mem_filter.mpr ⟨List.mem_of_getElem? (i := 363) (by decide +kernel), by decide +kernel⟩
set_option maxRecDepth 20000 in
theorem tw_364 : (.methodLink RX4 125 yX0_writeDeed : Cond) ∈ TB := List.mem_filter.mpr ⟨List.mem_of_getElem? (i := 364) (by decide +kernel), by decide +kernel⟩
set_option maxRecDepth 20000 in
theorem tw_365 : (.instanceMethod yX0_writeDeed : Cond) ∈ TB := List.mem_filter.mpr ⟨List.mem_of_getElem? (i := 365) (by decide +kernel), by decide +kernel⟩
set_option maxRecDepth 20000 in
theorem tw_366 : (.selects RX0 yX0_writeDeed yX0_writeDeed : Cond) ∈ TB := List.mem_filter.mpr ⟨List.mem_of_getElem? (i := 366) (by decide +kernel), by decide +kernel⟩
set_option maxRecDepth 20000 in
theorem tw_367 : (.code yX0_writeDeed cX0_writeDeed 3 (some .boolean) : Cond) ∈ TB := List.mem_filter.mpr ⟨List.mem_of_getElem? (i := 367) (by decide +kernel), by decide +kernel⟩
set_option maxRecDepth 20000 in
theorem tw_368 : (.methodLink RX0 106 yX0_isDeed : Cond) ∈ TB := List.mem_filter.mpr ⟨List.mem_of_getElem? (i := 368) (by decide +kernel), by decide +kernel⟩
set_option maxRecDepth 20000 in
theorem tw_369 : (.methodLink R_law 52 yX4_build : Cond) ∈ TB := List.mem_filter.mpr ⟨List.mem_of_getElem? (i := 369) (by decide +kernel), by decide +kernel⟩
set_option maxRecDepth 20000 in
theorem tw_370 : (.instanceMethod yX4_build : Cond) ∈ TB := List.mem_filter.mpr ⟨List.mem_of_getElem? (i := 370) (by decide +kernel), by decide +kernel⟩
set_option maxRecDepth 20000 in
theorem tw_371 : (.selects RX4 yX4_build yX4_build : Cond) ∈ TB := List.mem_filter.mpr ⟨List.mem_of_getElem? (i := 371) (by decide +kernel), by decide +kernel⟩
set_option maxRecDepth 20000 in
theorem tw_372 : (.code yX4_build cX4_build 2 (some .int) : Cond) ∈ TB := List.mem_filter.mpr ⟨List.mem_of_getElem? (i := 372) (by decide +kernel), by decide +kernel⟩
set_option maxRecDepth 20000 in
theorem tw_373 : (.methodLink RX4 128 yX0_raise : Cond) ∈ TB := List.mem_filter.mpr ⟨List.mem_of_getElem? (i := 373) (by decide +kernel), by decide +kernel⟩
set_option maxRecDepth 20000 in
theorem tw_374 : (.instanceMethod yX0_raise : Cond) ∈ TB := List.mem_filter.mpr ⟨List.mem_of_getElem? (i := 374) (by decide +kernel), by decide +kernel⟩
set_option maxRecDepth 20000 in
theorem tw_375 : (.selects RX0 yX0_raise yX0_raise : Cond) ∈ TB := List.mem_filter.mpr ⟨List.mem_of_getElem? (i := 375) (by decide +kernel), by decide +kernel⟩
set_option maxRecDepth 20000 in
theorem tw_376 : (.code yX0_raise cX0_raise 2 (some .boolean) : Cond) ∈ TB := List.mem_filter.mpr ⟨List.mem_of_getElem? (i := 376) (by decide +kernel), by decide +kernel⟩
set_option maxRecDepth 20000 in
theorem tw_377 : (.methodLink R_law 56 yX4_undo : Cond) ∈ TB := List.mem_filter.mpr ⟨List.mem_of_getElem? (i := 377) (by decide +kernel), by decide +kernel⟩
set_option maxRecDepth 20000 in
theorem tw_378 : (.instanceMethod yX4_undo : Cond) ∈ TB := List.mem_filter.mpr ⟨List.mem_of_getElem? (i := 378) (by decide +kernel), by decide +kernel⟩
set_option maxRecDepth 20000 in
theorem tw_379 : (.selects RX4 yX4_undo yX4_undo : Cond) ∈ TB := List.mem_filter.mpr ⟨List.mem_of_getElem? (i := 379) (by decide +kernel), by decide +kernel⟩
set_option maxRecDepth 20000 in
theorem tw_380 : (.code yX4_undo cX4_undo 1 (some .int) : Cond) ∈ TB := List.mem_filter.mpr ⟨List.mem_of_getElem? (i := 380) (by decide +kernel), by decide +kernel⟩
set_option maxRecDepth 20000 in
theorem tw_381 : (.methodLink RX4 131 yX1_size : Cond) ∈ TB := List.mem_filter.mpr ⟨List.mem_of_getElem? (i := 381) (by decide +kernel), by decide +kernel⟩
set_option maxRecDepth 20000 in
theorem tw_382 : (.instanceMethod yX1_size : Cond) ∈ TB := List.mem_filter.mpr ⟨List.mem_of_getElem? (i := 382) (by decide +kernel), by decide +kernel⟩
set_option maxRecDepth 20000 in
theorem tw_383 : (.selects RX1 yX1_size yX1_size : Cond) ∈ TB := List.mem_filter.mpr ⟨List.mem_of_getElem? (i := 383) (by decide +kernel), by decide +kernel⟩
set_option maxRecDepth 20000 in
theorem tw_384 : (.code yX1_size cX1_size 1 (some .int) : Cond) ∈ TB := List.mem_filter.mpr ⟨List.mem_of_getElem? (i := 384) (by decide +kernel), by decide +kernel⟩
set_option maxRecDepth 20000 in
theorem tw_385 : (.methodLink RX4 132 yX1_goBack : Cond) ∈ TB := List.mem_filter.mpr ⟨List.mem_of_getElem? (i := 385) (by decide +kernel), by decide +kernel⟩
set_option maxRecDepth 20000 in
theorem tw_386 : (.instanceMethod yX1_goBack : Cond) ∈ TB := List.mem_filter.mpr ⟨List.mem_of_getElem? (i := 386) (by decide +kernel), by decide +kernel⟩
set_option maxRecDepth 20000 in
theorem tw_387 : (.selects RX1 yX1_goBack yX1_goBack : Cond) ∈ TB := List.mem_filter.mpr ⟨List.mem_of_getElem? (i := 387) (by decide +kernel), by decide +kernel⟩
set_option maxRecDepth 20000 in
theorem tw_388 : (.code yX1_goBack cX1_goBack 2 none : Cond) ∈ TB := List.mem_filter.mpr ⟨List.mem_of_getElem? (i := 388) (by decide +kernel), by decide +kernel⟩
set_option maxRecDepth 20000 in
theorem tw_389 : (.methodLink R_law 60 yX4_later : Cond) ∈ TB := List.mem_filter.mpr ⟨List.mem_of_getElem? (i := 389) (by decide +kernel), by decide +kernel⟩
set_option maxRecDepth 20000 in
theorem tw_390 : (.instanceMethod yX4_later : Cond) ∈ TB := List.mem_filter.mpr ⟨List.mem_of_getElem? (i := 390) (by decide +kernel), by decide +kernel⟩
set_option maxRecDepth 20000 in
theorem tw_391 : (.selects RX4 yX4_later yX4_later : Cond) ∈ TB := List.mem_filter.mpr ⟨List.mem_of_getElem? (i := 391) (by decide +kernel), by decide +kernel⟩
set_option maxRecDepth 20000 in
theorem tw_392 : (.code yX4_later cX4_later 4 (some .int) : Cond) ∈ TB := List.mem_filter.mpr ⟨List.mem_of_getElem? (i := 392) (by decide +kernel), by decide +kernel⟩
set_option maxRecDepth 20000 in
theorem tw_393 : (.methodLink RX4 135 yX4_isHalf : Cond) ∈ TB := List.mem_filter.mpr ⟨List.mem_of_getElem? (i := 393) (by decide +kernel), by decide +kernel⟩
set_option maxRecDepth 20000 in
theorem tw_394 : (.static yX4_isHalf : Cond) ∈ TB := List.mem_filter.mpr ⟨List.mem_of_getElem? (i := 394) (by decide +kernel), by decide +kernel⟩
set_option maxRecDepth 20000 in
theorem tw_395 : (.code yX4_isHalf cX4_isHalf 1 (some .boolean) : Cond) ∈ TB := List.mem_filter.mpr ⟨List.mem_of_getElem? (i := 395) (by decide +kernel), by decide +kernel⟩
set_option maxRecDepth 20000 in
theorem tw_396 : (.methodLink RX4 138 yX0_copyFrom : Cond) ∈ TB := List.mem_filter.mpr ⟨List.mem_of_getElem? (i := 396) (by decide +kernel), by decide +kernel⟩
set_option maxRecDepth 20000 in
theorem tw_397 : (.methodLink RX4 141 yX0_passHours : Cond) ∈ TB := List.mem_filter.mpr ⟨List.mem_of_getElem? (i := 397) (by decide +kernel), by decide +kernel⟩
set_option maxRecDepth 20000 in
theorem tw_398 : (.instanceMethod yX0_passHours : Cond) ∈ TB := List.mem_filter.mpr ⟨List.mem_of_getElem? (i := 398) (by decide +kernel), by decide +kernel⟩
set_option maxRecDepth 20000 in
theorem tw_399 : (.selects RX0 yX0_passHours yX0_passHours : Cond) ∈ TB := List.mem_filter.mpr ⟨List.mem_of_getElem? (i := 399) (by decide +kernel), by decide +kernel⟩
set_option maxRecDepth 20000 in
theorem tw_400 : (.code yX0_passHours cX0_passHours 3 none : Cond) ∈ TB := List.mem_filter.mpr ⟨List.mem_of_getElem? (i := 400) (by decide +kernel), by decide +kernel⟩
set_option maxRecDepth 20000 in
theorem tw_401 : (.methodLink RX0 90 yX0_passHour : Cond) ∈ TB := List.mem_filter.mpr ⟨List.mem_of_getElem? (i := 401) (by decide +kernel), by decide +kernel⟩
set_option maxRecDepth 20000 in
theorem tw_402 : (.methodLink R_law 65 yX4_standing : Cond) ∈ TB := List.mem_filter.mpr ⟨List.mem_of_getElem? (i := 402) (by decide +kernel), by decide +kernel⟩
set_option maxRecDepth 20000 in
theorem tw_403 : (.instanceMethod yX4_standing : Cond) ∈ TB := List.mem_filter.mpr ⟨List.mem_of_getElem? (i := 403) (by decide +kernel), by decide +kernel⟩
set_option maxRecDepth 20000 in
theorem tw_404 : (.selects RX4 yX4_standing yX4_standing : Cond) ∈ TB := List.mem_filter.mpr ⟨List.mem_of_getElem? (i := 404) (by decide +kernel), by decide +kernel⟩
set_option maxRecDepth 20000 in
theorem tw_405 : (.code yX4_standing cX4_standing 2 (some .int) : Cond) ∈ TB := List.mem_filter.mpr ⟨List.mem_of_getElem? (i := 405) (by decide +kernel), by decide +kernel⟩
set_option maxRecDepth 20000 in
theorem tw_406 : (.methodLink RX4 145 yX0_standingBits : Cond) ∈ TB := List.mem_filter.mpr ⟨List.mem_of_getElem? (i := 406) (by decide +kernel), by decide +kernel⟩
set_option maxRecDepth 20000 in
theorem tw_407 : (.instanceMethod yX0_standingBits : Cond) ∈ TB := List.mem_filter.mpr ⟨List.mem_of_getElem? (i := 407) (by decide +kernel), by decide +kernel⟩
set_option maxRecDepth 20000 in
theorem tw_408 : (.selects RX0 yX0_standingBits yX0_standingBits : Cond) ∈ TB := List.mem_filter.mpr ⟨List.mem_of_getElem? (i := 408) (by decide +kernel), by decide +kernel⟩
set_option maxRecDepth 20000 in
theorem tw_409 : (.code yX0_standingBits cX0_standingBits 1 (some .int) : Cond) ∈ TB := List.mem_filter.mpr ⟨List.mem_of_getElem? (i := 409) (by decide +kernel), by decide +kernel⟩
set_option maxRecDepth 20000 in
theorem tw_410 : (.methodLink R_law 69 yX4_falls : Cond) ∈ TB := List.mem_filter.mpr ⟨List.mem_of_getElem? (i := 410) (by decide +kernel), by decide +kernel⟩
set_option maxRecDepth 20000 in
theorem tw_411 : (.instanceMethod yX4_falls : Cond) ∈ TB := List.mem_filter.mpr ⟨List.mem_of_getElem? (i := 411) (by decide +kernel), by decide +kernel⟩
set_option maxRecDepth 20000 in
theorem tw_412 : (.selects RX4 yX4_falls yX4_falls : Cond) ∈ TB := List.mem_filter.mpr ⟨List.mem_of_getElem? (i := 412) (by decide +kernel), by decide +kernel⟩
set_option maxRecDepth 20000 in
theorem tw_413 : (.code yX4_falls cX4_falls 3 (some .int) : Cond) ∈ TB := List.mem_filter.mpr ⟨List.mem_of_getElem? (i := 413) (by decide +kernel), by decide +kernel⟩
set_option maxRecDepth 20000 in
theorem tw_414 : (.methodLink R_law 73 yX4_rings : Cond) ∈ TB := List.mem_filter.mpr ⟨List.mem_of_getElem? (i := 414) (by decide +kernel), by decide +kernel⟩
set_option maxRecDepth 20000 in
theorem tw_415 : (.instanceMethod yX4_rings : Cond) ∈ TB := List.mem_filter.mpr ⟨List.mem_of_getElem? (i := 415) (by decide +kernel), by decide +kernel⟩
set_option maxRecDepth 20000 in
theorem tw_416 : (.selects RX4 yX4_rings yX4_rings : Cond) ∈ TB := List.mem_filter.mpr ⟨List.mem_of_getElem? (i := 416) (by decide +kernel), by decide +kernel⟩
set_option maxRecDepth 20000 in
theorem tw_417 : (.code yX4_rings cX4_rings 1 (some .int) : Cond) ∈ TB := List.mem_filter.mpr ⟨List.mem_of_getElem? (i := 417) (by decide +kernel), by decide +kernel⟩
set_option maxRecDepth 20000 in
theorem tw_418 : (.methodLink RX4 148 yX0_ringBits : Cond) ∈ TB := List.mem_filter.mpr ⟨List.mem_of_getElem? (i := 418) (by decide +kernel), by decide +kernel⟩
set_option maxRecDepth 20000 in
theorem tw_419 : (.instanceMethod yX0_ringBits : Cond) ∈ TB := List.mem_filter.mpr ⟨List.mem_of_getElem? (i := 419) (by decide +kernel), by decide +kernel⟩
set_option maxRecDepth 20000 in
theorem tw_420 : (.selects RX0 yX0_ringBits yX0_ringBits : Cond) ∈ TB := List.mem_filter.mpr ⟨List.mem_of_getElem? (i := 420) (by decide +kernel), by decide +kernel⟩
set_option maxRecDepth 20000 in
theorem tw_421 : (.code yX0_ringBits cX0_ringBits 3 (some .int) : Cond) ∈ TB := List.mem_filter.mpr ⟨List.mem_of_getElem? (i := 421) (by decide +kernel), by decide +kernel⟩
set_option maxRecDepth 20000 in
theorem tw_422 : (.methodLink R_law 79 yX4_orders : Cond) ∈ TB := List.mem_filter.mpr ⟨List.mem_of_getElem? (i := 422) (by decide +kernel), by decide +kernel⟩
set_option maxRecDepth 20000 in
theorem tw_423 : (.instanceMethod yX4_orders : Cond) ∈ TB := List.mem_filter.mpr ⟨List.mem_of_getElem? (i := 423) (by decide +kernel), by decide +kernel⟩
set_option maxRecDepth 20000 in
theorem tw_424 : (.selects RX4 yX4_orders yX4_orders : Cond) ∈ TB := List.mem_filter.mpr ⟨List.mem_of_getElem? (i := 424) (by decide +kernel), by decide +kernel⟩
set_option maxRecDepth 20000 in
theorem tw_425 : (.code yX4_orders cX4_orders 8 (some .int) : Cond) ∈ TB := List.mem_filter.mpr ⟨List.mem_of_getElem? (i := 425) (by decide +kernel), by decide +kernel⟩
set_option maxRecDepth 20000 in
theorem tw_426 : (.methodLink RX4 151 yX4_areMoves : Cond) ∈ TB := List.mem_filter.mpr ⟨List.mem_of_getElem? (i := 426) (by decide +kernel), by decide +kernel⟩
set_option maxRecDepth 20000 in
theorem tw_428 : (.instanceMethod yX4_areMoves : Cond) ∈ TB := List.mem_filter.mpr ⟨List.mem_of_getElem? (i := 428) (by decide +kernel), by decide +kernel⟩
set_option maxRecDepth 20000 in
theorem tw_429 : (.code yX4_areMoves cX4_areMoves 7 (some .boolean) : Cond) ∈ TB := List.mem_filter.mpr ⟨List.mem_of_getElem? (i := 429) (by decide +kernel), by decide +kernel⟩
set_option maxRecDepth 20000 in
theorem tw_430 : (.methodLink RX4 166 yX4_hasFigures : Cond) ∈ TB := List.mem_filter.mpr ⟨List.mem_of_getElem? (i := 430) (by decide +kernel), by decide +kernel⟩
set_option maxRecDepth 20000 in
theorem tw_431 : (.static yX4_hasFigures : Cond) ∈ TB := List.mem_filter.mpr ⟨List.mem_of_getElem? (i := 431) (by decide +kernel), by decide +kernel⟩
set_option maxRecDepth 20000 in
theorem tw_432 : (.code yX4_hasFigures cX4_hasFigures 6 (some .boolean) : Cond) ∈ TB := List.mem_filter.mpr ⟨List.mem_of_getElem? (i := 432) (by decide +kernel), by decide +kernel⟩
set_option maxRecDepth 20000 in
theorem tw_433 : (.constantLong RX4 278 10 : Cond) ∈ TB := List.mem_filter.mpr ⟨List.mem_of_getElem? (i := 433) (by decide +kernel), by decide +kernel⟩
set_option maxRecDepth 20000 in
theorem tw_434 : (.methodLink RX4 170 yX4_figure : Cond) ∈ TB := List.mem_filter.mpr ⟨List.mem_of_getElem? (i := 434) (by decide +kernel), by decide +kernel⟩
set_option maxRecDepth 20000 in
theorem tw_435 : (.static yX4_figure : Cond) ∈ TB := List.mem_filter.mpr ⟨List.mem_of_getElem? (i := 435) (by decide +kernel), by decide +kernel⟩
set_option maxRecDepth 20000 in
theorem tw_436 : (.code yX4_figure cX4_figure 7 (some .int) : Cond) ∈ TB := List.mem_filter.mpr ⟨List.mem_of_getElem? (i := 436) (by decide +kernel), by decide +kernel⟩
set_option maxRecDepth 20000 in
theorem tw_437 : (.methodLink RX4 155 yX4_isOrder : Cond) ∈ TB := List.mem_filter.mpr ⟨List.mem_of_getElem? (i := 437) (by decide +kernel), by decide +kernel⟩
set_option maxRecDepth 20000 in
theorem tw_438 : (.static yX4_isOrder : Cond) ∈ TB := List.mem_filter.mpr ⟨List.mem_of_getElem? (i := 438) (by decide +kernel), by decide +kernel⟩
set_option maxRecDepth 20000 in
theorem tw_439 : (.code yX4_isOrder cX4_isOrder 4 (some .boolean) : Cond) ∈ TB := List.mem_filter.mpr ⟨List.mem_of_getElem? (i := 439) (by decide +kernel), by decide +kernel⟩
set_option maxRecDepth 20000 in
theorem tw_440 : (.methodLink RX4 174 yX4_moveAt : Cond) ∈ TB := List.mem_filter.mpr ⟨List.mem_of_getElem? (i := 440) (by decide +kernel), by decide +kernel⟩
set_option maxRecDepth 20000 in
theorem tw_441 : (.static yX4_moveAt : Cond) ∈ TB := List.mem_filter.mpr ⟨List.mem_of_getElem? (i := 441) (by decide +kernel), by decide +kernel⟩
set_option maxRecDepth 20000 in
theorem tw_442 : (.code yX4_moveAt cX4_moveAt 3 (some .int) : Cond) ∈ TB := List.mem_filter.mpr ⟨List.mem_of_getElem? (i := 442) (by decide +kernel), by decide +kernel⟩
set_option maxRecDepth 20000 in
theorem tw_443 : (.methodLink RX4 158 yX4_isSafeOrder : Cond) ∈ TB := List.mem_filter.mpr ⟨List.mem_of_getElem? (i := 443) (by decide +kernel), by decide +kernel⟩
set_option maxRecDepth 20000 in
theorem tw_445 : (.instanceMethod yX4_isSafeOrder : Cond) ∈ TB := List.mem_filter.mpr ⟨List.mem_of_getElem? (i := 445) (by decide +kernel), by decide +kernel⟩
set_option maxRecDepth 20000 in
theorem tw_446 : (.code yX4_isSafeOrder cX4_isSafeOrder 6 (some .boolean) : Cond) ∈ TB := List.mem_filter.mpr ⟨List.mem_of_getElem? (i := 446) (by decide +kernel), by decide +kernel⟩
set_option maxRecDepth 20000 in
theorem tw_447 : (.methodLink RX4 178 yX4_canMove : Cond) ∈ TB := List.mem_filter.mpr ⟨List.mem_of_getElem? (i := 447) (by decide +kernel), by decide +kernel⟩
set_option maxRecDepth 20000 in
theorem tw_449 : (.instanceMethod yX4_canMove : Cond) ∈ TB := List.mem_filter.mpr ⟨List.mem_of_getElem? (i := 449) (by decide +kernel), by decide +kernel⟩
set_option maxRecDepth 20000 in
theorem tw_450 : (.code yX4_canMove cX4_canMove 9 (some .boolean) : Cond) ∈ TB := List.mem_filter.mpr ⟨List.mem_of_getElem? (i := 450) (by decide +kernel), by decide +kernel⟩
set_option maxRecDepth 20000 in
theorem tw_451 : (.methodLink RX4 162 yX4_orderNumber : Cond) ∈ TB := List.mem_filter.mpr ⟨List.mem_of_getElem? (i := 451) (by decide +kernel), by decide +kernel⟩
set_option maxRecDepth 20000 in
theorem tw_452 : (.static yX4_orderNumber : Cond) ∈ TB := List.mem_filter.mpr ⟨List.mem_of_getElem? (i := 452) (by decide +kernel), by decide +kernel⟩
set_option maxRecDepth 20000 in
theorem tw_453 : (.code yX4_orderNumber cX4_orderNumber 4 (some .int) : Cond) ∈ TB := List.mem_filter.mpr ⟨List.mem_of_getElem? (i := 453) (by decide +kernel), by decide +kernel⟩
set_option maxRecDepth 20000 in
theorem tw_454 : (.methodLink R_law 84 yX4_piano : Cond) ∈ TB := List.mem_filter.mpr ⟨List.mem_of_getElem? (i := 454) (by decide +kernel), by decide +kernel⟩
set_option maxRecDepth 20000 in
theorem tw_455 : (.instanceMethod yX4_piano : Cond) ∈ TB := List.mem_filter.mpr ⟨List.mem_of_getElem? (i := 455) (by decide +kernel), by decide +kernel⟩
set_option maxRecDepth 20000 in
theorem tw_456 : (.selects RX4 yX4_piano yX4_piano : Cond) ∈ TB := List.mem_filter.mpr ⟨List.mem_of_getElem? (i := 456) (by decide +kernel), by decide +kernel⟩
set_option maxRecDepth 20000 in
theorem tw_457 : (.code yX4_piano cX4_piano 4 (some .int) : Cond) ∈ TB := List.mem_filter.mpr ⟨List.mem_of_getElem? (i := 457) (by decide +kernel), by decide +kernel⟩
set_option maxRecDepth 20000 in
theorem tw_458 : (.methodLink RX4 181 yX0_staysCalm : Cond) ∈ TB := List.mem_filter.mpr ⟨List.mem_of_getElem? (i := 458) (by decide +kernel), by decide +kernel⟩
set_option maxRecDepth 20000 in
theorem tw_459 : (.instanceMethod yX0_staysCalm : Cond) ∈ TB := List.mem_filter.mpr ⟨List.mem_of_getElem? (i := 459) (by decide +kernel), by decide +kernel⟩
set_option maxRecDepth 20000 in
theorem tw_460 : (.selects RX0 yX0_staysCalm yX0_staysCalm : Cond) ∈ TB := List.mem_filter.mpr ⟨List.mem_of_getElem? (i := 460) (by decide +kernel), by decide +kernel⟩
set_option maxRecDepth 20000 in
theorem tw_461 : (.code yX0_staysCalm cX0_staysCalm 3 (some .boolean) : Cond) ∈ TB := List.mem_filter.mpr ⟨List.mem_of_getElem? (i := 461) (by decide +kernel), by decide +kernel⟩
set_option maxRecDepth 20000 in
theorem tw_462 : (.methodLink R_law 88 yX4_sacks : Cond) ∈ TB := List.mem_filter.mpr ⟨List.mem_of_getElem? (i := 462) (by decide +kernel), by decide +kernel⟩
set_option maxRecDepth 20000 in
theorem tw_463 : (.instanceMethod yX4_sacks : Cond) ∈ TB := List.mem_filter.mpr ⟨List.mem_of_getElem? (i := 463) (by decide +kernel), by decide +kernel⟩
set_option maxRecDepth 20000 in
theorem tw_464 : (.selects RX4 yX4_sacks yX4_sacks : Cond) ∈ TB := List.mem_filter.mpr ⟨List.mem_of_getElem? (i := 464) (by decide +kernel), by decide +kernel⟩
set_option maxRecDepth 20000 in
theorem tw_465 : (.code yX4_sacks cX4_sacks 7 (some .int) : Cond) ∈ TB := List.mem_filter.mpr ⟨List.mem_of_getElem? (i := 465) (by decide +kernel), by decide +kernel⟩
set_option maxRecDepth 20000 in
theorem tw_466 : (.methodLink RX4 184 yX4_fewestFromOne : Cond) ∈ TB := List.mem_filter.mpr ⟨List.mem_of_getElem? (i := 466) (by decide +kernel), by decide +kernel⟩
set_option maxRecDepth 20000 in
theorem tw_468 : (.instanceMethod yX4_fewestFromOne : Cond) ∈ TB := List.mem_filter.mpr ⟨List.mem_of_getElem? (i := 468) (by decide +kernel), by decide +kernel⟩
set_option maxRecDepth 20000 in
theorem tw_469 : (.code yX4_fewestFromOne cX4_fewestFromOne 4 (some .int) : Cond) ∈ TB := List.mem_filter.mpr ⟨List.mem_of_getElem? (i := 469) (by decide +kernel), by decide +kernel⟩
set_option maxRecDepth 20000 in
theorem tw_470 : (.methodLink RX4 190 yX4_mostTaken : Cond) ∈ TB := List.mem_filter.mpr ⟨List.mem_of_getElem? (i := 470) (by decide +kernel), by decide +kernel⟩
set_option maxRecDepth 20000 in
theorem tw_472 : (.instanceMethod yX4_mostTaken : Cond) ∈ TB := List.mem_filter.mpr ⟨List.mem_of_getElem? (i := 472) (by decide +kernel), by decide +kernel⟩
set_option maxRecDepth 20000 in
theorem tw_473 : (.code yX4_mostTaken cX4_mostTaken 2 (some .int) : Cond) ∈ TB := List.mem_filter.mpr ⟨List.mem_of_getElem? (i := 473) (by decide +kernel), by decide +kernel⟩
set_option maxRecDepth 20000 in
theorem tw_474 : (.methodLink RX4 197 Lib.Math.min.name : Cond) ∈ TB := List.mem_filter.mpr ⟨List.mem_of_getElem? (i := 474) (by decide +kernel), by decide +kernel⟩
set_option maxRecDepth 20000 in
theorem tw_475 : (.methodLink RX4 193 yX4_isCalmWithout : Cond) ∈ TB := List.mem_filter.mpr ⟨List.mem_of_getElem? (i := 475) (by decide +kernel), by decide +kernel⟩
set_option maxRecDepth 20000 in
theorem tw_477 : (.instanceMethod yX4_isCalmWithout : Cond) ∈ TB := List.mem_filter.mpr ⟨List.mem_of_getElem? (i := 477) (by decide +kernel), by decide +kernel⟩
set_option maxRecDepth 20000 in
theorem tw_478 : (.code yX4_isCalmWithout cX4_isCalmWithout 5 (some .boolean) : Cond) ∈ TB := List.mem_filter.mpr ⟨List.mem_of_getElem? (i := 478) (by decide +kernel), by decide +kernel⟩
set_option maxRecDepth 20000 in
theorem tw_479 : (.methodLink RX4 187 yX4_fewestFromTwo : Cond) ∈ TB := List.mem_filter.mpr ⟨List.mem_of_getElem? (i := 479) (by decide +kernel), by decide +kernel⟩
set_option maxRecDepth 20000 in
theorem tw_481 : (.instanceMethod yX4_fewestFromTwo : Cond) ∈ TB := List.mem_filter.mpr ⟨List.mem_of_getElem? (i := 481) (by decide +kernel), by decide +kernel⟩
set_option maxRecDepth 20000 in
theorem tw_482 : (.code yX4_fewestFromTwo cX4_fewestFromTwo 9 (some .int) : Cond) ∈ TB := List.mem_filter.mpr ⟨List.mem_of_getElem? (i := 482) (by decide +kernel), by decide +kernel⟩
set_option maxRecDepth 20000 in
theorem tw_483 : (.methodLink R_law 92 yX4_judge : Cond) ∈ TB := List.mem_filter.mpr ⟨List.mem_of_getElem? (i := 483) (by decide +kernel), by decide +kernel⟩
set_option maxRecDepth 20000 in
theorem tw_484 : (.instanceMethod yX4_judge : Cond) ∈ TB := List.mem_filter.mpr ⟨List.mem_of_getElem? (i := 484) (by decide +kernel), by decide +kernel⟩
set_option maxRecDepth 20000 in
theorem tw_485 : (.selects RX4 yX4_judge yX4_judge : Cond) ∈ TB := List.mem_filter.mpr ⟨List.mem_of_getElem? (i := 485) (by decide +kernel), by decide +kernel⟩
set_option maxRecDepth 20000 in
theorem tw_486 : (.code yX4_judge cX4_judge 5 (some .int) : Cond) ∈ TB := List.mem_filter.mpr ⟨List.mem_of_getElem? (i := 486) (by decide +kernel), by decide +kernel⟩
set_option maxRecDepth 20000 in
theorem tw_487 : (.methodLink RX4 202 yX4_canBe : Cond) ∈ TB := List.mem_filter.mpr ⟨List.mem_of_getElem? (i := 487) (by decide +kernel), by decide +kernel⟩
set_option maxRecDepth 20000 in
theorem tw_489 : (.instanceMethod yX4_canBe : Cond) ∈ TB := List.mem_filter.mpr ⟨List.mem_of_getElem? (i := 489) (by decide +kernel), by decide +kernel⟩
set_option maxRecDepth 20000 in
theorem tw_490 : (.code yX4_canBe cX4_canBe 8 (some .boolean) : Cond) ∈ TB := List.mem_filter.mpr ⟨List.mem_of_getElem? (i := 490) (by decide +kernel), by decide +kernel⟩
set_option maxRecDepth 20000 in
theorem tw_491 : (.methodLink R_law 97 yX4_see : Cond) ∈ TB := List.mem_filter.mpr ⟨List.mem_of_getElem? (i := 491) (by decide +kernel), by decide +kernel⟩
set_option maxRecDepth 20000 in
theorem tw_492 : (.instanceMethod yX4_see : Cond) ∈ TB := List.mem_filter.mpr ⟨List.mem_of_getElem? (i := 492) (by decide +kernel), by decide +kernel⟩
set_option maxRecDepth 20000 in
theorem tw_493 : (.selects RX4 yX4_see yX4_see : Cond) ∈ TB := List.mem_filter.mpr ⟨List.mem_of_getElem? (i := 493) (by decide +kernel), by decide +kernel⟩
set_option maxRecDepth 20000 in
theorem tw_494 : (.code yX4_see cX4_see 4 (some .int) : Cond) ∈ TB := List.mem_filter.mpr ⟨List.mem_of_getElem? (i := 494) (by decide +kernel), by decide +kernel⟩
set_option maxRecDepth 20000 in
theorem tw_495 : (.methodLink RX4 206 yX2_add : Cond) ∈ TB := List.mem_filter.mpr ⟨List.mem_of_getElem? (i := 495) (by decide +kernel), by decide +kernel⟩
set_option maxRecDepth 20000 in
theorem tw_496 : (.instanceMethod yX2_add : Cond) ∈ TB := List.mem_filter.mpr ⟨List.mem_of_getElem? (i := 496) (by decide +kernel), by decide +kernel⟩
set_option maxRecDepth 20000 in
theorem tw_497 : (.selects RX2 yX2_add yX2_add : Cond) ∈ TB := List.mem_filter.mpr ⟨List.mem_of_getElem? (i := 497) (by decide +kernel), by decide +kernel⟩
set_option maxRecDepth 20000 in
theorem tw_498 : (.code yX2_add cX2_add 4 (some .boolean) : Cond) ∈ TB := List.mem_filter.mpr ⟨List.mem_of_getElem? (i := 498) (by decide +kernel), by decide +kernel⟩
set_option maxRecDepth 20000 in
theorem tw_499 : (.methodLink RX4 210 yX2_size : Cond) ∈ TB := List.mem_filter.mpr ⟨List.mem_of_getElem? (i := 499) (by decide +kernel), by decide +kernel⟩
set_option maxRecDepth 20000 in
theorem tw_500 : (.instanceMethod yX2_size : Cond) ∈ TB := List.mem_filter.mpr ⟨List.mem_of_getElem? (i := 500) (by decide +kernel), by decide +kernel⟩
set_option maxRecDepth 20000 in
theorem tw_501 : (.selects RX2 yX2_size yX2_size : Cond) ∈ TB := List.mem_filter.mpr ⟨List.mem_of_getElem? (i := 501) (by decide +kernel), by decide +kernel⟩
set_option maxRecDepth 20000 in
theorem tw_502 : (.code yX2_size cX2_size 1 (some .int) : Cond) ∈ TB := List.mem_filter.mpr ⟨List.mem_of_getElem? (i := 502) (by decide +kernel), by decide +kernel⟩
set_option maxRecDepth 20000 in
theorem tw_503 : (.methodLink R_law 101 yX4_unsee : Cond) ∈ TB := List.mem_filter.mpr ⟨List.mem_of_getElem? (i := 503) (by decide +kernel), by decide +kernel⟩
set_option maxRecDepth 20000 in
theorem tw_504 : (.instanceMethod yX4_unsee : Cond) ∈ TB := List.mem_filter.mpr ⟨List.mem_of_getElem? (i := 504) (by decide +kernel), by decide +kernel⟩
set_option maxRecDepth 20000 in
theorem tw_505 : (.selects RX4 yX4_unsee yX4_unsee : Cond) ∈ TB := List.mem_filter.mpr ⟨List.mem_of_getElem? (i := 505) (by decide +kernel), by decide +kernel⟩
set_option maxRecDepth 20000 in
theorem tw_506 : (.code yX4_unsee cX4_unsee 1 (some .int) : Cond) ∈ TB := List.mem_filter.mpr ⟨List.mem_of_getElem? (i := 506) (by decide +kernel), by decide +kernel⟩
set_option maxRecDepth 20000 in
theorem tw_507 : (.methodLink RX4 211 yX2_clear : Cond) ∈ TB := List.mem_filter.mpr ⟨List.mem_of_getElem? (i := 507) (by decide +kernel), by decide +kernel⟩
set_option maxRecDepth 20000 in
theorem tw_508 : (.instanceMethod yX2_clear : Cond) ∈ TB := List.mem_filter.mpr ⟨List.mem_of_getElem? (i := 508) (by decide +kernel), by decide +kernel⟩
set_option maxRecDepth 20000 in
theorem tw_509 : (.selects RX2 yX2_clear yX2_clear : Cond) ∈ TB := List.mem_filter.mpr ⟨List.mem_of_getElem? (i := 509) (by decide +kernel), by decide +kernel⟩
set_option maxRecDepth 20000 in
theorem tw_510 : (.code yX2_clear cX2_clear 2 (some .int) : Cond) ∈ TB := List.mem_filter.mpr ⟨List.mem_of_getElem? (i := 510) (by decide +kernel), by decide +kernel⟩
set_option maxRecDepth 20000 in
theorem tw_511 : (.methodLink R_law 105 yX4_night : Cond) ∈ TB := List.mem_filter.mpr ⟨List.mem_of_getElem? (i := 511) (by decide +kernel), by decide +kernel⟩
set_option maxRecDepth 20000 in
theorem tw_512 : (.instanceMethod yX4_night : Cond) ∈ TB := List.mem_filter.mpr ⟨List.mem_of_getElem? (i := 512) (by decide +kernel), by decide +kernel⟩
set_option maxRecDepth 20000 in
theorem tw_513 : (.selects RX4 yX4_night yX4_night : Cond) ∈ TB := List.mem_filter.mpr ⟨List.mem_of_getElem? (i := 513) (by decide +kernel), by decide +kernel⟩
set_option maxRecDepth 20000 in
theorem tw_514 : (.code yX4_night cX4_night 6 (some .int) : Cond) ∈ TB := List.mem_filter.mpr ⟨List.mem_of_getElem? (i := 514) (by decide +kernel), by decide +kernel⟩
set_option maxRecDepth 20000 in
theorem tw_515 : (.methodLink RX4 212 yX4_explainsSeen : Cond) ∈ TB := List.mem_filter.mpr ⟨List.mem_of_getElem? (i := 515) (by decide +kernel), by decide +kernel⟩
set_option maxRecDepth 20000 in
theorem tw_517 : (.instanceMethod yX4_explainsSeen : Cond) ∈ TB := List.mem_filter.mpr ⟨List.mem_of_getElem? (i := 517) (by decide +kernel), by decide +kernel⟩
set_option maxRecDepth 20000 in
theorem tw_518 : (.code yX4_explainsSeen cX4_explainsSeen 4 (some .boolean) : Cond) ∈ TB := List.mem_filter.mpr ⟨List.mem_of_getElem? (i := 518) (by decide +kernel), by decide +kernel⟩
set_option maxRecDepth 20000 in
theorem tw_519 : (.methodLink RX4 215 yX2_agrees : Cond) ∈ TB := List.mem_filter.mpr ⟨List.mem_of_getElem? (i := 519) (by decide +kernel), by decide +kernel⟩
set_option maxRecDepth 20000 in
theorem tw_520 : (.instanceMethod yX2_agrees : Cond) ∈ TB := List.mem_filter.mpr ⟨List.mem_of_getElem? (i := 520) (by decide +kernel), by decide +kernel⟩
set_option maxRecDepth 20000 in
theorem tw_521 : (.selects RX2 yX2_agrees yX2_agrees : Cond) ∈ TB := List.mem_filter.mpr ⟨List.mem_of_getElem? (i := 521) (by decide +kernel), by decide +kernel⟩
set_option maxRecDepth 20000 in
theorem tw_522 : (.code yX2_agrees cX2_agrees 4 (some .boolean) : Cond) ∈ TB := List.mem_filter.mpr ⟨List.mem_of_getElem? (i := 522) (by decide +kernel), by decide +kernel⟩
set_option maxRecDepth 20000 in
theorem tw_523 : (.methodLink RX2 25 yX0_stands : Cond) ∈ TB := List.mem_filter.mpr ⟨List.mem_of_getElem? (i := 523) (by decide +kernel), by decide +kernel⟩
set_option maxRecDepth 20000 in
theorem tw_524 : (.methodLink R_law 109 yX4_share : Cond) ∈ TB := List.mem_filter.mpr ⟨List.mem_of_getElem? (i := 524) (by decide +kernel), by decide +kernel⟩
set_option maxRecDepth 20000 in
theorem tw_525 : (.instanceMethod yX4_share : Cond) ∈ TB := List.mem_filter.mpr ⟨List.mem_of_getElem? (i := 525) (by decide +kernel), by decide +kernel⟩
set_option maxRecDepth 20000 in
theorem tw_526 : (.selects RX4 yX4_share yX4_share : Cond) ∈ TB := List.mem_filter.mpr ⟨List.mem_of_getElem? (i := 526) (by decide +kernel), by decide +kernel⟩
set_option maxRecDepth 20000 in
theorem tw_527 : (.code yX4_share cX4_share 8 (some .int) : Cond) ∈ TB := List.mem_filter.mpr ⟨List.mem_of_getElem? (i := 527) (by decide +kernel), by decide +kernel⟩
set_option maxRecDepth 20000 in
theorem tw_528 : (.methodLink RX4 219 yJ6_bitCount : Cond) ∈ TB := List.mem_filter.mpr ⟨List.mem_of_getElem? (i := 528) (by decide +kernel), by decide +kernel⟩
set_option maxRecDepth 20000 in
theorem tw_529 : (.methodLink RX4 224 yX4_standingWithStonesOf : Cond) ∈ TB := List.mem_filter.mpr ⟨List.mem_of_getElem? (i := 529) (by decide +kernel), by decide +kernel⟩
set_option maxRecDepth 20000 in
theorem tw_531 : (.instanceMethod yX4_standingWithStonesOf : Cond) ∈ TB := List.mem_filter.mpr ⟨List.mem_of_getElem? (i := 531) (by decide +kernel), by decide +kernel⟩
set_option maxRecDepth 20000 in
theorem tw_532 : (.code yX4_standingWithStonesOf cX4_standingWithStonesOf 2 (some .int) : Cond) ∈ TB := List.mem_filter.mpr ⟨List.mem_of_getElem? (i := 532) (by decide +kernel), by decide +kernel⟩
set_option maxRecDepth 20000 in
theorem tw_533 : (.methodLink RX4 234 yX0_emptyAllBut : Cond) ∈ TB := List.mem_filter.mpr ⟨List.mem_of_getElem? (i := 533) (by decide +kernel), by decide +kernel⟩
set_option maxRecDepth 20000 in
theorem tw_534 : (.instanceMethod yX0_emptyAllBut : Cond) ∈ TB := List.mem_filter.mpr ⟨List.mem_of_getElem? (i := 534) (by decide +kernel), by decide +kernel⟩
set_option maxRecDepth 20000 in
theorem tw_535 : (.selects RX0 yX0_emptyAllBut yX0_emptyAllBut : Cond) ∈ TB := List.mem_filter.mpr ⟨List.mem_of_getElem? (i := 535) (by decide +kernel), by decide +kernel⟩
set_option maxRecDepth 20000 in
theorem tw_536 : (.code yX0_emptyAllBut cX0_emptyAllBut 3 none : Cond) ∈ TB := List.mem_filter.mpr ⟨List.mem_of_getElem? (i := 536) (by decide +kernel), by decide +kernel⟩
set_option maxRecDepth 20000 in
theorem tw_537 : (.methodLink RX4 227 yX4_factorial : Cond) ∈ TB := List.mem_filter.mpr ⟨List.mem_of_getElem? (i := 537) (by decide +kernel), by decide +kernel⟩
set_option maxRecDepth 20000 in
theorem tw_538 : (.static yX4_factorial : Cond) ∈ TB := List.mem_filter.mpr ⟨List.mem_of_getElem? (i := 538) (by decide +kernel), by decide +kernel⟩
set_option maxRecDepth 20000 in
theorem tw_539 : (.code yX4_factorial cX4_factorial 3 (some .int) : Cond) ∈ TB := List.mem_filter.mpr ⟨List.mem_of_getElem? (i := 539) (by decide +kernel), by decide +kernel⟩
set_option maxRecDepth 20000 in
theorem tw_540 : (.methodLink RX4 230 yX4_partOfFraction : Cond) ∈ TB := List.mem_filter.mpr ⟨List.mem_of_getElem? (i := 540) (by decide +kernel), by decide +kernel⟩
set_option maxRecDepth 20000 in
theorem tw_541 : (.static yX4_partOfFraction : Cond) ∈ TB := List.mem_filter.mpr ⟨List.mem_of_getElem? (i := 541) (by decide +kernel), by decide +kernel⟩
set_option maxRecDepth 20000 in
theorem tw_542 : (.code yX4_partOfFraction cX4_partOfFraction 4 (some .int) : Cond) ∈ TB := List.mem_filter.mpr ⟨List.mem_of_getElem? (i := 542) (by decide +kernel), by decide +kernel⟩
set_option maxRecDepth 20000 in
theorem tw_543 : (.methodLink RX4 280 Lib.Math.abs.name : Cond) ∈ TB := List.mem_filter.mpr ⟨List.mem_of_getElem? (i := 543) (by decide +kernel), by decide +kernel⟩
set_option maxRecDepth 20000 in
theorem tw_544 : (.static Lib.Math.abs.name : Cond) ∈ TB := List.mem_filter.mpr ⟨List.mem_of_getElem? (i := 544) (by decide +kernel), by decide +kernel⟩
set_option maxRecDepth 20000 in
theorem tw_545 : (.code Lib.Math.abs.name Lib.Math.abs.code 1 (some .int) : Cond) ∈ TB := List.mem_filter.mpr ⟨List.mem_of_getElem? (i := 545) (by decide +kernel), by decide +kernel⟩
set_option maxRecDepth 20000 in
theorem tw_546 : (.methodLink RX4 283 yX4_commonDivisor : Cond) ∈ TB := List.mem_filter.mpr ⟨List.mem_of_getElem? (i := 546) (by decide +kernel), by decide +kernel⟩
set_option maxRecDepth 20000 in
theorem tw_547 : (.static yX4_commonDivisor : Cond) ∈ TB := List.mem_filter.mpr ⟨List.mem_of_getElem? (i := 547) (by decide +kernel), by decide +kernel⟩
set_option maxRecDepth 20000 in
theorem tw_548 : (.code yX4_commonDivisor cX4_commonDivisor 6 (some .int) : Cond) ∈ TB := List.mem_filter.mpr ⟨List.mem_of_getElem? (i := 548) (by decide +kernel), by decide +kernel⟩
set_option maxRecDepth 20000 in
theorem tw_549 : (.methodLink RX4 286 Lib.Math.max.name : Cond) ∈ TB := List.mem_filter.mpr ⟨List.mem_of_getElem? (i := 549) (by decide +kernel), by decide +kernel⟩
set_option maxRecDepth 20000 in
theorem tw_550 : (.static Lib.Math.max.name : Cond) ∈ TB := List.mem_filter.mpr ⟨List.mem_of_getElem? (i := 550) (by decide +kernel), by decide +kernel⟩
set_option maxRecDepth 20000 in
theorem tw_551 : (.code Lib.Math.max.name Lib.Math.max.code 2 (some .int) : Cond) ∈ TB := List.mem_filter.mpr ⟨List.mem_of_getElem? (i := 551) (by decide +kernel), by decide +kernel⟩
set_option maxRecDepth 20000 in
theorem tw_552 : (.methodLink R_law 114 yX4_rests : Cond) ∈ TB := List.mem_filter.mpr ⟨List.mem_of_getElem? (i := 552) (by decide +kernel), by decide +kernel⟩
set_option maxRecDepth 20000 in
theorem tw_553 : (.instanceMethod yX4_rests : Cond) ∈ TB := List.mem_filter.mpr ⟨List.mem_of_getElem? (i := 553) (by decide +kernel), by decide +kernel⟩
set_option maxRecDepth 20000 in
theorem tw_554 : (.selects RX4 yX4_rests yX4_rests : Cond) ∈ TB := List.mem_filter.mpr ⟨List.mem_of_getElem? (i := 554) (by decide +kernel), by decide +kernel⟩
set_option maxRecDepth 20000 in
theorem tw_555 : (.code yX4_rests cX4_rests 8 (some .int) : Cond) ∈ TB := List.mem_filter.mpr ⟨List.mem_of_getElem? (i := 555) (by decide +kernel), by decide +kernel⟩
set_option maxRecDepth 20000 in
theorem tw_556 : (.methodLink RX4 237 yX4_prefers : Cond) ∈ TB := List.mem_filter.mpr ⟨List.mem_of_getElem? (i := 556) (by decide +kernel), by decide +kernel⟩
set_option maxRecDepth 20000 in
theorem tw_558 : (.instanceMethod yX4_prefers : Cond) ∈ TB := List.mem_filter.mpr ⟨List.mem_of_getElem? (i := 558) (by decide +kernel), by decide +kernel⟩
set_option maxRecDepth 20000 in
theorem tw_559 : (.code yX4_prefers cX4_prefers 5 (some .boolean) : Cond) ∈ TB := List.mem_filter.mpr ⟨List.mem_of_getElem? (i := 559) (by decide +kernel), by decide +kernel⟩
set_option maxRecDepth 20000 in
theorem tw_560 : (.methodLink RX4 240 yX4_gain : Cond) ∈ TB := List.mem_filter.mpr ⟨List.mem_of_getElem? (i := 560) (by decide +kernel), by decide +kernel⟩
set_option maxRecDepth 20000 in
theorem tw_562 : (.instanceMethod yX4_gain : Cond) ∈ TB := List.mem_filter.mpr ⟨List.mem_of_getElem? (i := 562) (by decide +kernel), by decide +kernel⟩
set_option maxRecDepth 20000 in
theorem tw_563 : (.code yX4_gain cX4_gain 5 (some .int) : Cond) ∈ TB := List.mem_filter.mpr ⟨List.mem_of_getElem? (i := 563) (by decide +kernel), by decide +kernel⟩
set_option maxRecDepth 20000 in
theorem tw_564 : (.methodLink R_law 118 yX4_fails : Cond) ∈ TB := List.mem_filter.mpr ⟨List.mem_of_getElem? (i := 564) (by decide +kernel), by decide +kernel⟩
set_option maxRecDepth 20000 in
theorem tw_565 : (.instanceMethod yX4_fails : Cond) ∈ TB := List.mem_filter.mpr ⟨List.mem_of_getElem? (i := 565) (by decide +kernel), by decide +kernel⟩
set_option maxRecDepth 20000 in
theorem tw_566 : (.selects RX4 yX4_fails yX4_fails : Cond) ∈ TB := List.mem_filter.mpr ⟨List.mem_of_getElem? (i := 566) (by decide +kernel), by decide +kernel⟩
set_option maxRecDepth 20000 in
theorem tw_567 : (.code yX4_fails cX4_fails 9 (some .int) : Cond) ∈ TB := List.mem_filter.mpr ⟨List.mem_of_getElem? (i := 567) (by decide +kernel), by decide +kernel⟩
set_option maxRecDepth 20000 in
theorem tw_568 : (.methodLink RX4 244 yX4_standingWithFailed : Cond) ∈ TB := List.mem_filter.mpr ⟨List.mem_of_getElem? (i := 568) (by decide +kernel), by decide +kernel⟩
set_option maxRecDepth 20000 in
theorem tw_570 : (.instanceMethod yX4_standingWithFailed : Cond) ∈ TB := List.mem_filter.mpr ⟨List.mem_of_getElem? (i := 570) (by decide +kernel), by decide +kernel⟩
set_option maxRecDepth 20000 in
theorem tw_571 : (.code yX4_standingWithFailed cX4_standingWithFailed 2 (some .int) : Cond) ∈ TB := List.mem_filter.mpr ⟨List.mem_of_getElem? (i := 571) (by decide +kernel), by decide +kernel⟩
set_option maxRecDepth 20000 in
theorem tw_572 : (.methodLink RX4 250 yX0_failDeeds : Cond) ∈ TB := List.mem_filter.mpr ⟨List.mem_of_getElem? (i := 572) (by decide +kernel), by decide +kernel⟩
set_option maxRecDepth 20000 in
theorem tw_573 : (.instanceMethod yX0_failDeeds : Cond) ∈ TB := List.mem_filter.mpr ⟨List.mem_of_getElem? (i := 573) (by decide +kernel), by decide +kernel⟩
set_option maxRecDepth 20000 in
theorem tw_574 : (.selects RX0 yX0_failDeeds yX0_failDeeds : Cond) ∈ TB := List.mem_filter.mpr ⟨List.mem_of_getElem? (i := 574) (by decide +kernel), by decide +kernel⟩
set_option maxRecDepth 20000 in
theorem tw_575 : (.code yX0_failDeeds cX0_failDeeds 3 none : Cond) ∈ TB := List.mem_filter.mpr ⟨List.mem_of_getElem? (i := 575) (by decide +kernel), by decide +kernel⟩
set_option maxRecDepth 20000 in
theorem tw_576 : (.methodLink RX4 247 yX4_power : Cond) ∈ TB := List.mem_filter.mpr ⟨List.mem_of_getElem? (i := 576) (by decide +kernel), by decide +kernel⟩
set_option maxRecDepth 20000 in
theorem tw_577 : (.static yX4_power : Cond) ∈ TB := List.mem_filter.mpr ⟨List.mem_of_getElem? (i := 577) (by decide +kernel), by decide +kernel⟩
set_option maxRecDepth 20000 in
theorem tw_578 : (.code yX4_power cX4_power 4 (some .int) : Cond) ∈ TB := List.mem_filter.mpr ⟨List.mem_of_getElem? (i := 578) (by decide +kernel), by decide +kernel⟩
set_option maxRecDepth 20000 in
theorem tw_579 : (.methodLink R_law 123 yX4_seed : Cond) ∈ TB := List.mem_filter.mpr ⟨List.mem_of_getElem? (i := 579) (by decide +kernel), by decide +kernel⟩
set_option maxRecDepth 20000 in
theorem tw_580 : (.instanceMethod yX4_seed : Cond) ∈ TB := List.mem_filter.mpr ⟨List.mem_of_getElem? (i := 580) (by decide +kernel), by decide +kernel⟩
set_option maxRecDepth 20000 in
theorem tw_581 : (.selects RX4 yX4_seed yX4_seed : Cond) ∈ TB := List.mem_filter.mpr ⟨List.mem_of_getElem? (i := 581) (by decide +kernel), by decide +kernel⟩
set_option maxRecDepth 20000 in
theorem tw_582 : (.code yX4_seed cX4_seed 5 (some .long) : Cond) ∈ TB := List.mem_filter.mpr ⟨List.mem_of_getElem? (i := 582) (by decide +kernel), by decide +kernel⟩
set_option maxRecDepth 20000 in
theorem tw_583 : (.methodLink R_law 128 yX4_years : Cond) ∈ TB := List.mem_filter.mpr ⟨List.mem_of_getElem? (i := 583) (by decide +kernel), by decide +kernel⟩
set_option maxRecDepth 20000 in
theorem tw_584 : (.instanceMethod yX4_years : Cond) ∈ TB := List.mem_filter.mpr ⟨List.mem_of_getElem? (i := 584) (by decide +kernel), by decide +kernel⟩
set_option maxRecDepth 20000 in
theorem tw_585 : (.selects RX4 yX4_years yX4_years : Cond) ∈ TB := List.mem_filter.mpr ⟨List.mem_of_getElem? (i := 585) (by decide +kernel), by decide +kernel⟩
set_option maxRecDepth 20000 in
theorem tw_586 : (.code yX4_years cX4_years 4 (some .int) : Cond) ∈ TB := List.mem_filter.mpr ⟨List.mem_of_getElem? (i := 586) (by decide +kernel), by decide +kernel⟩
set_option maxRecDepth 20000 in
theorem tw_587 : (.constantLong RX4 257 6364136223846793005 : Cond) ∈ TB := List.mem_filter.mpr ⟨List.mem_of_getElem? (i := 587) (by decide +kernel), by decide +kernel⟩
set_option maxRecDepth 20000 in
theorem tw_588 : (.constantLong RX4 259 1442695040888963407 : Cond) ∈ TB := List.mem_filter.mpr ⟨List.mem_of_getElem? (i := 588) (by decide +kernel), by decide +kernel⟩
set_option maxRecDepth 20000 in
theorem tw_589 : (.constantLong RX4 261 40 : Cond) ∈ TB := List.mem_filter.mpr ⟨List.mem_of_getElem? (i := 589) (by decide +kernel), by decide +kernel⟩
set_option maxRecDepth 20000 in
theorem tw_590 : (.methodLink RX4 263 yX4_playYear : Cond) ∈ TB := List.mem_filter.mpr ⟨List.mem_of_getElem? (i := 590) (by decide +kernel), by decide +kernel⟩
set_option maxRecDepth 20000 in
theorem tw_592 : (.instanceMethod yX4_playYear : Cond) ∈ TB := List.mem_filter.mpr ⟨List.mem_of_getElem? (i := 592) (by decide +kernel), by decide +kernel⟩
set_option maxRecDepth 20000 in
theorem tw_593 : (.code yX4_playYear cX4_playYear 2 none : Cond) ∈ TB := List.mem_filter.mpr ⟨List.mem_of_getElem? (i := 593) (by decide +kernel), by decide +kernel⟩
set_option maxRecDepth 20000 in
theorem tw_594 : (.methodLink R_law 132 yX4_keep : Cond) ∈ TB := List.mem_filter.mpr ⟨List.mem_of_getElem? (i := 594) (by decide +kernel), by decide +kernel⟩
set_option maxRecDepth 20000 in
theorem tw_595 : (.instanceMethod yX4_keep : Cond) ∈ TB := List.mem_filter.mpr ⟨List.mem_of_getElem? (i := 595) (by decide +kernel), by decide +kernel⟩
set_option maxRecDepth 20000 in
theorem tw_596 : (.selects RX4 yX4_keep yX4_keep : Cond) ∈ TB := List.mem_filter.mpr ⟨List.mem_of_getElem? (i := 596) (by decide +kernel), by decide +kernel⟩
set_option maxRecDepth 20000 in
theorem tw_597 : (.code yX4_keep cX4_keep 2 (some .int) : Cond) ∈ TB := List.mem_filter.mpr ⟨List.mem_of_getElem? (i := 597) (by decide +kernel), by decide +kernel⟩
set_option maxRecDepth 20000 in
theorem tw_598 : (.methodLink RX4 266 yX0_hoursPassed : Cond) ∈ TB := List.mem_filter.mpr ⟨List.mem_of_getElem? (i := 598) (by decide +kernel), by decide +kernel⟩
set_option maxRecDepth 20000 in
theorem tw_599 : (.instanceMethod yX0_hoursPassed : Cond) ∈ TB := List.mem_filter.mpr ⟨List.mem_of_getElem? (i := 599) (by decide +kernel), by decide +kernel⟩
set_option maxRecDepth 20000 in
theorem tw_600 : (.selects RX0 yX0_hoursPassed yX0_hoursPassed : Cond) ∈ TB := List.mem_filter.mpr ⟨List.mem_of_getElem? (i := 600) (by decide +kernel), by decide +kernel⟩
set_option maxRecDepth 20000 in
theorem tw_601 : (.code yX0_hoursPassed cX0_hoursPassed 1 (some .int) : Cond) ∈ TB := List.mem_filter.mpr ⟨List.mem_of_getElem? (i := 601) (by decide +kernel), by decide +kernel⟩
set_option maxRecDepth 20000 in
theorem tw_602 : (.methodLink R_law 136 yX4_again : Cond) ∈ TB := List.mem_filter.mpr ⟨List.mem_of_getElem? (i := 602) (by decide +kernel), by decide +kernel⟩
set_option maxRecDepth 20000 in
theorem tw_603 : (.instanceMethod yX4_again : Cond) ∈ TB := List.mem_filter.mpr ⟨List.mem_of_getElem? (i := 603) (by decide +kernel), by decide +kernel⟩
set_option maxRecDepth 20000 in
theorem tw_604 : (.selects RX4 yX4_again yX4_again : Cond) ∈ TB := List.mem_filter.mpr ⟨List.mem_of_getElem? (i := 604) (by decide +kernel), by decide +kernel⟩
set_option maxRecDepth 20000 in
theorem tw_605 : (.code yX4_again cX4_again 2 (some .int) : Cond) ∈ TB := List.mem_filter.mpr ⟨List.mem_of_getElem? (i := 605) (by decide +kernel), by decide +kernel⟩
set_option maxRecDepth 20000 in
theorem tw_606 : (.methodLink R_law 140 yX4_count : Cond) ∈ TB := List.mem_filter.mpr ⟨List.mem_of_getElem? (i := 606) (by decide +kernel), by decide +kernel⟩
set_option maxRecDepth 20000 in
theorem tw_607 : (.instanceMethod yX4_count : Cond) ∈ TB := List.mem_filter.mpr ⟨List.mem_of_getElem? (i := 607) (by decide +kernel), by decide +kernel⟩
set_option maxRecDepth 20000 in
theorem tw_608 : (.selects RX4 yX4_count yX4_count : Cond) ∈ TB := List.mem_filter.mpr ⟨List.mem_of_getElem? (i := 608) (by decide +kernel), by decide +kernel⟩
set_option maxRecDepth 20000 in
theorem tw_609 : (.code yX4_count cX4_count 2 (some .int) : Cond) ∈ TB := List.mem_filter.mpr ⟨List.mem_of_getElem? (i := 609) (by decide +kernel), by decide +kernel⟩
set_option maxRecDepth 20000 in
theorem tw_610 : (.methodLink RX4 269 yX0_allStones : Cond) ∈ TB := List.mem_filter.mpr ⟨List.mem_of_getElem? (i := 610) (by decide +kernel), by decide +kernel⟩
set_option maxRecDepth 20000 in
theorem tw_611 : (.instanceMethod yX0_allStones : Cond) ∈ TB := List.mem_filter.mpr ⟨List.mem_of_getElem? (i := 611) (by decide +kernel), by decide +kernel⟩
set_option maxRecDepth 20000 in
theorem tw_612 : (.selects RX0 yX0_allStones yX0_allStones : Cond) ∈ TB := List.mem_filter.mpr ⟨List.mem_of_getElem? (i := 612) (by decide +kernel), by decide +kernel⟩
set_option maxRecDepth 20000 in
theorem tw_613 : (.code yX0_allStones cX0_allStones 3 (some .int) : Cond) ∈ TB := List.mem_filter.mpr ⟨List.mem_of_getElem? (i := 613) (by decide +kernel), by decide +kernel⟩
set_option maxRecDepth 20000 in
theorem tw_614 : (.methodLink RX4 272 yX0_allGround : Cond) ∈ TB := List.mem_filter.mpr ⟨List.mem_of_getElem? (i := 614) (by decide +kernel), by decide +kernel⟩
set_option maxRecDepth 20000 in
theorem tw_615 : (.instanceMethod yX0_allGround : Cond) ∈ TB := List.mem_filter.mpr ⟨List.mem_of_getElem? (i := 615) (by decide +kernel), by decide +kernel⟩
set_option maxRecDepth 20000 in
theorem tw_616 : (.selects RX0 yX0_allGround yX0_allGround : Cond) ∈ TB := List.mem_filter.mpr ⟨List.mem_of_getElem? (i := 616) (by decide +kernel), by decide +kernel⟩
set_option maxRecDepth 20000 in
theorem tw_617 : (.code yX0_allGround cX0_allGround 3 (some .int) : Cond) ∈ TB := List.mem_filter.mpr ⟨List.mem_of_getElem? (i := 617) (by decide +kernel), by decide +kernel⟩
set_option maxRecDepth 20000 in
theorem tw_618 : (.methodLink RX0 109 yX0_groundOf : Cond) ∈ TB := List.mem_filter.mpr ⟨List.mem_of_getElem? (i := 618) (by decide +kernel), by decide +kernel⟩
set_option maxRecDepth 20000 in
theorem tw_619 : (.methodLink RX4 275 yX0_monkLoad : Cond) ∈ TB := List.mem_filter.mpr ⟨List.mem_of_getElem? (i := 619) (by decide +kernel), by decide +kernel⟩
set_option maxRecDepth 20000 in
theorem tw_620 : (.instanceMethod yX0_monkLoad : Cond) ∈ TB := List.mem_filter.mpr ⟨List.mem_of_getElem? (i := 620) (by decide +kernel), by decide +kernel⟩
set_option maxRecDepth 20000 in
theorem tw_621 : (.selects RX0 yX0_monkLoad yX0_monkLoad : Cond) ∈ TB := List.mem_filter.mpr ⟨List.mem_of_getElem? (i := 621) (by decide +kernel), by decide +kernel⟩
set_option maxRecDepth 20000 in
theorem tw_622 : (.code yX0_monkLoad cX0_monkLoad 3 (some .int) : Cond) ∈ TB := List.mem_filter.mpr ⟨List.mem_of_getElem? (i := 622) (by decide +kernel), by decide +kernel⟩
set_option maxRecDepth 20000 in
theorem tw_623 : (.classLink R_law 10 RX5 : Cond) ∈ TB := List.mem_filter.mpr ⟨List.mem_of_getElem? (i := 623) (by decide +kernel), by decide +kernel⟩
set_option maxRecDepth 20000 in
theorem tw_624 : (.instantiable RX5 19 : Cond) ∈ TB := List.mem_filter.mpr ⟨List.mem_of_getElem? (i := 624) (by decide +kernel), by decide +kernel⟩
set_option maxRecDepth 20000 in
theorem tw_625 : (.methodLink R_law 12 yX5_init : Cond) ∈ TB := List.mem_filter.mpr ⟨List.mem_of_getElem? (i := 625) (by decide +kernel), by decide +kernel⟩
set_option maxRecDepth 20000 in
theorem tw_626 : (.instanceMethod yX5_init : Cond) ∈ TB := List.mem_filter.mpr ⟨List.mem_of_getElem? (i := 626) (by decide +kernel), by decide +kernel⟩
set_option maxRecDepth 20000 in
theorem tw_627 : (.code yX5_init cX5_init 1 none : Cond) ∈ TB := List.mem_filter.mpr ⟨List.mem_of_getElem? (i := 627) (by decide +kernel), by decide +kernel⟩
set_option maxRecDepth 20000 in
theorem tw_628 : (.methodLink RX5 1 objectInit : Cond) ∈ TB := List.mem_filter.mpr ⟨List.mem_of_getElem? (i := 628) (by decide +kernel), by decide +kernel⟩
set_option maxRecDepth 20000 in
theorem tw_629 : (.fieldLink RX5 74 "LeanLaneModel" "houses" "I" : Cond) ∈ TB := List.mem_filter.mpr ⟨List.mem_of_getElem? (i := 629) (by decide +kernel), by decide +kernel⟩
set_option maxRecDepth 20000 in
theorem tw_630 : (.fieldLink RX5 7 "LeanLaneModel" "strength" "[I" : Cond) ∈ TB := List.mem_filter.mpr ⟨List.mem_of_getElem? (i := 630) (by decide +kernel), by decide +kernel⟩
set_option maxRecDepth 20000 in
theorem tw_631 : (.fieldLink RX5 13 "LeanLaneModel" "now" "[I" : Cond) ∈ TB := List.mem_filter.mpr ⟨List.mem_of_getElem? (i := 631) (by decide +kernel), by decide +kernel⟩
set_option maxRecDepth 20000 in
theorem tw_632 : (.fieldLink RX5 16 "LeanLaneModel" "read" "[I" : Cond) ∈ TB := List.mem_filter.mpr ⟨List.mem_of_getElem? (i := 632) (by decide +kernel), by decide +kernel⟩
set_option maxRecDepth 20000 in
theorem tw_633 : (.fieldLink RX5 57 "LeanLaneModel" "readHouses" "I" : Cond) ∈ TB := List.mem_filter.mpr ⟨List.mem_of_getElem? (i := 633) (by decide +kernel), by decide +kernel⟩
set_option maxRecDepth 20000 in
theorem tw_634 : (.fieldLink RX5 19 "LeanLaneModel" "text" "[I" : Cond) ∈ TB := List.mem_filter.mpr ⟨List.mem_of_getElem? (i := 634) (by decide +kernel), by decide +kernel⟩
set_option maxRecDepth 20000 in
theorem tw_635 : (.fieldLink RX5 53 "LeanLaneModel" "length" "I" : Cond) ∈ TB := List.mem_filter.mpr ⟨List.mem_of_getElem? (i := 635) (by decide +kernel), by decide +kernel⟩
set_option maxRecDepth 20000 in
theorem tw_636 : (.fieldLink RX5 22 "LeanLaneModel" "loads" "[I" : Cond) ∈ TB := List.mem_filter.mpr ⟨List.mem_of_getElem? (i := 636) (by decide +kernel), by decide +kernel⟩
set_option maxRecDepth 20000 in
theorem tw_637 : (.fieldLink RX5 25 "LeanLaneModel" "falling" "[I" : Cond) ∈ TB := List.mem_filter.mpr ⟨List.mem_of_getElem? (i := 637) (by decide +kernel), by decide +kernel⟩
set_option maxRecDepth 20000 in
theorem tw_638 : (.fieldLink RX5 77 "LeanLaneModel" "acts" "I" : Cond) ∈ TB := List.mem_filter.mpr ⟨List.mem_of_getElem? (i := 638) (by decide +kernel), by decide +kernel⟩
set_option maxRecDepth 20000 in
theorem tw_639 : (.fieldLink RX5 105 "LeanLaneModel" "next" "I" : Cond) ∈ TB := List.mem_filter.mpr ⟨List.mem_of_getElem? (i := 639) (by decide +kernel), by decide +kernel⟩
set_option maxRecDepth 20000 in
theorem tw_640 : (.fieldLink RX5 28 "LeanLaneModel" "row" "[I" : Cond) ∈ TB := List.mem_filter.mpr ⟨List.mem_of_getElem? (i := 640) (by decide +kernel), by decide +kernel⟩
set_option maxRecDepth 20000 in
theorem tw_641 : (.fieldLink RX5 175 "LeanLaneModel" "seen" "I" : Cond) ∈ TB := List.mem_filter.mpr ⟨List.mem_of_getElem? (i := 641) (by decide +kernel), by decide +kernel⟩
set_option maxRecDepth 20000 in
theorem tw_642 : (.fieldLink RX5 31 "LeanLaneModel" "seenHours" "[I" : Cond) ∈ TB := List.mem_filter.mpr ⟨List.mem_of_getElem? (i := 642) (by decide +kernel), by decide +kernel⟩
set_option maxRecDepth 20000 in
theorem tw_643 : (.fieldLink RX5 34 "LeanLaneModel" "seenHouse" "[I" : Cond) ∈ TB := List.mem_filter.mpr ⟨List.mem_of_getElem? (i := 643) (by decide +kernel), by decide +kernel⟩
set_option maxRecDepth 20000 in
theorem tw_644 : (.fieldLink RX5 37 "LeanLaneModel" "seenStood" "[I" : Cond) ∈ TB := List.mem_filter.mpr ⟨List.mem_of_getElem? (i := 644) (by decide +kernel), by decide +kernel⟩
set_option maxRecDepth 20000 in
theorem tw_645 : (.fieldLink RX5 199 "LeanLaneModel" "seed" "J" : Cond) ∈ TB := List.mem_filter.mpr ⟨List.mem_of_getElem? (i := 645) (by decide +kernel), by decide +kernel⟩
set_option maxRecDepth 20000 in
theorem tw_646 : (.fieldLink RX5 40 "LeanLaneModel" "isKept" "[Z" : Cond) ∈ TB := List.mem_filter.mpr ⟨List.mem_of_getElem? (i := 646) (by decide +kernel), by decide +kernel⟩
set_option maxRecDepth 20000 in
theorem tw_647 : (.fieldLink RX5 44 "LeanLaneModel" "kept" "[I" : Cond) ∈ TB := List.mem_filter.mpr ⟨List.mem_of_getElem? (i := 647) (by decide +kernel), by decide +kernel⟩
set_option maxRecDepth 20000 in
theorem tw_687 : (.arrayClass .boolean : Cond) ∈ TB := List.mem_filter.mpr ⟨List.mem_of_getElem? (i := 687) (by decide +kernel), by decide +kernel⟩
set_option maxRecDepth 20000 in
theorem tw_688 : (.methodLink R_law 17 yX5_write : Cond) ∈ TB := List.mem_filter.mpr ⟨List.mem_of_getElem? (i := 688) (by decide +kernel), by decide +kernel⟩
set_option maxRecDepth 20000 in
theorem tw_689 : (.instanceMethod yX5_write : Cond) ∈ TB := List.mem_filter.mpr ⟨List.mem_of_getElem? (i := 689) (by decide +kernel), by decide +kernel⟩
set_option maxRecDepth 20000 in
theorem tw_690 : (.selects RX5 yX5_write yX5_write : Cond) ∈ TB := List.mem_filter.mpr ⟨List.mem_of_getElem? (i := 690) (by decide +kernel), by decide +kernel⟩
set_option maxRecDepth 20000 in
theorem tw_691 : (.code yX5_write cX5_write 2 (some .int) : Cond) ∈ TB := List.mem_filter.mpr ⟨List.mem_of_getElem? (i := 691) (by decide +kernel), by decide +kernel⟩
set_option maxRecDepth 20000 in
theorem tw_692 : (.constantLong RX5 47 255 : Cond) ∈ TB := List.mem_filter.mpr ⟨List.mem_of_getElem? (i := 692) (by decide +kernel), by decide +kernel⟩
set_option maxRecDepth 20000 in
theorem tw_693 : (.methodLink RX5 49 yX5_in : Cond) ∈ TB := List.mem_filter.mpr ⟨List.mem_of_getElem? (i := 693) (by decide +kernel), by decide +kernel⟩
set_option maxRecDepth 20000 in
theorem tw_694 : (.static yX5_in : Cond) ∈ TB := List.mem_filter.mpr ⟨List.mem_of_getElem? (i := 694) (by decide +kernel), by decide +kernel⟩
set_option maxRecDepth 20000 in
theorem tw_695 : (.code yX5_in cX5_in 6 (some .boolean) : Cond) ∈ TB := List.mem_filter.mpr ⟨List.mem_of_getElem? (i := 695) (by decide +kernel), by decide +kernel⟩
set_option maxRecDepth 20000 in
theorem tw_696 : (.methodLink R_law 22 yX5_wipe : Cond) ∈ TB := List.mem_filter.mpr ⟨List.mem_of_getElem? (i := 696) (by decide +kernel), by decide +kernel⟩
set_option maxRecDepth 20000 in
theorem tw_697 : (.instanceMethod yX5_wipe : Cond) ∈ TB := List.mem_filter.mpr ⟨List.mem_of_getElem? (i := 697) (by decide +kernel), by decide +kernel⟩
set_option maxRecDepth 20000 in
theorem tw_698 : (.selects RX5 yX5_wipe yX5_wipe : Cond) ∈ TB := List.mem_filter.mpr ⟨List.mem_of_getElem? (i := 698) (by decide +kernel), by decide +kernel⟩
set_option maxRecDepth 20000 in
theorem tw_699 : (.code yX5_wipe cX5_wipe 2 (some .int) : Cond) ∈ TB := List.mem_filter.mpr ⟨List.mem_of_getElem? (i := 699) (by decide +kernel), by decide +kernel⟩
set_option maxRecDepth 20000 in
theorem tw_700 : (.methodLink R_law 26 yX5_fault : Cond) ∈ TB := List.mem_filter.mpr ⟨List.mem_of_getElem? (i := 700) (by decide +kernel), by decide +kernel⟩
set_option maxRecDepth 20000 in
theorem tw_701 : (.instanceMethod yX5_fault : Cond) ∈ TB := List.mem_filter.mpr ⟨List.mem_of_getElem? (i := 701) (by decide +kernel), by decide +kernel⟩
set_option maxRecDepth 20000 in
theorem tw_702 : (.selects RX5 yX5_fault yX5_fault : Cond) ∈ TB := List.mem_filter.mpr ⟨List.mem_of_getElem? (i := 702) (by decide +kernel), by decide +kernel⟩
set_option maxRecDepth 20000 in
theorem tw_703 : (.code yX5_fault cX5_fault 1 (some .int) : Cond) ∈ TB := List.mem_filter.mpr ⟨List.mem_of_getElem? (i := 703) (by decide +kernel), by decide +kernel⟩
set_option maxRecDepth 20000 in
theorem tw_704 : (.methodLink RX5 70 yX5_readText : Cond) ∈ TB := List.mem_filter.mpr ⟨List.mem_of_getElem? (i := 704) (by decide +kernel), by decide +kernel⟩
set_option maxRecDepth 20000 in
theorem tw_706 : (.instanceMethod yX5_readText : Cond) ∈ TB := List.mem_filter.mpr ⟨List.mem_of_getElem? (i := 706) (by decide +kernel), by decide +kernel⟩
set_option maxRecDepth 20000 in
theorem tw_707 : (.code yX5_readText cX5_readText 5 (some .int) : Cond) ∈ TB := List.mem_filter.mpr ⟨List.mem_of_getElem? (i := 707) (by decide +kernel), by decide +kernel⟩
set_option maxRecDepth 20000 in
theorem tw_708 : (.constantLong RX5 60 48 : Cond) ∈ TB := List.mem_filter.mpr ⟨List.mem_of_getElem? (i := 708) (by decide +kernel), by decide +kernel⟩
set_option maxRecDepth 20000 in
theorem tw_709 : (.constantLong RX5 62 52 : Cond) ∈ TB := List.mem_filter.mpr ⟨List.mem_of_getElem? (i := 709) (by decide +kernel), by decide +kernel⟩
set_option maxRecDepth 20000 in
theorem tw_710 : (.constantLong RX5 64 57 : Cond) ∈ TB := List.mem_filter.mpr ⟨List.mem_of_getElem? (i := 710) (by decide +kernel), by decide +kernel⟩
set_option maxRecDepth 20000 in
theorem tw_711 : (.methodLink RX5 66 yX5_deedOf : Cond) ∈ TB := List.mem_filter.mpr ⟨List.mem_of_getElem? (i := 711) (by decide +kernel), by decide +kernel⟩
set_option maxRecDepth 20000 in
theorem tw_712 : (.static yX5_deedOf : Cond) ∈ TB := List.mem_filter.mpr ⟨List.mem_of_getElem? (i := 712) (by decide +kernel), by decide +kernel⟩
set_option maxRecDepth 20000 in
theorem tw_713 : (.code yX5_deedOf cX5_deedOf 1 (some .int) : Cond) ∈ TB := List.mem_filter.mpr ⟨List.mem_of_getElem? (i := 713) (by decide +kernel), by decide +kernel⟩
set_option maxRecDepth 20000 in
theorem tw_714 : (.methodLink R_law 30 yX5_lane : Cond) ∈ TB := List.mem_filter.mpr ⟨List.mem_of_getElem? (i := 714) (by decide +kernel), by decide +kernel⟩
set_option maxRecDepth 20000 in
theorem tw_715 : (.instanceMethod yX5_lane : Cond) ∈ TB := List.mem_filter.mpr ⟨List.mem_of_getElem? (i := 715) (by decide +kernel), by decide +kernel⟩
set_option maxRecDepth 20000 in
theorem tw_716 : (.selects RX5 yX5_lane yX5_lane : Cond) ∈ TB := List.mem_filter.mpr ⟨List.mem_of_getElem? (i := 716) (by decide +kernel), by decide +kernel⟩
set_option maxRecDepth 20000 in
theorem tw_717 : (.code yX5_lane cX5_lane 2 (some .int) : Cond) ∈ TB := List.mem_filter.mpr ⟨List.mem_of_getElem? (i := 717) (by decide +kernel), by decide +kernel⟩
set_option maxRecDepth 20000 in
theorem tw_718 : (.methodLink R_law 35 yX5_house : Cond) ∈ TB := List.mem_filter.mpr ⟨List.mem_of_getElem? (i := 718) (by decide +kernel), by decide +kernel⟩
set_option maxRecDepth 20000 in
theorem tw_719 : (.instanceMethod yX5_house : Cond) ∈ TB := List.mem_filter.mpr ⟨List.mem_of_getElem? (i := 719) (by decide +kernel), by decide +kernel⟩
set_option maxRecDepth 20000 in
theorem tw_720 : (.selects RX5 yX5_house yX5_house : Cond) ∈ TB := List.mem_filter.mpr ⟨List.mem_of_getElem? (i := 720) (by decide +kernel), by decide +kernel⟩
set_option maxRecDepth 20000 in
theorem tw_721 : (.code yX5_house cX5_house 3 (some .int) : Cond) ∈ TB := List.mem_filter.mpr ⟨List.mem_of_getElem? (i := 721) (by decide +kernel), by decide +kernel⟩
set_option maxRecDepth 20000 in
theorem tw_722 : (.methodLink RX5 91 yX5_isHouse : Cond) ∈ TB := List.mem_filter.mpr ⟨List.mem_of_getElem? (i := 722) (by decide +kernel), by decide +kernel⟩
set_option maxRecDepth 20000 in
theorem tw_724 : (.instanceMethod yX5_isHouse : Cond) ∈ TB := List.mem_filter.mpr ⟨List.mem_of_getElem? (i := 724) (by decide +kernel), by decide +kernel⟩
set_option maxRecDepth 20000 in
theorem tw_725 : (.code yX5_isHouse cX5_isHouse 2 (some .boolean) : Cond) ∈ TB := List.mem_filter.mpr ⟨List.mem_of_getElem? (i := 725) (by decide +kernel), by decide +kernel⟩
set_option maxRecDepth 20000 in
theorem tw_726 : (.methodLink RX5 84 yX5_givesOf : Cond) ∈ TB := List.mem_filter.mpr ⟨List.mem_of_getElem? (i := 726) (by decide +kernel), by decide +kernel⟩
set_option maxRecDepth 20000 in
theorem tw_728 : (.instanceMethod yX5_givesOf : Cond) ∈ TB := List.mem_filter.mpr ⟨List.mem_of_getElem? (i := 728) (by decide +kernel), by decide +kernel⟩
set_option maxRecDepth 20000 in
theorem tw_729 : (.code yX5_givesOf cX5_givesOf 5 (some .int) : Cond) ∈ TB := List.mem_filter.mpr ⟨List.mem_of_getElem? (i := 729) (by decide +kernel), by decide +kernel⟩
set_option maxRecDepth 20000 in
theorem tw_730 : (.methodLink RX5 80 yX5_at : Cond) ∈ TB := List.mem_filter.mpr ⟨List.mem_of_getElem? (i := 730) (by decide +kernel), by decide +kernel⟩
set_option maxRecDepth 20000 in
theorem tw_732 : (.instanceMethod yX5_at : Cond) ∈ TB := List.mem_filter.mpr ⟨List.mem_of_getElem? (i := 732) (by decide +kernel), by decide +kernel⟩
set_option maxRecDepth 20000 in
theorem tw_733 : (.code yX5_at cX5_at 4 (some .int) : Cond) ∈ TB := List.mem_filter.mpr ⟨List.mem_of_getElem? (i := 733) (by decide +kernel), by decide +kernel⟩
set_option maxRecDepth 20000 in
theorem tw_734 : (.methodLink RX5 99 yX5_groundOf : Cond) ∈ TB := List.mem_filter.mpr ⟨List.mem_of_getElem? (i := 734) (by decide +kernel), by decide +kernel⟩
set_option maxRecDepth 20000 in
theorem tw_736 : (.instanceMethod yX5_groundOf : Cond) ∈ TB := List.mem_filter.mpr ⟨List.mem_of_getElem? (i := 736) (by decide +kernel), by decide +kernel⟩
set_option maxRecDepth 20000 in
theorem tw_737 : (.code yX5_groundOf cX5_groundOf 3 (some .int) : Cond) ∈ TB := List.mem_filter.mpr ⟨List.mem_of_getElem? (i := 737) (by decide +kernel), by decide +kernel⟩
set_option maxRecDepth 20000 in
theorem tw_738 : (.methodLink R_law 39 yX5_hour : Cond) ∈ TB := List.mem_filter.mpr ⟨List.mem_of_getElem? (i := 738) (by decide +kernel), by decide +kernel⟩
set_option maxRecDepth 20000 in
theorem tw_739 : (.instanceMethod yX5_hour : Cond) ∈ TB := List.mem_filter.mpr ⟨List.mem_of_getElem? (i := 739) (by decide +kernel), by decide +kernel⟩
set_option maxRecDepth 20000 in
theorem tw_740 : (.selects RX5 yX5_hour yX5_hour : Cond) ∈ TB := List.mem_filter.mpr ⟨List.mem_of_getElem? (i := 740) (by decide +kernel), by decide +kernel⟩
set_option maxRecDepth 20000 in
theorem tw_741 : (.code yX5_hour cX5_hour 1 (some .int) : Cond) ∈ TB := List.mem_filter.mpr ⟨List.mem_of_getElem? (i := 741) (by decide +kernel), by decide +kernel⟩
set_option maxRecDepth 20000 in
theorem tw_742 : (.methodLink RX5 108 yX5_keepAct : Cond) ∈ TB := List.mem_filter.mpr ⟨List.mem_of_getElem? (i := 742) (by decide +kernel), by decide +kernel⟩
set_option maxRecDepth 20000 in
theorem tw_744 : (.instanceMethod yX5_keepAct : Cond) ∈ TB := List.mem_filter.mpr ⟨List.mem_of_getElem? (i := 744) (by decide +kernel), by decide +kernel⟩
set_option maxRecDepth 20000 in
theorem tw_745 : (.code yX5_keepAct cX5_keepAct 2 none : Cond) ∈ TB := List.mem_filter.mpr ⟨List.mem_of_getElem? (i := 745) (by decide +kernel), by decide +kernel⟩
set_option maxRecDepth 20000 in
theorem tw_746 : (.methodLink RX5 111 yX5_hourOn : Cond) ∈ TB := List.mem_filter.mpr ⟨List.mem_of_getElem? (i := 746) (by decide +kernel), by decide +kernel⟩
set_option maxRecDepth 20000 in
theorem tw_748 : (.instanceMethod yX5_hourOn : Cond) ∈ TB := List.mem_filter.mpr ⟨List.mem_of_getElem? (i := 748) (by decide +kernel), by decide +kernel⟩
set_option maxRecDepth 20000 in
theorem tw_749 : (.code yX5_hourOn cX5_hourOn 7 (some .int) : Cond) ∈ TB := List.mem_filter.mpr ⟨List.mem_of_getElem? (i := 749) (by decide +kernel), by decide +kernel⟩
set_option maxRecDepth 20000 in
theorem tw_750 : (.methodLink RX5 88 yX5_leansOn : Cond) ∈ TB := List.mem_filter.mpr ⟨List.mem_of_getElem? (i := 750) (by decide +kernel), by decide +kernel⟩
set_option maxRecDepth 20000 in
theorem tw_752 : (.instanceMethod yX5_leansOn : Cond) ∈ TB := List.mem_filter.mpr ⟨List.mem_of_getElem? (i := 752) (by decide +kernel), by decide +kernel⟩
set_option maxRecDepth 20000 in
theorem tw_753 : (.code yX5_leansOn cX5_leansOn 4 (some .int) : Cond) ∈ TB := List.mem_filter.mpr ⟨List.mem_of_getElem? (i := 753) (by decide +kernel), by decide +kernel⟩
set_option maxRecDepth 20000 in
theorem tw_754 : (.methodLink RX5 95 yX5_isHeld : Cond) ∈ TB := List.mem_filter.mpr ⟨List.mem_of_getElem? (i := 754) (by decide +kernel), by decide +kernel⟩
set_option maxRecDepth 20000 in
theorem tw_756 : (.instanceMethod yX5_isHeld : Cond) ∈ TB := List.mem_filter.mpr ⟨List.mem_of_getElem? (i := 756) (by decide +kernel), by decide +kernel⟩
set_option maxRecDepth 20000 in
theorem tw_757 : (.code yX5_isHeld cX5_isHeld 4 (some .boolean) : Cond) ∈ TB := List.mem_filter.mpr ⟨List.mem_of_getElem? (i := 757) (by decide +kernel), by decide +kernel⟩
set_option maxRecDepth 20000 in
theorem tw_758 : (.methodLink RX5 102 yX5_has : Cond) ∈ TB := List.mem_filter.mpr ⟨List.mem_of_getElem? (i := 758) (by decide +kernel), by decide +kernel⟩
set_option maxRecDepth 20000 in
theorem tw_759 : (.static yX5_has : Cond) ∈ TB := List.mem_filter.mpr ⟨List.mem_of_getElem? (i := 759) (by decide +kernel), by decide +kernel⟩
set_option maxRecDepth 20000 in
theorem tw_760 : (.code yX5_has cX5_has 2 (some .boolean) : Cond) ∈ TB := List.mem_filter.mpr ⟨List.mem_of_getElem? (i := 760) (by decide +kernel), by decide +kernel⟩
set_option maxRecDepth 20000 in
theorem tw_761 : (.methodLink RX5 114 yX5_ones : Cond) ∈ TB := List.mem_filter.mpr ⟨List.mem_of_getElem? (i := 761) (by decide +kernel), by decide +kernel⟩
set_option maxRecDepth 20000 in
theorem tw_762 : (.static yX5_ones : Cond) ∈ TB := List.mem_filter.mpr ⟨List.mem_of_getElem? (i := 762) (by decide +kernel), by decide +kernel⟩
set_option maxRecDepth 20000 in
theorem tw_763 : (.code yX5_ones cX5_ones 3 (some .int) : Cond) ∈ TB := List.mem_filter.mpr ⟨List.mem_of_getElem? (i := 763) (by decide +kernel), by decide +kernel⟩
set_option maxRecDepth 20000 in
theorem tw_764 : (.methodLink R_law 43 yX5_bring : Cond) ∈ TB := List.mem_filter.mpr ⟨List.mem_of_getElem? (i := 764) (by decide +kernel), by decide +kernel⟩
set_option maxRecDepth 20000 in
theorem tw_765 : (.instanceMethod yX5_bring : Cond) ∈ TB := List.mem_filter.mpr ⟨List.mem_of_getElem? (i := 765) (by decide +kernel), by decide +kernel⟩
set_option maxRecDepth 20000 in
theorem tw_766 : (.selects RX5 yX5_bring yX5_bring : Cond) ∈ TB := List.mem_filter.mpr ⟨List.mem_of_getElem? (i := 766) (by decide +kernel), by decide +kernel⟩
set_option maxRecDepth 20000 in
theorem tw_767 : (.code yX5_bring cX5_bring 3 (some .int) : Cond) ∈ TB := List.mem_filter.mpr ⟨List.mem_of_getElem? (i := 767) (by decide +kernel), by decide +kernel⟩
set_option maxRecDepth 20000 in
theorem tw_768 : (.constantLong RX5 117 9 : Cond) ∈ TB := List.mem_filter.mpr ⟨List.mem_of_getElem? (i := 768) (by decide +kernel), by decide +kernel⟩
set_option maxRecDepth 20000 in
theorem tw_769 : (.methodLink RX5 119 yX5_canBring : Cond) ∈ TB := List.mem_filter.mpr ⟨List.mem_of_getElem? (i := 769) (by decide +kernel), by decide +kernel⟩
set_option maxRecDepth 20000 in
theorem tw_771 : (.instanceMethod yX5_canBring : Cond) ∈ TB := List.mem_filter.mpr ⟨List.mem_of_getElem? (i := 771) (by decide +kernel), by decide +kernel⟩
set_option maxRecDepth 20000 in
theorem tw_772 : (.code yX5_canBring cX5_canBring 4 (some .boolean) : Cond) ∈ TB := List.mem_filter.mpr ⟨List.mem_of_getElem? (i := 772) (by decide +kernel), by decide +kernel⟩
set_option maxRecDepth 20000 in
theorem tw_773 : (.methodLink R_law 47 yX5_take : Cond) ∈ TB := List.mem_filter.mpr ⟨List.mem_of_getElem? (i := 773) (by decide +kernel), by decide +kernel⟩
set_option maxRecDepth 20000 in
theorem tw_774 : (.instanceMethod yX5_take : Cond) ∈ TB := List.mem_filter.mpr ⟨List.mem_of_getElem? (i := 774) (by decide +kernel), by decide +kernel⟩
set_option maxRecDepth 20000 in
theorem tw_775 : (.selects RX5 yX5_take yX5_take : Cond) ∈ TB := List.mem_filter.mpr ⟨List.mem_of_getElem? (i := 775) (by decide +kernel), by decide +kernel⟩
set_option maxRecDepth 20000 in
theorem tw_776 : (.code yX5_take cX5_take 3 (some .int) : Cond) ∈ TB := List.mem_filter.mpr ⟨List.mem_of_getElem? (i := 776) (by decide +kernel), by decide +kernel⟩
set_option maxRecDepth 20000 in
theorem tw_777 : (.methodLink RX5 123 yX5_canTake : Cond) ∈ TB := List.mem_filter.mpr ⟨List.mem_of_getElem? (i := 777) (by decide +kernel), by decide +kernel⟩
set_option maxRecDepth 20000 in
theorem tw_779 : (.instanceMethod yX5_canTake : Cond) ∈ TB := List.mem_filter.mpr ⟨List.mem_of_getElem? (i := 779) (by decide +kernel), by decide +kernel⟩
set_option maxRecDepth 20000 in
theorem tw_780 : (.code yX5_canTake cX5_canTake 4 (some .boolean) : Cond) ∈ TB := List.mem_filter.mpr ⟨List.mem_of_getElem? (i := 780) (by decide +kernel), by decide +kernel⟩
set_option maxRecDepth 20000 in
theorem tw_781 : (.methodLink R_law 51 yX5_deed : Cond) ∈ TB := List.mem_filter.mpr ⟨List.mem_of_getElem? (i := 781) (by decide +kernel), by decide +kernel⟩
set_option maxRecDepth 20000 in
theorem tw_782 : (.instanceMethod yX5_deed : Cond) ∈ TB := List.mem_filter.mpr ⟨List.mem_of_getElem? (i := 782) (by decide +kernel), by decide +kernel⟩
set_option maxRecDepth 20000 in
theorem tw_783 : (.selects RX5 yX5_deed yX5_deed : Cond) ∈ TB := List.mem_filter.mpr ⟨List.mem_of_getElem? (i := 783) (by decide +kernel), by decide +kernel⟩
set_option maxRecDepth 20000 in
theorem tw_784 : (.code yX5_deed cX5_deed 4 (some .int) : Cond) ∈ TB := List.mem_filter.mpr ⟨List.mem_of_getElem? (i := 784) (by decide +kernel), by decide +kernel⟩
set_option maxRecDepth 20000 in
theorem tw_785 : (.constantLong RX5 126 2 : Cond) ∈ TB := List.mem_filter.mpr ⟨List.mem_of_getElem? (i := 785) (by decide +kernel), by decide +kernel⟩
set_option maxRecDepth 20000 in
theorem tw_786 : (.methodLink R_law 55 yX5_build : Cond) ∈ TB := List.mem_filter.mpr ⟨List.mem_of_getElem? (i := 786) (by decide +kernel), by decide +kernel⟩
set_option maxRecDepth 20000 in
theorem tw_787 : (.instanceMethod yX5_build : Cond) ∈ TB := List.mem_filter.mpr ⟨List.mem_of_getElem? (i := 787) (by decide +kernel), by decide +kernel⟩
set_option maxRecDepth 20000 in
theorem tw_788 : (.selects RX5 yX5_build yX5_build : Cond) ∈ TB := List.mem_filter.mpr ⟨List.mem_of_getElem? (i := 788) (by decide +kernel), by decide +kernel⟩
set_option maxRecDepth 20000 in
theorem tw_789 : (.code yX5_build cX5_build 2 (some .int) : Cond) ∈ TB := List.mem_filter.mpr ⟨List.mem_of_getElem? (i := 789) (by decide +kernel), by decide +kernel⟩
set_option maxRecDepth 20000 in
theorem tw_790 : (.methodLink RX5 128 yX5_buildOn : Cond) ∈ TB := List.mem_filter.mpr ⟨List.mem_of_getElem? (i := 790) (by decide +kernel), by decide +kernel⟩
set_option maxRecDepth 20000 in
theorem tw_792 : (.instanceMethod yX5_buildOn : Cond) ∈ TB := List.mem_filter.mpr ⟨List.mem_of_getElem? (i := 792) (by decide +kernel), by decide +kernel⟩
set_option maxRecDepth 20000 in
theorem tw_793 : (.code yX5_buildOn cX5_buildOn 4 none : Cond) ∈ TB := List.mem_filter.mpr ⟨List.mem_of_getElem? (i := 793) (by decide +kernel), by decide +kernel⟩
set_option maxRecDepth 20000 in
theorem tw_794 : (.methodLink R_law 59 yX5_undo : Cond) ∈ TB := List.mem_filter.mpr ⟨List.mem_of_getElem? (i := 794) (by decide +kernel), by decide +kernel⟩
set_option maxRecDepth 20000 in
theorem tw_795 : (.instanceMethod yX5_undo : Cond) ∈ TB := List.mem_filter.mpr ⟨List.mem_of_getElem? (i := 795) (by decide +kernel), by decide +kernel⟩
set_option maxRecDepth 20000 in
theorem tw_796 : (.selects RX5 yX5_undo yX5_undo : Cond) ∈ TB := List.mem_filter.mpr ⟨List.mem_of_getElem? (i := 796) (by decide +kernel), by decide +kernel⟩
set_option maxRecDepth 20000 in
theorem tw_797 : (.code yX5_undo cX5_undo 2 (some .int) : Cond) ∈ TB := List.mem_filter.mpr ⟨List.mem_of_getElem? (i := 797) (by decide +kernel), by decide +kernel⟩
set_option maxRecDepth 20000 in
theorem tw_798 : (.methodLink R_law 64 yX5_later : Cond) ∈ TB := List.mem_filter.mpr ⟨List.mem_of_getElem? (i := 798) (by decide +kernel), by decide +kernel⟩
set_option maxRecDepth 20000 in
theorem tw_799 : (.instanceMethod yX5_later : Cond) ∈ TB := List.mem_filter.mpr ⟨List.mem_of_getElem? (i := 799) (by decide +kernel), by decide +kernel⟩
set_option maxRecDepth 20000 in
theorem tw_800 : (.selects RX5 yX5_later yX5_later : Cond) ∈ TB := List.mem_filter.mpr ⟨List.mem_of_getElem? (i := 800) (by decide +kernel), by decide +kernel⟩
set_option maxRecDepth 20000 in
theorem tw_801 : (.code yX5_later cX5_later 4 (some .int) : Cond) ∈ TB := List.mem_filter.mpr ⟨List.mem_of_getElem? (i := 801) (by decide +kernel), by decide +kernel⟩
set_option maxRecDepth 20000 in
theorem tw_802 : (.constantLong RX5 132 30 : Cond) ∈ TB := List.mem_filter.mpr ⟨List.mem_of_getElem? (i := 802) (by decide +kernel), by decide +kernel⟩
set_option maxRecDepth 20000 in
theorem tw_803 : (.methodLink RX5 134 yX5_layTrial : Cond) ∈ TB := List.mem_filter.mpr ⟨List.mem_of_getElem? (i := 803) (by decide +kernel), by decide +kernel⟩
set_option maxRecDepth 20000 in
theorem tw_805 : (.instanceMethod yX5_layTrial : Cond) ∈ TB := List.mem_filter.mpr ⟨List.mem_of_getElem? (i := 805) (by decide +kernel), by decide +kernel⟩
set_option maxRecDepth 20000 in
theorem tw_806 : (.code yX5_layTrial cX5_layTrial 2 none : Cond) ∈ TB := List.mem_filter.mpr ⟨List.mem_of_getElem? (i := 806) (by decide +kernel), by decide +kernel⟩
set_option maxRecDepth 20000 in
theorem tw_807 : (.methodLink RX5 137 yX5_goOn : Cond) ∈ TB := List.mem_filter.mpr ⟨List.mem_of_getElem? (i := 807) (by decide +kernel), by decide +kernel⟩
set_option maxRecDepth 20000 in
theorem tw_809 : (.instanceMethod yX5_goOn : Cond) ∈ TB := List.mem_filter.mpr ⟨List.mem_of_getElem? (i := 809) (by decide +kernel), by decide +kernel⟩
set_option maxRecDepth 20000 in
theorem tw_810 : (.code yX5_goOn cX5_goOn 4 (some .int) : Cond) ∈ TB := List.mem_filter.mpr ⟨List.mem_of_getElem? (i := 810) (by decide +kernel), by decide +kernel⟩
set_option maxRecDepth 20000 in
theorem tw_811 : (.methodLink R_law 68 yX5_standing : Cond) ∈ TB := List.mem_filter.mpr ⟨List.mem_of_getElem? (i := 811) (by decide +kernel), by decide +kernel⟩
set_option maxRecDepth 20000 in
theorem tw_812 : (.instanceMethod yX5_standing : Cond) ∈ TB := List.mem_filter.mpr ⟨List.mem_of_getElem? (i := 812) (by decide +kernel), by decide +kernel⟩
set_option maxRecDepth 20000 in
theorem tw_813 : (.selects RX5 yX5_standing yX5_standing : Cond) ∈ TB := List.mem_filter.mpr ⟨List.mem_of_getElem? (i := 813) (by decide +kernel), by decide +kernel⟩
set_option maxRecDepth 20000 in
theorem tw_814 : (.code yX5_standing cX5_standing 2 (some .int) : Cond) ∈ TB := List.mem_filter.mpr ⟨List.mem_of_getElem? (i := 814) (by decide +kernel), by decide +kernel⟩
set_option maxRecDepth 20000 in
theorem tw_815 : (.methodLink RX5 140 yX5_standingOn : Cond) ∈ TB := List.mem_filter.mpr ⟨List.mem_of_getElem? (i := 815) (by decide +kernel), by decide +kernel⟩
set_option maxRecDepth 20000 in
theorem tw_817 : (.instanceMethod yX5_standingOn : Cond) ∈ TB := List.mem_filter.mpr ⟨List.mem_of_getElem? (i := 817) (by decide +kernel), by decide +kernel⟩
set_option maxRecDepth 20000 in
theorem tw_818 : (.code yX5_standingOn cX5_standingOn 4 (some .int) : Cond) ∈ TB := List.mem_filter.mpr ⟨List.mem_of_getElem? (i := 818) (by decide +kernel), by decide +kernel⟩
set_option maxRecDepth 20000 in
theorem tw_819 : (.methodLink R_law 72 yX5_falls : Cond) ∈ TB := List.mem_filter.mpr ⟨List.mem_of_getElem? (i := 819) (by decide +kernel), by decide +kernel⟩
set_option maxRecDepth 20000 in
theorem tw_820 : (.instanceMethod yX5_falls : Cond) ∈ TB := List.mem_filter.mpr ⟨List.mem_of_getElem? (i := 820) (by decide +kernel), by decide +kernel⟩
set_option maxRecDepth 20000 in
theorem tw_821 : (.selects RX5 yX5_falls yX5_falls : Cond) ∈ TB := List.mem_filter.mpr ⟨List.mem_of_getElem? (i := 821) (by decide +kernel), by decide +kernel⟩
set_option maxRecDepth 20000 in
theorem tw_822 : (.code yX5_falls cX5_falls 3 (some .int) : Cond) ∈ TB := List.mem_filter.mpr ⟨List.mem_of_getElem? (i := 822) (by decide +kernel), by decide +kernel⟩
set_option maxRecDepth 20000 in
theorem tw_823 : (.methodLink R_law 76 yX5_rings : Cond) ∈ TB := List.mem_filter.mpr ⟨List.mem_of_getElem? (i := 823) (by decide +kernel), by decide +kernel⟩
set_option maxRecDepth 20000 in
theorem tw_824 : (.instanceMethod yX5_rings : Cond) ∈ TB := List.mem_filter.mpr ⟨List.mem_of_getElem? (i := 824) (by decide +kernel), by decide +kernel⟩
set_option maxRecDepth 20000 in
theorem tw_825 : (.selects RX5 yX5_rings yX5_rings : Cond) ∈ TB := List.mem_filter.mpr ⟨List.mem_of_getElem? (i := 825) (by decide +kernel), by decide +kernel⟩
set_option maxRecDepth 20000 in
theorem tw_826 : (.code yX5_rings cX5_rings 4 (some .int) : Cond) ∈ TB := List.mem_filter.mpr ⟨List.mem_of_getElem? (i := 826) (by decide +kernel), by decide +kernel⟩
set_option maxRecDepth 20000 in
theorem tw_827 : (.methodLink R_law 83 yX5_orders : Cond) ∈ TB := List.mem_filter.mpr ⟨List.mem_of_getElem? (i := 827) (by decide +kernel), by decide +kernel⟩
set_option maxRecDepth 20000 in
theorem tw_828 : (.instanceMethod yX5_orders : Cond) ∈ TB := List.mem_filter.mpr ⟨List.mem_of_getElem? (i := 828) (by decide +kernel), by decide +kernel⟩
set_option maxRecDepth 20000 in
theorem tw_829 : (.selects RX5 yX5_orders yX5_orders : Cond) ∈ TB := List.mem_filter.mpr ⟨List.mem_of_getElem? (i := 829) (by decide +kernel), by decide +kernel⟩
set_option maxRecDepth 20000 in
theorem tw_830 : (.code yX5_orders cX5_orders 8 (some .int) : Cond) ∈ TB := List.mem_filter.mpr ⟨List.mem_of_getElem? (i := 830) (by decide +kernel), by decide +kernel⟩
set_option maxRecDepth 20000 in
theorem tw_831 : (.constantLong RX5 151 4 : Cond) ∈ TB := List.mem_filter.mpr ⟨List.mem_of_getElem? (i := 831) (by decide +kernel), by decide +kernel⟩
set_option maxRecDepth 20000 in
theorem tw_832 : (.methodLink RX5 145 yX5_tenTo : Cond) ∈ TB := List.mem_filter.mpr ⟨List.mem_of_getElem? (i := 832) (by decide +kernel), by decide +kernel⟩
set_option maxRecDepth 20000 in
theorem tw_833 : (.static yX5_tenTo : Cond) ∈ TB := List.mem_filter.mpr ⟨List.mem_of_getElem? (i := 833) (by decide +kernel), by decide +kernel⟩
set_option maxRecDepth 20000 in
theorem tw_834 : (.code yX5_tenTo cX5_tenTo 4 (some .long) : Cond) ∈ TB := List.mem_filter.mpr ⟨List.mem_of_getElem? (i := 834) (by decide +kernel), by decide +kernel⟩
set_option maxRecDepth 20000 in
theorem tw_835 : (.constantLong RX5 143 10 : Cond) ∈ TB := List.mem_filter.mpr ⟨List.mem_of_getElem? (i := 835) (by decide +kernel), by decide +kernel⟩
set_option maxRecDepth 20000 in
theorem tw_836 : (.methodLink RX5 153 yX5_areMoves : Cond) ∈ TB := List.mem_filter.mpr ⟨List.mem_of_getElem? (i := 836) (by decide +kernel), by decide +kernel⟩
set_option maxRecDepth 20000 in
theorem tw_838 : (.instanceMethod yX5_areMoves : Cond) ∈ TB := List.mem_filter.mpr ⟨List.mem_of_getElem? (i := 838) (by decide +kernel), by decide +kernel⟩
set_option maxRecDepth 20000 in
theorem tw_839 : (.code yX5_areMoves cX5_areMoves 7 (some .boolean) : Cond) ∈ TB := List.mem_filter.mpr ⟨List.mem_of_getElem? (i := 839) (by decide +kernel), by decide +kernel⟩
set_option maxRecDepth 20000 in
theorem tw_840 : (.constantLong RX5 149 1000 : Cond) ∈ TB := List.mem_filter.mpr ⟨List.mem_of_getElem? (i := 840) (by decide +kernel), by decide +kernel⟩
set_option maxRecDepth 20000 in
theorem tw_841 : (.methodLink RX5 157 yX5_isOrder : Cond) ∈ TB := List.mem_filter.mpr ⟨List.mem_of_getElem? (i := 841) (by decide +kernel), by decide +kernel⟩
set_option maxRecDepth 20000 in
theorem tw_842 : (.static yX5_isOrder : Cond) ∈ TB := List.mem_filter.mpr ⟨List.mem_of_getElem? (i := 842) (by decide +kernel), by decide +kernel⟩
set_option maxRecDepth 20000 in
theorem tw_843 : (.code yX5_isOrder cX5_isOrder 5 (some .boolean) : Cond) ∈ TB := List.mem_filter.mpr ⟨List.mem_of_getElem? (i := 843) (by decide +kernel), by decide +kernel⟩
set_option maxRecDepth 20000 in
theorem tw_844 : (.methodLink RX5 160 yX5_canMove : Cond) ∈ TB := List.mem_filter.mpr ⟨List.mem_of_getElem? (i := 844) (by decide +kernel), by decide +kernel⟩
set_option maxRecDepth 20000 in
theorem tw_846 : (.instanceMethod yX5_canMove : Cond) ∈ TB := List.mem_filter.mpr ⟨List.mem_of_getElem? (i := 846) (by decide +kernel), by decide +kernel⟩
set_option maxRecDepth 20000 in
theorem tw_847 : (.code yX5_canMove cX5_canMove 12 (some .boolean) : Cond) ∈ TB := List.mem_filter.mpr ⟨List.mem_of_getElem? (i := 847) (by decide +kernel), by decide +kernel⟩
set_option maxRecDepth 20000 in
theorem tw_848 : (.methodLink R_law 87 yX5_piano : Cond) ∈ TB := List.mem_filter.mpr ⟨List.mem_of_getElem? (i := 848) (by decide +kernel), by decide +kernel⟩
set_option maxRecDepth 20000 in
theorem tw_849 : (.instanceMethod yX5_piano : Cond) ∈ TB := List.mem_filter.mpr ⟨List.mem_of_getElem? (i := 849) (by decide +kernel), by decide +kernel⟩
set_option maxRecDepth 20000 in
theorem tw_850 : (.selects RX5 yX5_piano yX5_piano : Cond) ∈ TB := List.mem_filter.mpr ⟨List.mem_of_getElem? (i := 850) (by decide +kernel), by decide +kernel⟩
set_option maxRecDepth 20000 in
theorem tw_851 : (.code yX5_piano cX5_piano 5 (some .int) : Cond) ∈ TB := List.mem_filter.mpr ⟨List.mem_of_getElem? (i := 851) (by decide +kernel), by decide +kernel⟩
set_option maxRecDepth 20000 in
theorem tw_852 : (.methodLink R_law 91 yX5_sacks : Cond) ∈ TB := List.mem_filter.mpr ⟨List.mem_of_getElem? (i := 852) (by decide +kernel), by decide +kernel⟩
set_option maxRecDepth 20000 in
theorem tw_853 : (.instanceMethod yX5_sacks : Cond) ∈ TB := List.mem_filter.mpr ⟨List.mem_of_getElem? (i := 853) (by decide +kernel), by decide +kernel⟩
set_option maxRecDepth 20000 in
theorem tw_854 : (.selects RX5 yX5_sacks yX5_sacks : Cond) ∈ TB := List.mem_filter.mpr ⟨List.mem_of_getElem? (i := 854) (by decide +kernel), by decide +kernel⟩
set_option maxRecDepth 20000 in
theorem tw_855 : (.code yX5_sacks cX5_sacks 9 (some .int) : Cond) ∈ TB := List.mem_filter.mpr ⟨List.mem_of_getElem? (i := 855) (by decide +kernel), by decide +kernel⟩
set_option maxRecDepth 20000 in
theorem tw_856 : (.methodLink RX5 164 yX5_isSafe : Cond) ∈ TB := List.mem_filter.mpr ⟨List.mem_of_getElem? (i := 856) (by decide +kernel), by decide +kernel⟩
set_option maxRecDepth 20000 in
theorem tw_858 : (.instanceMethod yX5_isSafe : Cond) ∈ TB := List.mem_filter.mpr ⟨List.mem_of_getElem? (i := 858) (by decide +kernel), by decide +kernel⟩
set_option maxRecDepth 20000 in
theorem tw_859 : (.code yX5_isSafe cX5_isSafe 5 (some .boolean) : Cond) ∈ TB := List.mem_filter.mpr ⟨List.mem_of_getElem? (i := 859) (by decide +kernel), by decide +kernel⟩
set_option maxRecDepth 20000 in
theorem tw_860 : (.methodLink R_law 96 yX5_judge : Cond) ∈ TB := List.mem_filter.mpr ⟨List.mem_of_getElem? (i := 860) (by decide +kernel), by decide +kernel⟩
set_option maxRecDepth 20000 in
theorem tw_861 : (.instanceMethod yX5_judge : Cond) ∈ TB := List.mem_filter.mpr ⟨List.mem_of_getElem? (i := 861) (by decide +kernel), by decide +kernel⟩
set_option maxRecDepth 20000 in
theorem tw_862 : (.selects RX5 yX5_judge yX5_judge : Cond) ∈ TB := List.mem_filter.mpr ⟨List.mem_of_getElem? (i := 862) (by decide +kernel), by decide +kernel⟩
set_option maxRecDepth 20000 in
theorem tw_863 : (.code yX5_judge cX5_judge 6 (some .int) : Cond) ∈ TB := List.mem_filter.mpr ⟨List.mem_of_getElem? (i := 863) (by decide +kernel), by decide +kernel⟩
set_option maxRecDepth 20000 in
theorem tw_864 : (.constantLong RX5 168 10000 : Cond) ∈ TB := List.mem_filter.mpr ⟨List.mem_of_getElem? (i := 864) (by decide +kernel), by decide +kernel⟩
set_option maxRecDepth 20000 in
theorem tw_865 : (.methodLink RX5 170 yX5_tryThing : Cond) ∈ TB := List.mem_filter.mpr ⟨List.mem_of_getElem? (i := 865) (by decide +kernel), by decide +kernel⟩
set_option maxRecDepth 20000 in
theorem tw_867 : (.instanceMethod yX5_tryThing : Cond) ∈ TB := List.mem_filter.mpr ⟨List.mem_of_getElem? (i := 867) (by decide +kernel), by decide +kernel⟩
set_option maxRecDepth 20000 in
theorem tw_868 : (.code yX5_tryThing cX5_tryThing 11 (some .boolean) : Cond) ∈ TB := List.mem_filter.mpr ⟨List.mem_of_getElem? (i := 868) (by decide +kernel), by decide +kernel⟩
set_option maxRecDepth 20000 in
theorem tw_869 : (.methodLink R_law 100 yX5_see : Cond) ∈ TB := List.mem_filter.mpr ⟨List.mem_of_getElem? (i := 869) (by decide +kernel), by decide +kernel⟩
set_option maxRecDepth 20000 in
theorem tw_870 : (.instanceMethod yX5_see : Cond) ∈ TB := List.mem_filter.mpr ⟨List.mem_of_getElem? (i := 870) (by decide +kernel), by decide +kernel⟩
set_option maxRecDepth 20000 in
theorem tw_871 : (.selects RX5 yX5_see yX5_see : Cond) ∈ TB := List.mem_filter.mpr ⟨List.mem_of_getElem? (i := 871) (by decide +kernel), by decide +kernel⟩
set_option maxRecDepth 20000 in
theorem tw_872 : (.code yX5_see cX5_see 4 (some .int) : Cond) ∈ TB := List.mem_filter.mpr ⟨List.mem_of_getElem? (i := 872) (by decide +kernel), by decide +kernel⟩
set_option maxRecDepth 20000 in
theorem tw_873 : (.constantLong RX5 173 5 : Cond) ∈ TB := List.mem_filter.mpr ⟨List.mem_of_getElem? (i := 873) (by decide +kernel), by decide +kernel⟩
set_option maxRecDepth 20000 in
theorem tw_874 : (.methodLink R_law 104 yX5_unsee : Cond) ∈ TB := List.mem_filter.mpr ⟨List.mem_of_getElem? (i := 874) (by decide +kernel), by decide +kernel⟩
set_option maxRecDepth 20000 in
theorem tw_875 : (.instanceMethod yX5_unsee : Cond) ∈ TB := List.mem_filter.mpr ⟨List.mem_of_getElem? (i := 875) (by decide +kernel), by decide +kernel⟩
set_option maxRecDepth 20000 in
theorem tw_876 : (.selects RX5 yX5_unsee yX5_unsee : Cond) ∈ TB := List.mem_filter.mpr ⟨List.mem_of_getElem? (i := 876) (by decide +kernel), by decide +kernel⟩
set_option maxRecDepth 20000 in
theorem tw_877 : (.code yX5_unsee cX5_unsee 2 (some .int) : Cond) ∈ TB := List.mem_filter.mpr ⟨List.mem_of_getElem? (i := 877) (by decide +kernel), by decide +kernel⟩
set_option maxRecDepth 20000 in
theorem tw_878 : (.methodLink R_law 108 yX5_night : Cond) ∈ TB := List.mem_filter.mpr ⟨List.mem_of_getElem? (i := 878) (by decide +kernel), by decide +kernel⟩
set_option maxRecDepth 20000 in
theorem tw_879 : (.instanceMethod yX5_night : Cond) ∈ TB := List.mem_filter.mpr ⟨List.mem_of_getElem? (i := 879) (by decide +kernel), by decide +kernel⟩
set_option maxRecDepth 20000 in
theorem tw_880 : (.selects RX5 yX5_night yX5_night : Cond) ∈ TB := List.mem_filter.mpr ⟨List.mem_of_getElem? (i := 880) (by decide +kernel), by decide +kernel⟩
set_option maxRecDepth 20000 in
theorem tw_881 : (.code yX5_night cX5_night 6 (some .int) : Cond) ∈ TB := List.mem_filter.mpr ⟨List.mem_of_getElem? (i := 881) (by decide +kernel), by decide +kernel⟩
set_option maxRecDepth 20000 in
theorem tw_882 : (.methodLink RX5 178 yX5_mayBe : Cond) ∈ TB := List.mem_filter.mpr ⟨List.mem_of_getElem? (i := 882) (by decide +kernel), by decide +kernel⟩
set_option maxRecDepth 20000 in
theorem tw_884 : (.instanceMethod yX5_mayBe : Cond) ∈ TB := List.mem_filter.mpr ⟨List.mem_of_getElem? (i := 884) (by decide +kernel), by decide +kernel⟩
set_option maxRecDepth 20000 in
theorem tw_885 : (.code yX5_mayBe cX5_mayBe 7 (some .boolean) : Cond) ∈ TB := List.mem_filter.mpr ⟨List.mem_of_getElem? (i := 885) (by decide +kernel), by decide +kernel⟩
set_option maxRecDepth 20000 in
theorem tw_886 : (.methodLink R_law 113 yX5_share : Cond) ∈ TB := List.mem_filter.mpr ⟨List.mem_of_getElem? (i := 886) (by decide +kernel), by decide +kernel⟩
set_option maxRecDepth 20000 in
theorem tw_887 : (.instanceMethod yX5_share : Cond) ∈ TB := List.mem_filter.mpr ⟨List.mem_of_getElem? (i := 887) (by decide +kernel), by decide +kernel⟩
set_option maxRecDepth 20000 in
theorem tw_888 : (.selects RX5 yX5_share yX5_share : Cond) ∈ TB := List.mem_filter.mpr ⟨List.mem_of_getElem? (i := 888) (by decide +kernel), by decide +kernel⟩
set_option maxRecDepth 20000 in
theorem tw_889 : (.code yX5_share cX5_share 6 (some .int) : Cond) ∈ TB := List.mem_filter.mpr ⟨List.mem_of_getElem? (i := 889) (by decide +kernel), by decide +kernel⟩
set_option maxRecDepth 20000 in
theorem tw_890 : (.methodLink RX5 181 yX5_factorial : Cond) ∈ TB := List.mem_filter.mpr ⟨List.mem_of_getElem? (i := 890) (by decide +kernel), by decide +kernel⟩
set_option maxRecDepth 20000 in
theorem tw_891 : (.static yX5_factorial : Cond) ∈ TB := List.mem_filter.mpr ⟨List.mem_of_getElem? (i := 891) (by decide +kernel), by decide +kernel⟩
set_option maxRecDepth 20000 in
theorem tw_892 : (.code yX5_factorial cX5_factorial 3 (some .int) : Cond) ∈ TB := List.mem_filter.mpr ⟨List.mem_of_getElem? (i := 892) (by decide +kernel), by decide +kernel⟩
set_option maxRecDepth 20000 in
theorem tw_893 : (.methodLink RX5 184 yX5_standWith : Cond) ∈ TB := List.mem_filter.mpr ⟨List.mem_of_getElem? (i := 893) (by decide +kernel), by decide +kernel⟩
set_option maxRecDepth 20000 in
theorem tw_895 : (.instanceMethod yX5_standWith : Cond) ∈ TB := List.mem_filter.mpr ⟨List.mem_of_getElem? (i := 895) (by decide +kernel), by decide +kernel⟩
set_option maxRecDepth 20000 in
theorem tw_896 : (.code yX5_standWith cX5_standWith 3 (some .int) : Cond) ∈ TB := List.mem_filter.mpr ⟨List.mem_of_getElem? (i := 896) (by decide +kernel), by decide +kernel⟩
set_option maxRecDepth 20000 in
theorem tw_897 : (.methodLink RX5 187 yX5_common : Cond) ∈ TB := List.mem_filter.mpr ⟨List.mem_of_getElem? (i := 897) (by decide +kernel), by decide +kernel⟩
set_option maxRecDepth 20000 in
theorem tw_898 : (.static yX5_common : Cond) ∈ TB := List.mem_filter.mpr ⟨List.mem_of_getElem? (i := 898) (by decide +kernel), by decide +kernel⟩
set_option maxRecDepth 20000 in
theorem tw_899 : (.code yX5_common cX5_common 5 (some .int) : Cond) ∈ TB := List.mem_filter.mpr ⟨List.mem_of_getElem? (i := 899) (by decide +kernel), by decide +kernel⟩
set_option maxRecDepth 20000 in
theorem tw_900 : (.methodLink R_law 117 yX5_rests : Cond) ∈ TB := List.mem_filter.mpr ⟨List.mem_of_getElem? (i := 900) (by decide +kernel), by decide +kernel⟩
set_option maxRecDepth 20000 in
theorem tw_901 : (.instanceMethod yX5_rests : Cond) ∈ TB := List.mem_filter.mpr ⟨List.mem_of_getElem? (i := 901) (by decide +kernel), by decide +kernel⟩
set_option maxRecDepth 20000 in
theorem tw_902 : (.selects RX5 yX5_rests yX5_rests : Cond) ∈ TB := List.mem_filter.mpr ⟨List.mem_of_getElem? (i := 902) (by decide +kernel), by decide +kernel⟩
set_option maxRecDepth 20000 in
theorem tw_903 : (.code yX5_rests cX5_rests 7 (some .int) : Cond) ∈ TB := List.mem_filter.mpr ⟨List.mem_of_getElem? (i := 903) (by decide +kernel), by decide +kernel⟩
set_option maxRecDepth 20000 in
theorem tw_904 : (.methodLink RX5 194 yX5_isRest : Cond) ∈ TB := List.mem_filter.mpr ⟨List.mem_of_getElem? (i := 904) (by decide +kernel), by decide +kernel⟩
set_option maxRecDepth 20000 in
theorem tw_906 : (.instanceMethod yX5_isRest : Cond) ∈ TB := List.mem_filter.mpr ⟨List.mem_of_getElem? (i := 906) (by decide +kernel), by decide +kernel⟩
set_option maxRecDepth 20000 in
theorem tw_907 : (.code yX5_isRest cX5_isRest 5 (some .boolean) : Cond) ∈ TB := List.mem_filter.mpr ⟨List.mem_of_getElem? (i := 907) (by decide +kernel), by decide +kernel⟩
set_option maxRecDepth 20000 in
theorem tw_908 : (.methodLink RX5 190 yX5_gain : Cond) ∈ TB := List.mem_filter.mpr ⟨List.mem_of_getElem? (i := 908) (by decide +kernel), by decide +kernel⟩
set_option maxRecDepth 20000 in
theorem tw_910 : (.instanceMethod yX5_gain : Cond) ∈ TB := List.mem_filter.mpr ⟨List.mem_of_getElem? (i := 910) (by decide +kernel), by decide +kernel⟩
set_option maxRecDepth 20000 in
theorem tw_911 : (.code yX5_gain cX5_gain 5 (some .int) : Cond) ∈ TB := List.mem_filter.mpr ⟨List.mem_of_getElem? (i := 911) (by decide +kernel), by decide +kernel⟩
set_option maxRecDepth 20000 in
theorem tw_912 : (.methodLink R_law 122 yX5_fails : Cond) ∈ TB := List.mem_filter.mpr ⟨List.mem_of_getElem? (i := 912) (by decide +kernel), by decide +kernel⟩
set_option maxRecDepth 20000 in
theorem tw_913 : (.instanceMethod yX5_fails : Cond) ∈ TB := List.mem_filter.mpr ⟨List.mem_of_getElem? (i := 913) (by decide +kernel), by decide +kernel⟩
set_option maxRecDepth 20000 in
theorem tw_914 : (.selects RX5 yX5_fails yX5_fails : Cond) ∈ TB := List.mem_filter.mpr ⟨List.mem_of_getElem? (i := 914) (by decide +kernel), by decide +kernel⟩
set_option maxRecDepth 20000 in
theorem tw_915 : (.code yX5_fails cX5_fails 10 (some .int) : Cond) ∈ TB := List.mem_filter.mpr ⟨List.mem_of_getElem? (i := 915) (by decide +kernel), by decide +kernel⟩
set_option maxRecDepth 20000 in
theorem tw_916 : (.constantLong RX5 197 6 : Cond) ∈ TB := List.mem_filter.mpr ⟨List.mem_of_getElem? (i := 916) (by decide +kernel), by decide +kernel⟩
set_option maxRecDepth 20000 in
theorem tw_917 : (.methodLink R_law 127 yX5_seed : Cond) ∈ TB := List.mem_filter.mpr ⟨List.mem_of_getElem? (i := 917) (by decide +kernel), by decide +kernel⟩
set_option maxRecDepth 20000 in
theorem tw_918 : (.instanceMethod yX5_seed : Cond) ∈ TB := List.mem_filter.mpr ⟨List.mem_of_getElem? (i := 918) (by decide +kernel), by decide +kernel⟩
set_option maxRecDepth 20000 in
theorem tw_919 : (.selects RX5 yX5_seed yX5_seed : Cond) ∈ TB := List.mem_filter.mpr ⟨List.mem_of_getElem? (i := 919) (by decide +kernel), by decide +kernel⟩
set_option maxRecDepth 20000 in
theorem tw_920 : (.code yX5_seed cX5_seed 5 (some .long) : Cond) ∈ TB := List.mem_filter.mpr ⟨List.mem_of_getElem? (i := 920) (by decide +kernel), by decide +kernel⟩
set_option maxRecDepth 20000 in
theorem tw_921 : (.methodLink R_law 131 yX5_years : Cond) ∈ TB := List.mem_filter.mpr ⟨List.mem_of_getElem? (i := 921) (by decide +kernel), by decide +kernel⟩
set_option maxRecDepth 20000 in
theorem tw_922 : (.instanceMethod yX5_years : Cond) ∈ TB := List.mem_filter.mpr ⟨List.mem_of_getElem? (i := 922) (by decide +kernel), by decide +kernel⟩
set_option maxRecDepth 20000 in
theorem tw_923 : (.selects RX5 yX5_years yX5_years : Cond) ∈ TB := List.mem_filter.mpr ⟨List.mem_of_getElem? (i := 923) (by decide +kernel), by decide +kernel⟩
set_option maxRecDepth 20000 in
theorem tw_924 : (.code yX5_years cX5_years 5 (some .int) : Cond) ∈ TB := List.mem_filter.mpr ⟨List.mem_of_getElem? (i := 924) (by decide +kernel), by decide +kernel⟩
set_option maxRecDepth 20000 in
theorem tw_925 : (.constantLong RX5 203 6364136223846793005 : Cond) ∈ TB := List.mem_filter.mpr ⟨List.mem_of_getElem? (i := 925) (by decide +kernel), by decide +kernel⟩
set_option maxRecDepth 20000 in
theorem tw_926 : (.constantLong RX5 205 1442695040888963407 : Cond) ∈ TB := List.mem_filter.mpr ⟨List.mem_of_getElem? (i := 926) (by decide +kernel), by decide +kernel⟩
set_option maxRecDepth 20000 in
theorem tw_927 : (.constantLong RX5 207 40 : Cond) ∈ TB := List.mem_filter.mpr ⟨List.mem_of_getElem? (i := 927) (by decide +kernel), by decide +kernel⟩
set_option maxRecDepth 20000 in
theorem tw_928 : (.methodLink R_law 135 yX5_keep : Cond) ∈ TB := List.mem_filter.mpr ⟨List.mem_of_getElem? (i := 928) (by decide +kernel), by decide +kernel⟩
set_option maxRecDepth 20000 in
theorem tw_929 : (.instanceMethod yX5_keep : Cond) ∈ TB := List.mem_filter.mpr ⟨List.mem_of_getElem? (i := 929) (by decide +kernel), by decide +kernel⟩
set_option maxRecDepth 20000 in
theorem tw_930 : (.selects RX5 yX5_keep yX5_keep : Cond) ∈ TB := List.mem_filter.mpr ⟨List.mem_of_getElem? (i := 930) (by decide +kernel), by decide +kernel⟩
set_option maxRecDepth 20000 in
theorem tw_931 : (.code yX5_keep cX5_keep 3 (some .int) : Cond) ∈ TB := List.mem_filter.mpr ⟨List.mem_of_getElem? (i := 931) (by decide +kernel), by decide +kernel⟩
set_option maxRecDepth 20000 in
theorem tw_932 : (.methodLink R_law 139 yX5_again : Cond) ∈ TB := List.mem_filter.mpr ⟨List.mem_of_getElem? (i := 932) (by decide +kernel), by decide +kernel⟩
set_option maxRecDepth 20000 in
theorem tw_933 : (.instanceMethod yX5_again : Cond) ∈ TB := List.mem_filter.mpr ⟨List.mem_of_getElem? (i := 933) (by decide +kernel), by decide +kernel⟩
set_option maxRecDepth 20000 in
theorem tw_934 : (.selects RX5 yX5_again yX5_again : Cond) ∈ TB := List.mem_filter.mpr ⟨List.mem_of_getElem? (i := 934) (by decide +kernel), by decide +kernel⟩
set_option maxRecDepth 20000 in
theorem tw_935 : (.code yX5_again cX5_again 3 (some .int) : Cond) ∈ TB := List.mem_filter.mpr ⟨List.mem_of_getElem? (i := 935) (by decide +kernel), by decide +kernel⟩
set_option maxRecDepth 20000 in
theorem tw_936 : (.methodLink R_law 143 yX5_count : Cond) ∈ TB := List.mem_filter.mpr ⟨List.mem_of_getElem? (i := 936) (by decide +kernel), by decide +kernel⟩
set_option maxRecDepth 20000 in
theorem tw_937 : (.instanceMethod yX5_count : Cond) ∈ TB := List.mem_filter.mpr ⟨List.mem_of_getElem? (i := 937) (by decide +kernel), by decide +kernel⟩
set_option maxRecDepth 20000 in
theorem tw_938 : (.selects RX5 yX5_count yX5_count : Cond) ∈ TB := List.mem_filter.mpr ⟨List.mem_of_getElem? (i := 938) (by decide +kernel), by decide +kernel⟩
set_option maxRecDepth 20000 in
theorem tw_939 : (.code yX5_count cX5_count 2 (some .int) : Cond) ∈ TB := List.mem_filter.mpr ⟨List.mem_of_getElem? (i := 939) (by decide +kernel), by decide +kernel⟩
set_option maxRecDepth 20000 in
theorem tw_940 : (.methodLink RX5 209 yX5_together : Cond) ∈ TB := List.mem_filter.mpr ⟨List.mem_of_getElem? (i := 940) (by decide +kernel), by decide +kernel⟩
set_option maxRecDepth 20000 in
theorem tw_942 : (.instanceMethod yX5_together : Cond) ∈ TB := List.mem_filter.mpr ⟨List.mem_of_getElem? (i := 942) (by decide +kernel), by decide +kernel⟩
set_option maxRecDepth 20000 in
theorem tw_943 : (.code yX5_together cX5_together 4 (some .int) : Cond) ∈ TB := List.mem_filter.mpr ⟨List.mem_of_getElem? (i := 943) (by decide +kernel), by decide +kernel⟩
set_option maxRecDepth 20000 in
theorem tw_944 : (.constantLong R_law 77 4294967295 : Cond) ∈ TB := List.mem_filter.mpr ⟨List.mem_of_getElem? (i := 944) (by decide +kernel), by decide +kernel⟩
set_option maxRecDepth 20000 in
theorem iX0 : ∀ w ∈ wsX00, w ∈ TB := by decide +kernel
set_option maxRecDepth 20000 in
theorem iX1 : ∀ w ∈ wsX10, w ∈ TB := by decide +kernel
set_option maxRecDepth 20000 in
theorem iX2 : ∀ w ∈ wsX20, w ∈ TB := by decide +kernel
set_option maxRecDepth 20000 in
theorem iX3 : ∀ w ∈ wsX30, w ∈ TB := by decide +kernel
set_option maxRecDepth 20000 in
theorem iX4 : ∀ w ∈ wsX40, w ∈ TB := by decide +kernel
set_option maxRecDepth 20000 in
theorem iX5 : ∀ w ∈ wsX50, w ∈ TB := by decide +kernel
