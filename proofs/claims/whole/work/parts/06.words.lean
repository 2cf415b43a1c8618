set_option maxRecDepth 100000 in
theorem tw_1 : Cond.selects "StageLines$Row" yX5_insertAt yX5_insertAt ∈ lw_tbl := List.mem_of_getElem? (i := 1) rfl
set_option maxRecDepth 100000 in
theorem tw_2 : Cond.selects "StageLines" yX9_refuseWithoutOpenLine yX9_refuseWithoutOpenLine ∈ lw_tbl := List.mem_of_getElem? (i := 2) rfl
set_option maxRecDepth 100000 in
theorem tw_3 : Cond.selects "StageLines$Line" yX3_sourceFlags yX3_sourceFlags ∈ lw_tbl := List.mem_of_getElem? (i := 3) rfl
set_option maxRecDepth 100000 in
theorem tw_4 : Cond.selects "StageLines" yX9_refuseUnlessEnd yX9_refuseUnlessEnd ∈ lw_tbl := List.mem_of_getElem? (i := 4) rfl
set_option maxRecDepth 100000 in
theorem tw_5 : Cond.selects "StageLines" yX9_useLine yX9_useLine ∈ lw_tbl := List.mem_of_getElem? (i := 5) rfl
set_option maxRecDepth 100000 in
theorem tw_6 : Cond.selects "StageLines$Flow" yX2_giveFromSource yX2_giveFromSource ∈ lw_tbl := List.mem_of_getElem? (i := 6) rfl
set_option maxRecDepth 100000 in
theorem tw_7 : Cond.selects "StageLines$Flow" yX2_mayGiveTo yX2_mayGiveTo ∈ lw_tbl := List.mem_of_getElem? (i := 7) rfl
set_option maxRecDepth 100000 in
theorem tw_8 : Cond.selects "StageLines$Flow" yX2_isWantedFrom yX2_isWantedFrom ∈ lw_tbl := List.mem_of_getElem? (i := 8) rfl
set_option maxRecDepth 100000 in
theorem tw_9 : Cond.selects "StageLines$Flow" yX2_passOn yX2_passOn ∈ lw_tbl := List.mem_of_getElem? (i := 9) rfl
set_option maxRecDepth 100000 in
theorem tw_10 : Cond.selects "StageLines$Flow" yX2_giveFlat yX2_giveFlat ∈ lw_tbl := List.mem_of_getElem? (i := 10) rfl
set_option maxRecDepth 100000 in
theorem tw_11 : Cond.selects "StageLines$Row" yX5_placeAscending yX5_placeAscending ∈ lw_tbl := List.mem_of_getElem? (i := 11) rfl
set_option maxRecDepth 100000 in
theorem tw_12 : Cond.selects "StageLines$Stage" yX7_hasFailed yX7_hasFailed ∈ lw_tbl := List.mem_of_getElem? (i := 12) rfl
set_option maxRecDepth 100000 in
theorem tw_13 : Cond.selects "StageLines$Stage" yX7_mapped yX7_mapped ∈ lw_tbl := List.mem_of_getElem? (i := 13) rfl
set_option maxRecDepth 100000 in
theorem tw_14 : Cond.selects "StageLines$End" yX1_folded yX1_folded ∈ lw_tbl := List.mem_of_getElem? (i := 14) rfl
set_option maxRecDepth 100000 in
theorem tw_15 : Cond.selects "StageLines$Flow" yX2_giveSorted yX2_giveSorted ∈ lw_tbl := List.mem_of_getElem? (i := 15) rfl
set_option maxRecDepth 100000 in
theorem tw_16 : Cond.selects "StageLines" yX9_outcome yX9_outcome ∈ lw_tbl := List.mem_of_getElem? (i := 16) rfl
set_option maxRecDepth 100000 in
theorem tw_17 : Cond.selects "StageLines$End" yX1_differentRemainders yX1_differentRemainders ∈ lw_tbl := List.mem_of_getElem? (i := 17) rfl
set_option maxRecDepth 100000 in
theorem tw_18 : Cond.selects "StageLines$Crew" yX0_takeTurn yX0_takeTurn ∈ lw_tbl := List.mem_of_getElem? (i := 18) rfl
set_option maxRecDepth 100000 in
theorem tw_19 : Cond.selects "StageLines$Crew" yX0_stolenBy yX0_stolenBy ∈ lw_tbl := List.mem_of_getElem? (i := 19) rfl
set_option maxRecDepth 100000 in
theorem tw_20 : Cond.selects "StageLines$PartWork" yX4_takeSource yX4_takeSource ∈ lw_tbl := List.mem_of_getElem? (i := 20) rfl
set_option maxRecDepth 100000 in
theorem tw_21 : Cond.selects "StageLines$PartWork" yX4_workOn yX4_workOn ∈ lw_tbl := List.mem_of_getElem? (i := 21) rfl
set_option maxRecDepth 100000 in
theorem tw_22 : Cond.selects "StageLines$PartWork" yX4_letFlat yX4_letFlat ∈ lw_tbl := List.mem_of_getElem? (i := 22) rfl
set_option maxRecDepth 100000 in
theorem tw_23 : Cond.selects "StageLinesModel" yX10_refuse yX10_refuse ∈ lw_tbl := List.mem_of_getElem? (i := 23) rfl
set_option maxRecDepth 100000 in
theorem tw_24 : Cond.selects "StageLinesModel" yX10_beginEnd yX10_beginEnd ∈ lw_tbl := List.mem_of_getElem? (i := 24) rfl
set_option maxRecDepth 100000 in
theorem tw_25 : Cond.selects "StageLinesModel" yX10_flow yX10_flow ∈ lw_tbl := List.mem_of_getElem? (i := 25) rfl
set_option maxRecDepth 100000 in
theorem tw_26 : Cond.selects "StageLinesModel" yX10_begin yX10_begin ∈ lw_tbl := List.mem_of_getElem? (i := 26) rfl
set_option maxRecDepth 100000 in
theorem tw_27 : Cond.selects "StageLinesModel" yX10_giveOne yX10_giveOne ∈ lw_tbl := List.mem_of_getElem? (i := 27) rfl
set_option maxRecDepth 100000 in
theorem tw_28 : Cond.selects "StageLinesModel" yX10_wants yX10_wants ∈ lw_tbl := List.mem_of_getElem? (i := 28) rfl
set_option maxRecDepth 100000 in
theorem tw_29 : Cond.selects "StageLinesModel" yX10_gives yX10_gives ∈ lw_tbl := List.mem_of_getElem? (i := 29) rfl
set_option maxRecDepth 100000 in
theorem tw_30 : Cond.selects "StageLinesModel" yX10_goesOn yX10_goesOn ∈ lw_tbl := List.mem_of_getElem? (i := 30) rfl
set_option maxRecDepth 100000 in
theorem tw_31 : Cond.selects "StageLinesModel" yX10_sortIn yX10_sortIn ∈ lw_tbl := List.mem_of_getElem? (i := 31) rfl
set_option maxRecDepth 100000 in
theorem tw_32 : Cond.selects "StageLinesModel" yX10_lets yX10_lets ∈ lw_tbl := List.mem_of_getElem? (i := 32) rfl
set_option maxRecDepth 100000 in
theorem tw_33 : Cond.selects "StageLinesModel" yX10_holds yX10_holds ∈ lw_tbl := List.mem_of_getElem? (i := 33) rfl
set_option maxRecDepth 100000 in
theorem tw_34 : Cond.selects "StageLinesModel" yX10_hold yX10_hold ∈ lw_tbl := List.mem_of_getElem? (i := 34) rfl
set_option maxRecDepth 100000 in
theorem tw_35 : Cond.selects "StageLinesModel" yX10_reaches yX10_reaches ∈ lw_tbl := List.mem_of_getElem? (i := 35) rfl
set_option maxRecDepth 100000 in
theorem tw_36 : Cond.selects "StageLinesModel" yX10_tally yX10_tally ∈ lw_tbl := List.mem_of_getElem? (i := 36) rfl
set_option maxRecDepth 100000 in
theorem tw_37 : Cond.selects "StageLinesModel" yX10_asks yX10_asks ∈ lw_tbl := List.mem_of_getElem? (i := 37) rfl
set_option maxRecDepth 100000 in
theorem tw_38 : Cond.selects "StageLinesModel" yX10_answer yX10_answer ∈ lw_tbl := List.mem_of_getElem? (i := 38) rfl
set_option maxRecDepth 100000 in
theorem tw_39 : Cond.selects "StageLinesModel" yX10_workThrough yX10_workThrough ∈ lw_tbl := List.mem_of_getElem? (i := 39) rfl
set_option maxRecDepth 100000 in
theorem tw_40 : Cond.selects "StageLinesModel" yX10_addTask yX10_addTask ∈ lw_tbl := List.mem_of_getElem? (i := 40) rfl
set_option maxRecDepth 100000 in
theorem tw_41 : Cond.selects "StageLinesModel" yX10_turn yX10_turn ∈ lw_tbl := List.mem_of_getElem? (i := 41) rfl
set_option maxRecDepth 100000 in
theorem tw_42 : Cond.selects "StageLinesModel" yX10_victim yX10_victim ∈ lw_tbl := List.mem_of_getElem? (i := 42) rfl
set_option maxRecDepth 100000 in
theorem tw_43 : Cond.selects "StageLinesModel" yX10_stageInParts yX10_stageInParts ∈ lw_tbl := List.mem_of_getElem? (i := 43) rfl
set_option maxRecDepth 100000 in
theorem tw_44 : Cond.selects "StageLinesModel" yX10_out yX10_out ∈ lw_tbl := List.mem_of_getElem? (i := 44) rfl
set_option maxRecDepth 100000 in
theorem tw_45 : Cond.selects "StageLinesModel" yX10_flatInParts yX10_flatInParts ∈ lw_tbl := List.mem_of_getElem? (i := 45) rfl
set_option maxRecDepth 100000 in
theorem tw_46 : Cond.initialized "StageLinesLaw" ∈ lw_tbl := List.mem_of_getElem? (i := 46) rfl
set_option maxRecDepth 100000 in
theorem tw_47 : Cond.initialized "StageLines" ∈ lw_tbl := List.mem_of_getElem? (i := 47) rfl
set_option maxRecDepth 100000 in
theorem tw_48 : Cond.initialized "StageLines$Row" ∈ lw_tbl := List.mem_of_getElem? (i := 48) rfl
set_option maxRecDepth 100000 in
theorem tw_49 : Cond.initialized "StageLines$Line" ∈ lw_tbl := List.mem_of_getElem? (i := 49) rfl
set_option maxRecDepth 100000 in
theorem tw_50 : Cond.initialized "StageLines$Source" ∈ lw_tbl := List.mem_of_getElem? (i := 50) rfl
set_option maxRecDepth 100000 in
theorem tw_51 : Cond.initialized "StageLines$Stage" ∈ lw_tbl := List.mem_of_getElem? (i := 51) rfl
set_option maxRecDepth 100000 in
theorem tw_52 : Cond.initialized "StageLines$End" ∈ lw_tbl := List.mem_of_getElem? (i := 52) rfl
set_option maxRecDepth 100000 in
theorem tw_53 : Cond.initialized "StageLines$Flow" ∈ lw_tbl := List.mem_of_getElem? (i := 53) rfl
set_option maxRecDepth 100000 in
theorem tw_54 : Cond.initialized "StageLines$PartWork" ∈ lw_tbl := List.mem_of_getElem? (i := 54) rfl
set_option maxRecDepth 100000 in
theorem tw_55 : Cond.initialized "StageLines$Crew" ∈ lw_tbl := List.mem_of_getElem? (i := 55) rfl
set_option maxRecDepth 100000 in
theorem tw_56 : Cond.initialized "StageLines$Worker" ∈ lw_tbl := List.mem_of_getElem? (i := 56) rfl
set_option maxRecDepth 100000 in
theorem tw_57 : Cond.initialized "StageLinesModel" ∈ lw_tbl := List.mem_of_getElem? (i := 57) rfl
set_option maxRecDepth 100000 in
theorem tw_58 : Cond.initialized "java/lang/Throwable" ∈ lw_tbl := List.mem_of_getElem? (i := 58) rfl
set_option maxRecDepth 100000 in
theorem tw_61 : Cond.initialized "java/lang/IllegalArgumentException" ∈ lw_tbl := List.mem_of_getElem? (i := 61) rfl
set_option maxRecDepth 100000 in
theorem tw_62 : Cond.initialized "java/lang/System" ∈ lw_tbl := List.mem_of_getElem? (i := 62) rfl
set_option maxRecDepth 100000 in
theorem tw_63 : Cond.initialized "java/lang/IllegalStateException" ∈ lw_tbl := List.mem_of_getElem? (i := 63) rfl
set_option maxRecDepth 100000 in
theorem tw_64 : Cond.initialized "java/lang/Math" ∈ lw_tbl := List.mem_of_getElem? (i := 64) rfl
set_option maxRecDepth 100000 in
theorem tw_65 : Cond.initialized "java/lang/UnsupportedOperationException" ∈ lw_tbl := List.mem_of_getElem? (i := 65) rfl
set_option maxRecDepth 100000 in
theorem tw_66 : Cond.initialized "java/util/NoSuchElementException" ∈ lw_tbl := List.mem_of_getElem? (i := 66) rfl
set_option maxRecDepth 100000 in
theorem tw_67 : Cond.classLink "StageLinesLaw" 8 "StageLines" ∈ lw_tbl := List.mem_of_getElem? (i := 67) rfl
set_option maxRecDepth 100000 in
theorem tw_68 : Cond.instantiable "StageLines" 6 ∈ lw_tbl := List.mem_of_getElem? (i := 68) rfl
set_option maxRecDepth 100000 in
theorem tw_69 : Cond.methodLink "StageLinesLaw" 46 yX9_init ∈ lw_tbl := List.mem_of_getElem? (i := 69) rfl
set_option maxRecDepth 100000 in
theorem tw_70 : Cond.instanceMethod yX9_init ∈ lw_tbl := List.mem_of_getElem? (i := 70) rfl
set_option maxRecDepth 100000 in
theorem tw_71 : Cond.code yX9_init prog_1_method_1_code 1 none ∈ lw_tbl := List.mem_of_getElem? (i := 71) rfl
set_option maxRecDepth 100000 in
theorem tw_72 : Cond.methodLink "StageLines" 3 ⟨"java/lang/Object", "<init>", "()V"⟩ ∈ lw_tbl := List.mem_of_getElem? (i := 72) rfl
set_option maxRecDepth 100000 in
theorem tw_73 : Cond.instanceMethod ⟨"java/lang/Object", "<init>", "()V"⟩ ∈ lw_tbl := List.mem_of_getElem? (i := 73) rfl
set_option maxRecDepth 100000 in
theorem tw_74 : Cond.code ⟨"java/lang/Object", "<init>", "()V"⟩ object_method_1_code 1 none ∈ lw_tbl := List.mem_of_getElem? (i := 74) rfl
set_option maxRecDepth 100000 in
theorem tw_75 : Cond.classLink "StageLines" 9 "StageLines$Row" ∈ lw_tbl := List.mem_of_getElem? (i := 75) rfl
set_option maxRecDepth 100000 in
theorem tw_76 : Cond.instantiable "StageLines$Row" 2 ∈ lw_tbl := List.mem_of_getElem? (i := 76) rfl
set_option maxRecDepth 100000 in
theorem tw_77 : Cond.methodLink "StageLines" 11 yX5_init ∈ lw_tbl := List.mem_of_getElem? (i := 77) rfl
set_option maxRecDepth 100000 in
theorem tw_78 : Cond.instanceMethod yX5_init ∈ lw_tbl := List.mem_of_getElem? (i := 78) rfl
set_option maxRecDepth 100000 in
theorem tw_79 : Cond.code yX5_init prog_7_method_1_code 2 none ∈ lw_tbl := List.mem_of_getElem? (i := 79) rfl
set_option maxRecDepth 100000 in
theorem tw_80 : Cond.methodLink "StageLines$Row" 1 ⟨"java/lang/Object", "<init>", "()V"⟩ ∈ lw_tbl := List.mem_of_getElem? (i := 80) rfl
set_option maxRecDepth 100000 in
theorem tw_81 : Cond.fieldLink "StageLines$Row" 7 "StageLines$Row" "items" "[I" ∈ lw_tbl := List.mem_of_getElem? (i := 81) rfl
set_option maxRecDepth 100000 in
theorem tw_82 : Cond.fieldLinkNest "StageLines$PartWork" 55 "StageLines$Row" "items" "[I" "StageLines" ∈ lw_tbl := List.mem_of_getElem? (i := 82) rfl
set_option maxRecDepth 100000 in
theorem tw_83 : Cond.fieldLinkNest "StageLines$Flow" 79 "StageLines$Row" "items" "[I" "StageLines" ∈ lw_tbl := List.mem_of_getElem? (i := 83) rfl
set_option maxRecDepth 100000 in
theorem tw_84 : Cond.fieldLinkNest "StageLines$End" 66 "StageLines$Row" "items" "[I" "StageLines" ∈ lw_tbl := List.mem_of_getElem? (i := 84) rfl
set_option maxRecDepth 100000 in
theorem tw_85 : Cond.fieldLinkNest "StageLines$Source" 39 "StageLines$Row" "items" "[I" "StageLines" ∈ lw_tbl := List.mem_of_getElem? (i := 85) rfl
set_option maxRecDepth 100000 in
theorem tw_86 : Cond.fieldLinkNest "StageLines" 174 "StageLines$Row" "items" "[I" "StageLines" ∈ lw_tbl := List.mem_of_getElem? (i := 86) rfl
set_option maxRecDepth 100000 in
theorem tw_87 : Cond.fieldLink "StageLines$Row" 13 "StageLines$Row" "size" "I" ∈ lw_tbl := List.mem_of_getElem? (i := 87) rfl
set_option maxRecDepth 100000 in
theorem tw_88 : Cond.fieldLinkNest "StageLines" 76 "StageLines$Row" "size" "I" "StageLines" ∈ lw_tbl := List.mem_of_getElem? (i := 88) rfl
set_option maxRecDepth 100000 in
theorem tw_89 : Cond.fieldLinkNest "StageLines$PartWork" 52 "StageLines$Row" "size" "I" "StageLines" ∈ lw_tbl := List.mem_of_getElem? (i := 89) rfl
set_option maxRecDepth 100000 in
theorem tw_90 : Cond.fieldLinkNest "StageLines$Source" 31 "StageLines$Row" "size" "I" "StageLines" ∈ lw_tbl := List.mem_of_getElem? (i := 90) rfl
set_option maxRecDepth 100000 in
theorem tw_91 : Cond.fieldLinkNest "StageLines$Flow" 74 "StageLines$Row" "size" "I" "StageLines" ∈ lw_tbl := List.mem_of_getElem? (i := 91) rfl
set_option maxRecDepth 100000 in
theorem tw_92 : Cond.fieldLinkNest "StageLines$End" 77 "StageLines$Row" "size" "I" "StageLines" ∈ lw_tbl := List.mem_of_getElem? (i := 92) rfl
set_option maxRecDepth 100000 in
theorem tw_98 : Cond.arrayClass .int ∈ lw_tbl := List.mem_of_getElem? (i := 98) rfl
set_option maxRecDepth 100000 in
theorem tw_99 : Cond.classLink "StageLines" 18 "StageLines$Line" ∈ lw_tbl := List.mem_of_getElem? (i := 99) rfl
set_option maxRecDepth 100000 in
theorem tw_100 : Cond.instantiable "StageLines$Line" 5 ∈ lw_tbl := List.mem_of_getElem? (i := 100) rfl
set_option maxRecDepth 100000 in
theorem tw_101 : Cond.classLink "StageLines" 20 "StageLines$Source" ∈ lw_tbl := List.mem_of_getElem? (i := 101) rfl
set_option maxRecDepth 100000 in
theorem tw_102 : Cond.instantiable "StageLines$Source" 6 ∈ lw_tbl := List.mem_of_getElem? (i := 102) rfl
set_option maxRecDepth 100000 in
theorem tw_103 : Cond.methodLink "StageLines" 22 yX6_init ∈ lw_tbl := List.mem_of_getElem? (i := 103) rfl
set_option maxRecDepth 100000 in
theorem tw_104 : Cond.instanceMethod yX6_init ∈ lw_tbl := List.mem_of_getElem? (i := 104) rfl
set_option maxRecDepth 100000 in
theorem tw_105 : Cond.code yX6_init prog_8_method_1_code 2 none ∈ lw_tbl := List.mem_of_getElem? (i := 105) rfl
set_option maxRecDepth 100000 in
theorem tw_106 : Cond.methodLink "StageLines$Source" 3 ⟨"java/lang/Object", "<init>", "()V"⟩ ∈ lw_tbl := List.mem_of_getElem? (i := 106) rfl
set_option maxRecDepth 100000 in
theorem tw_107 : Cond.fieldLink "StageLines$Source" 9 "StageLines$Source" "basket" "LStageLines$Row;" ∈ lw_tbl := List.mem_of_getElem? (i := 107) rfl
set_option maxRecDepth 100000 in
theorem tw_108 : Cond.fieldLink "StageLines$Source" 15 "StageLines$Source" "kind" "I" ∈ lw_tbl := List.mem_of_getElem? (i := 108) rfl
set_option maxRecDepth 100000 in
theorem tw_109 : Cond.fieldLinkNest "StageLines$Line" 45 "StageLines$Source" "kind" "I" "StageLines" ∈ lw_tbl := List.mem_of_getElem? (i := 109) rfl
set_option maxRecDepth 100000 in
theorem tw_110 : Cond.fieldLinkNest "StageLines" 146 "StageLines$Source" "kind" "I" "StageLines" ∈ lw_tbl := List.mem_of_getElem? (i := 110) rfl
set_option maxRecDepth 100000 in
theorem tw_111 : Cond.fieldLink "StageLines$Source" 19 "StageLines$Source" "b" "I" ∈ lw_tbl := List.mem_of_getElem? (i := 111) rfl
set_option maxRecDepth 100000 in
theorem tw_112 : Cond.fieldLink "StageLines$Source" 22 "StageLines$Source" "c" "I" ∈ lw_tbl := List.mem_of_getElem? (i := 112) rfl
set_option maxRecDepth 100000 in
theorem tw_113 : Cond.fieldLink "StageLines$Source" 25 "StageLines$Source" "given" "I" ∈ lw_tbl := List.mem_of_getElem? (i := 113) rfl
set_option maxRecDepth 100000 in
theorem tw_114 : Cond.fieldLink "StageLines$Source" 28 "StageLines$Source" "upcoming" "I" ∈ lw_tbl := List.mem_of_getElem? (i := 114) rfl
set_option maxRecDepth 100000 in
theorem tw_128 : Cond.methodLink "StageLines" 25 yX3_init ∈ lw_tbl := List.mem_of_getElem? (i := 128) rfl
set_option maxRecDepth 100000 in
theorem tw_129 : Cond.instanceMethod yX3_init ∈ lw_tbl := List.mem_of_getElem? (i := 129) rfl
set_option maxRecDepth 100000 in
theorem tw_130 : Cond.code yX3_init prog_5_method_1_code 3 none ∈ lw_tbl := List.mem_of_getElem? (i := 130) rfl
set_option maxRecDepth 100000 in
theorem tw_131 : Cond.methodLink "StageLines$Line" 3 ⟨"java/lang/Object", "<init>", "()V"⟩ ∈ lw_tbl := List.mem_of_getElem? (i := 131) rfl
set_option maxRecDepth 100000 in
theorem tw_132 : Cond.classLink "StageLines$Line" 15 "StageLines$Stage" ∈ lw_tbl := List.mem_of_getElem? (i := 132) rfl
set_option maxRecDepth 100000 in
theorem tw_133 : Cond.arrayOver (.object "StageLines$Stage") ∈ lw_tbl := List.mem_of_getElem? (i := 133) rfl
set_option maxRecDepth 100000 in
theorem tw_134 : Cond.instantiable "StageLines$Stage" 6 ∈ lw_tbl := List.mem_of_getElem? (i := 134) rfl
set_option maxRecDepth 100000 in
theorem tw_135 : Cond.methodLink "StageLines$Line" 21 yX7_init ∈ lw_tbl := List.mem_of_getElem? (i := 135) rfl
set_option maxRecDepth 100000 in
theorem tw_136 : Cond.instanceMethod yX7_init ∈ lw_tbl := List.mem_of_getElem? (i := 136) rfl
set_option maxRecDepth 100000 in
theorem tw_137 : Cond.code yX7_init prog_9_method_1_code 1 none ∈ lw_tbl := List.mem_of_getElem? (i := 137) rfl
set_option maxRecDepth 100000 in
theorem tw_138 : Cond.methodLink "StageLines$Stage" 3 ⟨"java/lang/Object", "<init>", "()V"⟩ ∈ lw_tbl := List.mem_of_getElem? (i := 138) rfl
set_option maxRecDepth 100000 in
theorem tw_139 : Cond.classLink "StageLines$Stage" 9 "StageLines$Row" ∈ lw_tbl := List.mem_of_getElem? (i := 139) rfl
set_option maxRecDepth 100000 in
theorem tw_140 : Cond.methodLink "StageLines$Stage" 11 yX5_init ∈ lw_tbl := List.mem_of_getElem? (i := 140) rfl
set_option maxRecDepth 100000 in
theorem tw_141 : Cond.fieldLink "StageLines$Stage" 14 "StageLines$Stage" "held" "LStageLines$Row;" ∈ lw_tbl := List.mem_of_getElem? (i := 141) rfl
set_option maxRecDepth 100000 in
theorem tw_142 : Cond.fieldLinkNest "StageLines$Flow" 70 "StageLines$Stage" "held" "LStageLines$Row;" "StageLines" ∈ lw_tbl := List.mem_of_getElem? (i := 142) rfl
set_option maxRecDepth 100000 in
theorem tw_143 : Cond.fieldLinkNest "StageLines$PartWork" 107 "StageLines$Stage" "held" "LStageLines$Row;" "StageLines" ∈ lw_tbl := List.mem_of_getElem? (i := 143) rfl
set_option maxRecDepth 100000 in
theorem tw_144 : Cond.fieldLink "StageLines$Stage" 20 "StageLines$Stage" "op" "I" ∈ lw_tbl := List.mem_of_getElem? (i := 144) rfl
set_option maxRecDepth 100000 in
theorem tw_145 : Cond.fieldLinkNest "StageLines$Flow" 39 "StageLines$Stage" "op" "I" "StageLines" ∈ lw_tbl := List.mem_of_getElem? (i := 145) rfl
set_option maxRecDepth 100000 in
theorem tw_146 : Cond.fieldLinkNest "StageLines$PartWork" 89 "StageLines$Stage" "op" "I" "StageLines" ∈ lw_tbl := List.mem_of_getElem? (i := 146) rfl
set_option maxRecDepth 100000 in
theorem tw_147 : Cond.fieldLink "StageLines$Stage" 24 "StageLines$Stage" "a" "I" ∈ lw_tbl := List.mem_of_getElem? (i := 147) rfl
set_option maxRecDepth 100000 in
theorem tw_148 : Cond.fieldLink "StageLines$Stage" 27 "StageLines$Stage" "n" "I" ∈ lw_tbl := List.mem_of_getElem? (i := 148) rfl
set_option maxRecDepth 100000 in
theorem tw_149 : Cond.fieldLinkNest "StageLines$PartWork" 92 "StageLines$Stage" "n" "I" "StageLines" ∈ lw_tbl := List.mem_of_getElem? (i := 149) rfl
set_option maxRecDepth 100000 in
theorem tw_150 : Cond.fieldLinkNest "StageLines$Flow" 83 "StageLines$Stage" "n" "I" "StageLines" ∈ lw_tbl := List.mem_of_getElem? (i := 150) rfl
set_option maxRecDepth 100000 in
theorem tw_151 : Cond.fieldLink "StageLines$Stage" 30 "StageLines$Stage" "came" "I" ∈ lw_tbl := List.mem_of_getElem? (i := 151) rfl
set_option maxRecDepth 100000 in
theorem tw_152 : Cond.fieldLinkNest "StageLines$PartWork" 84 "StageLines$Stage" "came" "I" "StageLines" ∈ lw_tbl := List.mem_of_getElem? (i := 152) rfl
set_option maxRecDepth 100000 in
theorem tw_153 : Cond.fieldLinkNest "StageLines$Flow" 97 "StageLines$Stage" "came" "I" "StageLines" ∈ lw_tbl := List.mem_of_getElem? (i := 153) rfl
set_option maxRecDepth 100000 in
theorem tw_154 : Cond.fieldLinkNest "StageLines" 161 "StageLines$Stage" "came" "I" "StageLines" ∈ lw_tbl := List.mem_of_getElem? (i := 154) rfl
set_option maxRecDepth 100000 in
theorem tw_155 : Cond.fieldLink "StageLines$Stage" 33 "StageLines$Stage" "oneFailed" "Z" ∈ lw_tbl := List.mem_of_getElem? (i := 155) rfl
set_option maxRecDepth 100000 in
theorem tw_169 : Cond.fieldLink "StageLines$Line" 9 "StageLines$Line" "source" "LStageLines$Source;" ∈ lw_tbl := List.mem_of_getElem? (i := 169) rfl
set_option maxRecDepth 100000 in
theorem tw_170 : Cond.fieldLinkNest "StageLines$Flow" 48 "StageLines$Line" "source" "LStageLines$Source;" "StageLines" ∈ lw_tbl := List.mem_of_getElem? (i := 170) rfl
set_option maxRecDepth 100000 in
theorem tw_171 : Cond.fieldLinkNest "StageLines$PartWork" 67 "StageLines$Line" "source" "LStageLines$Source;" "StageLines" ∈ lw_tbl := List.mem_of_getElem? (i := 171) rfl
set_option maxRecDepth 100000 in
theorem tw_172 : Cond.fieldLinkNest "StageLines" 94 "StageLines$Line" "source" "LStageLines$Source;" "StageLines" ∈ lw_tbl := List.mem_of_getElem? (i := 172) rfl
set_option maxRecDepth 100000 in
theorem tw_173 : Cond.fieldLink "StageLines$Line" 17 "StageLines$Line" "stages" "[LStageLines$Stage;" ∈ lw_tbl := List.mem_of_getElem? (i := 173) rfl
set_option maxRecDepth 100000 in
theorem tw_174 : Cond.fieldLinkNest "StageLines$PartWork" 40 "StageLines$Line" "stages" "[LStageLines$Stage;" "StageLines" ∈ lw_tbl := List.mem_of_getElem? (i := 174) rfl
set_option maxRecDepth 100000 in
theorem tw_175 : Cond.fieldLinkNest "StageLines$Flow" 35 "StageLines$Line" "stages" "[LStageLines$Stage;" "StageLines" ∈ lw_tbl := List.mem_of_getElem? (i := 175) rfl
set_option maxRecDepth 100000 in
theorem tw_176 : Cond.fieldLinkNest "StageLines" 157 "StageLines$Line" "stages" "[LStageLines$Stage;" "StageLines" ∈ lw_tbl := List.mem_of_getElem? (i := 176) rfl
set_option maxRecDepth 100000 in
theorem tw_177 : Cond.fieldLink "StageLines$Line" 22 "StageLines$Line" "count" "I" ∈ lw_tbl := List.mem_of_getElem? (i := 177) rfl
set_option maxRecDepth 100000 in
theorem tw_178 : Cond.fieldLinkNest "StageLines$PartWork" 34 "StageLines$Line" "count" "I" "StageLines" ∈ lw_tbl := List.mem_of_getElem? (i := 178) rfl
set_option maxRecDepth 100000 in
theorem tw_179 : Cond.fieldLinkNest "StageLines$Flow" 30 "StageLines$Line" "count" "I" "StageLines" ∈ lw_tbl := List.mem_of_getElem? (i := 179) rfl
set_option maxRecDepth 100000 in
theorem tw_180 : Cond.fieldLinkNest "StageLines" 105 "StageLines$Line" "count" "I" "StageLines" ∈ lw_tbl := List.mem_of_getElem? (i := 180) rfl
set_option maxRecDepth 100000 in
theorem tw_181 : Cond.fieldLink "StageLines$Line" 26 "StageLines$Line" "exists" "Z" ∈ lw_tbl := List.mem_of_getElem? (i := 181) rfl
set_option maxRecDepth 100000 in
theorem tw_182 : Cond.fieldLinkNest "StageLines" 116 "StageLines$Line" "exists" "Z" "StageLines" ∈ lw_tbl := List.mem_of_getElem? (i := 182) rfl
set_option maxRecDepth 100000 in
theorem tw_183 : Cond.fieldLink "StageLines$Line" 30 "StageLines$Line" "used" "Z" ∈ lw_tbl := List.mem_of_getElem? (i := 183) rfl
set_option maxRecDepth 100000 in
theorem tw_184 : Cond.fieldLinkNest "StageLines" 196 "StageLines$Line" "used" "Z" "StageLines" ∈ lw_tbl := List.mem_of_getElem? (i := 184) rfl
set_option maxRecDepth 100000 in
theorem tw_196 : Cond.classLink "StageLines" 32 "StageLines$End" ∈ lw_tbl := List.mem_of_getElem? (i := 196) rfl
set_option maxRecDepth 100000 in
theorem tw_197 : Cond.instantiable "StageLines$End" 8 ∈ lw_tbl := List.mem_of_getElem? (i := 197) rfl
set_option maxRecDepth 100000 in
theorem tw_198 : Cond.methodLink "StageLines" 34 yX1_init ∈ lw_tbl := List.mem_of_getElem? (i := 198) rfl
set_option maxRecDepth 100000 in
theorem tw_199 : Cond.instanceMethod yX1_init ∈ lw_tbl := List.mem_of_getElem? (i := 199) rfl
set_option maxRecDepth 100000 in
theorem tw_200 : Cond.code yX1_init prog_3_method_1_code 1 none ∈ lw_tbl := List.mem_of_getElem? (i := 200) rfl
set_option maxRecDepth 100000 in
theorem tw_201 : Cond.methodLink "StageLines$End" 3 ⟨"java/lang/Object", "<init>", "()V"⟩ ∈ lw_tbl := List.mem_of_getElem? (i := 201) rfl
set_option maxRecDepth 100000 in
theorem tw_202 : Cond.classLink "StageLines$End" 9 "StageLines$Row" ∈ lw_tbl := List.mem_of_getElem? (i := 202) rfl
set_option maxRecDepth 100000 in
theorem tw_203 : Cond.methodLink "StageLines$End" 11 yX5_init ∈ lw_tbl := List.mem_of_getElem? (i := 203) rfl
set_option maxRecDepth 100000 in
theorem tw_204 : Cond.fieldLink "StageLines$End" 14 "StageLines$End" "gathered" "LStageLines$Row;" ∈ lw_tbl := List.mem_of_getElem? (i := 204) rfl
set_option maxRecDepth 100000 in
theorem tw_205 : Cond.fieldLink "StageLines$End" 20 "StageLines$End" "keeping" "LStageLines$Row;" ∈ lw_tbl := List.mem_of_getElem? (i := 205) rfl
set_option maxRecDepth 100000 in
theorem tw_206 : Cond.fieldLinkNest "StageLines" 166 "StageLines$End" "keeping" "LStageLines$Row;" "StageLines" ∈ lw_tbl := List.mem_of_getElem? (i := 206) rfl
set_option maxRecDepth 100000 in
theorem tw_207 : Cond.fieldLink "StageLines$End" 23 "StageLines$End" "kind" "I" ∈ lw_tbl := List.mem_of_getElem? (i := 207) rfl
set_option maxRecDepth 100000 in
theorem tw_208 : Cond.fieldLink "StageLines$End" 27 "StageLines$End" "a" "I" ∈ lw_tbl := List.mem_of_getElem? (i := 208) rfl
set_option maxRecDepth 100000 in
theorem tw_209 : Cond.fieldLink "StageLines$End" 30 "StageLines$End" "n" "I" ∈ lw_tbl := List.mem_of_getElem? (i := 209) rfl
set_option maxRecDepth 100000 in
theorem tw_210 : Cond.fieldLink "StageLines$End" 33 "StageLines$End" "taken" "I" ∈ lw_tbl := List.mem_of_getElem? (i := 210) rfl
set_option maxRecDepth 100000 in
theorem tw_211 : Cond.fieldLink "StageLines$End" 36 "StageLines$End" "value" "I" ∈ lw_tbl := List.mem_of_getElem? (i := 211) rfl
set_option maxRecDepth 100000 in
theorem tw_212 : Cond.fieldLink "StageLines$End" 39 "StageLines$End" "decided" "Z" ∈ lw_tbl := List.mem_of_getElem? (i := 212) rfl
set_option maxRecDepth 100000 in
theorem tw_230 : Cond.classLink "StageLines" 39 "StageLines$Flow" ∈ lw_tbl := List.mem_of_getElem? (i := 230) rfl
set_option maxRecDepth 100000 in
theorem tw_231 : Cond.instantiable "StageLines$Flow" 4 ∈ lw_tbl := List.mem_of_getElem? (i := 231) rfl
set_option maxRecDepth 100000 in
theorem tw_232 : Cond.methodLink "StageLines" 41 yX2_init ∈ lw_tbl := List.mem_of_getElem? (i := 232) rfl
set_option maxRecDepth 100000 in
theorem tw_233 : Cond.instanceMethod yX2_init ∈ lw_tbl := List.mem_of_getElem? (i := 233) rfl
set_option maxRecDepth 100000 in
theorem tw_234 : Cond.code yX2_init prog_4_method_1_code 3 none ∈ lw_tbl := List.mem_of_getElem? (i := 234) rfl
set_option maxRecDepth 100000 in
theorem tw_235 : Cond.methodLink "StageLines$Flow" 3 ⟨"java/lang/Object", "<init>", "()V"⟩ ∈ lw_tbl := List.mem_of_getElem? (i := 235) rfl
set_option maxRecDepth 100000 in
theorem tw_236 : Cond.fieldLink "StageLines$Flow" 9 "StageLines$Flow" "line" "LStageLines$Line;" ∈ lw_tbl := List.mem_of_getElem? (i := 236) rfl
set_option maxRecDepth 100000 in
theorem tw_237 : Cond.fieldLink "StageLines$Flow" 15 "StageLines$Flow" "end" "LStageLines$End;" ∈ lw_tbl := List.mem_of_getElem? (i := 237) rfl
set_option maxRecDepth 100000 in
theorem tw_238 : Cond.fieldLink "StageLines$Flow" 19 "StageLines$Flow" "steps" "I" ∈ lw_tbl := List.mem_of_getElem? (i := 238) rfl
set_option maxRecDepth 100000 in
theorem tw_239 : Cond.fieldLink "StageLines$Flow" 23 "StageLines$Flow" "spent" "Z" ∈ lw_tbl := List.mem_of_getElem? (i := 239) rfl
set_option maxRecDepth 100000 in
theorem tw_249 : Cond.classLink "StageLines" 48 "StageLines$PartWork" ∈ lw_tbl := List.mem_of_getElem? (i := 249) rfl
set_option maxRecDepth 100000 in
theorem tw_250 : Cond.instantiable "StageLines$PartWork" 4 ∈ lw_tbl := List.mem_of_getElem? (i := 250) rfl
set_option maxRecDepth 100000 in
theorem tw_251 : Cond.methodLink "StageLines" 50 yX4_init ∈ lw_tbl := List.mem_of_getElem? (i := 251) rfl
set_option maxRecDepth 100000 in
theorem tw_252 : Cond.instanceMethod yX4_init ∈ lw_tbl := List.mem_of_getElem? (i := 252) rfl
set_option maxRecDepth 100000 in
theorem tw_253 : Cond.code yX4_init prog_6_method_1_code 3 none ∈ lw_tbl := List.mem_of_getElem? (i := 253) rfl
set_option maxRecDepth 100000 in
theorem tw_254 : Cond.methodLink "StageLines$PartWork" 3 ⟨"java/lang/Object", "<init>", "()V"⟩ ∈ lw_tbl := List.mem_of_getElem? (i := 254) rfl
set_option maxRecDepth 100000 in
theorem tw_255 : Cond.classLink "StageLines$PartWork" 19 "StageLines$Row" ∈ lw_tbl := List.mem_of_getElem? (i := 255) rfl
set_option maxRecDepth 100000 in
theorem tw_256 : Cond.methodLink "StageLines$PartWork" 21 yX5_init ∈ lw_tbl := List.mem_of_getElem? (i := 256) rfl
set_option maxRecDepth 100000 in
theorem tw_257 : Cond.fieldLink "StageLines$PartWork" 9 "StageLines$PartWork" "line" "LStageLines$Line;" ∈ lw_tbl := List.mem_of_getElem? (i := 257) rfl
set_option maxRecDepth 100000 in
theorem tw_258 : Cond.fieldLink "StageLines$PartWork" 15 "StageLines$PartWork" "end" "LStageLines$End;" ∈ lw_tbl := List.mem_of_getElem? (i := 258) rfl
set_option maxRecDepth 100000 in
theorem tw_259 : Cond.fieldLink "StageLines$PartWork" 24 "StageLines$PartWork" "coming" "LStageLines$Row;" ∈ lw_tbl := List.mem_of_getElem? (i := 259) rfl
set_option maxRecDepth 100000 in
theorem tw_260 : Cond.fieldLink "StageLines$PartWork" 28 "StageLines$PartWork" "let" "LStageLines$Row;" ∈ lw_tbl := List.mem_of_getElem? (i := 260) rfl
set_option maxRecDepth 100000 in
theorem tw_270 : Cond.classLink "StageLines" 55 "StageLines$Crew" ∈ lw_tbl := List.mem_of_getElem? (i := 270) rfl
set_option maxRecDepth 100000 in
theorem tw_271 : Cond.instantiable "StageLines$Crew" 7 ∈ lw_tbl := List.mem_of_getElem? (i := 271) rfl
set_option maxRecDepth 100000 in
theorem tw_272 : Cond.methodLink "StageLines" 57 yX0_init ∈ lw_tbl := List.mem_of_getElem? (i := 272) rfl
set_option maxRecDepth 100000 in
theorem tw_273 : Cond.instanceMethod yX0_init ∈ lw_tbl := List.mem_of_getElem? (i := 273) rfl
set_option maxRecDepth 100000 in
theorem tw_274 : Cond.code yX0_init prog_2_method_1_code 2 none ∈ lw_tbl := List.mem_of_getElem? (i := 274) rfl
set_option maxRecDepth 100000 in
theorem tw_275 : Cond.methodLink "StageLines$Crew" 3 ⟨"java/lang/Object", "<init>", "()V"⟩ ∈ lw_tbl := List.mem_of_getElem? (i := 275) rfl
set_option maxRecDepth 100000 in
theorem tw_276 : Cond.classLink "StageLines$Crew" 9 "StageLines$Worker" ∈ lw_tbl := List.mem_of_getElem? (i := 276) rfl
set_option maxRecDepth 100000 in
theorem tw_277 : Cond.arrayOver (.object "StageLines$Worker") ∈ lw_tbl := List.mem_of_getElem? (i := 277) rfl
set_option maxRecDepth 100000 in
theorem tw_278 : Cond.instantiable "StageLines$Worker" 4 ∈ lw_tbl := List.mem_of_getElem? (i := 278) rfl
set_option maxRecDepth 100000 in
theorem tw_279 : Cond.methodLink "StageLines$Crew" 17 yX8_init ∈ lw_tbl := List.mem_of_getElem? (i := 279) rfl
set_option maxRecDepth 100000 in
theorem tw_280 : Cond.instanceMethod yX8_init ∈ lw_tbl := List.mem_of_getElem? (i := 280) rfl
set_option maxRecDepth 100000 in
theorem tw_281 : Cond.code yX8_init prog_10_method_1_code 1 none ∈ lw_tbl := List.mem_of_getElem? (i := 281) rfl
set_option maxRecDepth 100000 in
theorem tw_282 : Cond.methodLink "StageLines$Worker" 3 ⟨"java/lang/Object", "<init>", "()V"⟩ ∈ lw_tbl := List.mem_of_getElem? (i := 282) rfl
set_option maxRecDepth 100000 in
theorem tw_283 : Cond.fieldLink "StageLines$Worker" 9 "StageLines$Worker" "tasks" "[I" ∈ lw_tbl := List.mem_of_getElem? (i := 283) rfl
set_option maxRecDepth 100000 in
theorem tw_284 : Cond.fieldLink "StageLines$Worker" 15 "StageLines$Worker" "first" "I" ∈ lw_tbl := List.mem_of_getElem? (i := 284) rfl
set_option maxRecDepth 100000 in
theorem tw_285 : Cond.fieldLink "StageLines$Worker" 19 "StageLines$Worker" "behindLast" "I" ∈ lw_tbl := List.mem_of_getElem? (i := 285) rfl
set_option maxRecDepth 100000 in
theorem tw_286 : Cond.fieldLink "StageLines$Worker" 22 "StageLines$Worker" "done" "I" ∈ lw_tbl := List.mem_of_getElem? (i := 286) rfl
set_option maxRecDepth 100000 in
theorem tw_287 : Cond.fieldLinkNest "StageLines$Crew" 48 "StageLines$Worker" "done" "I" "StageLines" ∈ lw_tbl := List.mem_of_getElem? (i := 287) rfl
set_option maxRecDepth 100000 in
theorem tw_288 : Cond.fieldLinkNest "StageLines" 191 "StageLines$Worker" "done" "I" "StageLines" ∈ lw_tbl := List.mem_of_getElem? (i := 288) rfl
set_option maxRecDepth 100000 in
theorem tw_298 : Cond.fieldLink "StageLines$Crew" 11 "StageLines$Crew" "workers" "[LStageLines$Worker;" ∈ lw_tbl := List.mem_of_getElem? (i := 298) rfl
set_option maxRecDepth 100000 in
theorem tw_299 : Cond.fieldLinkNest "StageLines" 187 "StageLines$Crew" "workers" "[LStageLines$Worker;" "StageLines" ∈ lw_tbl := List.mem_of_getElem? (i := 299) rfl
set_option maxRecDepth 100000 in
theorem tw_300 : Cond.fieldLink "StageLines$Crew" 18 "StageLines$Crew" "grain" "I" ∈ lw_tbl := List.mem_of_getElem? (i := 300) rfl
set_option maxRecDepth 100000 in
theorem tw_301 : Cond.fieldLink "StageLines$Crew" 22 "StageLines$Crew" "count" "I" ∈ lw_tbl := List.mem_of_getElem? (i := 301) rfl
set_option maxRecDepth 100000 in
theorem tw_302 : Cond.fieldLink "StageLines$Crew" 25 "StageLines$Crew" "seed" "I" ∈ lw_tbl := List.mem_of_getElem? (i := 302) rfl
set_option maxRecDepth 100000 in
theorem tw_303 : Cond.fieldLink "StageLines$Crew" 41 "StageLines$Crew" "open" "I" ∈ lw_tbl := List.mem_of_getElem? (i := 303) rfl
set_option maxRecDepth 100000 in
theorem tw_304 : Cond.fieldLink "StageLines$Crew" 31 "StageLines$Crew" "turns" "I" ∈ lw_tbl := List.mem_of_getElem? (i := 304) rfl
set_option maxRecDepth 100000 in
theorem tw_305 : Cond.fieldLinkNest "StageLines" 178 "StageLines$Crew" "turns" "I" "StageLines" ∈ lw_tbl := List.mem_of_getElem? (i := 305) rfl
set_option maxRecDepth 100000 in
theorem tw_306 : Cond.fieldLink "StageLines$Crew" 34 "StageLines$Crew" "thefts" "I" ∈ lw_tbl := List.mem_of_getElem? (i := 306) rfl
set_option maxRecDepth 100000 in
theorem tw_307 : Cond.fieldLinkNest "StageLines" 184 "StageLines$Crew" "thefts" "I" "StageLines" ∈ lw_tbl := List.mem_of_getElem? (i := 307) rfl
set_option maxRecDepth 100000 in
theorem tw_323 : Cond.fieldLink "StageLines" 14 "StageLines" "basket" "LStageLines$Row;" ∈ lw_tbl := List.mem_of_getElem? (i := 323) rfl
set_option maxRecDepth 100000 in
theorem tw_324 : Cond.fieldLink "StageLines" 28 "StageLines" "line" "LStageLines$Line;" ∈ lw_tbl := List.mem_of_getElem? (i := 324) rfl
set_option maxRecDepth 100000 in
theorem tw_325 : Cond.fieldLink "StageLines" 35 "StageLines" "ending" "LStageLines$End;" ∈ lw_tbl := List.mem_of_getElem? (i := 325) rfl
set_option maxRecDepth 100000 in
theorem tw_326 : Cond.fieldLink "StageLines" 44 "StageLines" "flow" "LStageLines$Flow;" ∈ lw_tbl := List.mem_of_getElem? (i := 326) rfl
set_option maxRecDepth 100000 in
theorem tw_327 : Cond.fieldLink "StageLines" 51 "StageLines" "partWork" "LStageLines$PartWork;" ∈ lw_tbl := List.mem_of_getElem? (i := 327) rfl
set_option maxRecDepth 100000 in
theorem tw_328 : Cond.fieldLink "StageLines" 58 "StageLines" "crew" "LStageLines$Crew;" ∈ lw_tbl := List.mem_of_getElem? (i := 328) rfl
set_option maxRecDepth 100000 in
theorem tw_342 : Cond.methodLink "StageLinesLaw" 59 yX9_empty ∈ lw_tbl := List.mem_of_getElem? (i := 342) rfl
set_option maxRecDepth 100000 in
theorem tw_343 : Cond.instanceMethod yX9_empty ∈ lw_tbl := List.mem_of_getElem? (i := 343) rfl
set_option maxRecDepth 100000 in
theorem tw_344 : Cond.selects "StageLines" yX9_empty yX9_empty ∈ lw_tbl := List.mem_of_getElem? (i := 344) rfl
set_option maxRecDepth 100000 in
theorem tw_345 : Cond.code yX9_empty prog_1_method_3_code 2 (some .int) ∈ lw_tbl := List.mem_of_getElem? (i := 345) rfl
set_option maxRecDepth 100000 in
theorem tw_346 : Cond.methodLink "StageLines" 80 yX5_clear ∈ lw_tbl := List.mem_of_getElem? (i := 346) rfl
set_option maxRecDepth 100000 in
theorem tw_347 : Cond.instanceMethod yX5_clear ∈ lw_tbl := List.mem_of_getElem? (i := 347) rfl
set_option maxRecDepth 100000 in
theorem tw_348 : Cond.selects "StageLines$Row" yX5_clear yX5_clear ∈ lw_tbl := List.mem_of_getElem? (i := 348) rfl
set_option maxRecDepth 100000 in
theorem tw_349 : Cond.code yX5_clear prog_7_method_3_code 1 none ∈ lw_tbl := List.mem_of_getElem? (i := 349) rfl
set_option maxRecDepth 100000 in
theorem tw_350 : Cond.methodLink "StageLinesLaw" 85 yX9_seen ∈ lw_tbl := List.mem_of_getElem? (i := 350) rfl
set_option maxRecDepth 100000 in
theorem tw_351 : Cond.instanceMethod yX9_seen ∈ lw_tbl := List.mem_of_getElem? (i := 351) rfl
set_option maxRecDepth 100000 in
theorem tw_352 : Cond.selects "StageLines" yX9_seen yX9_seen ∈ lw_tbl := List.mem_of_getElem? (i := 352) rfl
set_option maxRecDepth 100000 in
theorem tw_353 : Cond.code yX9_seen prog_1_method_10_code 2 (some .int) ∈ lw_tbl := List.mem_of_getElem? (i := 353) rfl
set_option maxRecDepth 100000 in
theorem tw_354 : Cond.methodLink "StageLinesLaw" 92 yX9_pooled ∈ lw_tbl := List.mem_of_getElem? (i := 354) rfl
set_option maxRecDepth 100000 in
theorem tw_355 : Cond.instanceMethod yX9_pooled ∈ lw_tbl := List.mem_of_getElem? (i := 355) rfl
set_option maxRecDepth 100000 in
theorem tw_356 : Cond.selects "StageLines" yX9_pooled yX9_pooled ∈ lw_tbl := List.mem_of_getElem? (i := 356) rfl
set_option maxRecDepth 100000 in
theorem tw_357 : Cond.code yX9_pooled prog_1_method_12_code 2 (some .int) ∈ lw_tbl := List.mem_of_getElem? (i := 357) rfl
set_option maxRecDepth 100000 in
theorem tw_358 : Cond.methodLink "StageLines" 181 yX0_allDone ∈ lw_tbl := List.mem_of_getElem? (i := 358) rfl
set_option maxRecDepth 100000 in
theorem tw_359 : Cond.instanceMethod yX0_allDone ∈ lw_tbl := List.mem_of_getElem? (i := 359) rfl
set_option maxRecDepth 100000 in
theorem tw_360 : Cond.selects "StageLines$Crew" yX0_allDone yX0_allDone ∈ lw_tbl := List.mem_of_getElem? (i := 360) rfl
set_option maxRecDepth 100000 in
theorem tw_361 : Cond.code yX0_allDone prog_2_method_4_code 3 (some .int) ∈ lw_tbl := List.mem_of_getElem? (i := 361) rfl
set_option maxRecDepth 100000 in
theorem tw_362 : Cond.methodLink "StageLines" 83 yX9_within ∈ lw_tbl := List.mem_of_getElem? (i := 362) rfl
set_option maxRecDepth 100000 in
theorem tw_363 : Cond.static yX9_within ∈ lw_tbl := List.mem_of_getElem? (i := 363) rfl
set_option maxRecDepth 100000 in
theorem tw_364 : Cond.code yX9_within prog_1_method_17_code 3 (some .boolean) ∈ lw_tbl := List.mem_of_getElem? (i := 364) rfl
set_option maxRecDepth 100000 in
theorem tw_365 : Cond.methodLink "StageLinesLaw" 50 yL_put ∈ lw_tbl := List.mem_of_getElem? (i := 365) rfl
set_option maxRecDepth 100000 in
theorem tw_366 : Cond.static yL_put ∈ lw_tbl := List.mem_of_getElem? (i := 366) rfl
set_option maxRecDepth 100000 in
theorem tw_367 : Cond.codeWith yL_put method_3_code 4 (some .int) [(0, 9, 12, 13)] ∈ lw_tbl := List.mem_of_getElem? (i := 367) rfl
set_option maxRecDepth 100000 in
theorem tw_368 : Cond.classLink "StageLinesLaw" 13 "java/lang/IllegalArgumentException" ∈ lw_tbl := List.mem_of_getElem? (i := 368) rfl
set_option maxRecDepth 100000 in
theorem tw_369 : Cond.methodLink "StageLinesLaw" 7 yX9_put ∈ lw_tbl := List.mem_of_getElem? (i := 369) rfl
set_option maxRecDepth 100000 in
theorem tw_370 : Cond.instanceMethod yX9_put ∈ lw_tbl := List.mem_of_getElem? (i := 370) rfl
set_option maxRecDepth 100000 in
theorem tw_371 : Cond.selects "StageLines" yX9_put yX9_put ∈ lw_tbl := List.mem_of_getElem? (i := 371) rfl
set_option maxRecDepth 100000 in
theorem tw_372 : Cond.code yX9_put prog_1_method_2_code 2 (some .int) ∈ lw_tbl := List.mem_of_getElem? (i := 372) rfl
set_option maxRecDepth 100000 in
theorem tw_373 : Cond.methodLink "StageLines" 62 yX5_isFull ∈ lw_tbl := List.mem_of_getElem? (i := 373) rfl
set_option maxRecDepth 100000 in
theorem tw_374 : Cond.instanceMethod yX5_isFull ∈ lw_tbl := List.mem_of_getElem? (i := 374) rfl
set_option maxRecDepth 100000 in
theorem tw_375 : Cond.selects "StageLines$Row" yX5_isFull yX5_isFull ∈ lw_tbl := List.mem_of_getElem? (i := 375) rfl
set_option maxRecDepth 100000 in
theorem tw_376 : Cond.code yX5_isFull prog_7_method_2_code 1 (some .boolean) ∈ lw_tbl := List.mem_of_getElem? (i := 376) rfl
set_option maxRecDepth 100000 in
theorem tw_377 : Cond.classLink "StageLines" 66 "java/lang/IllegalArgumentException" ∈ lw_tbl := List.mem_of_getElem? (i := 377) rfl
set_option maxRecDepth 100000 in
theorem tw_379 : Cond.castable "java/lang/IllegalArgumentException" "java/lang/IllegalArgumentException" ∈ lw_tbl := List.mem_of_getElem? (i := 379) rfl
set_option maxRecDepth 100000 in
theorem tw_404 : Cond.laysStatic "java/lang/Throwable" "UNASSIGNED_STACK" "[Ljava/lang/StackTraceElement;" ∈ lw_tbl := List.mem_of_getElem? (i := 404) rfl
set_option maxRecDepth 100000 in
theorem tw_406 : Cond.laysStatic "java/lang/Throwable" "SUPPRESSED_SENTINEL" "Ljava/util/List;" ∈ lw_tbl := List.mem_of_getElem? (i := 406) rfl
set_option maxRecDepth 100000 in
theorem tw_446 : Cond.methodLink "StageLines" 73 yX5_add ∈ lw_tbl := List.mem_of_getElem? (i := 446) rfl
set_option maxRecDepth 100000 in
theorem tw_447 : Cond.instanceMethod yX5_add ∈ lw_tbl := List.mem_of_getElem? (i := 447) rfl
set_option maxRecDepth 100000 in
theorem tw_448 : Cond.selects "StageLines$Row" yX5_add yX5_add ∈ lw_tbl := List.mem_of_getElem? (i := 448) rfl
set_option maxRecDepth 100000 in
theorem tw_449 : Cond.code yX5_add prog_7_method_4_code 2 none ∈ lw_tbl := List.mem_of_getElem? (i := 449) rfl
set_option maxRecDepth 100000 in
theorem tw_450 : Cond.methodLink "StageLines$Row" 17 yX5_insertAt ∈ lw_tbl := List.mem_of_getElem? (i := 450) rfl
set_option maxRecDepth 100000 in
theorem tw_452 : Cond.instanceMethod yX5_insertAt ∈ lw_tbl := List.mem_of_getElem? (i := 452) rfl
set_option maxRecDepth 100000 in
theorem tw_453 : Cond.code yX5_insertAt prog_7_method_8_code 3 none ∈ lw_tbl := List.mem_of_getElem? (i := 453) rfl
set_option maxRecDepth 100000 in
theorem tw_454 : Cond.methodLink "StageLines$Row" 32 yX5_isFull ∈ lw_tbl := List.mem_of_getElem? (i := 454) rfl
set_option maxRecDepth 100000 in
theorem tw_455 : Cond.methodLink "StageLines$Row" 36 ⟨"java/lang/System", "arraycopy", "(Ljava/lang/Object;ILjava/lang/Object;II)V"⟩ ∈ lw_tbl := List.mem_of_getElem? (i := 455) rfl
set_option maxRecDepth 100000 in
theorem tw_456 : Cond.static ⟨"java/lang/System", "arraycopy", "(Ljava/lang/Object;ILjava/lang/Object;II)V"⟩ ∈ lw_tbl := List.mem_of_getElem? (i := 456) rfl
set_option maxRecDepth 100000 in
theorem tw_457 : Cond.native ⟨"java/lang/System", "arraycopy", "(Ljava/lang/Object;ILjava/lang/Object;II)V"⟩ ∈ lw_tbl := List.mem_of_getElem? (i := 457) rfl
set_option maxRecDepth 100000 in
theorem tw_458 : Cond.methodLink "StageLinesLaw" 63 yL_source ∈ lw_tbl := List.mem_of_getElem? (i := 458) rfl
set_option maxRecDepth 100000 in
theorem tw_459 : Cond.static yL_source ∈ lw_tbl := List.mem_of_getElem? (i := 459) rfl
set_option maxRecDepth 100000 in
theorem tw_460 : Cond.codeWith yL_source method_4_code 6 (some .int) [(0, 9, 12, 13)] ∈ lw_tbl := List.mem_of_getElem? (i := 460) rfl
set_option maxRecDepth 100000 in
theorem tw_461 : Cond.methodLink "StageLinesLaw" 15 yX9_source ∈ lw_tbl := List.mem_of_getElem? (i := 461) rfl
set_option maxRecDepth 100000 in
theorem tw_462 : Cond.instanceMethod yX9_source ∈ lw_tbl := List.mem_of_getElem? (i := 462) rfl
set_option maxRecDepth 100000 in
theorem tw_463 : Cond.selects "StageLines" yX9_source yX9_source ∈ lw_tbl := List.mem_of_getElem? (i := 463) rfl
set_option maxRecDepth 100000 in
theorem tw_464 : Cond.code yX9_source prog_1_method_4_code 5 none ∈ lw_tbl := List.mem_of_getElem? (i := 464) rfl
set_option maxRecDepth 100000 in
theorem tw_467 : Cond.methodLink "StageLines" 91 yX3_begin ∈ lw_tbl := List.mem_of_getElem? (i := 467) rfl
set_option maxRecDepth 100000 in
theorem tw_468 : Cond.instanceMethod yX3_begin ∈ lw_tbl := List.mem_of_getElem? (i := 468) rfl
set_option maxRecDepth 100000 in
theorem tw_469 : Cond.selects "StageLines$Line" yX3_begin yX3_begin ∈ lw_tbl := List.mem_of_getElem? (i := 469) rfl
set_option maxRecDepth 100000 in
theorem tw_470 : Cond.code yX3_begin prog_5_method_2_code 1 none ∈ lw_tbl := List.mem_of_getElem? (i := 470) rfl
set_option maxRecDepth 100000 in
theorem tw_471 : Cond.methodLink "StageLines" 98 yX6_become ∈ lw_tbl := List.mem_of_getElem? (i := 471) rfl
set_option maxRecDepth 100000 in
theorem tw_472 : Cond.instanceMethod yX6_become ∈ lw_tbl := List.mem_of_getElem? (i := 472) rfl
set_option maxRecDepth 100000 in
theorem tw_473 : Cond.selects "StageLines$Source" yX6_become yX6_become ∈ lw_tbl := List.mem_of_getElem? (i := 473) rfl
set_option maxRecDepth 100000 in
theorem tw_474 : Cond.code yX6_become prog_8_method_2_code 5 none ∈ lw_tbl := List.mem_of_getElem? (i := 474) rfl
set_option maxRecDepth 100000 in
theorem tw_475 : Cond.methodLink "StageLinesLaw" 67 yL_stage ∈ lw_tbl := List.mem_of_getElem? (i := 475) rfl
set_option maxRecDepth 100000 in
theorem tw_476 : Cond.static yL_stage ∈ lw_tbl := List.mem_of_getElem? (i := 476) rfl
set_option maxRecDepth 100000 in
theorem tw_477 : Cond.codeWith yL_stage method_5_code 6 (some .int) [(0, 12, 15, 23), (0, 12, 19, 13)] ∈ lw_tbl := List.mem_of_getElem? (i := 477) rfl
set_option maxRecDepth 100000 in
theorem tw_478 : Cond.classLink "StageLinesLaw" 23 "java/lang/IllegalStateException" ∈ lw_tbl := List.mem_of_getElem? (i := 478) rfl
set_option maxRecDepth 100000 in
theorem tw_479 : Cond.methodLink "StageLinesLaw" 19 yX9_stage ∈ lw_tbl := List.mem_of_getElem? (i := 479) rfl
set_option maxRecDepth 100000 in
theorem tw_480 : Cond.instanceMethod yX9_stage ∈ lw_tbl := List.mem_of_getElem? (i := 480) rfl
set_option maxRecDepth 100000 in
theorem tw_481 : Cond.selects "StageLines" yX9_stage yX9_stage ∈ lw_tbl := List.mem_of_getElem? (i := 481) rfl
set_option maxRecDepth 100000 in
theorem tw_482 : Cond.code yX9_stage prog_1_method_5_code 4 (some .int) ∈ lw_tbl := List.mem_of_getElem? (i := 482) rfl
set_option maxRecDepth 100000 in
theorem tw_483 : Cond.methodLink "StageLines" 102 yX9_refuseWithoutOpenLine ∈ lw_tbl := List.mem_of_getElem? (i := 483) rfl
set_option maxRecDepth 100000 in
theorem tw_485 : Cond.instanceMethod yX9_refuseWithoutOpenLine ∈ lw_tbl := List.mem_of_getElem? (i := 485) rfl
set_option maxRecDepth 100000 in
theorem tw_486 : Cond.code yX9_refuseWithoutOpenLine prog_1_method_13_code 1 none ∈ lw_tbl := List.mem_of_getElem? (i := 486) rfl
set_option maxRecDepth 100000 in
theorem tw_487 : Cond.classLink "StageLines" 120 "java/lang/IllegalStateException" ∈ lw_tbl := List.mem_of_getElem? (i := 487) rfl
set_option maxRecDepth 100000 in
theorem tw_489 : Cond.castable "java/lang/IllegalStateException" "java/lang/IllegalStateException" ∈ lw_tbl := List.mem_of_getElem? (i := 489) rfl
set_option maxRecDepth 100000 in
theorem tw_503 : Cond.methodLink "StageLines" 108 yX9_isStage ∈ lw_tbl := List.mem_of_getElem? (i := 503) rfl
set_option maxRecDepth 100000 in
theorem tw_504 : Cond.static yX9_isStage ∈ lw_tbl := List.mem_of_getElem? (i := 504) rfl
set_option maxRecDepth 100000 in
theorem tw_505 : Cond.code yX9_isStage prog_1_method_19_code 3 (some .boolean) ∈ lw_tbl := List.mem_of_getElem? (i := 505) rfl
set_option maxRecDepth 100000 in
theorem tw_506 : Cond.methodLink "StageLines" 224 yX9_isTest ∈ lw_tbl := List.mem_of_getElem? (i := 506) rfl
set_option maxRecDepth 100000 in
theorem tw_507 : Cond.static yX9_isTest ∈ lw_tbl := List.mem_of_getElem? (i := 507) rfl
set_option maxRecDepth 100000 in
theorem tw_508 : Cond.code yX9_isTest prog_1_method_18_code 1 (some .boolean) ∈ lw_tbl := List.mem_of_getElem? (i := 508) rfl
set_option maxRecDepth 100000 in
theorem tw_510 : Cond.methodLink "StageLines" 113 yX3_add ∈ lw_tbl := List.mem_of_getElem? (i := 510) rfl
set_option maxRecDepth 100000 in
theorem tw_511 : Cond.instanceMethod yX3_add ∈ lw_tbl := List.mem_of_getElem? (i := 511) rfl
set_option maxRecDepth 100000 in
theorem tw_512 : Cond.selects "StageLines$Line" yX3_add yX3_add ∈ lw_tbl := List.mem_of_getElem? (i := 512) rfl
set_option maxRecDepth 100000 in
theorem tw_513 : Cond.code yX3_add prog_5_method_3_code 4 none ∈ lw_tbl := List.mem_of_getElem? (i := 513) rfl
set_option maxRecDepth 100000 in
theorem tw_514 : Cond.methodLink "StageLines$Line" 33 yX7_become ∈ lw_tbl := List.mem_of_getElem? (i := 514) rfl
set_option maxRecDepth 100000 in
theorem tw_515 : Cond.instanceMethod yX7_become ∈ lw_tbl := List.mem_of_getElem? (i := 515) rfl
set_option maxRecDepth 100000 in
theorem tw_516 : Cond.selects "StageLines$Stage" yX7_become yX7_become ∈ lw_tbl := List.mem_of_getElem? (i := 516) rfl
set_option maxRecDepth 100000 in
theorem tw_517 : Cond.code yX7_become prog_9_method_2_code 4 none ∈ lw_tbl := List.mem_of_getElem? (i := 517) rfl
set_option maxRecDepth 100000 in
theorem tw_518 : Cond.methodLink "StageLines$Stage" 37 yX5_clear ∈ lw_tbl := List.mem_of_getElem? (i := 518) rfl
set_option maxRecDepth 100000 in
theorem tw_519 : Cond.methodLink "StageLinesLaw" 71 yL_flags ∈ lw_tbl := List.mem_of_getElem? (i := 519) rfl
set_option maxRecDepth 100000 in
theorem tw_520 : Cond.static yL_flags ∈ lw_tbl := List.mem_of_getElem? (i := 520) rfl
set_option maxRecDepth 100000 in
theorem tw_521 : Cond.codeWith yL_flags method_6_code 3 (some .int) [(0, 8, 11, 23)] ∈ lw_tbl := List.mem_of_getElem? (i := 521) rfl
set_option maxRecDepth 100000 in
theorem tw_522 : Cond.methodLink "StageLinesLaw" 25 yX9_flags ∈ lw_tbl := List.mem_of_getElem? (i := 522) rfl
set_option maxRecDepth 100000 in
theorem tw_523 : Cond.instanceMethod yX9_flags ∈ lw_tbl := List.mem_of_getElem? (i := 523) rfl
set_option maxRecDepth 100000 in
theorem tw_524 : Cond.selects "StageLines" yX9_flags yX9_flags ∈ lw_tbl := List.mem_of_getElem? (i := 524) rfl
set_option maxRecDepth 100000 in
theorem tw_525 : Cond.code yX9_flags prog_1_method_6_code 1 (some .int) ∈ lw_tbl := List.mem_of_getElem? (i := 525) rfl
set_option maxRecDepth 100000 in
theorem tw_527 : Cond.methodLink "StageLines" 125 yX3_allFlags ∈ lw_tbl := List.mem_of_getElem? (i := 527) rfl
set_option maxRecDepth 100000 in
theorem tw_528 : Cond.instanceMethod yX3_allFlags ∈ lw_tbl := List.mem_of_getElem? (i := 528) rfl
set_option maxRecDepth 100000 in
theorem tw_529 : Cond.selects "StageLines$Line" yX3_allFlags yX3_allFlags ∈ lw_tbl := List.mem_of_getElem? (i := 529) rfl
set_option maxRecDepth 100000 in
theorem tw_530 : Cond.code yX3_allFlags prog_5_method_4_code 3 (some .int) ∈ lw_tbl := List.mem_of_getElem? (i := 530) rfl
set_option maxRecDepth 100000 in
theorem tw_531 : Cond.methodLink "StageLines$Line" 37 yX3_sourceFlags ∈ lw_tbl := List.mem_of_getElem? (i := 531) rfl
set_option maxRecDepth 100000 in
theorem tw_533 : Cond.instanceMethod yX3_sourceFlags ∈ lw_tbl := List.mem_of_getElem? (i := 533) rfl
set_option maxRecDepth 100000 in
theorem tw_534 : Cond.code yX3_sourceFlags prog_5_method_5_code 1 (some .int) ∈ lw_tbl := List.mem_of_getElem? (i := 534) rfl
set_option maxRecDepth 100000 in
theorem tw_535 : Cond.methodLink "StageLines$Line" 41 yX7_flagsBehind ∈ lw_tbl := List.mem_of_getElem? (i := 535) rfl
set_option maxRecDepth 100000 in
theorem tw_536 : Cond.instanceMethod yX7_flagsBehind ∈ lw_tbl := List.mem_of_getElem? (i := 536) rfl
set_option maxRecDepth 100000 in
theorem tw_537 : Cond.selects "StageLines$Stage" yX7_flagsBehind yX7_flagsBehind ∈ lw_tbl := List.mem_of_getElem? (i := 537) rfl
set_option maxRecDepth 100000 in
theorem tw_538 : Cond.code yX7_flagsBehind prog_9_method_6_code 2 (some .int) ∈ lw_tbl := List.mem_of_getElem? (i := 538) rfl
set_option maxRecDepth 100000 in
theorem tw_539 : Cond.methodLink "StageLinesLaw" 75 yL_run ∈ lw_tbl := List.mem_of_getElem? (i := 539) rfl
set_option maxRecDepth 100000 in
theorem tw_540 : Cond.static yL_run ∈ lw_tbl := List.mem_of_getElem? (i := 540) rfl
set_option maxRecDepth 100000 in
theorem tw_541 : Cond.codeWith yL_run method_7_code 6 (some .int) [(0, 12, 15, 23), (0, 12, 19, 13), (0, 12, 23, 32), (0, 12, 27, 34)] ∈ lw_tbl := List.mem_of_getElem? (i := 541) rfl
set_option maxRecDepth 100000 in
theorem tw_542 : Cond.classLink "StageLinesLaw" 32 "java/lang/UnsupportedOperationException" ∈ lw_tbl := List.mem_of_getElem? (i := 542) rfl
set_option maxRecDepth 100000 in
theorem tw_543 : Cond.classLink "StageLinesLaw" 34 "java/util/NoSuchElementException" ∈ lw_tbl := List.mem_of_getElem? (i := 543) rfl
set_option maxRecDepth 100000 in
theorem tw_544 : Cond.methodLink "StageLinesLaw" 29 yX9_run ∈ lw_tbl := List.mem_of_getElem? (i := 544) rfl
set_option maxRecDepth 100000 in
theorem tw_545 : Cond.instanceMethod yX9_run ∈ lw_tbl := List.mem_of_getElem? (i := 545) rfl
set_option maxRecDepth 100000 in
theorem tw_546 : Cond.selects "StageLines" yX9_run yX9_run ∈ lw_tbl := List.mem_of_getElem? (i := 546) rfl
set_option maxRecDepth 100000 in
theorem tw_547 : Cond.code yX9_run prog_1_method_7_code 4 (some .int) ∈ lw_tbl := List.mem_of_getElem? (i := 547) rfl
set_option maxRecDepth 100000 in
theorem tw_548 : Cond.methodLink "StageLines" 129 yX9_refuseUnlessEnd ∈ lw_tbl := List.mem_of_getElem? (i := 548) rfl
set_option maxRecDepth 100000 in
theorem tw_550 : Cond.instanceMethod yX9_refuseUnlessEnd ∈ lw_tbl := List.mem_of_getElem? (i := 550) rfl
set_option maxRecDepth 100000 in
theorem tw_551 : Cond.code yX9_refuseUnlessEnd prog_1_method_14_code 4 none ∈ lw_tbl := List.mem_of_getElem? (i := 551) rfl
set_option maxRecDepth 100000 in
theorem tw_552 : Cond.methodLink "StageLines" 201 yX9_isEnd ∈ lw_tbl := List.mem_of_getElem? (i := 552) rfl
set_option maxRecDepth 100000 in
theorem tw_553 : Cond.static yX9_isEnd ∈ lw_tbl := List.mem_of_getElem? (i := 553) rfl
set_option maxRecDepth 100000 in
theorem tw_554 : Cond.code yX9_isEnd prog_1_method_20_code 3 (some .boolean) ∈ lw_tbl := List.mem_of_getElem? (i := 554) rfl
set_option maxRecDepth 100000 in
theorem tw_556 : Cond.methodLink "StageLines" 132 yX9_useLine ∈ lw_tbl := List.mem_of_getElem? (i := 556) rfl
set_option maxRecDepth 100000 in
theorem tw_558 : Cond.instanceMethod yX9_useLine ∈ lw_tbl := List.mem_of_getElem? (i := 558) rfl
set_option maxRecDepth 100000 in
theorem tw_559 : Cond.code yX9_useLine prog_1_method_15_code 4 none ∈ lw_tbl := List.mem_of_getElem? (i := 559) rfl
set_option maxRecDepth 100000 in
theorem tw_560 : Cond.methodLink "StageLines" 206 yX1_begin ∈ lw_tbl := List.mem_of_getElem? (i := 560) rfl
set_option maxRecDepth 100000 in
theorem tw_561 : Cond.instanceMethod yX1_begin ∈ lw_tbl := List.mem_of_getElem? (i := 561) rfl
set_option maxRecDepth 100000 in
theorem tw_562 : Cond.selects "StageLines$End" yX1_begin yX1_begin ∈ lw_tbl := List.mem_of_getElem? (i := 562) rfl
set_option maxRecDepth 100000 in
theorem tw_563 : Cond.code yX1_begin prog_3_method_2_code 5 none ∈ lw_tbl := List.mem_of_getElem? (i := 563) rfl
set_option maxRecDepth 100000 in
theorem tw_564 : Cond.methodLink "StageLines$End" 43 yX5_clear ∈ lw_tbl := List.mem_of_getElem? (i := 564) rfl
set_option maxRecDepth 100000 in
theorem tw_565 : Cond.methodLink "StageLines$End" 46 yX5_add ∈ lw_tbl := List.mem_of_getElem? (i := 565) rfl
set_option maxRecDepth 100000 in
theorem tw_566 : Cond.methodLink "StageLines" 135 yX2_comesToEnd ∈ lw_tbl := List.mem_of_getElem? (i := 566) rfl
set_option maxRecDepth 100000 in
theorem tw_567 : Cond.instanceMethod yX2_comesToEnd ∈ lw_tbl := List.mem_of_getElem? (i := 567) rfl
set_option maxRecDepth 100000 in
theorem tw_568 : Cond.selects "StageLines$Flow" yX2_comesToEnd yX2_comesToEnd ∈ lw_tbl := List.mem_of_getElem? (i := 568) rfl
set_option maxRecDepth 100000 in
theorem tw_569 : Cond.code yX2_comesToEnd prog_4_method_2_code 2 (some .boolean) ∈ lw_tbl := List.mem_of_getElem? (i := 569) rfl
set_option maxRecDepth 100000 in
theorem tw_570 : Cond.methodLink "StageLines$Flow" 27 yX2_giveFromSource ∈ lw_tbl := List.mem_of_getElem? (i := 570) rfl
set_option maxRecDepth 100000 in
theorem tw_572 : Cond.instanceMethod yX2_giveFromSource ∈ lw_tbl := List.mem_of_getElem? (i := 572) rfl
set_option maxRecDepth 100000 in
theorem tw_573 : Cond.code yX2_giveFromSource prog_4_method_3_code 3 none ∈ lw_tbl := List.mem_of_getElem? (i := 573) rfl
set_option maxRecDepth 100000 in
theorem tw_574 : Cond.methodLink "StageLines$Flow" 52 yX6_hasMore ∈ lw_tbl := List.mem_of_getElem? (i := 574) rfl
set_option maxRecDepth 100000 in
theorem tw_575 : Cond.instanceMethod yX6_hasMore ∈ lw_tbl := List.mem_of_getElem? (i := 575) rfl
set_option maxRecDepth 100000 in
theorem tw_576 : Cond.selects "StageLines$Source" yX6_hasMore yX6_hasMore ∈ lw_tbl := List.mem_of_getElem? (i := 576) rfl
set_option maxRecDepth 100000 in
theorem tw_577 : Cond.code yX6_hasMore prog_8_method_4_code 1 (some .boolean) ∈ lw_tbl := List.mem_of_getElem? (i := 577) rfl
set_option maxRecDepth 100000 in
theorem tw_578 : Cond.methodLink "StageLines$Source" 36 yX6_size ∈ lw_tbl := List.mem_of_getElem? (i := 578) rfl
set_option maxRecDepth 100000 in
theorem tw_579 : Cond.instanceMethod yX6_size ∈ lw_tbl := List.mem_of_getElem? (i := 579) rfl
set_option maxRecDepth 100000 in
theorem tw_580 : Cond.selects "StageLines$Source" yX6_size yX6_size ∈ lw_tbl := List.mem_of_getElem? (i := 580) rfl
set_option maxRecDepth 100000 in
theorem tw_581 : Cond.code yX6_size prog_8_method_3_code 1 (some .int) ∈ lw_tbl := List.mem_of_getElem? (i := 581) rfl
set_option maxRecDepth 100000 in
theorem tw_582 : Cond.methodLink "StageLines$Flow" 58 yX2_mayGiveTo ∈ lw_tbl := List.mem_of_getElem? (i := 582) rfl
set_option maxRecDepth 100000 in
theorem tw_584 : Cond.instanceMethod yX2_mayGiveTo ∈ lw_tbl := List.mem_of_getElem? (i := 584) rfl
set_option maxRecDepth 100000 in
theorem tw_585 : Cond.code yX2_mayGiveTo prog_4_method_6_code 2 (some .boolean) ∈ lw_tbl := List.mem_of_getElem? (i := 585) rfl
set_option maxRecDepth 100000 in
theorem tw_586 : Cond.methodLink "StageLines$Flow" 86 yX2_isWantedFrom ∈ lw_tbl := List.mem_of_getElem? (i := 586) rfl
set_option maxRecDepth 100000 in
theorem tw_588 : Cond.instanceMethod yX2_isWantedFrom ∈ lw_tbl := List.mem_of_getElem? (i := 588) rfl
set_option maxRecDepth 100000 in
theorem tw_589 : Cond.code yX2_isWantedFrom prog_4_method_7_code 3 (some .boolean) ∈ lw_tbl := List.mem_of_getElem? (i := 589) rfl
set_option maxRecDepth 100000 in
theorem tw_590 : Cond.methodLink "StageLines$Flow" 89 yX7_isClosed ∈ lw_tbl := List.mem_of_getElem? (i := 590) rfl
set_option maxRecDepth 100000 in
theorem tw_591 : Cond.instanceMethod yX7_isClosed ∈ lw_tbl := List.mem_of_getElem? (i := 591) rfl
set_option maxRecDepth 100000 in
theorem tw_592 : Cond.selects "StageLines$Stage" yX7_isClosed yX7_isClosed ∈ lw_tbl := List.mem_of_getElem? (i := 592) rfl
set_option maxRecDepth 100000 in
theorem tw_593 : Cond.code yX7_isClosed prog_9_method_5_code 1 (some .boolean) ∈ lw_tbl := List.mem_of_getElem? (i := 593) rfl
set_option maxRecDepth 100000 in
theorem tw_594 : Cond.methodLink "StageLines$Flow" 92 yX1_wantsMore ∈ lw_tbl := List.mem_of_getElem? (i := 594) rfl
set_option maxRecDepth 100000 in
theorem tw_595 : Cond.instanceMethod yX1_wantsMore ∈ lw_tbl := List.mem_of_getElem? (i := 595) rfl
set_option maxRecDepth 100000 in
theorem tw_596 : Cond.selects "StageLines$End" yX1_wantsMore yX1_wantsMore ∈ lw_tbl := List.mem_of_getElem? (i := 596) rfl
set_option maxRecDepth 100000 in
theorem tw_597 : Cond.code yX1_wantsMore prog_3_method_3_code 1 (some .boolean) ∈ lw_tbl := List.mem_of_getElem? (i := 597) rfl
set_option maxRecDepth 100000 in
theorem tw_598 : Cond.methodLink "StageLines$Flow" 62 yX6_next ∈ lw_tbl := List.mem_of_getElem? (i := 598) rfl
set_option maxRecDepth 100000 in
theorem tw_599 : Cond.instanceMethod yX6_next ∈ lw_tbl := List.mem_of_getElem? (i := 599) rfl
set_option maxRecDepth 100000 in
theorem tw_600 : Cond.selects "StageLines$Source" yX6_next yX6_next ∈ lw_tbl := List.mem_of_getElem? (i := 600) rfl
set_option maxRecDepth 100000 in
theorem tw_601 : Cond.code yX6_next prog_8_method_5_code 2 (some .int) ∈ lw_tbl := List.mem_of_getElem? (i := 601) rfl
set_option maxRecDepth 100000 in
theorem tw_602 : Cond.methodLink "StageLines$Flow" 66 yX2_passOn ∈ lw_tbl := List.mem_of_getElem? (i := 602) rfl
set_option maxRecDepth 100000 in
theorem tw_604 : Cond.instanceMethod yX2_passOn ∈ lw_tbl := List.mem_of_getElem? (i := 604) rfl
set_option maxRecDepth 100000 in
theorem tw_605 : Cond.code yX2_passOn prog_4_method_8_code 6 none ∈ lw_tbl := List.mem_of_getElem? (i := 605) rfl
set_option maxRecDepth 100000 in
theorem tw_606 : Cond.methodLink "StageLines$Flow" 100 yX2_giveFlat ∈ lw_tbl := List.mem_of_getElem? (i := 606) rfl
set_option maxRecDepth 100000 in
theorem tw_608 : Cond.instanceMethod yX2_giveFlat ∈ lw_tbl := List.mem_of_getElem? (i := 608) rfl
set_option maxRecDepth 100000 in
theorem tw_609 : Cond.code yX2_giveFlat prog_4_method_5_code 5 none ∈ lw_tbl := List.mem_of_getElem? (i := 609) rfl
set_option maxRecDepth 100000 in
theorem tw_610 : Cond.methodLink "StageLines$Flow" 103 yX7_letsOn ∈ lw_tbl := List.mem_of_getElem? (i := 610) rfl
set_option maxRecDepth 100000 in
theorem tw_611 : Cond.instanceMethod yX7_letsOn ∈ lw_tbl := List.mem_of_getElem? (i := 611) rfl
set_option maxRecDepth 100000 in
theorem tw_612 : Cond.selects "StageLines$Stage" yX7_letsOn yX7_letsOn ∈ lw_tbl := List.mem_of_getElem? (i := 612) rfl
set_option maxRecDepth 100000 in
theorem tw_613 : Cond.code yX7_letsOn prog_9_method_3_code 2 (some .boolean) ∈ lw_tbl := List.mem_of_getElem? (i := 613) rfl
set_option maxRecDepth 100000 in
theorem tw_614 : Cond.methodLinkNest "StageLines$Stage" 40 yX9_passes "StageLines" ∈ lw_tbl := List.mem_of_getElem? (i := 614) rfl
set_option maxRecDepth 100000 in
theorem tw_615 : Cond.static yX9_passes ∈ lw_tbl := List.mem_of_getElem? (i := 615) rfl
set_option maxRecDepth 100000 in
theorem tw_616 : Cond.code yX9_passes prog_1_method_21_code 3 (some .boolean) ∈ lw_tbl := List.mem_of_getElem? (i := 616) rfl
set_option maxRecDepth 100000 in
theorem tw_617 : Cond.methodLink "StageLines$Stage" 44 yX5_insertIfNew ∈ lw_tbl := List.mem_of_getElem? (i := 617) rfl
set_option maxRecDepth 100000 in
theorem tw_618 : Cond.instanceMethod yX5_insertIfNew ∈ lw_tbl := List.mem_of_getElem? (i := 618) rfl
set_option maxRecDepth 100000 in
theorem tw_619 : Cond.selects "StageLines$Row" yX5_insertIfNew yX5_insertIfNew ∈ lw_tbl := List.mem_of_getElem? (i := 619) rfl
set_option maxRecDepth 100000 in
theorem tw_620 : Cond.code yX5_insertIfNew prog_7_method_6_code 3 (some .boolean) ∈ lw_tbl := List.mem_of_getElem? (i := 620) rfl
set_option maxRecDepth 100000 in
theorem tw_621 : Cond.methodLink "StageLines$Row" 21 yX5_placeAscending ∈ lw_tbl := List.mem_of_getElem? (i := 621) rfl
set_option maxRecDepth 100000 in
theorem tw_623 : Cond.instanceMethod yX5_placeAscending ∈ lw_tbl := List.mem_of_getElem? (i := 623) rfl
set_option maxRecDepth 100000 in
theorem tw_624 : Cond.code yX5_placeAscending prog_7_method_9_code 5 (some .int) ∈ lw_tbl := List.mem_of_getElem? (i := 624) rfl
set_option maxRecDepth 100000 in
theorem tw_625 : Cond.methodLink "StageLines$Stage" 48 yX5_insertAscending ∈ lw_tbl := List.mem_of_getElem? (i := 625) rfl
set_option maxRecDepth 100000 in
theorem tw_626 : Cond.instanceMethod yX5_insertAscending ∈ lw_tbl := List.mem_of_getElem? (i := 626) rfl
set_option maxRecDepth 100000 in
theorem tw_627 : Cond.selects "StageLines$Row" yX5_insertAscending yX5_insertAscending ∈ lw_tbl := List.mem_of_getElem? (i := 627) rfl
set_option maxRecDepth 100000 in
theorem tw_628 : Cond.code yX5_insertAscending prog_7_method_5_code 2 none ∈ lw_tbl := List.mem_of_getElem? (i := 628) rfl
set_option maxRecDepth 100000 in
theorem tw_629 : Cond.methodLink "StageLines$Stage" 51 yX7_hasFailed ∈ lw_tbl := List.mem_of_getElem? (i := 629) rfl
set_option maxRecDepth 100000 in
theorem tw_631 : Cond.instanceMethod yX7_hasFailed ∈ lw_tbl := List.mem_of_getElem? (i := 631) rfl
set_option maxRecDepth 100000 in
theorem tw_632 : Cond.code yX7_hasFailed prog_9_method_8_code 2 (some .boolean) ∈ lw_tbl := List.mem_of_getElem? (i := 632) rfl
set_option maxRecDepth 100000 in
theorem tw_633 : Cond.methodLink "StageLines$Flow" 106 yX7_changed ∈ lw_tbl := List.mem_of_getElem? (i := 633) rfl
set_option maxRecDepth 100000 in
theorem tw_634 : Cond.instanceMethod yX7_changed ∈ lw_tbl := List.mem_of_getElem? (i := 634) rfl
set_option maxRecDepth 100000 in
theorem tw_635 : Cond.selects "StageLines$Stage" yX7_changed yX7_changed ∈ lw_tbl := List.mem_of_getElem? (i := 635) rfl
set_option maxRecDepth 100000 in
theorem tw_636 : Cond.code yX7_changed prog_9_method_4_code 2 (some .int) ∈ lw_tbl := List.mem_of_getElem? (i := 636) rfl
set_option maxRecDepth 100000 in
theorem tw_637 : Cond.methodLink "StageLines$Stage" 54 yX7_mapped ∈ lw_tbl := List.mem_of_getElem? (i := 637) rfl
set_option maxRecDepth 100000 in
theorem tw_639 : Cond.instanceMethod yX7_mapped ∈ lw_tbl := List.mem_of_getElem? (i := 639) rfl
set_option maxRecDepth 100000 in
theorem tw_640 : Cond.code yX7_mapped prog_9_method_7_code 2 (some .int) ∈ lw_tbl := List.mem_of_getElem? (i := 640) rfl
set_option maxRecDepth 100000 in
theorem tw_641 : Cond.methodLink "StageLines$Flow" 110 yX1_take ∈ lw_tbl := List.mem_of_getElem? (i := 641) rfl
set_option maxRecDepth 100000 in
theorem tw_642 : Cond.instanceMethod yX1_take ∈ lw_tbl := List.mem_of_getElem? (i := 642) rfl
set_option maxRecDepth 100000 in
theorem tw_643 : Cond.selects "StageLines$End" yX1_take yX1_take ∈ lw_tbl := List.mem_of_getElem? (i := 643) rfl
set_option maxRecDepth 100000 in
theorem tw_644 : Cond.code yX1_take prog_3_method_4_code 2 none ∈ lw_tbl := List.mem_of_getElem? (i := 644) rfl
set_option maxRecDepth 100000 in
theorem tw_645 : Cond.methodLink "StageLines$End" 49 yJ9_min_7cf53 ∈ lw_tbl := List.mem_of_getElem? (i := 645) rfl
set_option maxRecDepth 100000 in
theorem tw_646 : Cond.static yJ9_min_7cf53 ∈ lw_tbl := List.mem_of_getElem? (i := 646) rfl
set_option maxRecDepth 100000 in
theorem tw_647 : Cond.code yJ9_min_7cf53 prog_16_method_69_code 2 (some .int) ∈ lw_tbl := List.mem_of_getElem? (i := 647) rfl
set_option maxRecDepth 100000 in
theorem tw_648 : Cond.methodLink "StageLines$End" 55 yJ9_max_7cf53 ∈ lw_tbl := List.mem_of_getElem? (i := 648) rfl
set_option maxRecDepth 100000 in
theorem tw_649 : Cond.static yJ9_max_7cf53 ∈ lw_tbl := List.mem_of_getElem? (i := 649) rfl
set_option maxRecDepth 100000 in
theorem tw_650 : Cond.code yJ9_max_7cf53 prog_16_method_65_code 2 (some .int) ∈ lw_tbl := List.mem_of_getElem? (i := 650) rfl
set_option maxRecDepth 100000 in
theorem tw_651 : Cond.methodLinkNest "StageLines$End" 58 yX9_passes "StageLines" ∈ lw_tbl := List.mem_of_getElem? (i := 651) rfl
set_option maxRecDepth 100000 in
theorem tw_652 : Cond.methodLink "StageLines$End" 62 yX1_folded ∈ lw_tbl := List.mem_of_getElem? (i := 652) rfl
set_option maxRecDepth 100000 in
theorem tw_654 : Cond.instanceMethod yX1_folded ∈ lw_tbl := List.mem_of_getElem? (i := 654) rfl
set_option maxRecDepth 100000 in
theorem tw_655 : Cond.code yX1_folded prog_3_method_8_code 2 (some .int) ∈ lw_tbl := List.mem_of_getElem? (i := 655) rfl
set_option maxRecDepth 100000 in
theorem tw_656 : Cond.methodLink "StageLines$End" 70 yJ9_floorMod_7cf53 ∈ lw_tbl := List.mem_of_getElem? (i := 656) rfl
set_option maxRecDepth 100000 in
theorem tw_657 : Cond.static yJ9_floorMod_7cf53 ∈ lw_tbl := List.mem_of_getElem? (i := 657) rfl
set_option maxRecDepth 100000 in
theorem tw_658 : Cond.code yJ9_floorMod_7cf53 prog_16_method_50_code 3 (some .int) ∈ lw_tbl := List.mem_of_getElem? (i := 658) rfl
set_option maxRecDepth 100000 in
theorem tw_659 : Cond.methodLink "StageLines$Flow" 44 yX2_giveSorted ∈ lw_tbl := List.mem_of_getElem? (i := 659) rfl
set_option maxRecDepth 100000 in
theorem tw_661 : Cond.instanceMethod yX2_giveSorted ∈ lw_tbl := List.mem_of_getElem? (i := 661) rfl
set_option maxRecDepth 100000 in
theorem tw_662 : Cond.code yX2_giveSorted prog_4_method_4_code 4 none ∈ lw_tbl := List.mem_of_getElem? (i := 662) rfl
set_option maxRecDepth 100000 in
theorem tw_663 : Cond.methodLink "StageLines" 138 yX9_outcome ∈ lw_tbl := List.mem_of_getElem? (i := 663) rfl
set_option maxRecDepth 100000 in
theorem tw_665 : Cond.instanceMethod yX9_outcome ∈ lw_tbl := List.mem_of_getElem? (i := 665) rfl
set_option maxRecDepth 100000 in
theorem tw_666 : Cond.code yX9_outcome prog_1_method_16_code 3 (some .int) ∈ lw_tbl := List.mem_of_getElem? (i := 666) rfl
set_option maxRecDepth 100000 in
theorem tw_667 : Cond.classLink "StageLines" 208 "java/lang/UnsupportedOperationException" ∈ lw_tbl := List.mem_of_getElem? (i := 667) rfl
set_option maxRecDepth 100000 in
theorem tw_669 : Cond.castable "java/lang/UnsupportedOperationException" "java/lang/UnsupportedOperationException" ∈ lw_tbl := List.mem_of_getElem? (i := 669) rfl
set_option maxRecDepth 100000 in
theorem tw_683 : Cond.methodLink "StageLines" 213 yX1_hasResult ∈ lw_tbl := List.mem_of_getElem? (i := 683) rfl
set_option maxRecDepth 100000 in
theorem tw_684 : Cond.instanceMethod yX1_hasResult ∈ lw_tbl := List.mem_of_getElem? (i := 684) rfl
set_option maxRecDepth 100000 in
theorem tw_685 : Cond.selects "StageLines$End" yX1_hasResult yX1_hasResult ∈ lw_tbl := List.mem_of_getElem? (i := 685) rfl
set_option maxRecDepth 100000 in
theorem tw_686 : Cond.code yX1_hasResult prog_3_method_5_code 1 (some .boolean) ∈ lw_tbl := List.mem_of_getElem? (i := 686) rfl
set_option maxRecDepth 100000 in
theorem tw_687 : Cond.classLink "StageLines" 169 "java/util/NoSuchElementException" ∈ lw_tbl := List.mem_of_getElem? (i := 687) rfl
set_option maxRecDepth 100000 in
theorem tw_689 : Cond.castable "java/util/NoSuchElementException" "java/util/NoSuchElementException" ∈ lw_tbl := List.mem_of_getElem? (i := 689) rfl
set_option maxRecDepth 100000 in
theorem tw_703 : Cond.methodLink "StageLines" 218 yX1_result ∈ lw_tbl := List.mem_of_getElem? (i := 703) rfl
set_option maxRecDepth 100000 in
theorem tw_704 : Cond.instanceMethod yX1_result ∈ lw_tbl := List.mem_of_getElem? (i := 704) rfl
set_option maxRecDepth 100000 in
theorem tw_705 : Cond.selects "StageLines$End" yX1_result yX1_result ∈ lw_tbl := List.mem_of_getElem? (i := 705) rfl
set_option maxRecDepth 100000 in
theorem tw_706 : Cond.code yX1_result prog_3_method_6_code 1 (some .int) ∈ lw_tbl := List.mem_of_getElem? (i := 706) rfl
set_option maxRecDepth 100000 in
theorem tw_707 : Cond.methodLink "StageLines$End" 73 yX1_differentRemainders ∈ lw_tbl := List.mem_of_getElem? (i := 707) rfl
set_option maxRecDepth 100000 in
theorem tw_709 : Cond.instanceMethod yX1_differentRemainders ∈ lw_tbl := List.mem_of_getElem? (i := 709) rfl
set_option maxRecDepth 100000 in
theorem tw_710 : Cond.code yX1_differentRemainders prog_3_method_9_code 3 (some .int) ∈ lw_tbl := List.mem_of_getElem? (i := 710) rfl
set_option maxRecDepth 100000 in
theorem tw_711 : Cond.methodLink "StageLines" 221 yX1_keepGathered ∈ lw_tbl := List.mem_of_getElem? (i := 711) rfl
set_option maxRecDepth 100000 in
theorem tw_712 : Cond.instanceMethod yX1_keepGathered ∈ lw_tbl := List.mem_of_getElem? (i := 712) rfl
set_option maxRecDepth 100000 in
theorem tw_713 : Cond.selects "StageLines$End" yX1_keepGathered yX1_keepGathered ∈ lw_tbl := List.mem_of_getElem? (i := 713) rfl
set_option maxRecDepth 100000 in
theorem tw_714 : Cond.code yX1_keepGathered prog_3_method_7_code 2 none ∈ lw_tbl := List.mem_of_getElem? (i := 714) rfl
set_option maxRecDepth 100000 in
theorem tw_715 : Cond.methodLink "StageLinesLaw" 78 yL_pool ∈ lw_tbl := List.mem_of_getElem? (i := 715) rfl
set_option maxRecDepth 100000 in
theorem tw_716 : Cond.static yL_pool ∈ lw_tbl := List.mem_of_getElem? (i := 716) rfl
set_option maxRecDepth 100000 in
theorem tw_717 : Cond.codeWith yL_pool method_8_code 5 (some .int) [(0, 7, 10, 13)] ∈ lw_tbl := List.mem_of_getElem? (i := 717) rfl
set_option maxRecDepth 100000 in
theorem tw_718 : Cond.methodLink "StageLinesLaw" 36 yX9_pool ∈ lw_tbl := List.mem_of_getElem? (i := 718) rfl
set_option maxRecDepth 100000 in
theorem tw_719 : Cond.instanceMethod yX9_pool ∈ lw_tbl := List.mem_of_getElem? (i := 719) rfl
set_option maxRecDepth 100000 in
theorem tw_720 : Cond.selects "StageLines" yX9_pool yX9_pool ∈ lw_tbl := List.mem_of_getElem? (i := 720) rfl
set_option maxRecDepth 100000 in
theorem tw_721 : Cond.code yX9_pool prog_1_method_8_code 4 none ∈ lw_tbl := List.mem_of_getElem? (i := 721) rfl
set_option maxRecDepth 100000 in
theorem tw_723 : Cond.methodLink "StageLines" 144 yX0_become ∈ lw_tbl := List.mem_of_getElem? (i := 723) rfl
set_option maxRecDepth 100000 in
theorem tw_724 : Cond.instanceMethod yX0_become ∈ lw_tbl := List.mem_of_getElem? (i := 724) rfl
set_option maxRecDepth 100000 in
theorem tw_725 : Cond.selects "StageLines$Crew" yX0_become yX0_become ∈ lw_tbl := List.mem_of_getElem? (i := 725) rfl
set_option maxRecDepth 100000 in
theorem tw_726 : Cond.code yX0_become prog_2_method_2_code 4 none ∈ lw_tbl := List.mem_of_getElem? (i := 726) rfl
set_option maxRecDepth 100000 in
theorem tw_727 : Cond.methodLink "StageLinesLaw" 82 yL_parts ∈ lw_tbl := List.mem_of_getElem? (i := 727) rfl
set_option maxRecDepth 100000 in
theorem tw_728 : Cond.static yL_parts ∈ lw_tbl := List.mem_of_getElem? (i := 728) rfl
set_option maxRecDepth 100000 in
theorem tw_729 : Cond.codeWith yL_parts method_9_code 6 (some .int) [(0, 12, 15, 23), (0, 12, 19, 13), (0, 12, 23, 32), (0, 12, 27, 34)] ∈ lw_tbl := List.mem_of_getElem? (i := 729) rfl
set_option maxRecDepth 100000 in
theorem tw_730 : Cond.methodLink "StageLinesLaw" 40 yX9_parts ∈ lw_tbl := List.mem_of_getElem? (i := 730) rfl
set_option maxRecDepth 100000 in
theorem tw_731 : Cond.instanceMethod yX9_parts ∈ lw_tbl := List.mem_of_getElem? (i := 731) rfl
set_option maxRecDepth 100000 in
theorem tw_732 : Cond.selects "StageLines" yX9_parts yX9_parts ∈ lw_tbl := List.mem_of_getElem? (i := 732) rfl
set_option maxRecDepth 100000 in
theorem tw_733 : Cond.code yX9_parts prog_1_method_9_code 4 (some .int) ∈ lw_tbl := List.mem_of_getElem? (i := 733) rfl
set_option maxRecDepth 100000 in
theorem tw_735 : Cond.methodLink "StageLines" 151 yX6_size ∈ lw_tbl := List.mem_of_getElem? (i := 735) rfl
set_option maxRecDepth 100000 in
theorem tw_736 : Cond.methodLink "StageLines" 153 yX0_workThrough ∈ lw_tbl := List.mem_of_getElem? (i := 736) rfl
set_option maxRecDepth 100000 in
theorem tw_737 : Cond.instanceMethod yX0_workThrough ∈ lw_tbl := List.mem_of_getElem? (i := 737) rfl
set_option maxRecDepth 100000 in
theorem tw_738 : Cond.selects "StageLines$Crew" yX0_workThrough yX0_workThrough ∈ lw_tbl := List.mem_of_getElem? (i := 738) rfl
set_option maxRecDepth 100000 in
theorem tw_739 : Cond.code yX0_workThrough prog_2_method_3_code 3 none ∈ lw_tbl := List.mem_of_getElem? (i := 739) rfl
set_option maxRecDepth 100000 in
theorem tw_740 : Cond.methodLink "StageLines$Crew" 28 yX8_begin ∈ lw_tbl := List.mem_of_getElem? (i := 740) rfl
set_option maxRecDepth 100000 in
theorem tw_741 : Cond.instanceMethod yX8_begin ∈ lw_tbl := List.mem_of_getElem? (i := 741) rfl
set_option maxRecDepth 100000 in
theorem tw_742 : Cond.selects "StageLines$Worker" yX8_begin yX8_begin ∈ lw_tbl := List.mem_of_getElem? (i := 742) rfl
set_option maxRecDepth 100000 in
theorem tw_743 : Cond.code yX8_begin prog_10_method_2_code 1 none ∈ lw_tbl := List.mem_of_getElem? (i := 743) rfl
set_option maxRecDepth 100000 in
theorem tw_744 : Cond.methodLink "StageLines$Crew" 37 yX8_addTask ∈ lw_tbl := List.mem_of_getElem? (i := 744) rfl
set_option maxRecDepth 100000 in
theorem tw_745 : Cond.instanceMethod yX8_addTask ∈ lw_tbl := List.mem_of_getElem? (i := 745) rfl
set_option maxRecDepth 100000 in
theorem tw_746 : Cond.selects "StageLines$Worker" yX8_addTask yX8_addTask ∈ lw_tbl := List.mem_of_getElem? (i := 746) rfl
set_option maxRecDepth 100000 in
theorem tw_747 : Cond.code yX8_addTask prog_10_method_4_code 2 none ∈ lw_tbl := List.mem_of_getElem? (i := 747) rfl
set_option maxRecDepth 100000 in
theorem tw_748 : Cond.constant "StageLines$Crew" 44 (1103515245 : Int32) ∈ lw_tbl := List.mem_of_getElem? (i := 748) rfl
set_option maxRecDepth 100000 in
theorem tw_749 : Cond.methodLink "StageLines$Crew" 45 yX0_takeTurn ∈ lw_tbl := List.mem_of_getElem? (i := 749) rfl
set_option maxRecDepth 100000 in
theorem tw_751 : Cond.instanceMethod yX0_takeTurn ∈ lw_tbl := List.mem_of_getElem? (i := 751) rfl
set_option maxRecDepth 100000 in
theorem tw_752 : Cond.code yX0_takeTurn prog_2_method_5_code 4 none ∈ lw_tbl := List.mem_of_getElem? (i := 752) rfl
set_option maxRecDepth 100000 in
theorem tw_753 : Cond.methodLink "StageLines$Crew" 51 yX8_hasTasks ∈ lw_tbl := List.mem_of_getElem? (i := 753) rfl
set_option maxRecDepth 100000 in
theorem tw_754 : Cond.instanceMethod yX8_hasTasks ∈ lw_tbl := List.mem_of_getElem? (i := 754) rfl
set_option maxRecDepth 100000 in
theorem tw_755 : Cond.selects "StageLines$Worker" yX8_hasTasks yX8_hasTasks ∈ lw_tbl := List.mem_of_getElem? (i := 755) rfl
set_option maxRecDepth 100000 in
theorem tw_756 : Cond.code yX8_hasTasks prog_10_method_3_code 1 (some .boolean) ∈ lw_tbl := List.mem_of_getElem? (i := 756) rfl
set_option maxRecDepth 100000 in
theorem tw_757 : Cond.methodLink "StageLines$Crew" 55 yX8_takeLast ∈ lw_tbl := List.mem_of_getElem? (i := 757) rfl
set_option maxRecDepth 100000 in
theorem tw_758 : Cond.instanceMethod yX8_takeLast ∈ lw_tbl := List.mem_of_getElem? (i := 758) rfl
set_option maxRecDepth 100000 in
theorem tw_759 : Cond.selects "StageLines$Worker" yX8_takeLast yX8_takeLast ∈ lw_tbl := List.mem_of_getElem? (i := 759) rfl
set_option maxRecDepth 100000 in
theorem tw_760 : Cond.code yX8_takeLast prog_10_method_5_code 1 (some .int) ∈ lw_tbl := List.mem_of_getElem? (i := 760) rfl
set_option maxRecDepth 100000 in
theorem tw_761 : Cond.methodLink "StageLines$Worker" 25 yX8_hasTasks ∈ lw_tbl := List.mem_of_getElem? (i := 761) rfl
set_option maxRecDepth 100000 in
theorem tw_762 : Cond.methodLink "StageLines$Crew" 59 yX0_stolenBy ∈ lw_tbl := List.mem_of_getElem? (i := 762) rfl
set_option maxRecDepth 100000 in
theorem tw_764 : Cond.instanceMethod yX0_stolenBy ∈ lw_tbl := List.mem_of_getElem? (i := 764) rfl
set_option maxRecDepth 100000 in
theorem tw_765 : Cond.code yX0_stolenBy prog_2_method_6_code 4 (some .int) ∈ lw_tbl := List.mem_of_getElem? (i := 765) rfl
set_option maxRecDepth 100000 in
theorem tw_766 : Cond.methodLink "StageLines$Crew" 63 yX8_takeFirst ∈ lw_tbl := List.mem_of_getElem? (i := 766) rfl
set_option maxRecDepth 100000 in
theorem tw_767 : Cond.instanceMethod yX8_takeFirst ∈ lw_tbl := List.mem_of_getElem? (i := 767) rfl
set_option maxRecDepth 100000 in
theorem tw_768 : Cond.selects "StageLines$Worker" yX8_takeFirst yX8_takeFirst ∈ lw_tbl := List.mem_of_getElem? (i := 768) rfl
set_option maxRecDepth 100000 in
theorem tw_769 : Cond.code yX8_takeFirst prog_10_method_6_code 1 (some .int) ∈ lw_tbl := List.mem_of_getElem? (i := 769) rfl
set_option maxRecDepth 100000 in
theorem tw_770 : Cond.methodLink "StageLines" 156 yX4_comesToEnd ∈ lw_tbl := List.mem_of_getElem? (i := 770) rfl
set_option maxRecDepth 100000 in
theorem tw_771 : Cond.instanceMethod yX4_comesToEnd ∈ lw_tbl := List.mem_of_getElem? (i := 771) rfl
set_option maxRecDepth 100000 in
theorem tw_772 : Cond.selects "StageLines$PartWork" yX4_comesToEnd yX4_comesToEnd ∈ lw_tbl := List.mem_of_getElem? (i := 772) rfl
set_option maxRecDepth 100000 in
theorem tw_773 : Cond.code yX4_comesToEnd prog_6_method_2_code 2 (some .boolean) ∈ lw_tbl := List.mem_of_getElem? (i := 773) rfl
set_option maxRecDepth 100000 in
theorem tw_774 : Cond.methodLink "StageLines$PartWork" 31 yX4_takeSource ∈ lw_tbl := List.mem_of_getElem? (i := 774) rfl
set_option maxRecDepth 100000 in
theorem tw_776 : Cond.instanceMethod yX4_takeSource ∈ lw_tbl := List.mem_of_getElem? (i := 776) rfl
set_option maxRecDepth 100000 in
theorem tw_777 : Cond.code yX4_takeSource prog_6_method_3_code 2 none ∈ lw_tbl := List.mem_of_getElem? (i := 777) rfl
set_option maxRecDepth 100000 in
theorem tw_778 : Cond.methodLink "StageLines$PartWork" 64 yX5_clear ∈ lw_tbl := List.mem_of_getElem? (i := 778) rfl
set_option maxRecDepth 100000 in
theorem tw_779 : Cond.methodLink "StageLines$PartWork" 71 yX6_hasMore ∈ lw_tbl := List.mem_of_getElem? (i := 779) rfl
set_option maxRecDepth 100000 in
theorem tw_780 : Cond.methodLink "StageLines$PartWork" 77 yX6_next ∈ lw_tbl := List.mem_of_getElem? (i := 780) rfl
set_option maxRecDepth 100000 in
theorem tw_781 : Cond.methodLink "StageLines$PartWork" 81 yX5_add ∈ lw_tbl := List.mem_of_getElem? (i := 781) rfl
set_option maxRecDepth 100000 in
theorem tw_782 : Cond.methodLink "StageLines$PartWork" 44 yX4_workOn ∈ lw_tbl := List.mem_of_getElem? (i := 782) rfl
set_option maxRecDepth 100000 in
theorem tw_784 : Cond.instanceMethod yX4_workOn ∈ lw_tbl := List.mem_of_getElem? (i := 784) rfl
set_option maxRecDepth 100000 in
theorem tw_785 : Cond.code yX4_workOn prog_6_method_4_code 3 (some .boolean) ∈ lw_tbl := List.mem_of_getElem? (i := 785) rfl
set_option maxRecDepth 100000 in
theorem tw_786 : Cond.methodLink "StageLines$PartWork" 95 yX4_letFlat ∈ lw_tbl := List.mem_of_getElem? (i := 786) rfl
set_option maxRecDepth 100000 in
theorem tw_788 : Cond.instanceMethod yX4_letFlat ∈ lw_tbl := List.mem_of_getElem? (i := 788) rfl
set_option maxRecDepth 100000 in
theorem tw_789 : Cond.code yX4_letFlat prog_6_method_5_code 4 (some .boolean) ∈ lw_tbl := List.mem_of_getElem? (i := 789) rfl
set_option maxRecDepth 100000 in
theorem tw_790 : Cond.methodLink "StageLines$PartWork" 110 yX5_isFull ∈ lw_tbl := List.mem_of_getElem? (i := 790) rfl
set_option maxRecDepth 100000 in
theorem tw_791 : Cond.methodLink "StageLines$PartWork" 99 yX7_letsOn ∈ lw_tbl := List.mem_of_getElem? (i := 791) rfl
set_option maxRecDepth 100000 in
theorem tw_792 : Cond.methodLink "StageLines$PartWork" 103 yX7_changed ∈ lw_tbl := List.mem_of_getElem? (i := 792) rfl
set_option maxRecDepth 100000 in
theorem tw_793 : Cond.methodLink "StageLines$PartWork" 48 yX5_copyFrom ∈ lw_tbl := List.mem_of_getElem? (i := 793) rfl
set_option maxRecDepth 100000 in
theorem tw_794 : Cond.instanceMethod yX5_copyFrom ∈ lw_tbl := List.mem_of_getElem? (i := 794) rfl
set_option maxRecDepth 100000 in
theorem tw_795 : Cond.selects "StageLines$Row" yX5_copyFrom yX5_copyFrom ∈ lw_tbl := List.mem_of_getElem? (i := 795) rfl
set_option maxRecDepth 100000 in
theorem tw_796 : Cond.code yX5_copyFrom prog_7_method_7_code 3 none ∈ lw_tbl := List.mem_of_getElem? (i := 796) rfl
set_option maxRecDepth 100000 in
theorem tw_797 : Cond.methodLink "StageLines$Row" 25 yX5_clear ∈ lw_tbl := List.mem_of_getElem? (i := 797) rfl
set_option maxRecDepth 100000 in
theorem tw_798 : Cond.methodLink "StageLines$Row" 28 yX5_add ∈ lw_tbl := List.mem_of_getElem? (i := 798) rfl
set_option maxRecDepth 100000 in
theorem tw_799 : Cond.methodLink "StageLines$PartWork" 59 yX1_take ∈ lw_tbl := List.mem_of_getElem? (i := 799) rfl
set_option maxRecDepth 100000 in
theorem tw_800 : Cond.methodLink "StageLinesLaw" 89 yL_kept ∈ lw_tbl := List.mem_of_getElem? (i := 800) rfl
set_option maxRecDepth 100000 in
theorem tw_801 : Cond.static yL_kept ∈ lw_tbl := List.mem_of_getElem? (i := 801) rfl
set_option maxRecDepth 100000 in
theorem tw_802 : Cond.codeWith yL_kept method_10_code 4 (some .int) [(0, 9, 12, 34)] ∈ lw_tbl := List.mem_of_getElem? (i := 802) rfl
set_option maxRecDepth 100000 in
theorem tw_803 : Cond.methodLink "StageLinesLaw" 43 yX9_kept ∈ lw_tbl := List.mem_of_getElem? (i := 803) rfl
set_option maxRecDepth 100000 in
theorem tw_804 : Cond.instanceMethod yX9_kept ∈ lw_tbl := List.mem_of_getElem? (i := 804) rfl
set_option maxRecDepth 100000 in
theorem tw_805 : Cond.selects "StageLines" yX9_kept yX9_kept ∈ lw_tbl := List.mem_of_getElem? (i := 805) rfl
set_option maxRecDepth 100000 in
theorem tw_806 : Cond.code yX9_kept prog_1_method_11_code 2 (some .int) ∈ lw_tbl := List.mem_of_getElem? (i := 806) rfl
set_option maxRecDepth 100000 in
theorem tw_808 : Cond.classLink "StageLinesLaw" 47 "StageLinesModel" ∈ lw_tbl := List.mem_of_getElem? (i := 808) rfl
set_option maxRecDepth 100000 in
theorem tw_809 : Cond.instantiable "StageLinesModel" 43 ∈ lw_tbl := List.mem_of_getElem? (i := 809) rfl
set_option maxRecDepth 100000 in
theorem tw_810 : Cond.methodLink "StageLinesLaw" 49 yX10_init ∈ lw_tbl := List.mem_of_getElem? (i := 810) rfl
set_option maxRecDepth 100000 in
theorem tw_811 : Cond.instanceMethod yX10_init ∈ lw_tbl := List.mem_of_getElem? (i := 811) rfl
set_option maxRecDepth 100000 in
theorem tw_812 : Cond.code yX10_init prog_12_method_1_code 1 none ∈ lw_tbl := List.mem_of_getElem? (i := 812) rfl
set_option maxRecDepth 100000 in
theorem tw_813 : Cond.methodLink "StageLinesModel" 1 ⟨"java/lang/Object", "<init>", "()V"⟩ ∈ lw_tbl := List.mem_of_getElem? (i := 813) rfl
set_option maxRecDepth 100000 in
theorem tw_814 : Cond.fieldLink "StageLinesModel" 78 "StageLinesModel" "refusal" "I" ∈ lw_tbl := List.mem_of_getElem? (i := 814) rfl
set_option maxRecDepth 100000 in
theorem tw_815 : Cond.fieldLink "StageLinesModel" 7 "StageLinesModel" "basket" "[I" ∈ lw_tbl := List.mem_of_getElem? (i := 815) rfl
set_option maxRecDepth 100000 in
theorem tw_816 : Cond.fieldLink "StageLinesModel" 81 "StageLinesModel" "basketSize" "I" ∈ lw_tbl := List.mem_of_getElem? (i := 816) rfl
set_option maxRecDepth 100000 in
theorem tw_817 : Cond.fieldLink "StageLinesModel" 88 "StageLinesModel" "there" "Z" ∈ lw_tbl := List.mem_of_getElem? (i := 817) rfl
set_option maxRecDepth 100000 in
theorem tw_818 : Cond.fieldLink "StageLinesModel" 92 "StageLinesModel" "used" "Z" ∈ lw_tbl := List.mem_of_getElem? (i := 818) rfl
set_option maxRecDepth 100000 in
theorem tw_819 : Cond.fieldLink "StageLinesModel" 95 "StageLinesModel" "sourceKind" "I" ∈ lw_tbl := List.mem_of_getElem? (i := 819) rfl
set_option maxRecDepth 100000 in
theorem tw_820 : Cond.fieldLink "StageLinesModel" 98 "StageLinesModel" "sourceA" "I" ∈ lw_tbl := List.mem_of_getElem? (i := 820) rfl
set_option maxRecDepth 100000 in
theorem tw_821 : Cond.fieldLink "StageLinesModel" 101 "StageLinesModel" "sourceB" "I" ∈ lw_tbl := List.mem_of_getElem? (i := 821) rfl
set_option maxRecDepth 100000 in
theorem tw_822 : Cond.fieldLink "StageLinesModel" 104 "StageLinesModel" "sourceC" "I" ∈ lw_tbl := List.mem_of_getElem? (i := 822) rfl
set_option maxRecDepth 100000 in
theorem tw_823 : Cond.fieldLink "StageLinesModel" 107 "StageLinesModel" "stages" "I" ∈ lw_tbl := List.mem_of_getElem? (i := 823) rfl
set_option maxRecDepth 100000 in
theorem tw_824 : Cond.fieldLink "StageLinesModel" 13 "StageLinesModel" "op" "[I" ∈ lw_tbl := List.mem_of_getElem? (i := 824) rfl
set_option maxRecDepth 100000 in
theorem tw_825 : Cond.fieldLink "StageLinesModel" 16 "StageLinesModel" "how" "[I" ∈ lw_tbl := List.mem_of_getElem? (i := 825) rfl
set_option maxRecDepth 100000 in
theorem tw_826 : Cond.fieldLink "StageLinesModel" 19 "StageLinesModel" "number" "[I" ∈ lw_tbl := List.mem_of_getElem? (i := 826) rfl
set_option maxRecDepth 100000 in
theorem tw_827 : Cond.fieldLink "StageLinesModel" 22 "StageLinesModel" "seen" "[I" ∈ lw_tbl := List.mem_of_getElem? (i := 827) rfl
set_option maxRecDepth 100000 in
theorem tw_828 : Cond.fieldLink "StageLinesModel" 25 "StageLinesModel" "many" "[I" ∈ lw_tbl := List.mem_of_getElem? (i := 828) rfl
set_option maxRecDepth 100000 in
theorem tw_829 : Cond.fieldLink "StageLinesModel" 28 "StageLinesModel" "turned" "[Z" ∈ lw_tbl := List.mem_of_getElem? (i := 829) rfl
set_option maxRecDepth 100000 in
theorem tw_830 : Cond.fieldLink "StageLinesModel" 32 "StageLinesModel" "held" "[I" ∈ lw_tbl := List.mem_of_getElem? (i := 830) rfl
set_option maxRecDepth 100000 in
theorem tw_831 : Cond.fieldLink "StageLinesModel" 159 "StageLinesModel" "givers" "I" ∈ lw_tbl := List.mem_of_getElem? (i := 831) rfl
set_option maxRecDepth 100000 in
theorem tw_832 : Cond.fieldLink "StageLinesModel" 35 "StageLinesModel" "giver" "[I" ∈ lw_tbl := List.mem_of_getElem? (i := 832) rfl
set_option maxRecDepth 100000 in
theorem tw_833 : Cond.fieldLink "StageLinesModel" 38 "StageLinesModel" "coming" "[I" ∈ lw_tbl := List.mem_of_getElem? (i := 833) rfl
set_option maxRecDepth 100000 in
theorem tw_834 : Cond.fieldLink "StageLinesModel" 41 "StageLinesModel" "left" "[I" ∈ lw_tbl := List.mem_of_getElem? (i := 834) rfl
set_option maxRecDepth 100000 in
theorem tw_835 : Cond.fieldLink "StageLinesModel" 146 "StageLinesModel" "steps" "I" ∈ lw_tbl := List.mem_of_getElem? (i := 835) rfl
set_option maxRecDepth 100000 in
theorem tw_836 : Cond.fieldLink "StageLinesModel" 143 "StageLinesModel" "spent" "Z" ∈ lw_tbl := List.mem_of_getElem? (i := 836) rfl
set_option maxRecDepth 100000 in
theorem tw_837 : Cond.fieldLink "StageLinesModel" 125 "StageLinesModel" "end" "I" ∈ lw_tbl := List.mem_of_getElem? (i := 837) rfl
set_option maxRecDepth 100000 in
theorem tw_838 : Cond.fieldLink "StageLinesModel" 128 "StageLinesModel" "endHow" "I" ∈ lw_tbl := List.mem_of_getElem? (i := 838) rfl
set_option maxRecDepth 100000 in
theorem tw_839 : Cond.fieldLink "StageLinesModel" 131 "StageLinesModel" "endNumber" "I" ∈ lw_tbl := List.mem_of_getElem? (i := 839) rfl
set_option maxRecDepth 100000 in
theorem tw_840 : Cond.fieldLink "StageLinesModel" 134 "StageLinesModel" "endCount" "I" ∈ lw_tbl := List.mem_of_getElem? (i := 840) rfl
set_option maxRecDepth 100000 in
theorem tw_841 : Cond.fieldLink "StageLinesModel" 140 "StageLinesModel" "endValue" "I" ∈ lw_tbl := List.mem_of_getElem? (i := 841) rfl
set_option maxRecDepth 100000 in
theorem tw_842 : Cond.fieldLink "StageLinesModel" 137 "StageLinesModel" "endDone" "Z" ∈ lw_tbl := List.mem_of_getElem? (i := 842) rfl
set_option maxRecDepth 100000 in
theorem tw_843 : Cond.fieldLink "StageLinesModel" 44 "StageLinesModel" "collected" "[I" ∈ lw_tbl := List.mem_of_getElem? (i := 843) rfl
set_option maxRecDepth 100000 in
theorem tw_844 : Cond.fieldLink "StageLinesModel" 156 "StageLinesModel" "kept" "I" ∈ lw_tbl := List.mem_of_getElem? (i := 844) rfl
set_option maxRecDepth 100000 in
theorem tw_845 : Cond.fieldLink "StageLinesModel" 47 "StageLinesModel" "keptOnes" "[I" ∈ lw_tbl := List.mem_of_getElem? (i := 845) rfl
set_option maxRecDepth 100000 in
theorem tw_846 : Cond.fieldLink "StageLinesModel" 50 "StageLinesModel" "now" "[I" ∈ lw_tbl := List.mem_of_getElem? (i := 846) rfl
set_option maxRecDepth 100000 in
theorem tw_847 : Cond.fieldLink "StageLinesModel" 53 "StageLinesModel" "then" "[I" ∈ lw_tbl := List.mem_of_getElem? (i := 847) rfl
set_option maxRecDepth 100000 in
theorem tw_848 : Cond.fieldLink "StageLinesModel" 218 "StageLinesModel" "size" "I" ∈ lw_tbl := List.mem_of_getElem? (i := 848) rfl
set_option maxRecDepth 100000 in
theorem tw_849 : Cond.fieldLink "StageLinesModel" 215 "StageLinesModel" "thenSize" "I" ∈ lw_tbl := List.mem_of_getElem? (i := 849) rfl
set_option maxRecDepth 100000 in
theorem tw_850 : Cond.fieldLink "StageLinesModel" 56 "StageLinesModel" "grain" "I" ∈ lw_tbl := List.mem_of_getElem? (i := 850) rfl
set_option maxRecDepth 100000 in
theorem tw_851 : Cond.fieldLink "StageLinesModel" 60 "StageLinesModel" "workers" "I" ∈ lw_tbl := List.mem_of_getElem? (i := 851) rfl
set_option maxRecDepth 100000 in
theorem tw_852 : Cond.fieldLink "StageLinesModel" 63 "StageLinesModel" "seed" "I" ∈ lw_tbl := List.mem_of_getElem? (i := 852) rfl
set_option maxRecDepth 100000 in
theorem tw_853 : Cond.fieldLink "StageLinesModel" 66 "StageLinesModel" "begins" "[I" ∈ lw_tbl := List.mem_of_getElem? (i := 853) rfl
set_option maxRecDepth 100000 in
theorem tw_854 : Cond.fieldLink "StageLinesModel" 69 "StageLinesModel" "sizes" "[I" ∈ lw_tbl := List.mem_of_getElem? (i := 854) rfl
set_option maxRecDepth 100000 in
theorem tw_855 : Cond.fieldLink "StageLinesModel" 72 "StageLinesModel" "tasks" "[I" ∈ lw_tbl := List.mem_of_getElem? (i := 855) rfl
set_option maxRecDepth 100000 in
theorem tw_856 : Cond.fieldLink "StageLinesModel" 75 "StageLinesModel" "pool" "[I" ∈ lw_tbl := List.mem_of_getElem? (i := 856) rfl
set_option maxRecDepth 100000 in
theorem tw_944 : Cond.arrayClass .boolean ∈ lw_tbl := List.mem_of_getElem? (i := 944) rfl
set_option maxRecDepth 100000 in
theorem tw_945 : Cond.methodLink "StageLinesLaw" 56 yX10_thrown ∈ lw_tbl := List.mem_of_getElem? (i := 945) rfl
set_option maxRecDepth 100000 in
theorem tw_946 : Cond.instanceMethod yX10_thrown ∈ lw_tbl := List.mem_of_getElem? (i := 946) rfl
set_option maxRecDepth 100000 in
theorem tw_947 : Cond.selects "StageLinesModel" yX10_thrown yX10_thrown ∈ lw_tbl := List.mem_of_getElem? (i := 947) rfl
set_option maxRecDepth 100000 in
theorem tw_948 : Cond.code yX10_thrown prog_12_method_2_code 1 (some .int) ∈ lw_tbl := List.mem_of_getElem? (i := 948) rfl
set_option maxRecDepth 100000 in
theorem tw_949 : Cond.methodLink "StageLinesLaw" 55 yX10_put ∈ lw_tbl := List.mem_of_getElem? (i := 949) rfl
set_option maxRecDepth 100000 in
theorem tw_950 : Cond.instanceMethod yX10_put ∈ lw_tbl := List.mem_of_getElem? (i := 950) rfl
set_option maxRecDepth 100000 in
theorem tw_951 : Cond.selects "StageLinesModel" yX10_put yX10_put ∈ lw_tbl := List.mem_of_getElem? (i := 951) rfl
set_option maxRecDepth 100000 in
theorem tw_952 : Cond.code yX10_put prog_12_method_4_code 2 (some .int) ∈ lw_tbl := List.mem_of_getElem? (i := 952) rfl
set_option maxRecDepth 100000 in
theorem tw_953 : Cond.methodLink "StageLinesModel" 84 yX10_refuse ∈ lw_tbl := List.mem_of_getElem? (i := 953) rfl
set_option maxRecDepth 100000 in
theorem tw_955 : Cond.instanceMethod yX10_refuse ∈ lw_tbl := List.mem_of_getElem? (i := 955) rfl
set_option maxRecDepth 100000 in
theorem tw_956 : Cond.code yX10_refuse prog_12_method_3_code 2 (some .int) ∈ lw_tbl := List.mem_of_getElem? (i := 956) rfl
set_option maxRecDepth 100000 in
theorem tw_957 : Cond.methodLink "StageLinesLaw" 62 yX10_empty ∈ lw_tbl := List.mem_of_getElem? (i := 957) rfl
set_option maxRecDepth 100000 in
theorem tw_958 : Cond.instanceMethod yX10_empty ∈ lw_tbl := List.mem_of_getElem? (i := 958) rfl
set_option maxRecDepth 100000 in
theorem tw_959 : Cond.selects "StageLinesModel" yX10_empty yX10_empty ∈ lw_tbl := List.mem_of_getElem? (i := 959) rfl
set_option maxRecDepth 100000 in
theorem tw_960 : Cond.code yX10_empty prog_12_method_5_code 2 (some .int) ∈ lw_tbl := List.mem_of_getElem? (i := 960) rfl
set_option maxRecDepth 100000 in
theorem tw_961 : Cond.methodLink "StageLinesLaw" 66 yX10_source ∈ lw_tbl := List.mem_of_getElem? (i := 961) rfl
set_option maxRecDepth 100000 in
theorem tw_962 : Cond.instanceMethod yX10_source ∈ lw_tbl := List.mem_of_getElem? (i := 962) rfl
set_option maxRecDepth 100000 in
theorem tw_963 : Cond.selects "StageLinesModel" yX10_source yX10_source ∈ lw_tbl := List.mem_of_getElem? (i := 963) rfl
set_option maxRecDepth 100000 in
theorem tw_964 : Cond.code yX10_source prog_12_method_6_code 5 none ∈ lw_tbl := List.mem_of_getElem? (i := 964) rfl
set_option maxRecDepth 100000 in
theorem tw_965 : Cond.methodLink "StageLinesLaw" 70 yX10_stage ∈ lw_tbl := List.mem_of_getElem? (i := 965) rfl
set_option maxRecDepth 100000 in
theorem tw_966 : Cond.instanceMethod yX10_stage ∈ lw_tbl := List.mem_of_getElem? (i := 966) rfl
set_option maxRecDepth 100000 in
theorem tw_967 : Cond.selects "StageLinesModel" yX10_stage yX10_stage ∈ lw_tbl := List.mem_of_getElem? (i := 967) rfl
set_option maxRecDepth 100000 in
theorem tw_968 : Cond.code yX10_stage prog_12_method_8_code 4 (some .int) ∈ lw_tbl := List.mem_of_getElem? (i := 968) rfl
set_option maxRecDepth 100000 in
theorem tw_969 : Cond.methodLink "StageLinesModel" 110 yX10_isStage ∈ lw_tbl := List.mem_of_getElem? (i := 969) rfl
set_option maxRecDepth 100000 in
theorem tw_970 : Cond.static yX10_isStage ∈ lw_tbl := List.mem_of_getElem? (i := 970) rfl
set_option maxRecDepth 100000 in
theorem tw_971 : Cond.code yX10_isStage prog_12_method_7_code 3 (some .boolean) ∈ lw_tbl := List.mem_of_getElem? (i := 971) rfl
set_option maxRecDepth 100000 in
theorem tw_972 : Cond.methodLink "StageLinesLaw" 74 yX10_flags ∈ lw_tbl := List.mem_of_getElem? (i := 972) rfl
set_option maxRecDepth 100000 in
theorem tw_973 : Cond.instanceMethod yX10_flags ∈ lw_tbl := List.mem_of_getElem? (i := 973) rfl
set_option maxRecDepth 100000 in
theorem tw_974 : Cond.selects "StageLinesModel" yX10_flags yX10_flags ∈ lw_tbl := List.mem_of_getElem? (i := 974) rfl
set_option maxRecDepth 100000 in
theorem tw_975 : Cond.code yX10_flags prog_12_method_9_code 3 (some .int) ∈ lw_tbl := List.mem_of_getElem? (i := 975) rfl
set_option maxRecDepth 100000 in
theorem tw_976 : Cond.methodLink "StageLinesLaw" 77 yX10_run ∈ lw_tbl := List.mem_of_getElem? (i := 976) rfl
set_option maxRecDepth 100000 in
theorem tw_977 : Cond.instanceMethod yX10_run ∈ lw_tbl := List.mem_of_getElem? (i := 977) rfl
set_option maxRecDepth 100000 in
theorem tw_978 : Cond.selects "StageLinesModel" yX10_run yX10_run ∈ lw_tbl := List.mem_of_getElem? (i := 978) rfl
set_option maxRecDepth 100000 in
theorem tw_979 : Cond.code yX10_run prog_12_method_28_code 4 (some .int) ∈ lw_tbl := List.mem_of_getElem? (i := 979) rfl
set_option maxRecDepth 100000 in
theorem tw_980 : Cond.methodLink "StageLinesModel" 192 yX10_isEnd ∈ lw_tbl := List.mem_of_getElem? (i := 980) rfl
set_option maxRecDepth 100000 in
theorem tw_981 : Cond.static yX10_isEnd ∈ lw_tbl := List.mem_of_getElem? (i := 981) rfl
set_option maxRecDepth 100000 in
theorem tw_982 : Cond.code yX10_isEnd prog_12_method_16_code 3 (some .boolean) ∈ lw_tbl := List.mem_of_getElem? (i := 982) rfl
set_option maxRecDepth 100000 in
theorem tw_983 : Cond.methodLink "StageLinesModel" 195 yX10_beginEnd ∈ lw_tbl := List.mem_of_getElem? (i := 983) rfl
set_option maxRecDepth 100000 in
theorem tw_985 : Cond.instanceMethod yX10_beginEnd ∈ lw_tbl := List.mem_of_getElem? (i := 985) rfl
set_option maxRecDepth 100000 in
theorem tw_986 : Cond.code yX10_beginEnd prog_12_method_17_code 5 none ∈ lw_tbl := List.mem_of_getElem? (i := 986) rfl
set_option maxRecDepth 100000 in
theorem tw_987 : Cond.methodLink "StageLinesModel" 198 yX10_flow ∈ lw_tbl := List.mem_of_getElem? (i := 987) rfl
set_option maxRecDepth 100000 in
theorem tw_989 : Cond.instanceMethod yX10_flow ∈ lw_tbl := List.mem_of_getElem? (i := 989) rfl
set_option maxRecDepth 100000 in
theorem tw_990 : Cond.code yX10_flow prog_12_method_27_code 2 none ∈ lw_tbl := List.mem_of_getElem? (i := 990) rfl
set_option maxRecDepth 100000 in
theorem tw_991 : Cond.methodLink "StageLinesModel" 162 yX10_begin ∈ lw_tbl := List.mem_of_getElem? (i := 991) rfl
set_option maxRecDepth 100000 in
theorem tw_993 : Cond.instanceMethod yX10_begin ∈ lw_tbl := List.mem_of_getElem? (i := 993) rfl
set_option maxRecDepth 100000 in
theorem tw_994 : Cond.code yX10_begin prog_12_method_23_code 4 none ∈ lw_tbl := List.mem_of_getElem? (i := 994) rfl
set_option maxRecDepth 100000 in
theorem tw_995 : Cond.methodLink "StageLinesModel" 189 yX10_giveOne ∈ lw_tbl := List.mem_of_getElem? (i := 995) rfl
set_option maxRecDepth 100000 in
theorem tw_997 : Cond.instanceMethod yX10_giveOne ∈ lw_tbl := List.mem_of_getElem? (i := 997) rfl
set_option maxRecDepth 100000 in
theorem tw_998 : Cond.code yX10_giveOne prog_12_method_26_code 4 none ∈ lw_tbl := List.mem_of_getElem? (i := 998) rfl
set_option maxRecDepth 100000 in
theorem tw_999 : Cond.methodLink "StageLinesModel" 179 yX10_wants ∈ lw_tbl := List.mem_of_getElem? (i := 999) rfl
set_option maxRecDepth 100000 in
theorem tw_1001 : Cond.instanceMethod yX10_wants ∈ lw_tbl := List.mem_of_getElem? (i := 1001) rfl
set_option maxRecDepth 100000 in
theorem tw_1002 : Cond.code yX10_wants prog_12_method_22_code 3 (some .boolean) ∈ lw_tbl := List.mem_of_getElem? (i := 1002) rfl
set_option maxRecDepth 100000 in
theorem tw_1003 : Cond.methodLink "StageLinesModel" 183 yX10_gives ∈ lw_tbl := List.mem_of_getElem? (i := 1003) rfl
set_option maxRecDepth 100000 in
theorem tw_1005 : Cond.instanceMethod yX10_gives ∈ lw_tbl := List.mem_of_getElem? (i := 1005) rfl
set_option maxRecDepth 100000 in
theorem tw_1006 : Cond.code yX10_gives prog_12_method_25_code 5 (some .int) ∈ lw_tbl := List.mem_of_getElem? (i := 1006) rfl
set_option maxRecDepth 100000 in
theorem tw_1007 : Cond.methodLink "StageLinesModel" 186 yX10_goesOn ∈ lw_tbl := List.mem_of_getElem? (i := 1007) rfl
set_option maxRecDepth 100000 in
theorem tw_1009 : Cond.instanceMethod yX10_goesOn ∈ lw_tbl := List.mem_of_getElem? (i := 1009) rfl
set_option maxRecDepth 100000 in
theorem tw_1010 : Cond.code yX10_goesOn prog_12_method_24_code 5 none ∈ lw_tbl := List.mem_of_getElem? (i := 1010) rfl
set_option maxRecDepth 100000 in
theorem tw_1011 : Cond.methodLink "StageLinesModel" 166 yX10_sortIn ∈ lw_tbl := List.mem_of_getElem? (i := 1011) rfl
set_option maxRecDepth 100000 in
theorem tw_1013 : Cond.instanceMethod yX10_sortIn ∈ lw_tbl := List.mem_of_getElem? (i := 1013) rfl
set_option maxRecDepth 100000 in
theorem tw_1014 : Cond.code yX10_sortIn prog_12_method_14_code 4 none ∈ lw_tbl := List.mem_of_getElem? (i := 1014) rfl
set_option maxRecDepth 100000 in
theorem tw_1015 : Cond.methodLink "StageLinesModel" 169 yX10_lets ∈ lw_tbl := List.mem_of_getElem? (i := 1015) rfl
set_option maxRecDepth 100000 in
theorem tw_1017 : Cond.instanceMethod yX10_lets ∈ lw_tbl := List.mem_of_getElem? (i := 1017) rfl
set_option maxRecDepth 100000 in
theorem tw_1018 : Cond.code yX10_lets prog_12_method_15_code 4 (some .boolean) ∈ lw_tbl := List.mem_of_getElem? (i := 1018) rfl
set_option maxRecDepth 100000 in
theorem tw_1019 : Cond.methodLink "StageLinesModel" 114 yX10_passes ∈ lw_tbl := List.mem_of_getElem? (i := 1019) rfl
set_option maxRecDepth 100000 in
theorem tw_1020 : Cond.static yX10_passes ∈ lw_tbl := List.mem_of_getElem? (i := 1020) rfl
set_option maxRecDepth 100000 in
theorem tw_1021 : Cond.code yX10_passes prog_12_method_10_code 3 (some .boolean) ∈ lw_tbl := List.mem_of_getElem? (i := 1021) rfl
set_option maxRecDepth 100000 in
theorem tw_1022 : Cond.methodLink "StageLinesModel" 117 yX10_holds ∈ lw_tbl := List.mem_of_getElem? (i := 1022) rfl
set_option maxRecDepth 100000 in
theorem tw_1024 : Cond.instanceMethod yX10_holds ∈ lw_tbl := List.mem_of_getElem? (i := 1024) rfl
set_option maxRecDepth 100000 in
theorem tw_1025 : Cond.code yX10_holds prog_12_method_12_code 5 (some .boolean) ∈ lw_tbl := List.mem_of_getElem? (i := 1025) rfl
set_option maxRecDepth 100000 in
theorem tw_1026 : Cond.methodLink "StageLinesModel" 121 yX10_hold ∈ lw_tbl := List.mem_of_getElem? (i := 1026) rfl
set_option maxRecDepth 100000 in
theorem tw_1028 : Cond.instanceMethod yX10_hold ∈ lw_tbl := List.mem_of_getElem? (i := 1028) rfl
set_option maxRecDepth 100000 in
theorem tw_1029 : Cond.code yX10_hold prog_12_method_13_code 3 none ∈ lw_tbl := List.mem_of_getElem? (i := 1029) rfl
set_option maxRecDepth 100000 in
theorem tw_1030 : Cond.methodLink "StageLinesModel" 172 yX10_mapped ∈ lw_tbl := List.mem_of_getElem? (i := 1030) rfl
set_option maxRecDepth 100000 in
theorem tw_1031 : Cond.static yX10_mapped ∈ lw_tbl := List.mem_of_getElem? (i := 1031) rfl
set_option maxRecDepth 100000 in
theorem tw_1032 : Cond.code yX10_mapped prog_12_method_11_code 3 (some .int) ∈ lw_tbl := List.mem_of_getElem? (i := 1032) rfl
set_option maxRecDepth 100000 in
theorem tw_1033 : Cond.methodLink "StageLinesModel" 176 yX10_reaches ∈ lw_tbl := List.mem_of_getElem? (i := 1033) rfl
set_option maxRecDepth 100000 in
theorem tw_1035 : Cond.instanceMethod yX10_reaches ∈ lw_tbl := List.mem_of_getElem? (i := 1035) rfl
set_option maxRecDepth 100000 in
theorem tw_1036 : Cond.code yX10_reaches prog_12_method_20_code 3 none ∈ lw_tbl := List.mem_of_getElem? (i := 1036) rfl
set_option maxRecDepth 100000 in
theorem tw_1037 : Cond.methodLink "StageLinesModel" 149 yX10_tally ∈ lw_tbl := List.mem_of_getElem? (i := 1037) rfl
set_option maxRecDepth 100000 in
theorem tw_1039 : Cond.instanceMethod yX10_tally ∈ lw_tbl := List.mem_of_getElem? (i := 1039) rfl
set_option maxRecDepth 100000 in
theorem tw_1040 : Cond.code yX10_tally prog_12_method_19_code 3 none ∈ lw_tbl := List.mem_of_getElem? (i := 1040) rfl
set_option maxRecDepth 100000 in
theorem tw_1041 : Cond.methodLink "StageLinesModel" 153 yX10_asks ∈ lw_tbl := List.mem_of_getElem? (i := 1041) rfl
set_option maxRecDepth 100000 in
theorem tw_1043 : Cond.instanceMethod yX10_asks ∈ lw_tbl := List.mem_of_getElem? (i := 1043) rfl
set_option maxRecDepth 100000 in
theorem tw_1044 : Cond.code yX10_asks prog_12_method_18_code 3 none ∈ lw_tbl := List.mem_of_getElem? (i := 1044) rfl
set_option maxRecDepth 100000 in
theorem tw_1045 : Cond.methodLink "StageLinesModel" 201 yX10_answer ∈ lw_tbl := List.mem_of_getElem? (i := 1045) rfl
set_option maxRecDepth 100000 in
theorem tw_1047 : Cond.instanceMethod yX10_answer ∈ lw_tbl := List.mem_of_getElem? (i := 1047) rfl
set_option maxRecDepth 100000 in
theorem tw_1048 : Cond.code yX10_answer prog_12_method_21_code 2 (some .int) ∈ lw_tbl := List.mem_of_getElem? (i := 1048) rfl
set_option maxRecDepth 100000 in
theorem tw_1049 : Cond.methodLink "StageLinesLaw" 81 yX10_pool ∈ lw_tbl := List.mem_of_getElem? (i := 1049) rfl
set_option maxRecDepth 100000 in
theorem tw_1050 : Cond.instanceMethod yX10_pool ∈ lw_tbl := List.mem_of_getElem? (i := 1050) rfl
set_option maxRecDepth 100000 in
theorem tw_1051 : Cond.selects "StageLinesModel" yX10_pool yX10_pool ∈ lw_tbl := List.mem_of_getElem? (i := 1051) rfl
set_option maxRecDepth 100000 in
theorem tw_1052 : Cond.code yX10_pool prog_12_method_29_code 4 none ∈ lw_tbl := List.mem_of_getElem? (i := 1052) rfl
set_option maxRecDepth 100000 in
theorem tw_1053 : Cond.methodLink "StageLinesLaw" 84 yX10_parts ∈ lw_tbl := List.mem_of_getElem? (i := 1053) rfl
set_option maxRecDepth 100000 in
theorem tw_1054 : Cond.instanceMethod yX10_parts ∈ lw_tbl := List.mem_of_getElem? (i := 1054) rfl
set_option maxRecDepth 100000 in
theorem tw_1055 : Cond.selects "StageLinesModel" yX10_parts yX10_parts ∈ lw_tbl := List.mem_of_getElem? (i := 1055) rfl
set_option maxRecDepth 100000 in
theorem tw_1056 : Cond.code yX10_parts prog_12_method_37_code 5 (some .int) ∈ lw_tbl := List.mem_of_getElem? (i := 1056) rfl
set_option maxRecDepth 100000 in
theorem tw_1057 : Cond.methodLink "StageLinesModel" 227 yX10_workThrough ∈ lw_tbl := List.mem_of_getElem? (i := 1057) rfl
set_option maxRecDepth 100000 in
theorem tw_1059 : Cond.instanceMethod yX10_workThrough ∈ lw_tbl := List.mem_of_getElem? (i := 1059) rfl
set_option maxRecDepth 100000 in
theorem tw_1060 : Cond.code yX10_workThrough prog_12_method_33_code 3 none ∈ lw_tbl := List.mem_of_getElem? (i := 1060) rfl
set_option maxRecDepth 100000 in
theorem tw_1061 : Cond.methodLink "StageLinesModel" 208 yX10_addTask ∈ lw_tbl := List.mem_of_getElem? (i := 1061) rfl
set_option maxRecDepth 100000 in
theorem tw_1063 : Cond.instanceMethod yX10_addTask ∈ lw_tbl := List.mem_of_getElem? (i := 1063) rfl
set_option maxRecDepth 100000 in
theorem tw_1064 : Cond.code yX10_addTask prog_12_method_30_code 5 none ∈ lw_tbl := List.mem_of_getElem? (i := 1064) rfl
set_option maxRecDepth 100000 in
theorem tw_1065 : Cond.constant "StageLinesModel" 211 (1103515245 : Int32) ∈ lw_tbl := List.mem_of_getElem? (i := 1065) rfl
set_option maxRecDepth 100000 in
theorem tw_1066 : Cond.methodLink "StageLinesModel" 212 yX10_turn ∈ lw_tbl := List.mem_of_getElem? (i := 1066) rfl
set_option maxRecDepth 100000 in
theorem tw_1068 : Cond.instanceMethod yX10_turn ∈ lw_tbl := List.mem_of_getElem? (i := 1068) rfl
set_option maxRecDepth 100000 in
theorem tw_1069 : Cond.code yX10_turn prog_12_method_32_code 7 none ∈ lw_tbl := List.mem_of_getElem? (i := 1069) rfl
set_option maxRecDepth 100000 in
theorem tw_1070 : Cond.methodLink "StageLinesModel" 205 yX10_victim ∈ lw_tbl := List.mem_of_getElem? (i := 1070) rfl
set_option maxRecDepth 100000 in
theorem tw_1072 : Cond.instanceMethod yX10_victim ∈ lw_tbl := List.mem_of_getElem? (i := 1072) rfl
set_option maxRecDepth 100000 in
theorem tw_1073 : Cond.code yX10_victim prog_12_method_31_code 3 (some .int) ∈ lw_tbl := List.mem_of_getElem? (i := 1073) rfl
set_option maxRecDepth 100000 in
theorem tw_1074 : Cond.methodLink "StageLinesModel" 230 yX10_stageInParts ∈ lw_tbl := List.mem_of_getElem? (i := 1074) rfl
set_option maxRecDepth 100000 in
theorem tw_1076 : Cond.instanceMethod yX10_stageInParts ∈ lw_tbl := List.mem_of_getElem? (i := 1076) rfl
set_option maxRecDepth 100000 in
theorem tw_1077 : Cond.code yX10_stageInParts prog_12_method_35_code 4 none ∈ lw_tbl := List.mem_of_getElem? (i := 1077) rfl
set_option maxRecDepth 100000 in
theorem tw_1078 : Cond.methodLink "StageLinesModel" 221 yX10_out ∈ lw_tbl := List.mem_of_getElem? (i := 1078) rfl
set_option maxRecDepth 100000 in
theorem tw_1080 : Cond.instanceMethod yX10_out ∈ lw_tbl := List.mem_of_getElem? (i := 1080) rfl
set_option maxRecDepth 100000 in
theorem tw_1081 : Cond.code yX10_out prog_12_method_34_code 2 none ∈ lw_tbl := List.mem_of_getElem? (i := 1081) rfl
set_option maxRecDepth 100000 in
theorem tw_1082 : Cond.methodLink "StageLinesModel" 224 yX10_flatInParts ∈ lw_tbl := List.mem_of_getElem? (i := 1082) rfl
set_option maxRecDepth 100000 in
theorem tw_1084 : Cond.instanceMethod yX10_flatInParts ∈ lw_tbl := List.mem_of_getElem? (i := 1084) rfl
set_option maxRecDepth 100000 in
theorem tw_1085 : Cond.code yX10_flatInParts prog_12_method_36_code 4 none ∈ lw_tbl := List.mem_of_getElem? (i := 1085) rfl
set_option maxRecDepth 100000 in
theorem tw_1086 : Cond.methodLink "StageLinesLaw" 88 yX10_seen ∈ lw_tbl := List.mem_of_getElem? (i := 1086) rfl
set_option maxRecDepth 100000 in
theorem tw_1087 : Cond.instanceMethod yX10_seen ∈ lw_tbl := List.mem_of_getElem? (i := 1087) rfl
set_option maxRecDepth 100000 in
theorem tw_1088 : Cond.selects "StageLinesModel" yX10_seen yX10_seen ∈ lw_tbl := List.mem_of_getElem? (i := 1088) rfl
set_option maxRecDepth 100000 in
theorem tw_1089 : Cond.code yX10_seen prog_12_method_38_code 2 (some .int) ∈ lw_tbl := List.mem_of_getElem? (i := 1089) rfl
set_option maxRecDepth 100000 in
theorem tw_1090 : Cond.methodLink "StageLinesLaw" 91 yX10_kept ∈ lw_tbl := List.mem_of_getElem? (i := 1090) rfl
set_option maxRecDepth 100000 in
theorem tw_1091 : Cond.instanceMethod yX10_kept ∈ lw_tbl := List.mem_of_getElem? (i := 1091) rfl
set_option maxRecDepth 100000 in
theorem tw_1092 : Cond.selects "StageLinesModel" yX10_kept yX10_kept ∈ lw_tbl := List.mem_of_getElem? (i := 1092) rfl
set_option maxRecDepth 100000 in
theorem tw_1093 : Cond.code yX10_kept prog_12_method_39_code 2 (some .int) ∈ lw_tbl := List.mem_of_getElem? (i := 1093) rfl
set_option maxRecDepth 100000 in
theorem tw_1094 : Cond.methodLink "StageLinesLaw" 95 yX10_pooled ∈ lw_tbl := List.mem_of_getElem? (i := 1094) rfl
set_option maxRecDepth 100000 in
theorem tw_1095 : Cond.instanceMethod yX10_pooled ∈ lw_tbl := List.mem_of_getElem? (i := 1095) rfl
set_option maxRecDepth 100000 in
theorem tw_1096 : Cond.selects "StageLinesModel" yX10_pooled yX10_pooled ∈ lw_tbl := List.mem_of_getElem? (i := 1096) rfl
set_option maxRecDepth 100000 in
theorem tw_1097 : Cond.code yX10_pooled prog_12_method_40_code 2 (some .int) ∈ lw_tbl := List.mem_of_getElem? (i := 1097) rfl
set_option maxRecDepth 100000 in
theorem tw_1098 : Cond.arrayClass .long ∈ lw_tbl := List.mem_of_getElem? (i := 1098) rfl
