theorem m_0 : Cond.selects "AttackBench" y_AB_changed y_AB_changed ∈ allw := List.mem_filter.mpr ⟨List.mem_of_getElem? (i := 0) (by decide +kernel), by decide +kernel⟩
theorem m_1 : Cond.selects "AttackBench$Senses" y_Senses_fillTargets y_Senses_fillTargets ∈ allw := List.mem_filter.mpr ⟨List.mem_of_getElem? (i := 1) (by decide +kernel), by decide +kernel⟩
theorem m_2 : Cond.selects "AttackBench$Senses" y_Senses_ownMarks y_Senses_ownMarks ∈ allw := List.mem_filter.mpr ⟨List.mem_of_getElem? (i := 2) (by decide +kernel), by decide +kernel⟩
theorem m_3 : Cond.selects "AttackBench$Senses" y_Senses_hitBy y_Senses_hitBy ∈ allw := List.mem_filter.mpr ⟨List.mem_of_getElem? (i := 3) (by decide +kernel), by decide +kernel⟩
theorem m_4 : Cond.selects "AttackBench$Senses" y_Senses_rangeOf y_Senses_rangeOf ∈ allw := List.mem_filter.mpr ⟨List.mem_of_getElem? (i := 4) (by decide +kernel), by decide +kernel⟩
theorem m_5 : Cond.selects "AttackBench$Senses" y_Senses_markPreferred y_Senses_markPreferred ∈ allw := List.mem_filter.mpr ⟨List.mem_of_getElem? (i := 5) (by decide +kernel), by decide +kernel⟩
theorem m_6 : Cond.selects "AttackBench$Senses" y_Senses_hasMark y_Senses_hasMark ∈ allw := List.mem_filter.mpr ⟨List.mem_of_getElem? (i := 6) (by decide +kernel), by decide +kernel⟩
theorem m_7 : Cond.selects "AttackBench$Senses" y_Senses_isNewTop y_Senses_isNewTop ∈ allw := List.mem_filter.mpr ⟨List.mem_of_getElem? (i := 7) (by decide +kernel), by decide +kernel⟩
theorem m_8 : Cond.selects "AttackBench$Senses" y_Senses_mark y_Senses_mark ∈ allw := List.mem_filter.mpr ⟨List.mem_of_getElem? (i := 8) (by decide +kernel), by decide +kernel⟩
theorem m_9 : Cond.selects "AttackBench$Senses" y_Senses_markRanges y_Senses_markRanges ∈ allw := List.mem_filter.mpr ⟨List.mem_of_getElem? (i := 9) (by decide +kernel), by decide +kernel⟩
theorem m_10 : Cond.selects "AttackBench$Senses" y_Senses_markStage y_Senses_markStage ∈ allw := List.mem_filter.mpr ⟨List.mem_of_getElem? (i := 10) (by decide +kernel), by decide +kernel⟩
theorem m_11 : Cond.selects "AttackBench$Grounds" y_Grounds_noteRound y_Grounds_noteRound ∈ allw := List.mem_filter.mpr ⟨List.mem_of_getElem? (i := 11) (by decide +kernel), by decide +kernel⟩
theorem m_12 : Cond.selects "AttackBench$Rings" y_Rings_fillReach y_Rings_fillReach ∈ allw := List.mem_filter.mpr ⟨List.mem_of_getElem? (i := 12) (by decide +kernel), by decide +kernel⟩
theorem m_13 : Cond.selects "AttackBench$Rings" y_Rings_firstReady y_Rings_firstReady ∈ allw := List.mem_filter.mpr ⟨List.mem_of_getElem? (i := 13) (by decide +kernel), by decide +kernel⟩
theorem m_14 : Cond.selects "AttackBench$Rings" y_Rings_around y_Rings_around ∈ allw := List.mem_filter.mpr ⟨List.mem_of_getElem? (i := 14) (by decide +kernel), by decide +kernel⟩
theorem m_15 : Cond.selects "AttackBench$Rings" y_Rings_comesTo y_Rings_comesTo ∈ allw := List.mem_filter.mpr ⟨List.mem_of_getElem? (i := 15) (by decide +kernel), by decide +kernel⟩
theorem m_16 : Cond.selects "AttackBench$Rings" y_Rings_number y_Rings_number ∈ allw := List.mem_filter.mpr ⟨List.mem_of_getElem? (i := 16) (by decide +kernel), by decide +kernel⟩
theorem m_18 : Cond.selects "AttackBench$Talk" y_Talk_defend y_Talk_defend ∈ allw := List.mem_filter.mpr ⟨List.mem_of_getElem? (i := 18) (by decide +kernel), by decide +kernel⟩
theorem m_19 : Cond.selects "AttackBench$Talk" y_Talk_say y_Talk_say ∈ allw := List.mem_filter.mpr ⟨List.mem_of_getElem? (i := 19) (by decide +kernel), by decide +kernel⟩
theorem m_20 : Cond.selects "AttackBenchModel" y_Mo_comes y_Mo_comes ∈ allw := List.mem_filter.mpr ⟨List.mem_of_getElem? (i := 20) (by decide +kernel), by decide +kernel⟩
theorem m_21 : Cond.selects "AttackBenchModel" y_Mo_changes y_Mo_changes ∈ allw := List.mem_filter.mpr ⟨List.mem_of_getElem? (i := 21) (by decide +kernel), by decide +kernel⟩
theorem m_22 : Cond.selects "AttackBenchModel" y_Mo_isArgument y_Mo_isArgument ∈ allw := List.mem_filter.mpr ⟨List.mem_of_getElem? (i := 22) (by decide +kernel), by decide +kernel⟩
theorem m_23 : Cond.selects "AttackBenchModel" y_Mo_sets y_Mo_sets ∈ allw := List.mem_filter.mpr ⟨List.mem_of_getElem? (i := 23) (by decide +kernel), by decide +kernel⟩
theorem m_24 : Cond.selects "AttackBenchModel" y_Mo_reckon y_Mo_reckon ∈ allw := List.mem_filter.mpr ⟨List.mem_of_getElem? (i := 24) (by decide +kernel), by decide +kernel⟩
theorem m_25 : Cond.selects "AttackBenchModel" y_Mo_defended y_Mo_defended ∈ allw := List.mem_filter.mpr ⟨List.mem_of_getElem? (i := 25) (by decide +kernel), by decide +kernel⟩
theorem m_26 : Cond.selects "AttackBenchModel" y_Mo_isFreeSet y_Mo_isFreeSet ∈ allw := List.mem_filter.mpr ⟨List.mem_of_getElem? (i := 26) (by decide +kernel), by decide +kernel⟩
theorem m_27 : Cond.selects "AttackBenchModel" y_Mo_adds y_Mo_adds ∈ allw := List.mem_filter.mpr ⟨List.mem_of_getElem? (i := 27) (by decide +kernel), by decide +kernel⟩
theorem m_28 : Cond.selects "AttackBenchModel" y_Mo_looksAbove y_Mo_looksAbove ∈ allw := List.mem_filter.mpr ⟨List.mem_of_getElem? (i := 28) (by decide +kernel), by decide +kernel⟩
theorem m_29 : Cond.selects "AttackBenchModel" y_Mo_goesRound y_Mo_goesRound ∈ allw := List.mem_filter.mpr ⟨List.mem_of_getElem? (i := 29) (by decide +kernel), by decide +kernel⟩
theorem m_30 : Cond.selects "AttackBenchModel" y_Mo_isSet y_Mo_isSet ∈ allw := List.mem_filter.mpr ⟨List.mem_of_getElem? (i := 30) (by decide +kernel), by decide +kernel⟩
theorem m_31 : Cond.selects "AttackBenchModel" y_Mo_isOf y_Mo_isOf ∈ allw := List.mem_filter.mpr ⟨List.mem_of_getElem? (i := 31) (by decide +kernel), by decide +kernel⟩
theorem m_32 : Cond.selects "AttackBenchModel" y_Mo_puts y_Mo_puts ∈ allw := List.mem_filter.mpr ⟨List.mem_of_getElem? (i := 32) (by decide +kernel), by decide +kernel⟩
theorem m_33 : Cond.selects "AttackBenchModel" y_Mo_against y_Mo_against ∈ allw := List.mem_filter.mpr ⟨List.mem_of_getElem? (i := 33) (by decide +kernel), by decide +kernel⟩
theorem m_34 : Cond.selects "AttackBenchModel" y_Mo_numbers y_Mo_numbers ∈ allw := List.mem_filter.mpr ⟨List.mem_of_getElem? (i := 34) (by decide +kernel), by decide +kernel⟩
theorem m_35 : Cond.selects "AttackBenchModel" y_Mo_from y_Mo_from ∈ allw := List.mem_filter.mpr ⟨List.mem_of_getElem? (i := 35) (by decide +kernel), by decide +kernel⟩
theorem m_36 : Cond.selects "AttackBenchModel" y_Mo_both y_Mo_both ∈ allw := List.mem_filter.mpr ⟨List.mem_of_getElem? (i := 36) (by decide +kernel), by decide +kernel⟩
theorem m_37 : Cond.initialized "AttackBenchLaw" ∈ allw := List.mem_filter.mpr ⟨List.mem_of_getElem? (i := 37) (by decide +kernel), by decide +kernel⟩
theorem m_38 : Cond.initialized "AttackBench" ∈ allw := List.mem_filter.mpr ⟨List.mem_of_getElem? (i := 38) (by decide +kernel), by decide +kernel⟩
theorem m_39 : Cond.initialized "AttackBench$Web" ∈ allw := List.mem_filter.mpr ⟨List.mem_of_getElem? (i := 39) (by decide +kernel), by decide +kernel⟩
theorem m_40 : Cond.initialized "AttackBench$Senses" ∈ allw := List.mem_filter.mpr ⟨List.mem_of_getElem? (i := 40) (by decide +kernel), by decide +kernel⟩
theorem m_41 : Cond.initialized "AttackBench$Listing" ∈ allw := List.mem_filter.mpr ⟨List.mem_of_getElem? (i := 41) (by decide +kernel), by decide +kernel⟩
theorem m_42 : Cond.initialized "AttackBench$Grounds" ∈ allw := List.mem_filter.mpr ⟨List.mem_of_getElem? (i := 42) (by decide +kernel), by decide +kernel⟩
theorem m_43 : Cond.initialized "AttackBench$Talk" ∈ allw := List.mem_filter.mpr ⟨List.mem_of_getElem? (i := 43) (by decide +kernel), by decide +kernel⟩
theorem m_44 : Cond.initialized "AttackBench$Rings" ∈ allw := List.mem_filter.mpr ⟨List.mem_of_getElem? (i := 44) (by decide +kernel), by decide +kernel⟩
theorem m_45 : Cond.initialized "AttackBenchModel" ∈ allw := List.mem_filter.mpr ⟨List.mem_of_getElem? (i := 45) (by decide +kernel), by decide +kernel⟩
theorem m_49 : Cond.initialized "java/lang/IllegalArgumentException" ∈ allw := List.mem_filter.mpr ⟨List.mem_of_getElem? (i := 49) (by decide +kernel), by decide +kernel⟩
theorem m_50 : Cond.initialized "java/lang/IllegalStateException" ∈ allw := List.mem_filter.mpr ⟨List.mem_of_getElem? (i := 50) (by decide +kernel), by decide +kernel⟩
theorem m_51 : Cond.classLink "AttackBenchLaw" 8 "AttackBench" ∈ allw := List.mem_filter.mpr ⟨List.mem_of_getElem? (i := 51) (by decide +kernel), by decide +kernel⟩
theorem m_52 : Cond.instantiable "AttackBench" 6 ∈ allw := List.mem_filter.mpr ⟨List.mem_of_getElem? (i := 52) (by decide +kernel), by decide +kernel⟩
theorem m_53 : Cond.methodLink "AttackBenchLaw" 35 y_AB_init ∈ allw := List.mem_filter.mpr ⟨List.mem_of_getElem? (i := 53) (by decide +kernel), by decide +kernel⟩
theorem m_54 : Cond.instanceMethod y_AB_init ∈ allw := List.mem_filter.mpr ⟨List.mem_of_getElem? (i := 54) (by decide +kernel), by decide +kernel⟩
theorem m_55 : Cond.code y_AB_init k_AB_init 1 none ∈ allw := List.mem_filter.mpr ⟨List.mem_of_getElem? (i := 55) (by decide +kernel), by decide +kernel⟩
theorem m_56 : Cond.methodLink "AttackBench" 3 objectInit ∈ allw := List.mem_filter.mpr ⟨List.mem_of_getElem? (i := 56) (by decide +kernel), by decide +kernel⟩
theorem m_57 : Cond.instanceMethod objectInit ∈ allw := List.mem_filter.mpr ⟨List.mem_of_getElem? (i := 57) (by decide +kernel), by decide +kernel⟩
theorem m_58 : Cond.code objectInit ⟨#[0xb1]⟩ 1 none ∈ allw := List.mem_filter.mpr ⟨List.mem_of_getElem? (i := 58) (by decide +kernel), by decide +kernel⟩
theorem m_59 : Cond.classLink "AttackBench" 9 "AttackBench$Web" ∈ allw := List.mem_filter.mpr ⟨List.mem_of_getElem? (i := 59) (by decide +kernel), by decide +kernel⟩
theorem m_60 : Cond.instantiable "AttackBench$Web" 3 ∈ allw := List.mem_filter.mpr ⟨List.mem_of_getElem? (i := 60) (by decide +kernel), by decide +kernel⟩
theorem m_61 : Cond.methodLink "AttackBench" 11 y_Web_init ∈ allw := List.mem_filter.mpr ⟨List.mem_of_getElem? (i := 61) (by decide +kernel), by decide +kernel⟩
theorem m_62 : Cond.instanceMethod y_Web_init ∈ allw := List.mem_filter.mpr ⟨List.mem_of_getElem? (i := 62) (by decide +kernel), by decide +kernel⟩
theorem m_63 : Cond.code y_Web_init k_Web_init 1 none ∈ allw := List.mem_filter.mpr ⟨List.mem_of_getElem? (i := 63) (by decide +kernel), by decide +kernel⟩
theorem m_64 : Cond.methodLink "AttackBench$Web" 3 objectInit ∈ allw := List.mem_filter.mpr ⟨List.mem_of_getElem? (i := 64) (by decide +kernel), by decide +kernel⟩
theorem m_65 : Cond.fieldLink "AttackBench$Web" 9 "AttackBench$Web" "targets" "[I" ∈ allw := List.mem_filter.mpr ⟨List.mem_of_getElem? (i := 65) (by decide +kernel), by decide +kernel⟩
theorem m_66 : Cond.fieldLink "AttackBench$Web" 15 "AttackBench$Web" "attackers" "[I" ∈ allw := List.mem_filter.mpr ⟨List.mem_of_getElem? (i := 66) (by decide +kernel), by decide +kernel⟩
theorem m_67 : Cond.fieldLink "AttackBench$Web" 18 "AttackBench$Web" "size" "I" ∈ allw := List.mem_filter.mpr ⟨List.mem_of_getElem? (i := 67) (by decide +kernel), by decide +kernel⟩
theorem m_75 : Cond.arrayClass .int ∈ allw := List.mem_filter.mpr ⟨List.mem_of_getElem? (i := 75) (by decide +kernel), by decide +kernel⟩
theorem m_76 : Cond.classLink "AttackBench" 16 "AttackBench$Senses" ∈ allw := List.mem_filter.mpr ⟨List.mem_of_getElem? (i := 76) (by decide +kernel), by decide +kernel⟩
theorem m_77 : Cond.instantiable "AttackBench$Senses" 6 ∈ allw := List.mem_filter.mpr ⟨List.mem_of_getElem? (i := 77) (by decide +kernel), by decide +kernel⟩
theorem m_78 : Cond.methodLink "AttackBench" 18 y_Senses_init ∈ allw := List.mem_filter.mpr ⟨List.mem_of_getElem? (i := 78) (by decide +kernel), by decide +kernel⟩
theorem m_79 : Cond.instanceMethod y_Senses_init ∈ allw := List.mem_filter.mpr ⟨List.mem_of_getElem? (i := 79) (by decide +kernel), by decide +kernel⟩
theorem m_80 : Cond.code y_Senses_init k_Senses_init 1 none ∈ allw := List.mem_filter.mpr ⟨List.mem_of_getElem? (i := 80) (by decide +kernel), by decide +kernel⟩
theorem m_81 : Cond.methodLink "AttackBench$Senses" 3 objectInit ∈ allw := List.mem_filter.mpr ⟨List.mem_of_getElem? (i := 81) (by decide +kernel), by decide +kernel⟩
theorem m_82 : Cond.fieldLink "AttackBench$Senses" 9 "AttackBench$Senses" "targets" "[I" ∈ allw := List.mem_filter.mpr ⟨List.mem_of_getElem? (i := 82) (by decide +kernel), by decide +kernel⟩
theorem m_83 : Cond.fieldLink "AttackBench$Senses" 15 "AttackBench$Senses" "marks" "[I" ∈ allw := List.mem_filter.mpr ⟨List.mem_of_getElem? (i := 83) (by decide +kernel), by decide +kernel⟩
theorem m_84 : Cond.fieldLink "AttackBench$Senses" 18 "AttackBench$Senses" "tops" "[I" ∈ allw := List.mem_filter.mpr ⟨List.mem_of_getElem? (i := 84) (by decide +kernel), by decide +kernel⟩
theorem m_85 : Cond.fieldLink "AttackBench$Senses" 21 "AttackBench$Senses" "topCount" "I" ∈ allw := List.mem_filter.mpr ⟨List.mem_of_getElem? (i := 85) (by decide +kernel), by decide +kernel⟩
theorem m_86 : Cond.fieldLink "AttackBench$Senses" 25 "AttackBench$Senses" "everything" "I" ∈ allw := List.mem_filter.mpr ⟨List.mem_of_getElem? (i := 86) (by decide +kernel), by decide +kernel⟩
theorem m_87 : Cond.fieldLink "AttackBench$Senses" 28 "AttackBench$Senses" "known" "Z" ∈ allw := List.mem_filter.mpr ⟨List.mem_of_getElem? (i := 87) (by decide +kernel), by decide +kernel⟩
theorem m_101 : Cond.classLink "AttackBench" 23 "AttackBench$Listing" ∈ allw := List.mem_filter.mpr ⟨List.mem_of_getElem? (i := 101) (by decide +kernel), by decide +kernel⟩
theorem m_102 : Cond.instantiable "AttackBench$Listing" 4 ∈ allw := List.mem_filter.mpr ⟨List.mem_of_getElem? (i := 102) (by decide +kernel), by decide +kernel⟩
theorem m_103 : Cond.methodLink "AttackBench" 25 y_Listing_init ∈ allw := List.mem_filter.mpr ⟨List.mem_of_getElem? (i := 103) (by decide +kernel), by decide +kernel⟩
theorem m_104 : Cond.instanceMethod y_Listing_init ∈ allw := List.mem_filter.mpr ⟨List.mem_of_getElem? (i := 104) (by decide +kernel), by decide +kernel⟩
theorem m_105 : Cond.code y_Listing_init k_Listing_init 1 none ∈ allw := List.mem_filter.mpr ⟨List.mem_of_getElem? (i := 105) (by decide +kernel), by decide +kernel⟩
theorem m_106 : Cond.methodLink "AttackBench$Listing" 3 objectInit ∈ allw := List.mem_filter.mpr ⟨List.mem_of_getElem? (i := 106) (by decide +kernel), by decide +kernel⟩
theorem m_107 : Cond.fieldLink "AttackBench$Listing" 9 "AttackBench$Listing" "open" "Z" ∈ allw := List.mem_filter.mpr ⟨List.mem_of_getElem? (i := 107) (by decide +kernel), by decide +kernel⟩
theorem m_108 : Cond.fieldLink "AttackBench$Listing" 15 "AttackBench$Listing" "kind" "I" ∈ allw := List.mem_filter.mpr ⟨List.mem_of_getElem? (i := 108) (by decide +kernel), by decide +kernel⟩
theorem m_109 : Cond.fieldLink "AttackBench$Listing" 19 "AttackBench$Listing" "place" "I" ∈ allw := List.mem_filter.mpr ⟨List.mem_of_getElem? (i := 109) (by decide +kernel), by decide +kernel⟩
theorem m_110 : Cond.fieldLink "AttackBench$Listing" 22 "AttackBench$Listing" "told" "I" ∈ allw := List.mem_filter.mpr ⟨List.mem_of_getElem? (i := 110) (by decide +kernel), by decide +kernel⟩
theorem m_120 : Cond.classLink "AttackBench" 30 "AttackBench$Grounds" ∈ allw := List.mem_filter.mpr ⟨List.mem_of_getElem? (i := 120) (by decide +kernel), by decide +kernel⟩
theorem m_121 : Cond.instantiable "AttackBench$Grounds" 2 ∈ allw := List.mem_filter.mpr ⟨List.mem_of_getElem? (i := 121) (by decide +kernel), by decide +kernel⟩
theorem m_122 : Cond.methodLink "AttackBench" 32 y_Grounds_init ∈ allw := List.mem_filter.mpr ⟨List.mem_of_getElem? (i := 122) (by decide +kernel), by decide +kernel⟩
theorem m_123 : Cond.instanceMethod y_Grounds_init ∈ allw := List.mem_filter.mpr ⟨List.mem_of_getElem? (i := 123) (by decide +kernel), by decide +kernel⟩
theorem m_124 : Cond.code y_Grounds_init k_Grounds_init 1 none ∈ allw := List.mem_filter.mpr ⟨List.mem_of_getElem? (i := 124) (by decide +kernel), by decide +kernel⟩
theorem m_125 : Cond.methodLink "AttackBench$Grounds" 3 objectInit ∈ allw := List.mem_filter.mpr ⟨List.mem_of_getElem? (i := 125) (by decide +kernel), by decide +kernel⟩
theorem m_126 : Cond.fieldLink "AttackBench$Grounds" 9 "AttackBench$Grounds" "rounds" "[I" ∈ allw := List.mem_filter.mpr ⟨List.mem_of_getElem? (i := 126) (by decide +kernel), by decide +kernel⟩
theorem m_127 : Cond.fieldLink "AttackBench$Grounds" 15 "AttackBench$Grounds" "all" "I" ∈ allw := List.mem_filter.mpr ⟨List.mem_of_getElem? (i := 127) (by decide +kernel), by decide +kernel⟩
theorem m_133 : Cond.classLink "AttackBench" 37 "AttackBench$Talk" ∈ allw := List.mem_filter.mpr ⟨List.mem_of_getElem? (i := 133) (by decide +kernel), by decide +kernel⟩
theorem m_134 : Cond.instantiable "AttackBench$Talk" 5 ∈ allw := List.mem_filter.mpr ⟨List.mem_of_getElem? (i := 134) (by decide +kernel), by decide +kernel⟩
theorem m_135 : Cond.methodLink "AttackBench" 39 y_Talk_init ∈ allw := List.mem_filter.mpr ⟨List.mem_of_getElem? (i := 135) (by decide +kernel), by decide +kernel⟩
theorem m_136 : Cond.instanceMethod y_Talk_init ∈ allw := List.mem_filter.mpr ⟨List.mem_of_getElem? (i := 136) (by decide +kernel), by decide +kernel⟩
theorem m_137 : Cond.code y_Talk_init k_Talk_init 1 none ∈ allw := List.mem_filter.mpr ⟨List.mem_of_getElem? (i := 137) (by decide +kernel), by decide +kernel⟩
theorem m_138 : Cond.methodLink "AttackBench$Talk" 3 objectInit ∈ allw := List.mem_filter.mpr ⟨List.mem_of_getElem? (i := 138) (by decide +kernel), by decide +kernel⟩
theorem m_139 : Cond.fieldLink "AttackBench$Talk" 9 "AttackBench$Talk" "said" "[I" ∈ allw := List.mem_filter.mpr ⟨List.mem_of_getElem? (i := 139) (by decide +kernel), by decide +kernel⟩
theorem m_140 : Cond.fieldLink "AttackBench$Talk" 15 "AttackBench$Talk" "answered" "[I" ∈ allw := List.mem_filter.mpr ⟨List.mem_of_getElem? (i := 140) (by decide +kernel), by decide +kernel⟩
theorem m_141 : Cond.fieldLink "AttackBench$Talk" 18 "AttackBench$Talk" "sides" "[I" ∈ allw := List.mem_filter.mpr ⟨List.mem_of_getElem? (i := 141) (by decide +kernel), by decide +kernel⟩
theorem m_142 : Cond.fieldLink "AttackBench$Talk" 21 "AttackBench$Talk" "size" "I" ∈ allw := List.mem_filter.mpr ⟨List.mem_of_getElem? (i := 142) (by decide +kernel), by decide +kernel⟩
theorem m_143 : Cond.fieldLink "AttackBench$Talk" 25 "AttackBench$Talk" "tooLong" "Z" ∈ allw := List.mem_filter.mpr ⟨List.mem_of_getElem? (i := 143) (by decide +kernel), by decide +kernel⟩
theorem m_155 : Cond.classLink "AttackBench" 44 "AttackBench$Rings" ∈ allw := List.mem_filter.mpr ⟨List.mem_of_getElem? (i := 155) (by decide +kernel), by decide +kernel⟩
theorem m_156 : Cond.instantiable "AttackBench$Rings" 3 ∈ allw := List.mem_filter.mpr ⟨List.mem_of_getElem? (i := 156) (by decide +kernel), by decide +kernel⟩
theorem m_157 : Cond.methodLink "AttackBench" 46 y_Rings_init ∈ allw := List.mem_filter.mpr ⟨List.mem_of_getElem? (i := 157) (by decide +kernel), by decide +kernel⟩
theorem m_158 : Cond.instanceMethod y_Rings_init ∈ allw := List.mem_filter.mpr ⟨List.mem_of_getElem? (i := 158) (by decide +kernel), by decide +kernel⟩
theorem m_159 : Cond.code y_Rings_init k_Rings_init 1 none ∈ allw := List.mem_filter.mpr ⟨List.mem_of_getElem? (i := 159) (by decide +kernel), by decide +kernel⟩
theorem m_160 : Cond.methodLink "AttackBench$Rings" 3 objectInit ∈ allw := List.mem_filter.mpr ⟨List.mem_of_getElem? (i := 160) (by decide +kernel), by decide +kernel⟩
theorem m_161 : Cond.fieldLink "AttackBench$Rings" 9 "AttackBench$Rings" "reach" "[I" ∈ allw := List.mem_filter.mpr ⟨List.mem_of_getElem? (i := 161) (by decide +kernel), by decide +kernel⟩
theorem m_162 : Cond.fieldLink "AttackBench$Rings" 15 "AttackBench$Rings" "numbers" "[I" ∈ allw := List.mem_filter.mpr ⟨List.mem_of_getElem? (i := 162) (by decide +kernel), by decide +kernel⟩
theorem m_163 : Cond.fieldLink "AttackBench$Rings" 18 "AttackBench$Rings" "size" "I" ∈ allw := List.mem_filter.mpr ⟨List.mem_of_getElem? (i := 163) (by decide +kernel), by decide +kernel⟩
theorem m_171 : Cond.fieldLink "AttackBench" 12 "AttackBench" "web" "LAttackBench$Web;" ∈ allw := List.mem_filter.mpr ⟨List.mem_of_getElem? (i := 171) (by decide +kernel), by decide +kernel⟩
theorem m_172 : Cond.fieldLink "AttackBench" 19 "AttackBench" "senses" "LAttackBench$Senses;" ∈ allw := List.mem_filter.mpr ⟨List.mem_of_getElem? (i := 172) (by decide +kernel), by decide +kernel⟩
theorem m_173 : Cond.fieldLink "AttackBench" 26 "AttackBench" "listing" "LAttackBench$Listing;" ∈ allw := List.mem_filter.mpr ⟨List.mem_of_getElem? (i := 173) (by decide +kernel), by decide +kernel⟩
theorem m_174 : Cond.fieldLink "AttackBench" 33 "AttackBench" "grounds" "LAttackBench$Grounds;" ∈ allw := List.mem_filter.mpr ⟨List.mem_of_getElem? (i := 174) (by decide +kernel), by decide +kernel⟩
theorem m_175 : Cond.fieldLink "AttackBench" 40 "AttackBench" "talk" "LAttackBench$Talk;" ∈ allw := List.mem_filter.mpr ⟨List.mem_of_getElem? (i := 175) (by decide +kernel), by decide +kernel⟩
theorem m_176 : Cond.fieldLink "AttackBench" 47 "AttackBench" "rings" "LAttackBench$Rings;" ∈ allw := List.mem_filter.mpr ⟨List.mem_of_getElem? (i := 176) (by decide +kernel), by decide +kernel⟩
theorem m_190 : Cond.methodLink "AttackBenchLaw" 39 y_AB_claim ∈ allw := List.mem_filter.mpr ⟨List.mem_of_getElem? (i := 190) (by decide +kernel), by decide +kernel⟩
theorem m_191 : Cond.instanceMethod y_AB_claim ∈ allw := List.mem_filter.mpr ⟨List.mem_of_getElem? (i := 191) (by decide +kernel), by decide +kernel⟩
theorem m_192 : Cond.selects "AttackBench" y_AB_claim y_AB_claim ∈ allw := List.mem_filter.mpr ⟨List.mem_of_getElem? (i := 192) (by decide +kernel), by decide +kernel⟩
theorem m_193 : Cond.code y_AB_claim k_AB_claim 2 (some .int) ∈ allw := List.mem_filter.mpr ⟨List.mem_of_getElem? (i := 193) (by decide +kernel), by decide +kernel⟩
theorem m_194 : Cond.methodLink "AttackBench" 51 y_Web_hasRoomFor ∈ allw := List.mem_filter.mpr ⟨List.mem_of_getElem? (i := 194) (by decide +kernel), by decide +kernel⟩
theorem m_195 : Cond.instanceMethod y_Web_hasRoomFor ∈ allw := List.mem_filter.mpr ⟨List.mem_of_getElem? (i := 195) (by decide +kernel), by decide +kernel⟩
theorem m_196 : Cond.selects "AttackBench$Web" y_Web_hasRoomFor y_Web_hasRoomFor ∈ allw := List.mem_filter.mpr ⟨List.mem_of_getElem? (i := 196) (by decide +kernel), by decide +kernel⟩
theorem m_197 : Cond.code y_Web_hasRoomFor k_Web_hasRoomFor 2 (some .boolean) ∈ allw := List.mem_filter.mpr ⟨List.mem_of_getElem? (i := 197) (by decide +kernel), by decide +kernel⟩
theorem m_198 : Cond.methodLink "AttackBench" 55 y_Web_add ∈ allw := List.mem_filter.mpr ⟨List.mem_of_getElem? (i := 198) (by decide +kernel), by decide +kernel⟩
theorem m_199 : Cond.instanceMethod y_Web_add ∈ allw := List.mem_filter.mpr ⟨List.mem_of_getElem? (i := 199) (by decide +kernel), by decide +kernel⟩
theorem m_200 : Cond.selects "AttackBench$Web" y_Web_add y_Web_add ∈ allw := List.mem_filter.mpr ⟨List.mem_of_getElem? (i := 200) (by decide +kernel), by decide +kernel⟩
theorem m_201 : Cond.code y_Web_add k_Web_add 1 (some .int) ∈ allw := List.mem_filter.mpr ⟨List.mem_of_getElem? (i := 201) (by decide +kernel), by decide +kernel⟩
theorem m_202 : Cond.methodLink "AttackBench$Web" 30 y_Web_hasRoomFor ∈ allw := List.mem_filter.mpr ⟨List.mem_of_getElem? (i := 202) (by decide +kernel), by decide +kernel⟩
theorem m_203 : Cond.methodLink "AttackBench" 59 y_AB_changed ∈ allw := List.mem_filter.mpr ⟨List.mem_of_getElem? (i := 203) (by decide +kernel), by decide +kernel⟩
theorem m_205 : Cond.instanceMethod y_AB_changed ∈ allw := List.mem_filter.mpr ⟨List.mem_of_getElem? (i := 205) (by decide +kernel), by decide +kernel⟩
theorem m_206 : Cond.code y_AB_changed k_AB_changed 1 none ∈ allw := List.mem_filter.mpr ⟨List.mem_of_getElem? (i := 206) (by decide +kernel), by decide +kernel⟩
theorem m_207 : Cond.methodLink "AttackBench" 167 y_Listing_end ∈ allw := List.mem_filter.mpr ⟨List.mem_of_getElem? (i := 207) (by decide +kernel), by decide +kernel⟩
theorem m_208 : Cond.instanceMethod y_Listing_end ∈ allw := List.mem_filter.mpr ⟨List.mem_of_getElem? (i := 208) (by decide +kernel), by decide +kernel⟩
theorem m_209 : Cond.selects "AttackBench$Listing" y_Listing_end y_Listing_end ∈ allw := List.mem_filter.mpr ⟨List.mem_of_getElem? (i := 209) (by decide +kernel), by decide +kernel⟩
theorem m_210 : Cond.code y_Listing_end k_Listing_end 1 none ∈ allw := List.mem_filter.mpr ⟨List.mem_of_getElem? (i := 210) (by decide +kernel), by decide +kernel⟩
theorem m_211 : Cond.methodLink "AttackBench" 170 y_Senses_forget ∈ allw := List.mem_filter.mpr ⟨List.mem_of_getElem? (i := 211) (by decide +kernel), by decide +kernel⟩
theorem m_212 : Cond.instanceMethod y_Senses_forget ∈ allw := List.mem_filter.mpr ⟨List.mem_of_getElem? (i := 212) (by decide +kernel), by decide +kernel⟩
theorem m_213 : Cond.selects "AttackBench$Senses" y_Senses_forget y_Senses_forget ∈ allw := List.mem_filter.mpr ⟨List.mem_of_getElem? (i := 213) (by decide +kernel), by decide +kernel⟩
theorem m_214 : Cond.code y_Senses_forget k_Senses_forget 1 none ∈ allw := List.mem_filter.mpr ⟨List.mem_of_getElem? (i := 214) (by decide +kernel), by decide +kernel⟩
theorem m_215 : Cond.methodLink "AttackBenchLaw" 43 y_AB_attack ∈ allw := List.mem_filter.mpr ⟨List.mem_of_getElem? (i := 215) (by decide +kernel), by decide +kernel⟩
theorem m_216 : Cond.instanceMethod y_AB_attack ∈ allw := List.mem_filter.mpr ⟨List.mem_of_getElem? (i := 216) (by decide +kernel), by decide +kernel⟩
theorem m_217 : Cond.selects "AttackBench" y_AB_attack y_AB_attack ∈ allw := List.mem_filter.mpr ⟨List.mem_of_getElem? (i := 217) (by decide +kernel), by decide +kernel⟩
theorem m_218 : Cond.code y_AB_attack k_AB_attack 4 (some .boolean) ∈ allw := List.mem_filter.mpr ⟨List.mem_of_getElem? (i := 218) (by decide +kernel), by decide +kernel⟩
theorem m_219 : Cond.methodLink "AttackBench" 62 y_Web_has ∈ allw := List.mem_filter.mpr ⟨List.mem_of_getElem? (i := 219) (by decide +kernel), by decide +kernel⟩
theorem m_220 : Cond.instanceMethod y_Web_has ∈ allw := List.mem_filter.mpr ⟨List.mem_of_getElem? (i := 220) (by decide +kernel), by decide +kernel⟩
theorem m_221 : Cond.selects "AttackBench$Web" y_Web_has y_Web_has ∈ allw := List.mem_filter.mpr ⟨List.mem_of_getElem? (i := 221) (by decide +kernel), by decide +kernel⟩
theorem m_222 : Cond.code y_Web_has k_Web_has 2 (some .boolean) ∈ allw := List.mem_filter.mpr ⟨List.mem_of_getElem? (i := 222) (by decide +kernel), by decide +kernel⟩
theorem m_223 : Cond.methodLink "AttackBench" 65 y_Web_leads ∈ allw := List.mem_filter.mpr ⟨List.mem_of_getElem? (i := 223) (by decide +kernel), by decide +kernel⟩
theorem m_224 : Cond.instanceMethod y_Web_leads ∈ allw := List.mem_filter.mpr ⟨List.mem_of_getElem? (i := 224) (by decide +kernel), by decide +kernel⟩
theorem m_225 : Cond.selects "AttackBench$Web" y_Web_leads y_Web_leads ∈ allw := List.mem_filter.mpr ⟨List.mem_of_getElem? (i := 225) (by decide +kernel), by decide +kernel⟩
theorem m_226 : Cond.code y_Web_leads k_Web_leads 3 (some .boolean) ∈ allw := List.mem_filter.mpr ⟨List.mem_of_getElem? (i := 226) (by decide +kernel), by decide +kernel⟩
theorem m_227 : Cond.methodLink "AttackBench$Web" 34 y_Web_has ∈ allw := List.mem_filter.mpr ⟨List.mem_of_getElem? (i := 227) (by decide +kernel), by decide +kernel⟩
theorem m_228 : Cond.methodLinkNest "AttackBench$Web" 37 y_AB_isIn "AttackBench" ∈ allw := List.mem_filter.mpr ⟨List.mem_of_getElem? (i := 228) (by decide +kernel), by decide +kernel⟩
theorem m_229 : Cond.static y_AB_isIn ∈ allw := List.mem_filter.mpr ⟨List.mem_of_getElem? (i := 229) (by decide +kernel), by decide +kernel⟩
theorem m_230 : Cond.code y_AB_isIn k_AB_isIn 2 (some .boolean) ∈ allw := List.mem_filter.mpr ⟨List.mem_of_getElem? (i := 230) (by decide +kernel), by decide +kernel⟩
theorem m_231 : Cond.methodLink "AttackBench" 69 y_Web_put ∈ allw := List.mem_filter.mpr ⟨List.mem_of_getElem? (i := 231) (by decide +kernel), by decide +kernel⟩
theorem m_232 : Cond.instanceMethod y_Web_put ∈ allw := List.mem_filter.mpr ⟨List.mem_of_getElem? (i := 232) (by decide +kernel), by decide +kernel⟩
theorem m_233 : Cond.selects "AttackBench$Web" y_Web_put y_Web_put ∈ allw := List.mem_filter.mpr ⟨List.mem_of_getElem? (i := 233) (by decide +kernel), by decide +kernel⟩
theorem m_234 : Cond.code y_Web_put k_Web_put 4 none ∈ allw := List.mem_filter.mpr ⟨List.mem_of_getElem? (i := 234) (by decide +kernel), by decide +kernel⟩
theorem m_235 : Cond.methodLink "AttackBenchLaw" 47 y_AB_attacks ∈ allw := List.mem_filter.mpr ⟨List.mem_of_getElem? (i := 235) (by decide +kernel), by decide +kernel⟩
theorem m_236 : Cond.instanceMethod y_AB_attacks ∈ allw := List.mem_filter.mpr ⟨List.mem_of_getElem? (i := 236) (by decide +kernel), by decide +kernel⟩
theorem m_237 : Cond.selects "AttackBench" y_AB_attacks y_AB_attacks ∈ allw := List.mem_filter.mpr ⟨List.mem_of_getElem? (i := 237) (by decide +kernel), by decide +kernel⟩
theorem m_238 : Cond.code y_AB_attacks k_AB_attacks 3 (some .boolean) ∈ allw := List.mem_filter.mpr ⟨List.mem_of_getElem? (i := 238) (by decide +kernel), by decide +kernel⟩
theorem m_239 : Cond.methodLink "AttackBenchLaw" 52 y_AB_joint ∈ allw := List.mem_filter.mpr ⟨List.mem_of_getElem? (i := 239) (by decide +kernel), by decide +kernel⟩
theorem m_240 : Cond.instanceMethod y_AB_joint ∈ allw := List.mem_filter.mpr ⟨List.mem_of_getElem? (i := 240) (by decide +kernel), by decide +kernel⟩
theorem m_241 : Cond.selects "AttackBench" y_AB_joint y_AB_joint ∈ allw := List.mem_filter.mpr ⟨List.mem_of_getElem? (i := 241) (by decide +kernel), by decide +kernel⟩
theorem m_242 : Cond.code y_AB_joint k_AB_joint 7 (some .int) ∈ allw := List.mem_filter.mpr ⟨List.mem_of_getElem? (i := 242) (by decide +kernel), by decide +kernel⟩
theorem m_243 : Cond.methodLink "AttackBenchLaw" 57 y_AB_support ∈ allw := List.mem_filter.mpr ⟨List.mem_of_getElem? (i := 243) (by decide +kernel), by decide +kernel⟩
theorem m_244 : Cond.instanceMethod y_AB_support ∈ allw := List.mem_filter.mpr ⟨List.mem_of_getElem? (i := 244) (by decide +kernel), by decide +kernel⟩
theorem m_245 : Cond.selects "AttackBench" y_AB_support y_AB_support ∈ allw := List.mem_filter.mpr ⟨List.mem_of_getElem? (i := 245) (by decide +kernel), by decide +kernel⟩
theorem m_246 : Cond.code y_AB_support k_AB_support 4 (some .int) ∈ allw := List.mem_filter.mpr ⟨List.mem_of_getElem? (i := 246) (by decide +kernel), by decide +kernel⟩
theorem m_247 : Cond.methodLink "AttackBenchLaw" 62 y_AB_arguments ∈ allw := List.mem_filter.mpr ⟨List.mem_of_getElem? (i := 247) (by decide +kernel), by decide +kernel⟩
theorem m_248 : Cond.instanceMethod y_AB_arguments ∈ allw := List.mem_filter.mpr ⟨List.mem_of_getElem? (i := 248) (by decide +kernel), by decide +kernel⟩
theorem m_249 : Cond.selects "AttackBench" y_AB_arguments y_AB_arguments ∈ allw := List.mem_filter.mpr ⟨List.mem_of_getElem? (i := 249) (by decide +kernel), by decide +kernel⟩
theorem m_250 : Cond.code y_AB_arguments k_AB_arguments 1 (some .int) ∈ allw := List.mem_filter.mpr ⟨List.mem_of_getElem? (i := 250) (by decide +kernel), by decide +kernel⟩
theorem m_251 : Cond.methodLink "AttackBench" 73 y_Web_size ∈ allw := List.mem_filter.mpr ⟨List.mem_of_getElem? (i := 251) (by decide +kernel), by decide +kernel⟩
theorem m_252 : Cond.instanceMethod y_Web_size ∈ allw := List.mem_filter.mpr ⟨List.mem_of_getElem? (i := 252) (by decide +kernel), by decide +kernel⟩
theorem m_253 : Cond.selects "AttackBench$Web" y_Web_size y_Web_size ∈ allw := List.mem_filter.mpr ⟨List.mem_of_getElem? (i := 253) (by decide +kernel), by decide +kernel⟩
theorem m_254 : Cond.code y_Web_size k_Web_size 1 (some .int) ∈ allw := List.mem_filter.mpr ⟨List.mem_of_getElem? (i := 254) (by decide +kernel), by decide +kernel⟩
theorem m_255 : Cond.methodLink "AttackBenchLaw" 66 y_AB_isFree ∈ allw := List.mem_filter.mpr ⟨List.mem_of_getElem? (i := 255) (by decide +kernel), by decide +kernel⟩
theorem m_256 : Cond.instanceMethod y_AB_isFree ∈ allw := List.mem_filter.mpr ⟨List.mem_of_getElem? (i := 256) (by decide +kernel), by decide +kernel⟩
theorem m_257 : Cond.selects "AttackBench" y_AB_isFree y_AB_isFree ∈ allw := List.mem_filter.mpr ⟨List.mem_of_getElem? (i := 257) (by decide +kernel), by decide +kernel⟩
theorem m_258 : Cond.code y_AB_isFree k_AB_isFree 2 (some .boolean) ∈ allw := List.mem_filter.mpr ⟨List.mem_of_getElem? (i := 258) (by decide +kernel), by decide +kernel⟩
theorem m_259 : Cond.methodLink "AttackBench" 76 y_Web_hasSet ∈ allw := List.mem_filter.mpr ⟨List.mem_of_getElem? (i := 259) (by decide +kernel), by decide +kernel⟩
theorem m_260 : Cond.instanceMethod y_Web_hasSet ∈ allw := List.mem_filter.mpr ⟨List.mem_of_getElem? (i := 260) (by decide +kernel), by decide +kernel⟩
theorem m_261 : Cond.selects "AttackBench$Web" y_Web_hasSet y_Web_hasSet ∈ allw := List.mem_filter.mpr ⟨List.mem_of_getElem? (i := 261) (by decide +kernel), by decide +kernel⟩
theorem m_262 : Cond.code y_Web_hasSet k_Web_hasSet 2 (some .boolean) ∈ allw := List.mem_filter.mpr ⟨List.mem_of_getElem? (i := 262) (by decide +kernel), by decide +kernel⟩
theorem m_263 : Cond.methodLink "AttackBench$Web" 22 y_Web_everything ∈ allw := List.mem_filter.mpr ⟨List.mem_of_getElem? (i := 263) (by decide +kernel), by decide +kernel⟩
theorem m_264 : Cond.instanceMethod y_Web_everything ∈ allw := List.mem_filter.mpr ⟨List.mem_of_getElem? (i := 264) (by decide +kernel), by decide +kernel⟩
theorem m_265 : Cond.selects "AttackBench$Web" y_Web_everything y_Web_everything ∈ allw := List.mem_filter.mpr ⟨List.mem_of_getElem? (i := 265) (by decide +kernel), by decide +kernel⟩
theorem m_266 : Cond.code y_Web_everything k_Web_everything 1 (some .int) ∈ allw := List.mem_filter.mpr ⟨List.mem_of_getElem? (i := 266) (by decide +kernel), by decide +kernel⟩
theorem m_267 : Cond.methodLinkNest "AttackBench$Web" 26 y_AB_isWithin "AttackBench" ∈ allw := List.mem_filter.mpr ⟨List.mem_of_getElem? (i := 267) (by decide +kernel), by decide +kernel⟩
theorem m_268 : Cond.static y_AB_isWithin ∈ allw := List.mem_filter.mpr ⟨List.mem_of_getElem? (i := 268) (by decide +kernel), by decide +kernel⟩
theorem m_269 : Cond.code y_AB_isWithin k_AB_isWithin 2 (some .boolean) ∈ allw := List.mem_filter.mpr ⟨List.mem_of_getElem? (i := 269) (by decide +kernel), by decide +kernel⟩
theorem m_270 : Cond.methodLink "AttackBench" 79 y_Web_targetsOf ∈ allw := List.mem_filter.mpr ⟨List.mem_of_getElem? (i := 270) (by decide +kernel), by decide +kernel⟩
theorem m_271 : Cond.instanceMethod y_Web_targetsOf ∈ allw := List.mem_filter.mpr ⟨List.mem_of_getElem? (i := 271) (by decide +kernel), by decide +kernel⟩
theorem m_272 : Cond.selects "AttackBench$Web" y_Web_targetsOf y_Web_targetsOf ∈ allw := List.mem_filter.mpr ⟨List.mem_of_getElem? (i := 272) (by decide +kernel), by decide +kernel⟩
theorem m_273 : Cond.code y_Web_targetsOf k_Web_targetsOf 4 (some .int) ∈ allw := List.mem_filter.mpr ⟨List.mem_of_getElem? (i := 273) (by decide +kernel), by decide +kernel⟩
theorem m_274 : Cond.methodLink "AttackBenchLaw" 71 y_AB_is ∈ allw := List.mem_filter.mpr ⟨List.mem_of_getElem? (i := 274) (by decide +kernel), by decide +kernel⟩
theorem m_275 : Cond.instanceMethod y_AB_is ∈ allw := List.mem_filter.mpr ⟨List.mem_of_getElem? (i := 275) (by decide +kernel), by decide +kernel⟩
theorem m_276 : Cond.selects "AttackBench" y_AB_is y_AB_is ∈ allw := List.mem_filter.mpr ⟨List.mem_of_getElem? (i := 276) (by decide +kernel), by decide +kernel⟩
theorem m_277 : Cond.code y_AB_is k_AB_is 3 (some .boolean) ∈ allw := List.mem_filter.mpr ⟨List.mem_of_getElem? (i := 277) (by decide +kernel), by decide +kernel⟩
theorem m_278 : Cond.methodLink "AttackBench" 83 y_AB_isKind ∈ allw := List.mem_filter.mpr ⟨List.mem_of_getElem? (i := 278) (by decide +kernel), by decide +kernel⟩
theorem m_279 : Cond.static y_AB_isKind ∈ allw := List.mem_filter.mpr ⟨List.mem_of_getElem? (i := 279) (by decide +kernel), by decide +kernel⟩
theorem m_280 : Cond.code y_AB_isKind k_AB_isKind 1 (some .boolean) ∈ allw := List.mem_filter.mpr ⟨List.mem_of_getElem? (i := 280) (by decide +kernel), by decide +kernel⟩
theorem m_281 : Cond.methodLink "AttackBench" 86 y_Senses_learn ∈ allw := List.mem_filter.mpr ⟨List.mem_of_getElem? (i := 281) (by decide +kernel), by decide +kernel⟩
theorem m_282 : Cond.instanceMethod y_Senses_learn ∈ allw := List.mem_filter.mpr ⟨List.mem_of_getElem? (i := 282) (by decide +kernel), by decide +kernel⟩
theorem m_283 : Cond.selects "AttackBench$Senses" y_Senses_learn y_Senses_learn ∈ allw := List.mem_filter.mpr ⟨List.mem_of_getElem? (i := 283) (by decide +kernel), by decide +kernel⟩
theorem m_284 : Cond.code y_Senses_learn k_Senses_learn 3 none ∈ allw := List.mem_filter.mpr ⟨List.mem_of_getElem? (i := 284) (by decide +kernel), by decide +kernel⟩
theorem m_285 : Cond.methodLink "AttackBench$Senses" 32 y_Web_everything ∈ allw := List.mem_filter.mpr ⟨List.mem_of_getElem? (i := 285) (by decide +kernel), by decide +kernel⟩
theorem m_286 : Cond.methodLink "AttackBench$Senses" 37 y_Senses_fillTargets ∈ allw := List.mem_filter.mpr ⟨List.mem_of_getElem? (i := 286) (by decide +kernel), by decide +kernel⟩
theorem m_288 : Cond.instanceMethod y_Senses_fillTargets ∈ allw := List.mem_filter.mpr ⟨List.mem_of_getElem? (i := 288) (by decide +kernel), by decide +kernel⟩
theorem m_289 : Cond.code y_Senses_fillTargets k_Senses_fillTargets 6 none ∈ allw := List.mem_filter.mpr ⟨List.mem_of_getElem? (i := 289) (by decide +kernel), by decide +kernel⟩
theorem m_290 : Cond.methodLink "AttackBench$Senses" 71 y_Web_size ∈ allw := List.mem_filter.mpr ⟨List.mem_of_getElem? (i := 290) (by decide +kernel), by decide +kernel⟩
theorem m_291 : Cond.methodLink "AttackBench$Senses" 74 y_Web_targetsOfOne ∈ allw := List.mem_filter.mpr ⟨List.mem_of_getElem? (i := 291) (by decide +kernel), by decide +kernel⟩
theorem m_292 : Cond.instanceMethod y_Web_targetsOfOne ∈ allw := List.mem_filter.mpr ⟨List.mem_of_getElem? (i := 292) (by decide +kernel), by decide +kernel⟩
theorem m_293 : Cond.selects "AttackBench$Web" y_Web_targetsOfOne y_Web_targetsOfOne ∈ allw := List.mem_filter.mpr ⟨List.mem_of_getElem? (i := 293) (by decide +kernel), by decide +kernel⟩
theorem m_294 : Cond.code y_Web_targetsOfOne k_Web_targetsOfOne 2 (some .int) ∈ allw := List.mem_filter.mpr ⟨List.mem_of_getElem? (i := 294) (by decide +kernel), by decide +kernel⟩
theorem m_295 : Cond.methodLink "AttackBench$Senses" 41 y_Senses_ownMarks ∈ allw := List.mem_filter.mpr ⟨List.mem_of_getElem? (i := 295) (by decide +kernel), by decide +kernel⟩
theorem m_297 : Cond.instanceMethod y_Senses_ownMarks ∈ allw := List.mem_filter.mpr ⟨List.mem_of_getElem? (i := 297) (by decide +kernel), by decide +kernel⟩
theorem m_298 : Cond.code y_Senses_ownMarks k_Senses_ownMarks 5 (some .int) ∈ allw := List.mem_filter.mpr ⟨List.mem_of_getElem? (i := 298) (by decide +kernel), by decide +kernel⟩
theorem m_299 : Cond.methodLink "AttackBench$Senses" 68 y_Senses_hitBy ∈ allw := List.mem_filter.mpr ⟨List.mem_of_getElem? (i := 299) (by decide +kernel), by decide +kernel⟩
theorem m_301 : Cond.instanceMethod y_Senses_hitBy ∈ allw := List.mem_filter.mpr ⟨List.mem_of_getElem? (i := 301) (by decide +kernel), by decide +kernel⟩
theorem m_302 : Cond.code y_Senses_hitBy k_Senses_hitBy 2 (some .int) ∈ allw := List.mem_filter.mpr ⟨List.mem_of_getElem? (i := 302) (by decide +kernel), by decide +kernel⟩
theorem m_303 : Cond.methodLink "AttackBench$Senses" 64 y_Senses_isNumber ∈ allw := List.mem_filter.mpr ⟨List.mem_of_getElem? (i := 303) (by decide +kernel), by decide +kernel⟩
theorem m_304 : Cond.static y_Senses_isNumber ∈ allw := List.mem_filter.mpr ⟨List.mem_of_getElem? (i := 304) (by decide +kernel), by decide +kernel⟩
theorem m_305 : Cond.code y_Senses_isNumber k_Senses_isNumber 1 (some .boolean) ∈ allw := List.mem_filter.mpr ⟨List.mem_of_getElem? (i := 305) (by decide +kernel), by decide +kernel⟩
theorem m_306 : Cond.methodLink "AttackBench$Senses" 77 y_Senses_rangeOf ∈ allw := List.mem_filter.mpr ⟨List.mem_of_getElem? (i := 306) (by decide +kernel), by decide +kernel⟩
theorem m_308 : Cond.instanceMethod y_Senses_rangeOf ∈ allw := List.mem_filter.mpr ⟨List.mem_of_getElem? (i := 308) (by decide +kernel), by decide +kernel⟩
theorem m_309 : Cond.code y_Senses_rangeOf k_Senses_rangeOf 2 (some .int) ∈ allw := List.mem_filter.mpr ⟨List.mem_of_getElem? (i := 309) (by decide +kernel), by decide +kernel⟩
theorem m_310 : Cond.methodLinkNest "AttackBench$Senses" 61 y_AB_isWithin "AttackBench" ∈ allw := List.mem_filter.mpr ⟨List.mem_of_getElem? (i := 310) (by decide +kernel), by decide +kernel⟩
theorem m_311 : Cond.methodLink "AttackBench$Senses" 45 y_Senses_markPreferred ∈ allw := List.mem_filter.mpr ⟨List.mem_of_getElem? (i := 311) (by decide +kernel), by decide +kernel⟩
theorem m_313 : Cond.instanceMethod y_Senses_markPreferred ∈ allw := List.mem_filter.mpr ⟨List.mem_of_getElem? (i := 313) (by decide +kernel), by decide +kernel⟩
theorem m_314 : Cond.code y_Senses_markPreferred k_Senses_markPreferred 2 none ∈ allw := List.mem_filter.mpr ⟨List.mem_of_getElem? (i := 314) (by decide +kernel), by decide +kernel⟩
theorem m_315 : Cond.methodLink "AttackBench$Senses" 54 y_Senses_hasMark ∈ allw := List.mem_filter.mpr ⟨List.mem_of_getElem? (i := 315) (by decide +kernel), by decide +kernel⟩
theorem m_317 : Cond.instanceMethod y_Senses_hasMark ∈ allw := List.mem_filter.mpr ⟨List.mem_of_getElem? (i := 317) (by decide +kernel), by decide +kernel⟩
theorem m_318 : Cond.code y_Senses_hasMark k_Senses_hasMark 3 (some .boolean) ∈ allw := List.mem_filter.mpr ⟨List.mem_of_getElem? (i := 318) (by decide +kernel), by decide +kernel⟩
theorem m_319 : Cond.methodLink "AttackBench$Senses" 80 y_Senses_isNewTop ∈ allw := List.mem_filter.mpr ⟨List.mem_of_getElem? (i := 319) (by decide +kernel), by decide +kernel⟩
theorem m_321 : Cond.instanceMethod y_Senses_isNewTop ∈ allw := List.mem_filter.mpr ⟨List.mem_of_getElem? (i := 321) (by decide +kernel), by decide +kernel⟩
theorem m_322 : Cond.code y_Senses_isNewTop k_Senses_isNewTop 3 (some .boolean) ∈ allw := List.mem_filter.mpr ⟨List.mem_of_getElem? (i := 322) (by decide +kernel), by decide +kernel⟩
theorem m_323 : Cond.methodLink "AttackBench$Senses" 83 y_Senses_mark ∈ allw := List.mem_filter.mpr ⟨List.mem_of_getElem? (i := 323) (by decide +kernel), by decide +kernel⟩
theorem m_325 : Cond.instanceMethod y_Senses_mark ∈ allw := List.mem_filter.mpr ⟨List.mem_of_getElem? (i := 325) (by decide +kernel), by decide +kernel⟩
theorem m_326 : Cond.code y_Senses_mark k_Senses_mark 3 none ∈ allw := List.mem_filter.mpr ⟨List.mem_of_getElem? (i := 326) (by decide +kernel), by decide +kernel⟩
theorem m_327 : Cond.methodLink "AttackBench$Senses" 48 y_Senses_markRanges ∈ allw := List.mem_filter.mpr ⟨List.mem_of_getElem? (i := 327) (by decide +kernel), by decide +kernel⟩
theorem m_329 : Cond.instanceMethod y_Senses_markRanges ∈ allw := List.mem_filter.mpr ⟨List.mem_of_getElem? (i := 329) (by decide +kernel), by decide +kernel⟩
theorem m_330 : Cond.code y_Senses_markRanges k_Senses_markRanges 2 none ∈ allw := List.mem_filter.mpr ⟨List.mem_of_getElem? (i := 330) (by decide +kernel), by decide +kernel⟩
theorem m_331 : Cond.methodLink "AttackBench$Senses" 51 y_Senses_markStage ∈ allw := List.mem_filter.mpr ⟨List.mem_of_getElem? (i := 331) (by decide +kernel), by decide +kernel⟩
theorem m_333 : Cond.instanceMethod y_Senses_markStage ∈ allw := List.mem_filter.mpr ⟨List.mem_of_getElem? (i := 333) (by decide +kernel), by decide +kernel⟩
theorem m_334 : Cond.code y_Senses_markStage k_Senses_markStage 2 none ∈ allw := List.mem_filter.mpr ⟨List.mem_of_getElem? (i := 334) (by decide +kernel), by decide +kernel⟩
theorem m_335 : Cond.methodLink "AttackBench" 90 y_Senses_isOf ∈ allw := List.mem_filter.mpr ⟨List.mem_of_getElem? (i := 335) (by decide +kernel), by decide +kernel⟩
theorem m_336 : Cond.instanceMethod y_Senses_isOf ∈ allw := List.mem_filter.mpr ⟨List.mem_of_getElem? (i := 336) (by decide +kernel), by decide +kernel⟩
theorem m_337 : Cond.selects "AttackBench$Senses" y_Senses_isOf y_Senses_isOf ∈ allw := List.mem_filter.mpr ⟨List.mem_of_getElem? (i := 337) (by decide +kernel), by decide +kernel⟩
theorem m_338 : Cond.code y_Senses_isOf k_Senses_isOf 3 (some .boolean) ∈ allw := List.mem_filter.mpr ⟨List.mem_of_getElem? (i := 338) (by decide +kernel), by decide +kernel⟩
theorem m_339 : Cond.methodLink "AttackBenchLaw" 75 y_AB_attackedBy ∈ allw := List.mem_filter.mpr ⟨List.mem_of_getElem? (i := 339) (by decide +kernel), by decide +kernel⟩
theorem m_340 : Cond.instanceMethod y_AB_attackedBy ∈ allw := List.mem_filter.mpr ⟨List.mem_of_getElem? (i := 340) (by decide +kernel), by decide +kernel⟩
theorem m_341 : Cond.selects "AttackBench" y_AB_attackedBy y_AB_attackedBy ∈ allw := List.mem_filter.mpr ⟨List.mem_of_getElem? (i := 341) (by decide +kernel), by decide +kernel⟩
theorem m_342 : Cond.code y_AB_attackedBy k_AB_attackedBy 2 (some .int) ∈ allw := List.mem_filter.mpr ⟨List.mem_of_getElem? (i := 342) (by decide +kernel), by decide +kernel⟩
theorem m_343 : Cond.methodLink "AttackBenchLaw" 79 y_AB_defendedBy ∈ allw := List.mem_filter.mpr ⟨List.mem_of_getElem? (i := 343) (by decide +kernel), by decide +kernel⟩
theorem m_344 : Cond.instanceMethod y_AB_defendedBy ∈ allw := List.mem_filter.mpr ⟨List.mem_of_getElem? (i := 344) (by decide +kernel), by decide +kernel⟩
theorem m_345 : Cond.selects "AttackBench" y_AB_defendedBy y_AB_defendedBy ∈ allw := List.mem_filter.mpr ⟨List.mem_of_getElem? (i := 345) (by decide +kernel), by decide +kernel⟩
theorem m_346 : Cond.code y_AB_defendedBy k_AB_defendedBy 2 (some .int) ∈ allw := List.mem_filter.mpr ⟨List.mem_of_getElem? (i := 346) (by decide +kernel), by decide +kernel⟩
theorem m_347 : Cond.methodLink "AttackBench" 93 y_Web_defendedOf ∈ allw := List.mem_filter.mpr ⟨List.mem_of_getElem? (i := 347) (by decide +kernel), by decide +kernel⟩
theorem m_348 : Cond.instanceMethod y_Web_defendedOf ∈ allw := List.mem_filter.mpr ⟨List.mem_of_getElem? (i := 348) (by decide +kernel), by decide +kernel⟩
theorem m_349 : Cond.selects "AttackBench$Web" y_Web_defendedOf y_Web_defendedOf ∈ allw := List.mem_filter.mpr ⟨List.mem_of_getElem? (i := 349) (by decide +kernel), by decide +kernel⟩
theorem m_350 : Cond.code y_Web_defendedOf k_Web_defendedOf 3 (some .int) ∈ allw := List.mem_filter.mpr ⟨List.mem_of_getElem? (i := 350) (by decide +kernel), by decide +kernel⟩
theorem m_351 : Cond.methodLink "AttackBench$Web" 40 y_Web_targetsOf ∈ allw := List.mem_filter.mpr ⟨List.mem_of_getElem? (i := 351) (by decide +kernel), by decide +kernel⟩
theorem m_352 : Cond.methodLink "AttackBenchLaw" 83 y_AB_grounded ∈ allw := List.mem_filter.mpr ⟨List.mem_of_getElem? (i := 352) (by decide +kernel), by decide +kernel⟩
theorem m_353 : Cond.instanceMethod y_AB_grounded ∈ allw := List.mem_filter.mpr ⟨List.mem_of_getElem? (i := 353) (by decide +kernel), by decide +kernel⟩
theorem m_354 : Cond.selects "AttackBench" y_AB_grounded y_AB_grounded ∈ allw := List.mem_filter.mpr ⟨List.mem_of_getElem? (i := 354) (by decide +kernel), by decide +kernel⟩
theorem m_355 : Cond.code y_AB_grounded k_AB_grounded 1 (some .int) ∈ allw := List.mem_filter.mpr ⟨List.mem_of_getElem? (i := 355) (by decide +kernel), by decide +kernel⟩
theorem m_356 : Cond.methodLink "AttackBench" 96 y_Grounds_settle ∈ allw := List.mem_filter.mpr ⟨List.mem_of_getElem? (i := 356) (by decide +kernel), by decide +kernel⟩
theorem m_357 : Cond.instanceMethod y_Grounds_settle ∈ allw := List.mem_filter.mpr ⟨List.mem_of_getElem? (i := 357) (by decide +kernel), by decide +kernel⟩
theorem m_358 : Cond.selects "AttackBench$Grounds" y_Grounds_settle y_Grounds_settle ∈ allw := List.mem_filter.mpr ⟨List.mem_of_getElem? (i := 358) (by decide +kernel), by decide +kernel⟩
theorem m_359 : Cond.code y_Grounds_settle k_Grounds_settle 4 none ∈ allw := List.mem_filter.mpr ⟨List.mem_of_getElem? (i := 359) (by decide +kernel), by decide +kernel⟩
theorem m_360 : Cond.methodLink "AttackBench$Grounds" 19 y_Web_defendedOf ∈ allw := List.mem_filter.mpr ⟨List.mem_of_getElem? (i := 360) (by decide +kernel), by decide +kernel⟩
theorem m_361 : Cond.methodLink "AttackBench$Grounds" 25 y_Grounds_noteRound ∈ allw := List.mem_filter.mpr ⟨List.mem_of_getElem? (i := 361) (by decide +kernel), by decide +kernel⟩
theorem m_363 : Cond.instanceMethod y_Grounds_noteRound ∈ allw := List.mem_filter.mpr ⟨List.mem_of_getElem? (i := 363) (by decide +kernel), by decide +kernel⟩
theorem m_364 : Cond.code y_Grounds_noteRound k_Grounds_noteRound 4 none ∈ allw := List.mem_filter.mpr ⟨List.mem_of_getElem? (i := 364) (by decide +kernel), by decide +kernel⟩
theorem m_365 : Cond.methodLinkNest "AttackBench$Grounds" 29 y_AB_isIn "AttackBench" ∈ allw := List.mem_filter.mpr ⟨List.mem_of_getElem? (i := 365) (by decide +kernel), by decide +kernel⟩
theorem m_366 : Cond.methodLink "AttackBench" 99 y_Grounds_all ∈ allw := List.mem_filter.mpr ⟨List.mem_of_getElem? (i := 366) (by decide +kernel), by decide +kernel⟩
theorem m_367 : Cond.instanceMethod y_Grounds_all ∈ allw := List.mem_filter.mpr ⟨List.mem_of_getElem? (i := 367) (by decide +kernel), by decide +kernel⟩
theorem m_368 : Cond.selects "AttackBench$Grounds" y_Grounds_all y_Grounds_all ∈ allw := List.mem_filter.mpr ⟨List.mem_of_getElem? (i := 368) (by decide +kernel), by decide +kernel⟩
theorem m_369 : Cond.code y_Grounds_all k_Grounds_all 1 (some .int) ∈ allw := List.mem_filter.mpr ⟨List.mem_of_getElem? (i := 369) (by decide +kernel), by decide +kernel⟩
theorem m_370 : Cond.methodLink "AttackBenchLaw" 87 y_AB_round ∈ allw := List.mem_filter.mpr ⟨List.mem_of_getElem? (i := 370) (by decide +kernel), by decide +kernel⟩
theorem m_371 : Cond.instanceMethod y_AB_round ∈ allw := List.mem_filter.mpr ⟨List.mem_of_getElem? (i := 371) (by decide +kernel), by decide +kernel⟩
theorem m_372 : Cond.selects "AttackBench" y_AB_round y_AB_round ∈ allw := List.mem_filter.mpr ⟨List.mem_of_getElem? (i := 372) (by decide +kernel), by decide +kernel⟩
theorem m_373 : Cond.code y_AB_round k_AB_round 2 (some .int) ∈ allw := List.mem_filter.mpr ⟨List.mem_of_getElem? (i := 373) (by decide +kernel), by decide +kernel⟩
theorem m_374 : Cond.methodLink "AttackBench" 102 y_Grounds_roundOf ∈ allw := List.mem_filter.mpr ⟨List.mem_of_getElem? (i := 374) (by decide +kernel), by decide +kernel⟩
theorem m_375 : Cond.instanceMethod y_Grounds_roundOf ∈ allw := List.mem_filter.mpr ⟨List.mem_of_getElem? (i := 375) (by decide +kernel), by decide +kernel⟩
theorem m_376 : Cond.selects "AttackBench$Grounds" y_Grounds_roundOf y_Grounds_roundOf ∈ allw := List.mem_filter.mpr ⟨List.mem_of_getElem? (i := 376) (by decide +kernel), by decide +kernel⟩
theorem m_377 : Cond.code y_Grounds_roundOf k_Grounds_roundOf 2 (some .int) ∈ allw := List.mem_filter.mpr ⟨List.mem_of_getElem? (i := 377) (by decide +kernel), by decide +kernel⟩
theorem m_378 : Cond.methodLink "AttackBenchLaw" 91 y_AB_ideal ∈ allw := List.mem_filter.mpr ⟨List.mem_of_getElem? (i := 378) (by decide +kernel), by decide +kernel⟩
theorem m_379 : Cond.instanceMethod y_AB_ideal ∈ allw := List.mem_filter.mpr ⟨List.mem_of_getElem? (i := 379) (by decide +kernel), by decide +kernel⟩
theorem m_380 : Cond.selects "AttackBench" y_AB_ideal y_AB_ideal ∈ allw := List.mem_filter.mpr ⟨List.mem_of_getElem? (i := 380) (by decide +kernel), by decide +kernel⟩
theorem m_381 : Cond.code y_AB_ideal k_AB_ideal 1 (some .int) ∈ allw := List.mem_filter.mpr ⟨List.mem_of_getElem? (i := 381) (by decide +kernel), by decide +kernel⟩
theorem m_382 : Cond.methodLink "AttackBench" 105 y_Senses_meet ∈ allw := List.mem_filter.mpr ⟨List.mem_of_getElem? (i := 382) (by decide +kernel), by decide +kernel⟩
theorem m_383 : Cond.instanceMethod y_Senses_meet ∈ allw := List.mem_filter.mpr ⟨List.mem_of_getElem? (i := 383) (by decide +kernel), by decide +kernel⟩
theorem m_384 : Cond.selects "AttackBench$Senses" y_Senses_meet y_Senses_meet ∈ allw := List.mem_filter.mpr ⟨List.mem_of_getElem? (i := 384) (by decide +kernel), by decide +kernel⟩
theorem m_385 : Cond.code y_Senses_meet k_Senses_meet 4 (some .int) ∈ allw := List.mem_filter.mpr ⟨List.mem_of_getElem? (i := 385) (by decide +kernel), by decide +kernel⟩
theorem m_386 : Cond.methodLink "AttackBench$Senses" 58 y_Senses_isOf ∈ allw := List.mem_filter.mpr ⟨List.mem_of_getElem? (i := 386) (by decide +kernel), by decide +kernel⟩
theorem m_387 : Cond.methodLink "AttackBench" 108 y_Senses_joinWithin ∈ allw := List.mem_filter.mpr ⟨List.mem_of_getElem? (i := 387) (by decide +kernel), by decide +kernel⟩
theorem m_388 : Cond.instanceMethod y_Senses_joinWithin ∈ allw := List.mem_filter.mpr ⟨List.mem_of_getElem? (i := 388) (by decide +kernel), by decide +kernel⟩
theorem m_389 : Cond.selects "AttackBench$Senses" y_Senses_joinWithin y_Senses_joinWithin ∈ allw := List.mem_filter.mpr ⟨List.mem_of_getElem? (i := 389) (by decide +kernel), by decide +kernel⟩
theorem m_390 : Cond.code y_Senses_joinWithin k_Senses_joinWithin 5 (some .int) ∈ allw := List.mem_filter.mpr ⟨List.mem_of_getElem? (i := 390) (by decide +kernel), by decide +kernel⟩
theorem m_391 : Cond.methodLink "AttackBenchLaw" 122 y_AB_move ∈ allw := List.mem_filter.mpr ⟨List.mem_of_getElem? (i := 391) (by decide +kernel), by decide +kernel⟩
theorem m_392 : Cond.instanceMethod y_AB_move ∈ allw := List.mem_filter.mpr ⟨List.mem_of_getElem? (i := 392) (by decide +kernel), by decide +kernel⟩
theorem m_393 : Cond.selects "AttackBench" y_AB_move y_AB_move ∈ allw := List.mem_filter.mpr ⟨List.mem_of_getElem? (i := 393) (by decide +kernel), by decide +kernel⟩
theorem m_394 : Cond.code y_AB_move k_AB_move 3 (some .int) ∈ allw := List.mem_filter.mpr ⟨List.mem_of_getElem? (i := 394) (by decide +kernel), by decide +kernel⟩
theorem m_395 : Cond.methodLink "AttackBench" 158 y_Talk_tell ∈ allw := List.mem_filter.mpr ⟨List.mem_of_getElem? (i := 395) (by decide +kernel), by decide +kernel⟩
theorem m_396 : Cond.instanceMethod y_Talk_tell ∈ allw := List.mem_filter.mpr ⟨List.mem_of_getElem? (i := 396) (by decide +kernel), by decide +kernel⟩
theorem m_397 : Cond.selects "AttackBench$Talk" y_Talk_tell y_Talk_tell ∈ allw := List.mem_filter.mpr ⟨List.mem_of_getElem? (i := 397) (by decide +kernel), by decide +kernel⟩
theorem m_398 : Cond.code y_Talk_tell k_Talk_tell 3 (some .int) ∈ allw := List.mem_filter.mpr ⟨List.mem_of_getElem? (i := 398) (by decide +kernel), by decide +kernel⟩
theorem m_399 : Cond.methodLink "AttackBenchLaw" 126 y_AB_circle ∈ allw := List.mem_filter.mpr ⟨List.mem_of_getElem? (i := 399) (by decide +kernel), by decide +kernel⟩
theorem m_400 : Cond.instanceMethod y_AB_circle ∈ allw := List.mem_filter.mpr ⟨List.mem_of_getElem? (i := 400) (by decide +kernel), by decide +kernel⟩
theorem m_401 : Cond.selects "AttackBench" y_AB_circle y_AB_circle ∈ allw := List.mem_filter.mpr ⟨List.mem_of_getElem? (i := 401) (by decide +kernel), by decide +kernel⟩
theorem m_402 : Cond.code y_AB_circle k_AB_circle 2 (some .int) ∈ allw := List.mem_filter.mpr ⟨List.mem_of_getElem? (i := 402) (by decide +kernel), by decide +kernel⟩
theorem m_403 : Cond.methodLink "AttackBench" 160 y_Rings_find ∈ allw := List.mem_filter.mpr ⟨List.mem_of_getElem? (i := 403) (by decide +kernel), by decide +kernel⟩
theorem m_404 : Cond.instanceMethod y_Rings_find ∈ allw := List.mem_filter.mpr ⟨List.mem_of_getElem? (i := 404) (by decide +kernel), by decide +kernel⟩
theorem m_405 : Cond.selects "AttackBench$Rings" y_Rings_find y_Rings_find ∈ allw := List.mem_filter.mpr ⟨List.mem_of_getElem? (i := 405) (by decide +kernel), by decide +kernel⟩
theorem m_406 : Cond.code y_Rings_find k_Rings_find 5 none ∈ allw := List.mem_filter.mpr ⟨List.mem_of_getElem? (i := 406) (by decide +kernel), by decide +kernel⟩
theorem m_407 : Cond.methodLink "AttackBench$Rings" 22 y_Rings_fillReach ∈ allw := List.mem_filter.mpr ⟨List.mem_of_getElem? (i := 407) (by decide +kernel), by decide +kernel⟩
theorem m_409 : Cond.instanceMethod y_Rings_fillReach ∈ allw := List.mem_filter.mpr ⟨List.mem_of_getElem? (i := 409) (by decide +kernel), by decide +kernel⟩
theorem m_410 : Cond.code y_Rings_fillReach k_Rings_fillReach 4 none ∈ allw := List.mem_filter.mpr ⟨List.mem_of_getElem? (i := 410) (by decide +kernel), by decide +kernel⟩
theorem m_411 : Cond.methodLink "AttackBench$Rings" 39 y_Web_targetsOfOne ∈ allw := List.mem_filter.mpr ⟨List.mem_of_getElem? (i := 411) (by decide +kernel), by decide +kernel⟩
theorem m_412 : Cond.methodLinkNest "AttackBench$Rings" 43 y_AB_isIn "AttackBench" ∈ allw := List.mem_filter.mpr ⟨List.mem_of_getElem? (i := 412) (by decide +kernel), by decide +kernel⟩
theorem m_413 : Cond.methodLink "AttackBench$Rings" 26 y_Web_size ∈ allw := List.mem_filter.mpr ⟨List.mem_of_getElem? (i := 413) (by decide +kernel), by decide +kernel⟩
theorem m_414 : Cond.methodLink "AttackBench$Rings" 31 y_Rings_firstReady ∈ allw := List.mem_filter.mpr ⟨List.mem_of_getElem? (i := 414) (by decide +kernel), by decide +kernel⟩
theorem m_416 : Cond.instanceMethod y_Rings_firstReady ∈ allw := List.mem_filter.mpr ⟨List.mem_of_getElem? (i := 416) (by decide +kernel), by decide +kernel⟩
theorem m_417 : Cond.code y_Rings_firstReady k_Rings_firstReady 5 (some .int) ∈ allw := List.mem_filter.mpr ⟨List.mem_of_getElem? (i := 417) (by decide +kernel), by decide +kernel⟩
theorem m_418 : Cond.methodLink "AttackBench$Rings" 47 y_Rings_around ∈ allw := List.mem_filter.mpr ⟨List.mem_of_getElem? (i := 418) (by decide +kernel), by decide +kernel⟩
theorem m_420 : Cond.instanceMethod y_Rings_around ∈ allw := List.mem_filter.mpr ⟨List.mem_of_getElem? (i := 420) (by decide +kernel), by decide +kernel⟩
theorem m_421 : Cond.code y_Rings_around k_Rings_around 5 (some .int) ∈ allw := List.mem_filter.mpr ⟨List.mem_of_getElem? (i := 421) (by decide +kernel), by decide +kernel⟩
theorem m_422 : Cond.methodLink "AttackBench$Rings" 57 y_Rings_comesTo ∈ allw := List.mem_filter.mpr ⟨List.mem_of_getElem? (i := 422) (by decide +kernel), by decide +kernel⟩
theorem m_424 : Cond.instanceMethod y_Rings_comesTo ∈ allw := List.mem_filter.mpr ⟨List.mem_of_getElem? (i := 424) (by decide +kernel), by decide +kernel⟩
theorem m_425 : Cond.code y_Rings_comesTo k_Rings_comesTo 3 (some .boolean) ∈ allw := List.mem_filter.mpr ⟨List.mem_of_getElem? (i := 425) (by decide +kernel), by decide +kernel⟩
theorem m_426 : Cond.methodLink "AttackBench$Rings" 51 y_Web_attackersOf ∈ allw := List.mem_filter.mpr ⟨List.mem_of_getElem? (i := 426) (by decide +kernel), by decide +kernel⟩
theorem m_427 : Cond.instanceMethod y_Web_attackersOf ∈ allw := List.mem_filter.mpr ⟨List.mem_of_getElem? (i := 427) (by decide +kernel), by decide +kernel⟩
theorem m_428 : Cond.selects "AttackBench$Web" y_Web_attackersOf y_Web_attackersOf ∈ allw := List.mem_filter.mpr ⟨List.mem_of_getElem? (i := 428) (by decide +kernel), by decide +kernel⟩
theorem m_429 : Cond.code y_Web_attackersOf k_Web_attackersOf 4 (some .int) ∈ allw := List.mem_filter.mpr ⟨List.mem_of_getElem? (i := 429) (by decide +kernel), by decide +kernel⟩
theorem m_430 : Cond.methodLinkNest "AttackBench$Rings" 54 y_AB_isWithin "AttackBench" ∈ allw := List.mem_filter.mpr ⟨List.mem_of_getElem? (i := 430) (by decide +kernel), by decide +kernel⟩
theorem m_431 : Cond.methodLink "AttackBench$Rings" 35 y_Rings_number ∈ allw := List.mem_filter.mpr ⟨List.mem_of_getElem? (i := 431) (by decide +kernel), by decide +kernel⟩
theorem m_433 : Cond.instanceMethod y_Rings_number ∈ allw := List.mem_filter.mpr ⟨List.mem_of_getElem? (i := 433) (by decide +kernel), by decide +kernel⟩
theorem m_434 : Cond.code y_Rings_number k_Rings_number 3 none ∈ allw := List.mem_filter.mpr ⟨List.mem_of_getElem? (i := 434) (by decide +kernel), by decide +kernel⟩
theorem m_435 : Cond.methodLink "AttackBench" 163 y_Rings_ringOf ∈ allw := List.mem_filter.mpr ⟨List.mem_of_getElem? (i := 435) (by decide +kernel), by decide +kernel⟩
theorem m_436 : Cond.instanceMethod y_Rings_ringOf ∈ allw := List.mem_filter.mpr ⟨List.mem_of_getElem? (i := 436) (by decide +kernel), by decide +kernel⟩
theorem m_437 : Cond.selects "AttackBench$Rings" y_Rings_ringOf y_Rings_ringOf ∈ allw := List.mem_filter.mpr ⟨List.mem_of_getElem? (i := 437) (by decide +kernel), by decide +kernel⟩
theorem m_438 : Cond.code y_Rings_ringOf k_Rings_ringOf 2 (some .int) ∈ allw := List.mem_filter.mpr ⟨List.mem_of_getElem? (i := 438) (by decide +kernel), by decide +kernel⟩
theorem m_439 : Cond.methodLink "AttackBenchLaw" 130 y_AB_circles ∈ allw := List.mem_filter.mpr ⟨List.mem_of_getElem? (i := 439) (by decide +kernel), by decide +kernel⟩
theorem m_440 : Cond.instanceMethod y_AB_circles ∈ allw := List.mem_filter.mpr ⟨List.mem_of_getElem? (i := 440) (by decide +kernel), by decide +kernel⟩
theorem m_441 : Cond.selects "AttackBench" y_AB_circles y_AB_circles ∈ allw := List.mem_filter.mpr ⟨List.mem_of_getElem? (i := 441) (by decide +kernel), by decide +kernel⟩
theorem m_442 : Cond.code y_AB_circles k_AB_circles 1 (some .int) ∈ allw := List.mem_filter.mpr ⟨List.mem_of_getElem? (i := 442) (by decide +kernel), by decide +kernel⟩
theorem m_443 : Cond.methodLink "AttackBench" 166 y_Rings_size ∈ allw := List.mem_filter.mpr ⟨List.mem_of_getElem? (i := 443) (by decide +kernel), by decide +kernel⟩
theorem m_444 : Cond.instanceMethod y_Rings_size ∈ allw := List.mem_filter.mpr ⟨List.mem_of_getElem? (i := 444) (by decide +kernel), by decide +kernel⟩
theorem m_445 : Cond.selects "AttackBench$Rings" y_Rings_size y_Rings_size ∈ allw := List.mem_filter.mpr ⟨List.mem_of_getElem? (i := 445) (by decide +kernel), by decide +kernel⟩
theorem m_446 : Cond.code y_Rings_size k_Rings_size 1 (some .int) ∈ allw := List.mem_filter.mpr ⟨List.mem_of_getElem? (i := 446) (by decide +kernel), by decide +kernel⟩
theorem m_447 : Cond.methodLink "AttackBenchLaw" 95 y_Law_start ∈ allw := List.mem_filter.mpr ⟨List.mem_of_getElem? (i := 447) (by decide +kernel), by decide +kernel⟩
theorem m_448 : Cond.static y_Law_start ∈ allw := List.mem_filter.mpr ⟨List.mem_of_getElem? (i := 448) (by decide +kernel), by decide +kernel⟩
theorem m_450 : Cond.classLink "AttackBenchLaw" 13 "java/lang/IllegalArgumentException" ∈ allw := List.mem_filter.mpr ⟨List.mem_of_getElem? (i := 450) (by decide +kernel), by decide +kernel⟩
theorem m_451 : Cond.methodLink "AttackBenchLaw" 7 y_AB_start ∈ allw := List.mem_filter.mpr ⟨List.mem_of_getElem? (i := 451) (by decide +kernel), by decide +kernel⟩
theorem m_452 : Cond.instanceMethod y_AB_start ∈ allw := List.mem_filter.mpr ⟨List.mem_of_getElem? (i := 452) (by decide +kernel), by decide +kernel⟩
theorem m_453 : Cond.selects "AttackBench" y_AB_start y_AB_start ∈ allw := List.mem_filter.mpr ⟨List.mem_of_getElem? (i := 453) (by decide +kernel), by decide +kernel⟩
theorem m_454 : Cond.code y_AB_start k_AB_start 2 none ∈ allw := List.mem_filter.mpr ⟨List.mem_of_getElem? (i := 454) (by decide +kernel), by decide +kernel⟩
theorem m_455 : Cond.classLink "AttackBench" 112 "java/lang/IllegalArgumentException" ∈ allw := List.mem_filter.mpr ⟨List.mem_of_getElem? (i := 455) (by decide +kernel), by decide +kernel⟩
theorem m_456 : Cond.instantiable "java/lang/IllegalArgumentException" 6 ∈ allw := List.mem_filter.mpr ⟨List.mem_of_getElem? (i := 456) (by decide +kernel), by decide +kernel⟩
theorem m_496 : Cond.methodLink "AttackBench" 116 ⟨"java/lang/IllegalArgumentException", "<init>", "(Ljava/lang/String;)V"⟩ ∈ allw := List.mem_filter.mpr ⟨List.mem_of_getElem? (i := 496) (by decide +kernel), by decide +kernel⟩
theorem m_497 : Cond.instanceMethod ⟨"java/lang/IllegalArgumentException", "<init>", "(Ljava/lang/String;)V"⟩ ∈ allw := List.mem_filter.mpr ⟨List.mem_of_getElem? (i := 497) (by decide +kernel), by decide +kernel⟩
theorem m_521 : Cond.arrayClass .byte ∈ allw := List.mem_filter.mpr ⟨List.mem_of_getElem? (i := 521) (by decide +kernel), by decide +kernel⟩
theorem m_522 : Cond.methodLink "AttackBench" 119 y_Listing_begin ∈ allw := List.mem_filter.mpr ⟨List.mem_of_getElem? (i := 522) (by decide +kernel), by decide +kernel⟩
theorem m_523 : Cond.instanceMethod y_Listing_begin ∈ allw := List.mem_filter.mpr ⟨List.mem_of_getElem? (i := 523) (by decide +kernel), by decide +kernel⟩
theorem m_524 : Cond.selects "AttackBench$Listing" y_Listing_begin y_Listing_begin ∈ allw := List.mem_filter.mpr ⟨List.mem_of_getElem? (i := 524) (by decide +kernel), by decide +kernel⟩
theorem m_525 : Cond.code y_Listing_begin k_Listing_begin 2 none ∈ allw := List.mem_filter.mpr ⟨List.mem_of_getElem? (i := 525) (by decide +kernel), by decide +kernel⟩
theorem m_526 : Cond.methodLink "AttackBenchLaw" 104 y_Law_next ∈ allw := List.mem_filter.mpr ⟨List.mem_of_getElem? (i := 526) (by decide +kernel), by decide +kernel⟩
theorem m_527 : Cond.static y_Law_next ∈ allw := List.mem_filter.mpr ⟨List.mem_of_getElem? (i := 527) (by decide +kernel), by decide +kernel⟩
theorem m_529 : Cond.classLink "AttackBenchLaw" 19 "java/lang/IllegalStateException" ∈ allw := List.mem_filter.mpr ⟨List.mem_of_getElem? (i := 529) (by decide +kernel), by decide +kernel⟩
theorem m_530 : Cond.methodLink "AttackBenchLaw" 15 y_AB_next ∈ allw := List.mem_filter.mpr ⟨List.mem_of_getElem? (i := 530) (by decide +kernel), by decide +kernel⟩
theorem m_531 : Cond.instanceMethod y_AB_next ∈ allw := List.mem_filter.mpr ⟨List.mem_of_getElem? (i := 531) (by decide +kernel), by decide +kernel⟩
theorem m_532 : Cond.selects "AttackBench" y_AB_next y_AB_next ∈ allw := List.mem_filter.mpr ⟨List.mem_of_getElem? (i := 532) (by decide +kernel), by decide +kernel⟩
theorem m_533 : Cond.code y_AB_next k_AB_next 1 (some .int) ∈ allw := List.mem_filter.mpr ⟨List.mem_of_getElem? (i := 533) (by decide +kernel), by decide +kernel⟩
theorem m_534 : Cond.methodLink "AttackBench" 123 y_Listing_isOpen ∈ allw := List.mem_filter.mpr ⟨List.mem_of_getElem? (i := 534) (by decide +kernel), by decide +kernel⟩
theorem m_535 : Cond.instanceMethod y_Listing_isOpen ∈ allw := List.mem_filter.mpr ⟨List.mem_of_getElem? (i := 535) (by decide +kernel), by decide +kernel⟩
theorem m_536 : Cond.selects "AttackBench$Listing" y_Listing_isOpen y_Listing_isOpen ∈ allw := List.mem_filter.mpr ⟨List.mem_of_getElem? (i := 536) (by decide +kernel), by decide +kernel⟩
theorem m_537 : Cond.code y_Listing_isOpen k_Listing_isOpen 1 (some .boolean) ∈ allw := List.mem_filter.mpr ⟨List.mem_of_getElem? (i := 537) (by decide +kernel), by decide +kernel⟩
theorem m_538 : Cond.classLink "AttackBench" 127 "java/lang/IllegalStateException" ∈ allw := List.mem_filter.mpr ⟨List.mem_of_getElem? (i := 538) (by decide +kernel), by decide +kernel⟩
theorem m_539 : Cond.instantiable "java/lang/IllegalStateException" 6 ∈ allw := List.mem_filter.mpr ⟨List.mem_of_getElem? (i := 539) (by decide +kernel), by decide +kernel⟩
theorem m_548 : Cond.methodLink "AttackBench" 131 ⟨"java/lang/IllegalStateException", "<init>", "(Ljava/lang/String;)V"⟩ ∈ allw := List.mem_filter.mpr ⟨List.mem_of_getElem? (i := 548) (by decide +kernel), by decide +kernel⟩
theorem m_549 : Cond.instanceMethod ⟨"java/lang/IllegalStateException", "<init>", "(Ljava/lang/String;)V"⟩ ∈ allw := List.mem_filter.mpr ⟨List.mem_of_getElem? (i := 549) (by decide +kernel), by decide +kernel⟩
theorem m_554 : Cond.methodLink "AttackBench" 132 y_Listing_tell ∈ allw := List.mem_filter.mpr ⟨List.mem_of_getElem? (i := 554) (by decide +kernel), by decide +kernel⟩
theorem m_555 : Cond.instanceMethod y_Listing_tell ∈ allw := List.mem_filter.mpr ⟨List.mem_of_getElem? (i := 555) (by decide +kernel), by decide +kernel⟩
theorem m_556 : Cond.selects "AttackBench$Listing" y_Listing_tell y_Listing_tell ∈ allw := List.mem_filter.mpr ⟨List.mem_of_getElem? (i := 556) (by decide +kernel), by decide +kernel⟩
theorem m_557 : Cond.code y_Listing_tell k_Listing_tell 3 (some .int) ∈ allw := List.mem_filter.mpr ⟨List.mem_of_getElem? (i := 557) (by decide +kernel), by decide +kernel⟩
theorem m_558 : Cond.methodLink "AttackBench$Listing" 25 y_Senses_everything ∈ allw := List.mem_filter.mpr ⟨List.mem_of_getElem? (i := 558) (by decide +kernel), by decide +kernel⟩
theorem m_559 : Cond.instanceMethod y_Senses_everything ∈ allw := List.mem_filter.mpr ⟨List.mem_of_getElem? (i := 559) (by decide +kernel), by decide +kernel⟩
theorem m_560 : Cond.selects "AttackBench$Senses" y_Senses_everything y_Senses_everything ∈ allw := List.mem_filter.mpr ⟨List.mem_of_getElem? (i := 560) (by decide +kernel), by decide +kernel⟩
theorem m_561 : Cond.code y_Senses_everything k_Senses_everything 1 (some .int) ∈ allw := List.mem_filter.mpr ⟨List.mem_of_getElem? (i := 561) (by decide +kernel), by decide +kernel⟩
theorem m_562 : Cond.methodLink "AttackBench$Listing" 31 y_Senses_isOf ∈ allw := List.mem_filter.mpr ⟨List.mem_of_getElem? (i := 562) (by decide +kernel), by decide +kernel⟩
theorem m_563 : Cond.methodLink "AttackBench$Listing" 35 y_Listing_end ∈ allw := List.mem_filter.mpr ⟨List.mem_of_getElem? (i := 563) (by decide +kernel), by decide +kernel⟩
theorem m_564 : Cond.methodLink "AttackBenchLaw" 108 y_Law_label ∈ allw := List.mem_filter.mpr ⟨List.mem_of_getElem? (i := 564) (by decide +kernel), by decide +kernel⟩
theorem m_565 : Cond.static y_Law_label ∈ allw := List.mem_filter.mpr ⟨List.mem_of_getElem? (i := 565) (by decide +kernel), by decide +kernel⟩
theorem m_567 : Cond.methodLink "AttackBenchLaw" 21 y_AB_label ∈ allw := List.mem_filter.mpr ⟨List.mem_of_getElem? (i := 567) (by decide +kernel), by decide +kernel⟩
theorem m_568 : Cond.instanceMethod y_AB_label ∈ allw := List.mem_filter.mpr ⟨List.mem_of_getElem? (i := 568) (by decide +kernel), by decide +kernel⟩
theorem m_569 : Cond.selects "AttackBench" y_AB_label y_AB_label ∈ allw := List.mem_filter.mpr ⟨List.mem_of_getElem? (i := 569) (by decide +kernel), by decide +kernel⟩
theorem m_570 : Cond.code y_AB_label k_AB_label 3 (some .int) ∈ allw := List.mem_filter.mpr ⟨List.mem_of_getElem? (i := 570) (by decide +kernel), by decide +kernel⟩
theorem m_572 : Cond.methodLink "AttackBench" 138 y_Listing_told ∈ allw := List.mem_filter.mpr ⟨List.mem_of_getElem? (i := 572) (by decide +kernel), by decide +kernel⟩
theorem m_573 : Cond.instanceMethod y_Listing_told ∈ allw := List.mem_filter.mpr ⟨List.mem_of_getElem? (i := 573) (by decide +kernel), by decide +kernel⟩
theorem m_574 : Cond.selects "AttackBench$Listing" y_Listing_told y_Listing_told ∈ allw := List.mem_filter.mpr ⟨List.mem_of_getElem? (i := 574) (by decide +kernel), by decide +kernel⟩
theorem m_575 : Cond.code y_Listing_told k_Listing_told 1 (some .int) ∈ allw := List.mem_filter.mpr ⟨List.mem_of_getElem? (i := 575) (by decide +kernel), by decide +kernel⟩
theorem m_577 : Cond.methodLink "AttackBench" 143 y_AB_isIn ∈ allw := List.mem_filter.mpr ⟨List.mem_of_getElem? (i := 577) (by decide +kernel), by decide +kernel⟩
theorem m_578 : Cond.methodLink "AttackBenchLaw" 112 y_Law_count ∈ allw := List.mem_filter.mpr ⟨List.mem_of_getElem? (i := 578) (by decide +kernel), by decide +kernel⟩
theorem m_579 : Cond.static y_Law_count ∈ allw := List.mem_filter.mpr ⟨List.mem_of_getElem? (i := 579) (by decide +kernel), by decide +kernel⟩
theorem m_581 : Cond.methodLink "AttackBenchLaw" 25 y_AB_count ∈ allw := List.mem_filter.mpr ⟨List.mem_of_getElem? (i := 581) (by decide +kernel), by decide +kernel⟩
theorem m_582 : Cond.instanceMethod y_AB_count ∈ allw := List.mem_filter.mpr ⟨List.mem_of_getElem? (i := 582) (by decide +kernel), by decide +kernel⟩
theorem m_583 : Cond.selects "AttackBench" y_AB_count y_AB_count ∈ allw := List.mem_filter.mpr ⟨List.mem_of_getElem? (i := 583) (by decide +kernel), by decide +kernel⟩
theorem m_584 : Cond.code y_AB_count k_AB_count 2 (some .int) ∈ allw := List.mem_filter.mpr ⟨List.mem_of_getElem? (i := 584) (by decide +kernel), by decide +kernel⟩
theorem m_585 : Cond.methodLink "AttackBench" 146 y_Senses_tally ∈ allw := List.mem_filter.mpr ⟨List.mem_of_getElem? (i := 585) (by decide +kernel), by decide +kernel⟩
theorem m_586 : Cond.instanceMethod y_Senses_tally ∈ allw := List.mem_filter.mpr ⟨List.mem_of_getElem? (i := 586) (by decide +kernel), by decide +kernel⟩
theorem m_587 : Cond.selects "AttackBench$Senses" y_Senses_tally y_Senses_tally ∈ allw := List.mem_filter.mpr ⟨List.mem_of_getElem? (i := 587) (by decide +kernel), by decide +kernel⟩
theorem m_588 : Cond.code y_Senses_tally k_Senses_tally 4 (some .int) ∈ allw := List.mem_filter.mpr ⟨List.mem_of_getElem? (i := 588) (by decide +kernel), by decide +kernel⟩
theorem m_589 : Cond.methodLink "AttackBenchLaw" 115 y_Law_holds ∈ allw := List.mem_filter.mpr ⟨List.mem_of_getElem? (i := 589) (by decide +kernel), by decide +kernel⟩
theorem m_590 : Cond.static y_Law_holds ∈ allw := List.mem_filter.mpr ⟨List.mem_of_getElem? (i := 590) (by decide +kernel), by decide +kernel⟩
theorem m_592 : Cond.methodLink "AttackBenchLaw" 28 y_AB_holds ∈ allw := List.mem_filter.mpr ⟨List.mem_of_getElem? (i := 592) (by decide +kernel), by decide +kernel⟩
theorem m_593 : Cond.instanceMethod y_AB_holds ∈ allw := List.mem_filter.mpr ⟨List.mem_of_getElem? (i := 593) (by decide +kernel), by decide +kernel⟩
theorem m_594 : Cond.selects "AttackBench" y_AB_holds y_AB_holds ∈ allw := List.mem_filter.mpr ⟨List.mem_of_getElem? (i := 594) (by decide +kernel), by decide +kernel⟩
theorem m_595 : Cond.code y_AB_holds k_AB_holds 4 (some .boolean) ∈ allw := List.mem_filter.mpr ⟨List.mem_of_getElem? (i := 595) (by decide +kernel), by decide +kernel⟩
theorem m_597 : Cond.methodLink "AttackBench" 151 y_Web_everything ∈ allw := List.mem_filter.mpr ⟨List.mem_of_getElem? (i := 597) (by decide +kernel), by decide +kernel⟩
theorem m_598 : Cond.methodLink "AttackBenchLaw" 119 y_Law_dialogue ∈ allw := List.mem_filter.mpr ⟨List.mem_of_getElem? (i := 598) (by decide +kernel), by decide +kernel⟩
theorem m_599 : Cond.static y_Law_dialogue ∈ allw := List.mem_filter.mpr ⟨List.mem_of_getElem? (i := 599) (by decide +kernel), by decide +kernel⟩
theorem m_601 : Cond.methodLink "AttackBenchLaw" 32 y_AB_dialogue ∈ allw := List.mem_filter.mpr ⟨List.mem_of_getElem? (i := 601) (by decide +kernel), by decide +kernel⟩
theorem m_602 : Cond.instanceMethod y_AB_dialogue ∈ allw := List.mem_filter.mpr ⟨List.mem_of_getElem? (i := 602) (by decide +kernel), by decide +kernel⟩
theorem m_603 : Cond.selects "AttackBench" y_AB_dialogue y_AB_dialogue ∈ allw := List.mem_filter.mpr ⟨List.mem_of_getElem? (i := 603) (by decide +kernel), by decide +kernel⟩
theorem m_604 : Cond.code y_AB_dialogue k_AB_dialogue 2 (some .int) ∈ allw := List.mem_filter.mpr ⟨List.mem_of_getElem? (i := 604) (by decide +kernel), by decide +kernel⟩
theorem m_605 : Cond.methodLink "AttackBench" 154 y_Talk_about ∈ allw := List.mem_filter.mpr ⟨List.mem_of_getElem? (i := 605) (by decide +kernel), by decide +kernel⟩
theorem m_606 : Cond.instanceMethod y_Talk_about ∈ allw := List.mem_filter.mpr ⟨List.mem_of_getElem? (i := 606) (by decide +kernel), by decide +kernel⟩
theorem m_607 : Cond.selects "AttackBench$Talk" y_Talk_about y_Talk_about ∈ allw := List.mem_filter.mpr ⟨List.mem_of_getElem? (i := 607) (by decide +kernel), by decide +kernel⟩
theorem m_608 : Cond.code y_Talk_about k_Talk_about 4 (some .int) ∈ allw := List.mem_filter.mpr ⟨List.mem_of_getElem? (i := 608) (by decide +kernel), by decide +kernel⟩
theorem m_609 : Cond.methodLink "AttackBench$Talk" 29 y_Grounds_roundOf ∈ allw := List.mem_filter.mpr ⟨List.mem_of_getElem? (i := 609) (by decide +kernel), by decide +kernel⟩
theorem m_610 : Cond.methodLink "AttackBench$Talk" 35 y_Talk_defend ∈ allw := List.mem_filter.mpr ⟨List.mem_of_getElem? (i := 610) (by decide +kernel), by decide +kernel⟩
theorem m_612 : Cond.instanceMethod y_Talk_defend ∈ allw := List.mem_filter.mpr ⟨List.mem_of_getElem? (i := 612) (by decide +kernel), by decide +kernel⟩
theorem m_613 : Cond.code y_Talk_defend k_Talk_defend 10 none ∈ allw := List.mem_filter.mpr ⟨List.mem_of_getElem? (i := 613) (by decide +kernel), by decide +kernel⟩
theorem m_614 : Cond.methodLink "AttackBench$Talk" 39 y_Talk_say ∈ allw := List.mem_filter.mpr ⟨List.mem_of_getElem? (i := 614) (by decide +kernel), by decide +kernel⟩
theorem m_616 : Cond.instanceMethod y_Talk_say ∈ allw := List.mem_filter.mpr ⟨List.mem_of_getElem? (i := 616) (by decide +kernel), by decide +kernel⟩
theorem m_617 : Cond.code y_Talk_say k_Talk_say 4 (some .int) ∈ allw := List.mem_filter.mpr ⟨List.mem_of_getElem? (i := 617) (by decide +kernel), by decide +kernel⟩
theorem m_618 : Cond.methodLink "AttackBench$Talk" 43 y_Web_attackersOfOne ∈ allw := List.mem_filter.mpr ⟨List.mem_of_getElem? (i := 618) (by decide +kernel), by decide +kernel⟩
theorem m_619 : Cond.instanceMethod y_Web_attackersOfOne ∈ allw := List.mem_filter.mpr ⟨List.mem_of_getElem? (i := 619) (by decide +kernel), by decide +kernel⟩
theorem m_620 : Cond.selects "AttackBench$Web" y_Web_attackersOfOne y_Web_attackersOfOne ∈ allw := List.mem_filter.mpr ⟨List.mem_of_getElem? (i := 620) (by decide +kernel), by decide +kernel⟩
theorem m_621 : Cond.code y_Web_attackersOfOne k_Web_attackersOfOne 2 (some .int) ∈ allw := List.mem_filter.mpr ⟨List.mem_of_getElem? (i := 621) (by decide +kernel), by decide +kernel⟩
theorem m_622 : Cond.methodLinkNest "AttackBench$Talk" 48 y_AB_isIn "AttackBench" ∈ allw := List.mem_filter.mpr ⟨List.mem_of_getElem? (i := 622) (by decide +kernel), by decide +kernel⟩
theorem m_623 : Cond.methodLink "AttackBench$Talk" 52 y_Grounds_earliestIn ∈ allw := List.mem_filter.mpr ⟨List.mem_of_getElem? (i := 623) (by decide +kernel), by decide +kernel⟩
theorem m_624 : Cond.instanceMethod y_Grounds_earliestIn ∈ allw := List.mem_filter.mpr ⟨List.mem_of_getElem? (i := 624) (by decide +kernel), by decide +kernel⟩
theorem m_625 : Cond.selects "AttackBench$Grounds" y_Grounds_earliestIn y_Grounds_earliestIn ∈ allw := List.mem_filter.mpr ⟨List.mem_of_getElem? (i := 625) (by decide +kernel), by decide +kernel⟩
theorem m_626 : Cond.code y_Grounds_earliestIn k_Grounds_earliestIn 4 (some .int) ∈ allw := List.mem_filter.mpr ⟨List.mem_of_getElem? (i := 626) (by decide +kernel), by decide +kernel⟩
theorem m_627 : Cond.methodLink "AttackBench$Grounds" 33 y_Grounds_roundOf ∈ allw := List.mem_filter.mpr ⟨List.mem_of_getElem? (i := 627) (by decide +kernel), by decide +kernel⟩
theorem m_628 : Cond.classLink "AttackBenchLaw" 36 "AttackBenchModel" ∈ allw := List.mem_filter.mpr ⟨List.mem_of_getElem? (i := 628) (by decide +kernel), by decide +kernel⟩
theorem m_629 : Cond.instantiable "AttackBenchModel" 25 ∈ allw := List.mem_filter.mpr ⟨List.mem_of_getElem? (i := 629) (by decide +kernel), by decide +kernel⟩
theorem m_630 : Cond.methodLink "AttackBenchLaw" 38 y_Mo_init ∈ allw := List.mem_filter.mpr ⟨List.mem_of_getElem? (i := 630) (by decide +kernel), by decide +kernel⟩
theorem m_631 : Cond.instanceMethod y_Mo_init ∈ allw := List.mem_filter.mpr ⟨List.mem_of_getElem? (i := 631) (by decide +kernel), by decide +kernel⟩
theorem m_632 : Cond.code y_Mo_init k_Mo_init 1 none ∈ allw := List.mem_filter.mpr ⟨List.mem_of_getElem? (i := 632) (by decide +kernel), by decide +kernel⟩
theorem m_633 : Cond.methodLink "AttackBenchModel" 1 objectInit ∈ allw := List.mem_filter.mpr ⟨List.mem_of_getElem? (i := 633) (by decide +kernel), by decide +kernel⟩
theorem m_634 : Cond.fieldLink "AttackBenchModel" 57 "AttackBenchModel" "thrown" "I" ∈ allw := List.mem_filter.mpr ⟨List.mem_of_getElem? (i := 634) (by decide +kernel), by decide +kernel⟩
theorem m_635 : Cond.fieldLink "AttackBenchModel" 61 "AttackBenchModel" "n" "I" ∈ allw := List.mem_filter.mpr ⟨List.mem_of_getElem? (i := 635) (by decide +kernel), by decide +kernel⟩
theorem m_636 : Cond.fieldLink "AttackBenchModel" 7 "AttackBenchModel" "out" "[I" ∈ allw := List.mem_filter.mpr ⟨List.mem_of_getElem? (i := 636) (by decide +kernel), by decide +kernel⟩
theorem m_637 : Cond.fieldLink "AttackBenchModel" 13 "AttackBenchModel" "in" "[I" ∈ allw := List.mem_filter.mpr ⟨List.mem_of_getElem? (i := 637) (by decide +kernel), by decide +kernel⟩
theorem m_638 : Cond.fieldLink "AttackBenchModel" 16 "AttackBenchModel" "hits" "[I" ∈ allw := List.mem_filter.mpr ⟨List.mem_of_getElem? (i := 638) (by decide +kernel), by decide +kernel⟩
theorem m_639 : Cond.fieldLink "AttackBenchModel" 19 "AttackBenchModel" "kinds" "[B" ∈ allw := List.mem_filter.mpr ⟨List.mem_of_getElem? (i := 639) (by decide +kernel), by decide +kernel⟩
theorem m_640 : Cond.fieldLink "AttackBenchModel" 23 "AttackBenchModel" "here" "[Z" ∈ allw := List.mem_filter.mpr ⟨List.mem_of_getElem? (i := 640) (by decide +kernel), by decide +kernel⟩
theorem m_641 : Cond.fieldLink "AttackBenchModel" 27 "AttackBenchModel" "above" "[Z" ∈ allw := List.mem_filter.mpr ⟨List.mem_of_getElem? (i := 641) (by decide +kernel), by decide +kernel⟩
theorem m_642 : Cond.fieldLink "AttackBenchModel" 67 "AttackBenchModel" "known" "Z" ∈ allw := List.mem_filter.mpr ⟨List.mem_of_getElem? (i := 642) (by decide +kernel), by decide +kernel⟩
theorem m_643 : Cond.fieldLink "AttackBenchModel" 71 "AttackBenchModel" "listing" "Z" ∈ allw := List.mem_filter.mpr ⟨List.mem_of_getElem? (i := 643) (by decide +kernel), by decide +kernel⟩
theorem m_644 : Cond.fieldLink "AttackBenchModel" 74 "AttackBenchModel" "told" "Z" ∈ allw := List.mem_filter.mpr ⟨List.mem_of_getElem? (i := 644) (by decide +kernel), by decide +kernel⟩
theorem m_645 : Cond.fieldLink "AttackBenchModel" 122 "AttackBenchModel" "listed" "I" ∈ allw := List.mem_filter.mpr ⟨List.mem_of_getElem? (i := 645) (by decide +kernel), by decide +kernel⟩
theorem m_646 : Cond.fieldLink "AttackBenchModel" 125 "AttackBenchModel" "latest" "I" ∈ allw := List.mem_filter.mpr ⟨List.mem_of_getElem? (i := 646) (by decide +kernel), by decide +kernel⟩
theorem m_647 : Cond.fieldLink "AttackBenchModel" 30 "AttackBenchModel" "rounds" "[I" ∈ allw := List.mem_filter.mpr ⟨List.mem_of_getElem? (i := 647) (by decide +kernel), by decide +kernel⟩
theorem m_648 : Cond.fieldLink "AttackBenchModel" 106 "AttackBenchModel" "ground" "I" ∈ allw := List.mem_filter.mpr ⟨List.mem_of_getElem? (i := 648) (by decide +kernel), by decide +kernel⟩
theorem m_649 : Cond.fieldLink "AttackBenchModel" 131 "AttackBenchModel" "moves" "I" ∈ allw := List.mem_filter.mpr ⟨List.mem_of_getElem? (i := 649) (by decide +kernel), by decide +kernel⟩
theorem m_650 : Cond.fieldLink "AttackBenchModel" 33 "AttackBenchModel" "says" "[I" ∈ allw := List.mem_filter.mpr ⟨List.mem_of_getElem? (i := 650) (by decide +kernel), by decide +kernel⟩
theorem m_651 : Cond.fieldLink "AttackBenchModel" 36 "AttackBenchModel" "answers" "[I" ∈ allw := List.mem_filter.mpr ⟨List.mem_of_getElem? (i := 651) (by decide +kernel), by decide +kernel⟩
theorem m_652 : Cond.fieldLink "AttackBenchModel" 39 "AttackBenchModel" "sides" "[I" ∈ allw := List.mem_filter.mpr ⟨List.mem_of_getElem? (i := 652) (by decide +kernel), by decide +kernel⟩
theorem m_653 : Cond.fieldLink "AttackBenchModel" 42 "AttackBenchModel" "laterSays" "[I" ∈ allw := List.mem_filter.mpr ⟨List.mem_of_getElem? (i := 653) (by decide +kernel), by decide +kernel⟩
theorem m_654 : Cond.fieldLink "AttackBenchModel" 45 "AttackBenchModel" "laterAnswers" "[I" ∈ allw := List.mem_filter.mpr ⟨List.mem_of_getElem? (i := 654) (by decide +kernel), by decide +kernel⟩
theorem m_655 : Cond.fieldLink "AttackBenchModel" 48 "AttackBenchModel" "laterSides" "[I" ∈ allw := List.mem_filter.mpr ⟨List.mem_of_getElem? (i := 655) (by decide +kernel), by decide +kernel⟩
theorem m_656 : Cond.fieldLink "AttackBenchModel" 128 "AttackBenchModel" "later" "I" ∈ allw := List.mem_filter.mpr ⟨List.mem_of_getElem? (i := 656) (by decide +kernel), by decide +kernel⟩
theorem m_657 : Cond.fieldLink "AttackBenchModel" 51 "AttackBenchModel" "reach" "[I" ∈ allw := List.mem_filter.mpr ⟨List.mem_of_getElem? (i := 657) (by decide +kernel), by decide +kernel⟩
theorem m_658 : Cond.fieldLink "AttackBenchModel" 54 "AttackBenchModel" "circles" "[I" ∈ allw := List.mem_filter.mpr ⟨List.mem_of_getElem? (i := 658) (by decide +kernel), by decide +kernel⟩
theorem m_710 : Cond.arrayClass .boolean ∈ allw := List.mem_filter.mpr ⟨List.mem_of_getElem? (i := 710) (by decide +kernel), by decide +kernel⟩
theorem m_711 : Cond.methodLink "AttackBenchLaw" 101 y_Mo_thrown ∈ allw := List.mem_filter.mpr ⟨List.mem_of_getElem? (i := 711) (by decide +kernel), by decide +kernel⟩
theorem m_712 : Cond.instanceMethod y_Mo_thrown ∈ allw := List.mem_filter.mpr ⟨List.mem_of_getElem? (i := 712) (by decide +kernel), by decide +kernel⟩
theorem m_713 : Cond.selects "AttackBenchModel" y_Mo_thrown y_Mo_thrown ∈ allw := List.mem_filter.mpr ⟨List.mem_of_getElem? (i := 713) (by decide +kernel), by decide +kernel⟩
theorem m_714 : Cond.code y_Mo_thrown k_Mo_thrown 1 (some .int) ∈ allw := List.mem_filter.mpr ⟨List.mem_of_getElem? (i := 714) (by decide +kernel), by decide +kernel⟩
theorem m_715 : Cond.methodLink "AttackBenchLaw" 42 y_Mo_claim ∈ allw := List.mem_filter.mpr ⟨List.mem_of_getElem? (i := 715) (by decide +kernel), by decide +kernel⟩
theorem m_716 : Cond.instanceMethod y_Mo_claim ∈ allw := List.mem_filter.mpr ⟨List.mem_of_getElem? (i := 716) (by decide +kernel), by decide +kernel⟩
theorem m_717 : Cond.selects "AttackBenchModel" y_Mo_claim y_Mo_claim ∈ allw := List.mem_filter.mpr ⟨List.mem_of_getElem? (i := 717) (by decide +kernel), by decide +kernel⟩
theorem m_718 : Cond.code y_Mo_claim k_Mo_claim 1 (some .int) ∈ allw := List.mem_filter.mpr ⟨List.mem_of_getElem? (i := 718) (by decide +kernel), by decide +kernel⟩
theorem m_719 : Cond.methodLink "AttackBenchModel" 77 y_Mo_comes ∈ allw := List.mem_filter.mpr ⟨List.mem_of_getElem? (i := 719) (by decide +kernel), by decide +kernel⟩
theorem m_721 : Cond.instanceMethod y_Mo_comes ∈ allw := List.mem_filter.mpr ⟨List.mem_of_getElem? (i := 721) (by decide +kernel), by decide +kernel⟩
theorem m_722 : Cond.code y_Mo_comes k_Mo_comes 1 (some .int) ∈ allw := List.mem_filter.mpr ⟨List.mem_of_getElem? (i := 722) (by decide +kernel), by decide +kernel⟩
theorem m_723 : Cond.methodLink "AttackBenchModel" 64 y_Mo_changes ∈ allw := List.mem_filter.mpr ⟨List.mem_of_getElem? (i := 723) (by decide +kernel), by decide +kernel⟩
theorem m_725 : Cond.instanceMethod y_Mo_changes ∈ allw := List.mem_filter.mpr ⟨List.mem_of_getElem? (i := 725) (by decide +kernel), by decide +kernel⟩
theorem m_726 : Cond.code y_Mo_changes k_Mo_changes 1 none ∈ allw := List.mem_filter.mpr ⟨List.mem_of_getElem? (i := 726) (by decide +kernel), by decide +kernel⟩
theorem m_727 : Cond.methodLink "AttackBenchLaw" 46 y_Mo_attack ∈ allw := List.mem_filter.mpr ⟨List.mem_of_getElem? (i := 727) (by decide +kernel), by decide +kernel⟩
theorem m_728 : Cond.instanceMethod y_Mo_attack ∈ allw := List.mem_filter.mpr ⟨List.mem_of_getElem? (i := 728) (by decide +kernel), by decide +kernel⟩
theorem m_729 : Cond.selects "AttackBenchModel" y_Mo_attack y_Mo_attack ∈ allw := List.mem_filter.mpr ⟨List.mem_of_getElem? (i := 729) (by decide +kernel), by decide +kernel⟩
theorem m_730 : Cond.code y_Mo_attack k_Mo_attack 4 (some .boolean) ∈ allw := List.mem_filter.mpr ⟨List.mem_of_getElem? (i := 730) (by decide +kernel), by decide +kernel⟩
theorem m_731 : Cond.methodLink "AttackBenchModel" 81 y_Mo_isArgument ∈ allw := List.mem_filter.mpr ⟨List.mem_of_getElem? (i := 731) (by decide +kernel), by decide +kernel⟩
theorem m_733 : Cond.instanceMethod y_Mo_isArgument ∈ allw := List.mem_filter.mpr ⟨List.mem_of_getElem? (i := 733) (by decide +kernel), by decide +kernel⟩
theorem m_734 : Cond.code y_Mo_isArgument k_Mo_isArgument 2 (some .boolean) ∈ allw := List.mem_filter.mpr ⟨List.mem_of_getElem? (i := 734) (by decide +kernel), by decide +kernel⟩
theorem m_735 : Cond.methodLink "AttackBenchModel" 85 y_Mo_sets ∈ allw := List.mem_filter.mpr ⟨List.mem_of_getElem? (i := 735) (by decide +kernel), by decide +kernel⟩
theorem m_737 : Cond.instanceMethod y_Mo_sets ∈ allw := List.mem_filter.mpr ⟨List.mem_of_getElem? (i := 737) (by decide +kernel), by decide +kernel⟩
theorem m_738 : Cond.code y_Mo_sets k_Mo_sets 4 none ∈ allw := List.mem_filter.mpr ⟨List.mem_of_getElem? (i := 738) (by decide +kernel), by decide +kernel⟩
theorem m_739 : Cond.methodLink "AttackBenchLaw" 51 y_Mo_attacks ∈ allw := List.mem_filter.mpr ⟨List.mem_of_getElem? (i := 739) (by decide +kernel), by decide +kernel⟩
theorem m_740 : Cond.instanceMethod y_Mo_attacks ∈ allw := List.mem_filter.mpr ⟨List.mem_of_getElem? (i := 740) (by decide +kernel), by decide +kernel⟩
theorem m_741 : Cond.selects "AttackBenchModel" y_Mo_attacks y_Mo_attacks ∈ allw := List.mem_filter.mpr ⟨List.mem_of_getElem? (i := 741) (by decide +kernel), by decide +kernel⟩
theorem m_742 : Cond.code y_Mo_attacks k_Mo_attacks 3 (some .boolean) ∈ allw := List.mem_filter.mpr ⟨List.mem_of_getElem? (i := 742) (by decide +kernel), by decide +kernel⟩
theorem m_743 : Cond.methodLink "AttackBenchLaw" 56 y_Mo_joint ∈ allw := List.mem_filter.mpr ⟨List.mem_of_getElem? (i := 743) (by decide +kernel), by decide +kernel⟩
theorem m_744 : Cond.instanceMethod y_Mo_joint ∈ allw := List.mem_filter.mpr ⟨List.mem_of_getElem? (i := 744) (by decide +kernel), by decide +kernel⟩
theorem m_745 : Cond.selects "AttackBenchModel" y_Mo_joint y_Mo_joint ∈ allw := List.mem_filter.mpr ⟨List.mem_of_getElem? (i := 745) (by decide +kernel), by decide +kernel⟩
theorem m_746 : Cond.code y_Mo_joint k_Mo_joint 7 (some .int) ∈ allw := List.mem_filter.mpr ⟨List.mem_of_getElem? (i := 746) (by decide +kernel), by decide +kernel⟩
theorem m_747 : Cond.methodLink "AttackBenchLaw" 61 y_Mo_support ∈ allw := List.mem_filter.mpr ⟨List.mem_of_getElem? (i := 747) (by decide +kernel), by decide +kernel⟩
theorem m_748 : Cond.instanceMethod y_Mo_support ∈ allw := List.mem_filter.mpr ⟨List.mem_of_getElem? (i := 748) (by decide +kernel), by decide +kernel⟩
theorem m_749 : Cond.selects "AttackBenchModel" y_Mo_support y_Mo_support ∈ allw := List.mem_filter.mpr ⟨List.mem_of_getElem? (i := 749) (by decide +kernel), by decide +kernel⟩
theorem m_750 : Cond.code y_Mo_support k_Mo_support 4 (some .int) ∈ allw := List.mem_filter.mpr ⟨List.mem_of_getElem? (i := 750) (by decide +kernel), by decide +kernel⟩
theorem m_751 : Cond.methodLink "AttackBenchLaw" 65 y_Mo_arguments ∈ allw := List.mem_filter.mpr ⟨List.mem_of_getElem? (i := 751) (by decide +kernel), by decide +kernel⟩
theorem m_752 : Cond.instanceMethod y_Mo_arguments ∈ allw := List.mem_filter.mpr ⟨List.mem_of_getElem? (i := 752) (by decide +kernel), by decide +kernel⟩
theorem m_753 : Cond.selects "AttackBenchModel" y_Mo_arguments y_Mo_arguments ∈ allw := List.mem_filter.mpr ⟨List.mem_of_getElem? (i := 753) (by decide +kernel), by decide +kernel⟩
theorem m_754 : Cond.code y_Mo_arguments k_Mo_arguments 1 (some .int) ∈ allw := List.mem_filter.mpr ⟨List.mem_of_getElem? (i := 754) (by decide +kernel), by decide +kernel⟩
theorem m_755 : Cond.methodLink "AttackBenchLaw" 70 y_Mo_isFree ∈ allw := List.mem_filter.mpr ⟨List.mem_of_getElem? (i := 755) (by decide +kernel), by decide +kernel⟩
theorem m_756 : Cond.instanceMethod y_Mo_isFree ∈ allw := List.mem_filter.mpr ⟨List.mem_of_getElem? (i := 756) (by decide +kernel), by decide +kernel⟩
theorem m_757 : Cond.selects "AttackBenchModel" y_Mo_isFree y_Mo_isFree ∈ allw := List.mem_filter.mpr ⟨List.mem_of_getElem? (i := 757) (by decide +kernel), by decide +kernel⟩
theorem m_758 : Cond.code y_Mo_isFree k_Mo_isFree 2 (some .boolean) ∈ allw := List.mem_filter.mpr ⟨List.mem_of_getElem? (i := 758) (by decide +kernel), by decide +kernel⟩
theorem m_759 : Cond.methodLink "AttackBenchModel" 109 y_Mo_reckon ∈ allw := List.mem_filter.mpr ⟨List.mem_of_getElem? (i := 759) (by decide +kernel), by decide +kernel⟩
theorem m_761 : Cond.instanceMethod y_Mo_reckon ∈ allw := List.mem_filter.mpr ⟨List.mem_of_getElem? (i := 761) (by decide +kernel), by decide +kernel⟩
theorem m_762 : Cond.code y_Mo_reckon k_Mo_reckon 4 none ∈ allw := List.mem_filter.mpr ⟨List.mem_of_getElem? (i := 762) (by decide +kernel), by decide +kernel⟩
theorem m_763 : Cond.methodLink "AttackBenchModel" 89 y_Mo_defended ∈ allw := List.mem_filter.mpr ⟨List.mem_of_getElem? (i := 763) (by decide +kernel), by decide +kernel⟩
theorem m_765 : Cond.instanceMethod y_Mo_defended ∈ allw := List.mem_filter.mpr ⟨List.mem_of_getElem? (i := 765) (by decide +kernel), by decide +kernel⟩
theorem m_766 : Cond.code y_Mo_defended k_Mo_defended 4 (some .int) ∈ allw := List.mem_filter.mpr ⟨List.mem_of_getElem? (i := 766) (by decide +kernel), by decide +kernel⟩
theorem m_767 : Cond.methodLink "AttackBenchModel" 93 y_Mo_isFreeSet ∈ allw := List.mem_filter.mpr ⟨List.mem_of_getElem? (i := 767) (by decide +kernel), by decide +kernel⟩
theorem m_769 : Cond.instanceMethod y_Mo_isFreeSet ∈ allw := List.mem_filter.mpr ⟨List.mem_of_getElem? (i := 769) (by decide +kernel), by decide +kernel⟩
theorem m_770 : Cond.code y_Mo_isFreeSet k_Mo_isFreeSet 2 (some .boolean) ∈ allw := List.mem_filter.mpr ⟨List.mem_of_getElem? (i := 770) (by decide +kernel), by decide +kernel⟩
theorem m_771 : Cond.methodLink "AttackBenchModel" 96 y_Mo_adds ∈ allw := List.mem_filter.mpr ⟨List.mem_of_getElem? (i := 771) (by decide +kernel), by decide +kernel⟩
theorem m_773 : Cond.instanceMethod y_Mo_adds ∈ allw := List.mem_filter.mpr ⟨List.mem_of_getElem? (i := 773) (by decide +kernel), by decide +kernel⟩
theorem m_774 : Cond.code y_Mo_adds k_Mo_adds 3 none ∈ allw := List.mem_filter.mpr ⟨List.mem_of_getElem? (i := 774) (by decide +kernel), by decide +kernel⟩
theorem m_775 : Cond.methodLink "AttackBenchModel" 100 y_Mo_looksAbove ∈ allw := List.mem_filter.mpr ⟨List.mem_of_getElem? (i := 775) (by decide +kernel), by decide +kernel⟩
theorem m_777 : Cond.instanceMethod y_Mo_looksAbove ∈ allw := List.mem_filter.mpr ⟨List.mem_of_getElem? (i := 777) (by decide +kernel), by decide +kernel⟩
theorem m_778 : Cond.code y_Mo_looksAbove k_Mo_looksAbove 4 none ∈ allw := List.mem_filter.mpr ⟨List.mem_of_getElem? (i := 778) (by decide +kernel), by decide +kernel⟩
theorem m_779 : Cond.methodLink "AttackBenchModel" 103 y_Mo_goesRound ∈ allw := List.mem_filter.mpr ⟨List.mem_of_getElem? (i := 779) (by decide +kernel), by decide +kernel⟩
theorem m_781 : Cond.instanceMethod y_Mo_goesRound ∈ allw := List.mem_filter.mpr ⟨List.mem_of_getElem? (i := 781) (by decide +kernel), by decide +kernel⟩
theorem m_782 : Cond.code y_Mo_goesRound k_Mo_goesRound 4 none ∈ allw := List.mem_filter.mpr ⟨List.mem_of_getElem? (i := 782) (by decide +kernel), by decide +kernel⟩
theorem m_783 : Cond.methodLink "AttackBenchModel" 112 y_Mo_isSet ∈ allw := List.mem_filter.mpr ⟨List.mem_of_getElem? (i := 783) (by decide +kernel), by decide +kernel⟩
theorem m_785 : Cond.instanceMethod y_Mo_isSet ∈ allw := List.mem_filter.mpr ⟨List.mem_of_getElem? (i := 785) (by decide +kernel), by decide +kernel⟩
theorem m_786 : Cond.code y_Mo_isSet k_Mo_isSet 2 (some .boolean) ∈ allw := List.mem_filter.mpr ⟨List.mem_of_getElem? (i := 786) (by decide +kernel), by decide +kernel⟩
theorem m_787 : Cond.methodLink "AttackBenchLaw" 74 y_Mo_is ∈ allw := List.mem_filter.mpr ⟨List.mem_of_getElem? (i := 787) (by decide +kernel), by decide +kernel⟩
theorem m_788 : Cond.instanceMethod y_Mo_is ∈ allw := List.mem_filter.mpr ⟨List.mem_of_getElem? (i := 788) (by decide +kernel), by decide +kernel⟩
theorem m_789 : Cond.selects "AttackBenchModel" y_Mo_is y_Mo_is ∈ allw := List.mem_filter.mpr ⟨List.mem_of_getElem? (i := 789) (by decide +kernel), by decide +kernel⟩
theorem m_790 : Cond.code y_Mo_is k_Mo_is 3 (some .boolean) ∈ allw := List.mem_filter.mpr ⟨List.mem_of_getElem? (i := 790) (by decide +kernel), by decide +kernel⟩
theorem m_791 : Cond.methodLink "AttackBenchModel" 115 y_Mo_isKind ∈ allw := List.mem_filter.mpr ⟨List.mem_of_getElem? (i := 791) (by decide +kernel), by decide +kernel⟩
theorem m_792 : Cond.static y_Mo_isKind ∈ allw := List.mem_filter.mpr ⟨List.mem_of_getElem? (i := 792) (by decide +kernel), by decide +kernel⟩
theorem m_793 : Cond.code y_Mo_isKind k_Mo_isKind 1 (some .boolean) ∈ allw := List.mem_filter.mpr ⟨List.mem_of_getElem? (i := 793) (by decide +kernel), by decide +kernel⟩
theorem m_794 : Cond.methodLink "AttackBenchModel" 118 y_Mo_isOf ∈ allw := List.mem_filter.mpr ⟨List.mem_of_getElem? (i := 794) (by decide +kernel), by decide +kernel⟩
theorem m_796 : Cond.instanceMethod y_Mo_isOf ∈ allw := List.mem_filter.mpr ⟨List.mem_of_getElem? (i := 796) (by decide +kernel), by decide +kernel⟩
theorem m_797 : Cond.code y_Mo_isOf k_Mo_isOf 3 (some .boolean) ∈ allw := List.mem_filter.mpr ⟨List.mem_of_getElem? (i := 797) (by decide +kernel), by decide +kernel⟩
theorem m_798 : Cond.methodLink "AttackBenchLaw" 78 y_Mo_attackedBy ∈ allw := List.mem_filter.mpr ⟨List.mem_of_getElem? (i := 798) (by decide +kernel), by decide +kernel⟩
theorem m_799 : Cond.instanceMethod y_Mo_attackedBy ∈ allw := List.mem_filter.mpr ⟨List.mem_of_getElem? (i := 799) (by decide +kernel), by decide +kernel⟩
theorem m_800 : Cond.selects "AttackBenchModel" y_Mo_attackedBy y_Mo_attackedBy ∈ allw := List.mem_filter.mpr ⟨List.mem_of_getElem? (i := 800) (by decide +kernel), by decide +kernel⟩
theorem m_801 : Cond.code y_Mo_attackedBy k_Mo_attackedBy 2 (some .int) ∈ allw := List.mem_filter.mpr ⟨List.mem_of_getElem? (i := 801) (by decide +kernel), by decide +kernel⟩
theorem m_802 : Cond.methodLink "AttackBenchLaw" 82 y_Mo_defendedBy ∈ allw := List.mem_filter.mpr ⟨List.mem_of_getElem? (i := 802) (by decide +kernel), by decide +kernel⟩
theorem m_803 : Cond.instanceMethod y_Mo_defendedBy ∈ allw := List.mem_filter.mpr ⟨List.mem_of_getElem? (i := 803) (by decide +kernel), by decide +kernel⟩
theorem m_804 : Cond.selects "AttackBenchModel" y_Mo_defendedBy y_Mo_defendedBy ∈ allw := List.mem_filter.mpr ⟨List.mem_of_getElem? (i := 804) (by decide +kernel), by decide +kernel⟩
theorem m_805 : Cond.code y_Mo_defendedBy k_Mo_defendedBy 2 (some .int) ∈ allw := List.mem_filter.mpr ⟨List.mem_of_getElem? (i := 805) (by decide +kernel), by decide +kernel⟩
theorem m_806 : Cond.methodLink "AttackBenchLaw" 86 y_Mo_grounded ∈ allw := List.mem_filter.mpr ⟨List.mem_of_getElem? (i := 806) (by decide +kernel), by decide +kernel⟩
theorem m_807 : Cond.instanceMethod y_Mo_grounded ∈ allw := List.mem_filter.mpr ⟨List.mem_of_getElem? (i := 807) (by decide +kernel), by decide +kernel⟩
theorem m_808 : Cond.selects "AttackBenchModel" y_Mo_grounded y_Mo_grounded ∈ allw := List.mem_filter.mpr ⟨List.mem_of_getElem? (i := 808) (by decide +kernel), by decide +kernel⟩
theorem m_809 : Cond.code y_Mo_grounded k_Mo_grounded 1 (some .int) ∈ allw := List.mem_filter.mpr ⟨List.mem_of_getElem? (i := 809) (by decide +kernel), by decide +kernel⟩
theorem m_810 : Cond.methodLink "AttackBenchLaw" 90 y_Mo_round ∈ allw := List.mem_filter.mpr ⟨List.mem_of_getElem? (i := 810) (by decide +kernel), by decide +kernel⟩
theorem m_811 : Cond.instanceMethod y_Mo_round ∈ allw := List.mem_filter.mpr ⟨List.mem_of_getElem? (i := 811) (by decide +kernel), by decide +kernel⟩
theorem m_812 : Cond.selects "AttackBenchModel" y_Mo_round y_Mo_round ∈ allw := List.mem_filter.mpr ⟨List.mem_of_getElem? (i := 812) (by decide +kernel), by decide +kernel⟩
theorem m_813 : Cond.code y_Mo_round k_Mo_round 2 (some .int) ∈ allw := List.mem_filter.mpr ⟨List.mem_of_getElem? (i := 813) (by decide +kernel), by decide +kernel⟩
theorem m_814 : Cond.methodLink "AttackBenchLaw" 94 y_Mo_ideal ∈ allw := List.mem_filter.mpr ⟨List.mem_of_getElem? (i := 814) (by decide +kernel), by decide +kernel⟩
theorem m_815 : Cond.instanceMethod y_Mo_ideal ∈ allw := List.mem_filter.mpr ⟨List.mem_of_getElem? (i := 815) (by decide +kernel), by decide +kernel⟩
theorem m_816 : Cond.selects "AttackBenchModel" y_Mo_ideal y_Mo_ideal ∈ allw := List.mem_filter.mpr ⟨List.mem_of_getElem? (i := 816) (by decide +kernel), by decide +kernel⟩
theorem m_817 : Cond.code y_Mo_ideal k_Mo_ideal 4 (some .int) ∈ allw := List.mem_filter.mpr ⟨List.mem_of_getElem? (i := 817) (by decide +kernel), by decide +kernel⟩
theorem m_818 : Cond.methodLink "AttackBenchLaw" 100 y_Mo_start ∈ allw := List.mem_filter.mpr ⟨List.mem_of_getElem? (i := 818) (by decide +kernel), by decide +kernel⟩
theorem m_819 : Cond.instanceMethod y_Mo_start ∈ allw := List.mem_filter.mpr ⟨List.mem_of_getElem? (i := 819) (by decide +kernel), by decide +kernel⟩
theorem m_820 : Cond.selects "AttackBenchModel" y_Mo_start y_Mo_start ∈ allw := List.mem_filter.mpr ⟨List.mem_of_getElem? (i := 820) (by decide +kernel), by decide +kernel⟩
theorem m_821 : Cond.code y_Mo_start k_Mo_start 2 none ∈ allw := List.mem_filter.mpr ⟨List.mem_of_getElem? (i := 821) (by decide +kernel), by decide +kernel⟩
theorem m_822 : Cond.methodLink "AttackBenchLaw" 107 y_Mo_next ∈ allw := List.mem_filter.mpr ⟨List.mem_of_getElem? (i := 822) (by decide +kernel), by decide +kernel⟩
theorem m_823 : Cond.instanceMethod y_Mo_next ∈ allw := List.mem_filter.mpr ⟨List.mem_of_getElem? (i := 823) (by decide +kernel), by decide +kernel⟩
theorem m_824 : Cond.selects "AttackBenchModel" y_Mo_next y_Mo_next ∈ allw := List.mem_filter.mpr ⟨List.mem_of_getElem? (i := 824) (by decide +kernel), by decide +kernel⟩
theorem m_825 : Cond.code y_Mo_next k_Mo_next 2 (some .int) ∈ allw := List.mem_filter.mpr ⟨List.mem_of_getElem? (i := 825) (by decide +kernel), by decide +kernel⟩
theorem m_826 : Cond.methodLink "AttackBenchLaw" 111 y_Mo_label ∈ allw := List.mem_filter.mpr ⟨List.mem_of_getElem? (i := 826) (by decide +kernel), by decide +kernel⟩
theorem m_827 : Cond.instanceMethod y_Mo_label ∈ allw := List.mem_filter.mpr ⟨List.mem_of_getElem? (i := 827) (by decide +kernel), by decide +kernel⟩
theorem m_828 : Cond.selects "AttackBenchModel" y_Mo_label y_Mo_label ∈ allw := List.mem_filter.mpr ⟨List.mem_of_getElem? (i := 828) (by decide +kernel), by decide +kernel⟩
theorem m_829 : Cond.code y_Mo_label k_Mo_label 2 (some .int) ∈ allw := List.mem_filter.mpr ⟨List.mem_of_getElem? (i := 829) (by decide +kernel), by decide +kernel⟩
theorem m_830 : Cond.methodLink "AttackBenchLaw" 114 y_Mo_count ∈ allw := List.mem_filter.mpr ⟨List.mem_of_getElem? (i := 830) (by decide +kernel), by decide +kernel⟩
theorem m_831 : Cond.instanceMethod y_Mo_count ∈ allw := List.mem_filter.mpr ⟨List.mem_of_getElem? (i := 831) (by decide +kernel), by decide +kernel⟩
theorem m_832 : Cond.selects "AttackBenchModel" y_Mo_count y_Mo_count ∈ allw := List.mem_filter.mpr ⟨List.mem_of_getElem? (i := 832) (by decide +kernel), by decide +kernel⟩
theorem m_833 : Cond.code y_Mo_count k_Mo_count 4 (some .int) ∈ allw := List.mem_filter.mpr ⟨List.mem_of_getElem? (i := 833) (by decide +kernel), by decide +kernel⟩
theorem m_834 : Cond.methodLink "AttackBenchLaw" 118 y_Mo_holds ∈ allw := List.mem_filter.mpr ⟨List.mem_of_getElem? (i := 834) (by decide +kernel), by decide +kernel⟩
theorem m_835 : Cond.instanceMethod y_Mo_holds ∈ allw := List.mem_filter.mpr ⟨List.mem_of_getElem? (i := 835) (by decide +kernel), by decide +kernel⟩
theorem m_836 : Cond.selects "AttackBenchModel" y_Mo_holds y_Mo_holds ∈ allw := List.mem_filter.mpr ⟨List.mem_of_getElem? (i := 836) (by decide +kernel), by decide +kernel⟩
theorem m_837 : Cond.code y_Mo_holds k_Mo_holds 7 (some .boolean) ∈ allw := List.mem_filter.mpr ⟨List.mem_of_getElem? (i := 837) (by decide +kernel), by decide +kernel⟩
theorem m_838 : Cond.methodLink "AttackBenchLaw" 121 y_Mo_dialogue ∈ allw := List.mem_filter.mpr ⟨List.mem_of_getElem? (i := 838) (by decide +kernel), by decide +kernel⟩
theorem m_839 : Cond.instanceMethod y_Mo_dialogue ∈ allw := List.mem_filter.mpr ⟨List.mem_of_getElem? (i := 839) (by decide +kernel), by decide +kernel⟩
theorem m_840 : Cond.selects "AttackBenchModel" y_Mo_dialogue y_Mo_dialogue ∈ allw := List.mem_filter.mpr ⟨List.mem_of_getElem? (i := 840) (by decide +kernel), by decide +kernel⟩
theorem m_841 : Cond.code y_Mo_dialogue k_Mo_dialogue 4 (some .int) ∈ allw := List.mem_filter.mpr ⟨List.mem_of_getElem? (i := 841) (by decide +kernel), by decide +kernel⟩
theorem m_842 : Cond.methodLink "AttackBenchModel" 134 y_Mo_puts ∈ allw := List.mem_filter.mpr ⟨List.mem_of_getElem? (i := 842) (by decide +kernel), by decide +kernel⟩
theorem m_844 : Cond.instanceMethod y_Mo_puts ∈ allw := List.mem_filter.mpr ⟨List.mem_of_getElem? (i := 844) (by decide +kernel), by decide +kernel⟩
theorem m_845 : Cond.code y_Mo_puts k_Mo_puts 4 none ∈ allw := List.mem_filter.mpr ⟨List.mem_of_getElem? (i := 845) (by decide +kernel), by decide +kernel⟩
theorem m_846 : Cond.methodLink "AttackBenchModel" 138 y_Mo_against ∈ allw := List.mem_filter.mpr ⟨List.mem_of_getElem? (i := 846) (by decide +kernel), by decide +kernel⟩
theorem m_848 : Cond.instanceMethod y_Mo_against ∈ allw := List.mem_filter.mpr ⟨List.mem_of_getElem? (i := 848) (by decide +kernel), by decide +kernel⟩
theorem m_849 : Cond.code y_Mo_against k_Mo_against 5 (some .int) ∈ allw := List.mem_filter.mpr ⟨List.mem_of_getElem? (i := 849) (by decide +kernel), by decide +kernel⟩
theorem m_850 : Cond.methodLink "AttackBenchLaw" 125 y_Mo_move ∈ allw := List.mem_filter.mpr ⟨List.mem_of_getElem? (i := 850) (by decide +kernel), by decide +kernel⟩
theorem m_851 : Cond.instanceMethod y_Mo_move ∈ allw := List.mem_filter.mpr ⟨List.mem_of_getElem? (i := 851) (by decide +kernel), by decide +kernel⟩
theorem m_852 : Cond.selects "AttackBenchModel" y_Mo_move y_Mo_move ∈ allw := List.mem_filter.mpr ⟨List.mem_of_getElem? (i := 852) (by decide +kernel), by decide +kernel⟩
theorem m_853 : Cond.code y_Mo_move k_Mo_move 3 (some .int) ∈ allw := List.mem_filter.mpr ⟨List.mem_of_getElem? (i := 853) (by decide +kernel), by decide +kernel⟩
theorem m_854 : Cond.methodLink "AttackBenchLaw" 129 y_Mo_circle ∈ allw := List.mem_filter.mpr ⟨List.mem_of_getElem? (i := 854) (by decide +kernel), by decide +kernel⟩
theorem m_855 : Cond.instanceMethod y_Mo_circle ∈ allw := List.mem_filter.mpr ⟨List.mem_of_getElem? (i := 855) (by decide +kernel), by decide +kernel⟩
theorem m_856 : Cond.selects "AttackBenchModel" y_Mo_circle y_Mo_circle ∈ allw := List.mem_filter.mpr ⟨List.mem_of_getElem? (i := 856) (by decide +kernel), by decide +kernel⟩
theorem m_857 : Cond.code y_Mo_circle k_Mo_circle 3 (some .int) ∈ allw := List.mem_filter.mpr ⟨List.mem_of_getElem? (i := 857) (by decide +kernel), by decide +kernel⟩
theorem m_858 : Cond.methodLink "AttackBenchModel" 147 y_Mo_numbers ∈ allw := List.mem_filter.mpr ⟨List.mem_of_getElem? (i := 858) (by decide +kernel), by decide +kernel⟩
theorem m_860 : Cond.instanceMethod y_Mo_numbers ∈ allw := List.mem_filter.mpr ⟨List.mem_of_getElem? (i := 860) (by decide +kernel), by decide +kernel⟩
theorem m_861 : Cond.code y_Mo_numbers k_Mo_numbers 6 (some .int) ∈ allw := List.mem_filter.mpr ⟨List.mem_of_getElem? (i := 861) (by decide +kernel), by decide +kernel⟩
theorem m_862 : Cond.methodLink "AttackBenchModel" 141 y_Mo_from ∈ allw := List.mem_filter.mpr ⟨List.mem_of_getElem? (i := 862) (by decide +kernel), by decide +kernel⟩
theorem m_864 : Cond.instanceMethod y_Mo_from ∈ allw := List.mem_filter.mpr ⟨List.mem_of_getElem? (i := 864) (by decide +kernel), by decide +kernel⟩
theorem m_865 : Cond.code y_Mo_from k_Mo_from 4 (some .int) ∈ allw := List.mem_filter.mpr ⟨List.mem_of_getElem? (i := 865) (by decide +kernel), by decide +kernel⟩
theorem m_866 : Cond.methodLink "AttackBenchModel" 144 y_Mo_both ∈ allw := List.mem_filter.mpr ⟨List.mem_of_getElem? (i := 866) (by decide +kernel), by decide +kernel⟩
theorem m_868 : Cond.instanceMethod y_Mo_both ∈ allw := List.mem_filter.mpr ⟨List.mem_of_getElem? (i := 868) (by decide +kernel), by decide +kernel⟩
theorem m_869 : Cond.code y_Mo_both k_Mo_both 2 (some .int) ∈ allw := List.mem_filter.mpr ⟨List.mem_of_getElem? (i := 869) (by decide +kernel), by decide +kernel⟩
theorem m_870 : Cond.methodLink "AttackBenchLaw" 133 y_Mo_circles ∈ allw := List.mem_filter.mpr ⟨List.mem_of_getElem? (i := 870) (by decide +kernel), by decide +kernel⟩
theorem m_871 : Cond.instanceMethod y_Mo_circles ∈ allw := List.mem_filter.mpr ⟨List.mem_of_getElem? (i := 871) (by decide +kernel), by decide +kernel⟩
theorem m_872 : Cond.selects "AttackBenchModel" y_Mo_circles y_Mo_circles ∈ allw := List.mem_filter.mpr ⟨List.mem_of_getElem? (i := 872) (by decide +kernel), by decide +kernel⟩
theorem m_873 : Cond.code y_Mo_circles k_Mo_circles 1 (some .int) ∈ allw := List.mem_filter.mpr ⟨List.mem_of_getElem? (i := 873) (by decide +kernel), by decide +kernel⟩
theorem m_874 : Cond.arrayClass .long ∈ allw := List.mem_filter.mpr ⟨List.mem_of_getElem? (i := 874) (by decide +kernel), by decide +kernel⟩
theorem rd_AB_init : RD y_AB_init k_AB_init 1 none 0 := ⟨m_55, m_38, by decide +kernel, by decide +kernel⟩
theorem rd_Web_init : RD y_Web_init k_Web_init 1 none 0 := ⟨m_63, m_39, by decide +kernel, by decide +kernel⟩
theorem rd_Senses_init : RD y_Senses_init k_Senses_init 1 none 0 := ⟨m_80, m_40, by decide +kernel, by decide +kernel⟩
theorem rd_Listing_init : RD y_Listing_init k_Listing_init 1 none 0 := ⟨m_105, m_41, by decide +kernel, by decide +kernel⟩
theorem rd_Grounds_init : RD y_Grounds_init k_Grounds_init 1 none 0 := ⟨m_124, m_42, by decide +kernel, by decide +kernel⟩
theorem rd_Talk_init : RD y_Talk_init k_Talk_init 1 none 0 := ⟨m_137, m_43, by decide +kernel, by decide +kernel⟩
theorem rd_Rings_init : RD y_Rings_init k_Rings_init 1 none 0 := ⟨m_159, m_44, by decide +kernel, by decide +kernel⟩
theorem rd_AB_claim : RD y_AB_claim k_AB_claim 2 (some .int) 0 := ⟨m_193, m_38, by decide +kernel, by decide +kernel⟩
theorem rd_Web_hasRoomFor : RD y_Web_hasRoomFor k_Web_hasRoomFor 2 (some .boolean) 1 := ⟨m_197, m_39, by decide +kernel, by decide +kernel⟩
theorem rd_Web_add : RD y_Web_add k_Web_add 1 (some .int) 0 := ⟨m_201, m_39, by decide +kernel, by decide +kernel⟩
theorem rd_AB_changed : RD y_AB_changed k_AB_changed 1 none 0 := ⟨m_206, m_38, by decide +kernel, by decide +kernel⟩
theorem rd_Listing_end : RD y_Listing_end k_Listing_end 1 none 0 := ⟨m_210, m_41, by decide +kernel, by decide +kernel⟩
theorem rd_Senses_forget : RD y_Senses_forget k_Senses_forget 1 none 0 := ⟨m_214, m_40, by decide +kernel, by decide +kernel⟩
theorem rd_AB_attack : RD y_AB_attack k_AB_attack 4 (some .boolean) 3 := ⟨m_218, m_38, by decide +kernel, by decide +kernel⟩
theorem rd_Web_has : RD y_Web_has k_Web_has 2 (some .boolean) 1 := ⟨m_222, m_39, by decide +kernel, by decide +kernel⟩
theorem rd_Web_leads : RD y_Web_leads k_Web_leads 3 (some .boolean) 2 := ⟨m_226, m_39, by decide +kernel, by decide +kernel⟩
theorem rd_AB_isIn : RD y_AB_isIn k_AB_isIn 2 (some .boolean) 2 := ⟨m_230, m_38, by decide +kernel, by decide +kernel⟩
theorem rd_Web_put : RD y_Web_put k_Web_put 4 none 3 := ⟨m_234, m_39, by decide +kernel, by decide +kernel⟩
theorem rd_AB_attacks : RD y_AB_attacks k_AB_attacks 3 (some .boolean) 2 := ⟨m_238, m_38, by decide +kernel, by decide +kernel⟩
theorem rd_AB_joint : RD y_AB_joint k_AB_joint 7 (some .int) 3 := ⟨m_242, m_38, by decide +kernel, by decide +kernel⟩
theorem rd_AB_support : RD y_AB_support k_AB_support 4 (some .int) 2 := ⟨m_246, m_38, by decide +kernel, by decide +kernel⟩
theorem rd_AB_arguments : RD y_AB_arguments k_AB_arguments 1 (some .int) 0 := ⟨m_250, m_38, by decide +kernel, by decide +kernel⟩
theorem rd_Web_size : RD y_Web_size k_Web_size 1 (some .int) 0 := ⟨m_254, m_39, by decide +kernel, by decide +kernel⟩
theorem rd_AB_isFree : RD y_AB_isFree k_AB_isFree 2 (some .boolean) 1 := ⟨m_258, m_38, by decide +kernel, by decide +kernel⟩
theorem rd_Web_hasSet : RD y_Web_hasSet k_Web_hasSet 2 (some .boolean) 1 := ⟨m_262, m_39, by decide +kernel, by decide +kernel⟩
theorem rd_Web_everything : RD y_Web_everything k_Web_everything 1 (some .int) 0 := ⟨m_266, m_39, by decide +kernel, by decide +kernel⟩
theorem rd_AB_isWithin : RD y_AB_isWithin k_AB_isWithin 2 (some .boolean) 2 := ⟨m_269, m_38, by decide +kernel, by decide +kernel⟩
theorem rd_Web_targetsOf : RD y_Web_targetsOf k_Web_targetsOf 4 (some .int) 1 := ⟨m_273, m_39, by decide +kernel, by decide +kernel⟩
theorem rd_AB_is : RD y_AB_is k_AB_is 3 (some .boolean) 2 := ⟨m_277, m_38, by decide +kernel, by decide +kernel⟩
theorem rd_AB_isKind : RD y_AB_isKind k_AB_isKind 1 (some .boolean) 1 := ⟨m_280, m_38, by decide +kernel, by decide +kernel⟩
theorem rd_Senses_learn : RD y_Senses_learn k_Senses_learn 3 none 1 := ⟨m_284, m_40, by decide +kernel, by decide +kernel⟩
theorem rd_Senses_fillTargets : RD y_Senses_fillTargets k_Senses_fillTargets 6 none 1 := ⟨m_289, m_40, by decide +kernel, by decide +kernel⟩
theorem rd_Web_targetsOfOne : RD y_Web_targetsOfOne k_Web_targetsOfOne 2 (some .int) 1 := ⟨m_294, m_39, by decide +kernel, by decide +kernel⟩
theorem rd_Senses_ownMarks : RD y_Senses_ownMarks k_Senses_ownMarks 5 (some .int) 1 := ⟨m_298, m_40, by decide +kernel, by decide +kernel⟩
theorem rd_Senses_hitBy : RD y_Senses_hitBy k_Senses_hitBy 2 (some .int) 1 := ⟨m_302, m_40, by decide +kernel, by decide +kernel⟩
theorem rd_Senses_isNumber : RD y_Senses_isNumber k_Senses_isNumber 1 (some .boolean) 1 := ⟨m_305, m_40, by decide +kernel, by decide +kernel⟩
theorem rd_Senses_rangeOf : RD y_Senses_rangeOf k_Senses_rangeOf 2 (some .int) 1 := ⟨m_309, m_40, by decide +kernel, by decide +kernel⟩
theorem rd_Senses_markPreferred : RD y_Senses_markPreferred k_Senses_markPreferred 2 none 0 := ⟨m_314, m_40, by decide +kernel, by decide +kernel⟩
theorem rd_Senses_hasMark : RD y_Senses_hasMark k_Senses_hasMark 3 (some .boolean) 2 := ⟨m_318, m_40, by decide +kernel, by decide +kernel⟩
theorem rd_Senses_isNewTop : RD y_Senses_isNewTop k_Senses_isNewTop 3 (some .boolean) 1 := ⟨m_322, m_40, by decide +kernel, by decide +kernel⟩
theorem rd_Senses_mark : RD y_Senses_mark k_Senses_mark 3 none 2 := ⟨m_326, m_40, by decide +kernel, by decide +kernel⟩
theorem rd_Senses_markRanges : RD y_Senses_markRanges k_Senses_markRanges 2 none 0 := ⟨m_330, m_40, by decide +kernel, by decide +kernel⟩
theorem rd_Senses_markStage : RD y_Senses_markStage k_Senses_markStage 2 none 0 := ⟨m_334, m_40, by decide +kernel, by decide +kernel⟩
theorem rd_Senses_isOf : RD y_Senses_isOf k_Senses_isOf 3 (some .boolean) 2 := ⟨m_338, m_40, by decide +kernel, by decide +kernel⟩
theorem rd_AB_attackedBy : RD y_AB_attackedBy k_AB_attackedBy 2 (some .int) 1 := ⟨m_342, m_38, by decide +kernel, by decide +kernel⟩
theorem rd_AB_defendedBy : RD y_AB_defendedBy k_AB_defendedBy 2 (some .int) 1 := ⟨m_346, m_38, by decide +kernel, by decide +kernel⟩
theorem rd_Web_defendedOf : RD y_Web_defendedOf k_Web_defendedOf 3 (some .int) 1 := ⟨m_350, m_39, by decide +kernel, by decide +kernel⟩
theorem rd_AB_grounded : RD y_AB_grounded k_AB_grounded 1 (some .int) 0 := ⟨m_355, m_38, by decide +kernel, by decide +kernel⟩
theorem rd_Grounds_settle : RD y_Grounds_settle k_Grounds_settle 4 none 1 := ⟨m_359, m_42, by decide +kernel, by decide +kernel⟩
theorem rd_Grounds_noteRound : RD y_Grounds_noteRound k_Grounds_noteRound 4 none 2 := ⟨m_364, m_42, by decide +kernel, by decide +kernel⟩
theorem rd_Grounds_all : RD y_Grounds_all k_Grounds_all 1 (some .int) 0 := ⟨m_369, m_42, by decide +kernel, by decide +kernel⟩
theorem rd_AB_round : RD y_AB_round k_AB_round 2 (some .int) 1 := ⟨m_373, m_38, by decide +kernel, by decide +kernel⟩
theorem rd_Grounds_roundOf : RD y_Grounds_roundOf k_Grounds_roundOf 2 (some .int) 1 := ⟨m_377, m_42, by decide +kernel, by decide +kernel⟩
theorem rd_AB_ideal : RD y_AB_ideal k_AB_ideal 1 (some .int) 0 := ⟨m_381, m_38, by decide +kernel, by decide +kernel⟩
theorem rd_Senses_meet : RD y_Senses_meet k_Senses_meet 4 (some .int) 1 := ⟨m_385, m_40, by decide +kernel, by decide +kernel⟩
theorem rd_Senses_joinWithin : RD y_Senses_joinWithin k_Senses_joinWithin 5 (some .int) 2 := ⟨m_390, m_40, by decide +kernel, by decide +kernel⟩
theorem rd_AB_move : RD y_AB_move k_AB_move 3 (some .int) 2 := ⟨m_394, m_38, by decide +kernel, by decide +kernel⟩
theorem rd_Talk_tell : RD y_Talk_tell k_Talk_tell 3 (some .int) 2 := ⟨m_398, m_43, by decide +kernel, by decide +kernel⟩
theorem rd_AB_circle : RD y_AB_circle k_AB_circle 2 (some .int) 1 := ⟨m_402, m_38, by decide +kernel, by decide +kernel⟩
theorem rd_Rings_find : RD y_Rings_find k_Rings_find 5 none 1 := ⟨m_406, m_44, by decide +kernel, by decide +kernel⟩
theorem rd_Rings_fillReach : RD y_Rings_fillReach k_Rings_fillReach 4 none 1 := ⟨m_410, m_44, by decide +kernel, by decide +kernel⟩
theorem rd_Rings_firstReady : RD y_Rings_firstReady k_Rings_firstReady 5 (some .int) 2 := ⟨m_417, m_44, by decide +kernel, by decide +kernel⟩
theorem rd_Rings_around : RD y_Rings_around k_Rings_around 5 (some .int) 2 := ⟨m_421, m_44, by decide +kernel, by decide +kernel⟩
theorem rd_Rings_comesTo : RD y_Rings_comesTo k_Rings_comesTo 3 (some .boolean) 2 := ⟨m_425, m_44, by decide +kernel, by decide +kernel⟩
theorem rd_Web_attackersOf : RD y_Web_attackersOf k_Web_attackersOf 4 (some .int) 1 := ⟨m_429, m_39, by decide +kernel, by decide +kernel⟩
theorem rd_Rings_number : RD y_Rings_number k_Rings_number 3 none 1 := ⟨m_434, m_44, by decide +kernel, by decide +kernel⟩
theorem rd_Rings_ringOf : RD y_Rings_ringOf k_Rings_ringOf 2 (some .int) 1 := ⟨m_438, m_44, by decide +kernel, by decide +kernel⟩
theorem rd_AB_circles : RD y_AB_circles k_AB_circles 1 (some .int) 0 := ⟨m_442, m_38, by decide +kernel, by decide +kernel⟩
theorem rd_Rings_size : RD y_Rings_size k_Rings_size 1 (some .int) 0 := ⟨m_446, m_44, by decide +kernel, by decide +kernel⟩
theorem rd_AB_start : RD y_AB_start k_AB_start 2 none 1 := ⟨m_454, m_38, by decide +kernel, by decide +kernel⟩
theorem rd_Listing_begin : RD y_Listing_begin k_Listing_begin 2 none 1 := ⟨m_525, m_41, by decide +kernel, by decide +kernel⟩
theorem rd_AB_next : RD y_AB_next k_AB_next 1 (some .int) 0 := ⟨m_533, m_38, by decide +kernel, by decide +kernel⟩
theorem rd_Listing_isOpen : RD y_Listing_isOpen k_Listing_isOpen 1 (some .boolean) 0 := ⟨m_537, m_41, by decide +kernel, by decide +kernel⟩
theorem rd_Listing_tell : RD y_Listing_tell k_Listing_tell 3 (some .int) 1 := ⟨m_557, m_41, by decide +kernel, by decide +kernel⟩
theorem rd_Senses_everything : RD y_Senses_everything k_Senses_everything 1 (some .int) 0 := ⟨m_561, m_40, by decide +kernel, by decide +kernel⟩
theorem rd_AB_label : RD y_AB_label k_AB_label 3 (some .int) 1 := ⟨m_570, m_38, by decide +kernel, by decide +kernel⟩
theorem rd_Listing_told : RD y_Listing_told k_Listing_told 1 (some .int) 0 := ⟨m_575, m_41, by decide +kernel, by decide +kernel⟩
theorem rd_AB_count : RD y_AB_count k_AB_count 2 (some .int) 1 := ⟨m_584, m_38, by decide +kernel, by decide +kernel⟩
theorem rd_Senses_tally : RD y_Senses_tally k_Senses_tally 4 (some .int) 1 := ⟨m_588, m_40, by decide +kernel, by decide +kernel⟩
theorem rd_AB_holds : RD y_AB_holds k_AB_holds 4 (some .boolean) 3 := ⟨m_595, m_38, by decide +kernel, by decide +kernel⟩
theorem rd_AB_dialogue : RD y_AB_dialogue k_AB_dialogue 2 (some .int) 1 := ⟨m_604, m_38, by decide +kernel, by decide +kernel⟩
theorem rd_Talk_about : RD y_Talk_about k_Talk_about 4 (some .int) 3 := ⟨m_608, m_43, by decide +kernel, by decide +kernel⟩
theorem rd_Talk_defend : RD y_Talk_defend k_Talk_defend 10 none 5 := ⟨m_613, m_43, by decide +kernel, by decide +kernel⟩
theorem rd_Talk_say : RD y_Talk_say k_Talk_say 4 (some .int) 3 := ⟨m_617, m_43, by decide +kernel, by decide +kernel⟩
theorem rd_Web_attackersOfOne : RD y_Web_attackersOfOne k_Web_attackersOfOne 2 (some .int) 1 := ⟨m_621, m_39, by decide +kernel, by decide +kernel⟩
theorem rd_Grounds_earliestIn : RD y_Grounds_earliestIn k_Grounds_earliestIn 4 (some .int) 1 := ⟨m_626, m_42, by decide +kernel, by decide +kernel⟩
theorem rd_Mo_init : RD y_Mo_init k_Mo_init 1 none 0 := ⟨m_632, m_45, by decide +kernel, by decide +kernel⟩
theorem rd_Mo_thrown : RD y_Mo_thrown k_Mo_thrown 1 (some .int) 0 := ⟨m_714, m_45, by decide +kernel, by decide +kernel⟩
theorem rd_Mo_claim : RD y_Mo_claim k_Mo_claim 1 (some .int) 0 := ⟨m_718, m_45, by decide +kernel, by decide +kernel⟩
theorem rd_Mo_comes : RD y_Mo_comes k_Mo_comes 1 (some .int) 0 := ⟨m_722, m_45, by decide +kernel, by decide +kernel⟩
theorem rd_Mo_changes : RD y_Mo_changes k_Mo_changes 1 none 0 := ⟨m_726, m_45, by decide +kernel, by decide +kernel⟩
theorem rd_Mo_attack : RD y_Mo_attack k_Mo_attack 4 (some .boolean) 3 := ⟨m_730, m_45, by decide +kernel, by decide +kernel⟩
theorem rd_Mo_isArgument : RD y_Mo_isArgument k_Mo_isArgument 2 (some .boolean) 1 := ⟨m_734, m_45, by decide +kernel, by decide +kernel⟩
theorem rd_Mo_sets : RD y_Mo_sets k_Mo_sets 4 none 3 := ⟨m_738, m_45, by decide +kernel, by decide +kernel⟩
theorem rd_Mo_attacks : RD y_Mo_attacks k_Mo_attacks 3 (some .boolean) 2 := ⟨m_742, m_45, by decide +kernel, by decide +kernel⟩
theorem rd_Mo_joint : RD y_Mo_joint k_Mo_joint 7 (some .int) 3 := ⟨m_746, m_45, by decide +kernel, by decide +kernel⟩
theorem rd_Mo_support : RD y_Mo_support k_Mo_support 4 (some .int) 2 := ⟨m_750, m_45, by decide +kernel, by decide +kernel⟩
theorem rd_Mo_arguments : RD y_Mo_arguments k_Mo_arguments 1 (some .int) 0 := ⟨m_754, m_45, by decide +kernel, by decide +kernel⟩
theorem rd_Mo_isFree : RD y_Mo_isFree k_Mo_isFree 2 (some .boolean) 1 := ⟨m_758, m_45, by decide +kernel, by decide +kernel⟩
theorem rd_Mo_reckon : RD y_Mo_reckon k_Mo_reckon 4 none 0 := ⟨m_762, m_45, by decide +kernel, by decide +kernel⟩
theorem rd_Mo_defended : RD y_Mo_defended k_Mo_defended 4 (some .int) 1 := ⟨m_766, m_45, by decide +kernel, by decide +kernel⟩
theorem rd_Mo_isFreeSet : RD y_Mo_isFreeSet k_Mo_isFreeSet 2 (some .boolean) 1 := ⟨m_770, m_45, by decide +kernel, by decide +kernel⟩
theorem rd_Mo_adds : RD y_Mo_adds k_Mo_adds 3 none 2 := ⟨m_774, m_45, by decide +kernel, by decide +kernel⟩
theorem rd_Mo_looksAbove : RD y_Mo_looksAbove k_Mo_looksAbove 4 none 0 := ⟨m_778, m_45, by decide +kernel, by decide +kernel⟩
theorem rd_Mo_goesRound : RD y_Mo_goesRound k_Mo_goesRound 4 none 0 := ⟨m_782, m_45, by decide +kernel, by decide +kernel⟩
theorem rd_Mo_isSet : RD y_Mo_isSet k_Mo_isSet 2 (some .boolean) 1 := ⟨m_786, m_45, by decide +kernel, by decide +kernel⟩
theorem rd_Mo_is : RD y_Mo_is k_Mo_is 3 (some .boolean) 2 := ⟨m_790, m_45, by decide +kernel, by decide +kernel⟩
theorem rd_Mo_isKind : RD y_Mo_isKind k_Mo_isKind 1 (some .boolean) 1 := ⟨m_793, m_45, by decide +kernel, by decide +kernel⟩
theorem rd_Mo_isOf : RD y_Mo_isOf k_Mo_isOf 3 (some .boolean) 2 := ⟨m_797, m_45, by decide +kernel, by decide +kernel⟩
theorem rd_Mo_attackedBy : RD y_Mo_attackedBy k_Mo_attackedBy 2 (some .int) 1 := ⟨m_801, m_45, by decide +kernel, by decide +kernel⟩
theorem rd_Mo_defendedBy : RD y_Mo_defendedBy k_Mo_defendedBy 2 (some .int) 1 := ⟨m_805, m_45, by decide +kernel, by decide +kernel⟩
theorem rd_Mo_grounded : RD y_Mo_grounded k_Mo_grounded 1 (some .int) 0 := ⟨m_809, m_45, by decide +kernel, by decide +kernel⟩
theorem rd_Mo_round : RD y_Mo_round k_Mo_round 2 (some .int) 1 := ⟨m_813, m_45, by decide +kernel, by decide +kernel⟩
theorem rd_Mo_ideal : RD y_Mo_ideal k_Mo_ideal 4 (some .int) 0 := ⟨m_817, m_45, by decide +kernel, by decide +kernel⟩
theorem rd_Mo_start : RD y_Mo_start k_Mo_start 2 none 1 := ⟨m_821, m_45, by decide +kernel, by decide +kernel⟩
theorem rd_Mo_next : RD y_Mo_next k_Mo_next 2 (some .int) 0 := ⟨m_825, m_45, by decide +kernel, by decide +kernel⟩
theorem rd_Mo_label : RD y_Mo_label k_Mo_label 2 (some .int) 1 := ⟨m_829, m_45, by decide +kernel, by decide +kernel⟩
theorem rd_Mo_count : RD y_Mo_count k_Mo_count 4 (some .int) 1 := ⟨m_833, m_45, by decide +kernel, by decide +kernel⟩
theorem rd_Mo_holds : RD y_Mo_holds k_Mo_holds 7 (some .boolean) 3 := ⟨m_837, m_45, by decide +kernel, by decide +kernel⟩
theorem rd_Mo_dialogue : RD y_Mo_dialogue k_Mo_dialogue 4 (some .int) 1 := ⟨m_841, m_45, by decide +kernel, by decide +kernel⟩
theorem rd_Mo_puts : RD y_Mo_puts k_Mo_puts 4 none 3 := ⟨m_845, m_45, by decide +kernel, by decide +kernel⟩
theorem rd_Mo_against : RD y_Mo_against k_Mo_against 5 (some .int) 1 := ⟨m_849, m_45, by decide +kernel, by decide +kernel⟩
theorem rd_Mo_move : RD y_Mo_move k_Mo_move 3 (some .int) 2 := ⟨m_853, m_45, by decide +kernel, by decide +kernel⟩
theorem rd_Mo_circle : RD y_Mo_circle k_Mo_circle 3 (some .int) 1 := ⟨m_857, m_45, by decide +kernel, by decide +kernel⟩
theorem rd_Mo_numbers : RD y_Mo_numbers k_Mo_numbers 6 (some .int) 0 := ⟨m_861, m_45, by decide +kernel, by decide +kernel⟩
theorem rd_Mo_from : RD y_Mo_from k_Mo_from 4 (some .int) 1 := ⟨m_865, m_45, by decide +kernel, by decide +kernel⟩
theorem rd_Mo_both : RD y_Mo_both k_Mo_both 2 (some .int) 1 := ⟨m_869, m_45, by decide +kernel, by decide +kernel⟩
theorem rd_Mo_circles : RD y_Mo_circles k_Mo_circles 1 (some .int) 0 := ⟨m_873, m_45, by decide +kernel, by decide +kernel⟩
