theorem k_0 : Cond.selects R_V y_V_commitAt y_V_commitAt ∈ zt := zm (List.mem_of_getElem? (i := 0) rfl) rfl
theorem k_1 : Cond.selects R_V y_V_isCommit y_V_isCommit ∈ zt := zm (List.mem_of_getElem? (i := 1) rfl) rfl
theorem k_2 : Cond.selects R_V y_V_commitDraft y_V_commitDraft ∈ zt := zm (List.mem_of_getElem? (i := 2) rfl) rfl
theorem k_3 : Cond.selects R_V y_V_moveHead y_V_moveHead ∈ zt := zm (List.mem_of_getElem? (i := 3) rfl) rfl
theorem k_4 : Cond.selects R_V y_V_draftMerging y_V_draftMerging ∈ zt := zm (List.mem_of_getElem? (i := 4) rfl) rfl
theorem k_5 : Cond.selects R_V y_V_layBase y_V_layBase ∈ zt := zm (List.mem_of_getElem? (i := 5) rfl) rfl
theorem k_6 : Cond.selects R_V y_V_meetsOf y_V_meetsOf ∈ zt := zm (List.mem_of_getElem? (i := 6) rfl) rfl
theorem k_7 : Cond.selects R_M y_M_mergedQueue y_M_mergedQueue ∈ zt := zm (List.mem_of_getElem? (i := 7) rfl) rfl
theorem k_8 : Cond.selects R_M y_M_leastFree y_M_leastFree ∈ zt := zm (List.mem_of_getElem? (i := 8) rfl) rfl
theorem k_9 : Cond.selects R_R y_R_unfit y_R_unfit ∈ zt := zm (List.mem_of_getElem? (i := 9) rfl) rfl
theorem k_10 : Cond.selects R_R y_R_placeOf y_R_placeOf ∈ zt := zm (List.mem_of_getElem? (i := 10) rfl) rfl
theorem k_11 : Cond.selects R_R y_R_copy y_R_copy ∈ zt := zm (List.mem_of_getElem? (i := 11) rfl) rfl
theorem k_12 : Cond.selects R_R y_R_apply y_R_apply ∈ zt := zm (List.mem_of_getElem? (i := 12) rfl) rfl
theorem k_13 : Cond.selects R_R y_R_commit y_R_commit ∈ zt := zm (List.mem_of_getElem? (i := 13) rfl) rfl
theorem k_14 : Cond.selects R_R y_R_hashOf y_R_hashOf ∈ zt := zm (List.mem_of_getElem? (i := 14) rfl) rfl
theorem k_15 : Cond.selects R_R y_R_move y_R_move ∈ zt := zm (List.mem_of_getElem? (i := 15) rfl) rfl
theorem k_16 : Cond.selects R_R y_R_isCommit y_R_isCommit ∈ zt := zm (List.mem_of_getElem? (i := 16) rfl) rfl
theorem k_17 : Cond.selects R_R y_R_isAbove y_R_isAbove ∈ zt := zm (List.mem_of_getElem? (i := 17) rfl) rfl
theorem k_18 : Cond.selects R_R y_R_base y_R_base ∈ zt := zm (List.mem_of_getElem? (i := 18) rfl) rfl
theorem k_19 : Cond.selects R_R y_R_enter y_R_enter ∈ zt := zm (List.mem_of_getElem? (i := 19) rfl) rfl
theorem k_20 : Cond.selects R_R y_R_meetOf y_R_meetOf ∈ zt := zm (List.mem_of_getElem? (i := 20) rfl) rfl
theorem k_21 : Cond.selects R_R y_R_mergeTrees y_R_mergeTrees ∈ zt := zm (List.mem_of_getElem? (i := 21) rfl) rfl
theorem k_22 : Cond.selects R_R y_R_mergeQueues y_R_mergeQueues ∈ zt := zm (List.mem_of_getElem? (i := 22) rfl) rfl
theorem k_23 : Cond.selects R_R y_R_member y_R_member ∈ zt := zm (List.mem_of_getElem? (i := 23) rfl) rfl
theorem k_24 : Cond.selects R_R y_R_goesBefore y_R_goesBefore ∈ zt := zm (List.mem_of_getElem? (i := 24) rfl) rfl
theorem k_25 : Cond.selects R_R y_R_before y_R_before ∈ zt := zm (List.mem_of_getElem? (i := 25) rfl) rfl
theorem k_26 : Cond.selects R_R y_R_optionTorn y_R_optionTorn ∈ zt := zm (List.mem_of_getElem? (i := 26) rfl) rfl
theorem k_27 : Cond.selects R_R y_R_mergeOptions y_R_mergeOptions ∈ zt := zm (List.mem_of_getElem? (i := 27) rfl) rfl
theorem k_28 : Cond.initialized R_L ∈ zt := zm (List.mem_of_getElem? (i := 28) rfl) rfl
theorem k_29 : Cond.initialized R_V ∈ zt := zm (List.mem_of_getElem? (i := 29) rfl) rfl
theorem k_30 : Cond.initialized R_T ∈ zt := zm (List.mem_of_getElem? (i := 30) rfl) rfl
theorem k_31 : Cond.initialized R_M ∈ zt := zm (List.mem_of_getElem? (i := 31) rfl) rfl
theorem k_32 : Cond.initialized R_R ∈ zt := zm (List.mem_of_getElem? (i := 32) rfl) rfl
theorem k_33 : Cond.initialized R_H ∈ zt := zm (List.mem_of_getElem? (i := 33) rfl) rfl
theorem k_34 : Cond.initialized R_Q ∈ zt := zm (List.mem_of_getElem? (i := 34) rfl) rfl
theorem k_35 : Cond.initialized R_C ∈ zt := zm (List.mem_of_getElem? (i := 35) rfl) rfl
theorem k_36 : Cond.initialized R_JI ∈ zt := zm (List.mem_of_getElem? (i := 36) rfl) rfl
theorem k_37 : Cond.initialized R_JL ∈ zt := zm (List.mem_of_getElem? (i := 37) rfl) rfl
theorem k_38 : Cond.classLink R_L 7 R_V ∈ zt := zm (List.mem_of_getElem? (i := 38) rfl) rfl
theorem k_39 : Cond.instantiable R_V 10 ∈ zt := zm (List.mem_of_getElem? (i := 39) rfl) rfl
theorem k_40 : Cond.methodLink R_L 9 y_V_init ∈ zt := zm (List.mem_of_getElem? (i := 40) rfl) rfl
theorem k_41 : Cond.instanceMethod y_V_init ∈ zt := zm (List.mem_of_getElem? (i := 41) rfl) rfl
theorem m_V_init : Cond.code y_V_init b_V_init 2 none ∈ zt := zm (List.mem_of_getElem? (i := 42) rfl) rfl
theorem k_43 : Cond.methodLink R_V 1 objectInit ∈ zt := zm (List.mem_of_getElem? (i := 43) rfl) rfl
theorem k_44 : Cond.instanceMethod objectInit ∈ zt := zm (List.mem_of_getElem? (i := 44) rfl) rfl
theorem m_objectInit : Cond.code objectInit ⟨#[0xb1]⟩ 1 none ∈ zt := zm (List.mem_of_getElem? (i := 45) rfl) rfl
theorem k_46 : Cond.classLink R_V 9 R_C ∈ zt := zm (List.mem_of_getElem? (i := 46) rfl) rfl
theorem k_48 : Cond.classLink R_V 26 R_T ∈ zt := zm (List.mem_of_getElem? (i := 48) rfl) rfl
theorem k_49 : Cond.instantiable R_T 10 ∈ zt := zm (List.mem_of_getElem? (i := 49) rfl) rfl
theorem k_51 : Cond.instanceMethod y_T_init ∈ zt := zm (List.mem_of_getElem? (i := 51) rfl) rfl
theorem m_T_init : Cond.code y_T_init b_T_init 1 none ∈ zt := zm (List.mem_of_getElem? (i := 52) rfl) rfl
theorem k_53 : Cond.methodLink R_T 1 objectInit ∈ zt := zm (List.mem_of_getElem? (i := 53) rfl) rfl
theorem k_54 : Cond.fieldLink R_T 7 R_T "counter" "J" ∈ zt := zm (List.mem_of_getElem? (i := 54) rfl) rfl
theorem k_55 : Cond.fieldLink R_M 17 R_T "counter" "J" ∈ zt := zm (List.mem_of_getElem? (i := 55) rfl) rfl
theorem k_56 : Cond.fieldLink R_H 42 R_T "counter" "J" ∈ zt := zm (List.mem_of_getElem? (i := 56) rfl) rfl
theorem k_57 : Cond.fieldLink R_C 69 R_T "counter" "J" ∈ zt := zm (List.mem_of_getElem? (i := 57) rfl) rfl
theorem k_58 : Cond.fieldLink R_V 129 R_T "counter" "J" ∈ zt := zm (List.mem_of_getElem? (i := 58) rfl) rfl
theorem k_59 : Cond.fieldLink R_T 13 R_T "latest" "I" ∈ zt := zm (List.mem_of_getElem? (i := 59) rfl) rfl
theorem k_60 : Cond.fieldLink R_H 45 R_T "latest" "I" ∈ zt := zm (List.mem_of_getElem? (i := 60) rfl) rfl
theorem k_61 : Cond.fieldLink R_C 72 R_T "latest" "I" ∈ zt := zm (List.mem_of_getElem? (i := 61) rfl) rfl
theorem k_62 : Cond.fieldLink R_M 70 R_T "latest" "I" ∈ zt := zm (List.mem_of_getElem? (i := 62) rfl) rfl
theorem k_63 : Cond.fieldLink R_V 132 R_T "latest" "I" ∈ zt := zm (List.mem_of_getElem? (i := 63) rfl) rfl
theorem k_64 : Cond.fieldLink R_T 17 R_T "stamp" "I" ∈ zt := zm (List.mem_of_getElem? (i := 64) rfl) rfl
theorem k_65 : Cond.fieldLink R_H 49 R_T "stamp" "I" ∈ zt := zm (List.mem_of_getElem? (i := 65) rfl) rfl
theorem k_66 : Cond.fieldLink R_C 75 R_T "stamp" "I" ∈ zt := zm (List.mem_of_getElem? (i := 66) rfl) rfl
theorem k_67 : Cond.fieldLink R_M 67 R_T "stamp" "I" ∈ zt := zm (List.mem_of_getElem? (i := 67) rfl) rfl
theorem k_68 : Cond.fieldLink R_V 135 R_T "stamp" "I" ∈ zt := zm (List.mem_of_getElem? (i := 68) rfl) rfl
theorem k_69 : Cond.fieldLink R_M 31 R_T "plain" "I" ∈ zt := zm (List.mem_of_getElem? (i := 69) rfl) rfl
theorem k_70 : Cond.fieldLink R_T 20 R_T "plain" "I" ∈ zt := zm (List.mem_of_getElem? (i := 70) rfl) rfl
theorem k_71 : Cond.fieldLink R_H 52 R_T "plain" "I" ∈ zt := zm (List.mem_of_getElem? (i := 71) rfl) rfl
theorem k_72 : Cond.fieldLink R_C 78 R_T "plain" "I" ∈ zt := zm (List.mem_of_getElem? (i := 72) rfl) rfl
theorem k_73 : Cond.fieldLink R_V 138 R_T "plain" "I" ∈ zt := zm (List.mem_of_getElem? (i := 73) rfl) rfl
theorem k_74 : Cond.fieldLink R_T 23 R_T "set" "I" ∈ zt := zm (List.mem_of_getElem? (i := 74) rfl) rfl
theorem k_75 : Cond.fieldLink R_M 43 R_T "set" "I" ∈ zt := zm (List.mem_of_getElem? (i := 75) rfl) rfl
theorem k_76 : Cond.fieldLink R_H 55 R_T "set" "I" ∈ zt := zm (List.mem_of_getElem? (i := 76) rfl) rfl
theorem k_77 : Cond.fieldLink R_T 26 R_T "queue" "J" ∈ zt := zm (List.mem_of_getElem? (i := 77) rfl) rfl
theorem k_78 : Cond.fieldLink R_M 49 R_T "queue" "J" ∈ zt := zm (List.mem_of_getElem? (i := 78) rfl) rfl
theorem k_79 : Cond.fieldLink R_H 27 R_T "queue" "J" ∈ zt := zm (List.mem_of_getElem? (i := 79) rfl) rfl
theorem k_80 : Cond.fieldLink R_C 85 R_T "queue" "J" ∈ zt := zm (List.mem_of_getElem? (i := 80) rfl) rfl
theorem k_81 : Cond.fieldLink R_V 145 R_T "queue" "J" ∈ zt := zm (List.mem_of_getElem? (i := 81) rfl) rfl
theorem k_82 : Cond.fieldLink R_T 29 R_T "hasOption" "Z" ∈ zt := zm (List.mem_of_getElem? (i := 82) rfl) rfl
theorem k_83 : Cond.fieldLink R_H 38 R_T "hasOption" "Z" ∈ zt := zm (List.mem_of_getElem? (i := 83) rfl) rfl
theorem k_84 : Cond.fieldLink R_C 88 R_T "hasOption" "Z" ∈ zt := zm (List.mem_of_getElem? (i := 84) rfl) rfl
theorem k_85 : Cond.fieldLink R_M 73 R_T "hasOption" "Z" ∈ zt := zm (List.mem_of_getElem? (i := 85) rfl) rfl
theorem k_86 : Cond.fieldLink R_V 156 R_T "hasOption" "Z" ∈ zt := zm (List.mem_of_getElem? (i := 86) rfl) rfl
theorem k_87 : Cond.fieldLink R_T 33 R_T "option" "J" ∈ zt := zm (List.mem_of_getElem? (i := 87) rfl) rfl
theorem k_88 : Cond.fieldLink R_H 66 R_T "option" "J" ∈ zt := zm (List.mem_of_getElem? (i := 88) rfl) rfl
theorem k_89 : Cond.fieldLink R_C 92 R_T "option" "J" ∈ zt := zm (List.mem_of_getElem? (i := 89) rfl) rfl
theorem k_90 : Cond.fieldLink R_M 77 R_T "option" "J" ∈ zt := zm (List.mem_of_getElem? (i := 90) rfl) rfl
theorem k_91 : Cond.fieldLink R_V 153 R_T "option" "J" ∈ zt := zm (List.mem_of_getElem? (i := 91) rfl) rfl
theorem k_92 : Cond.fieldLink R_T 36 R_T "pairLong" "J" ∈ zt := zm (List.mem_of_getElem? (i := 92) rfl) rfl
theorem k_93 : Cond.fieldLink R_M 64 R_T "pairLong" "J" ∈ zt := zm (List.mem_of_getElem? (i := 93) rfl) rfl
theorem k_94 : Cond.fieldLink R_H 69 R_T "pairLong" "J" ∈ zt := zm (List.mem_of_getElem? (i := 94) rfl) rfl
theorem k_95 : Cond.fieldLink R_C 95 R_T "pairLong" "J" ∈ zt := zm (List.mem_of_getElem? (i := 95) rfl) rfl
theorem k_96 : Cond.fieldLink R_V 160 R_T "pairLong" "J" ∈ zt := zm (List.mem_of_getElem? (i := 96) rfl) rfl
theorem k_97 : Cond.fieldLink R_T 39 R_T "pairInt" "I" ∈ zt := zm (List.mem_of_getElem? (i := 97) rfl) rfl
theorem k_98 : Cond.fieldLink R_M 61 R_T "pairInt" "I" ∈ zt := zm (List.mem_of_getElem? (i := 98) rfl) rfl
theorem k_99 : Cond.fieldLink R_H 72 R_T "pairInt" "I" ∈ zt := zm (List.mem_of_getElem? (i := 99) rfl) rfl
theorem k_100 : Cond.fieldLink R_C 98 R_T "pairInt" "I" ∈ zt := zm (List.mem_of_getElem? (i := 100) rfl) rfl
theorem k_101 : Cond.fieldLink R_V 163 R_T "pairInt" "I" ∈ zt := zm (List.mem_of_getElem? (i := 101) rfl) rfl
theorem k_102 : Cond.lays R_T R_T "counter" "J" ∈ zt := zm (List.mem_of_getElem? (i := 102) rfl) rfl
theorem k_104 : Cond.lays R_T R_T "latest" "I" ∈ zt := zm (List.mem_of_getElem? (i := 104) rfl) rfl
theorem k_106 : Cond.lays R_T R_T "stamp" "I" ∈ zt := zm (List.mem_of_getElem? (i := 106) rfl) rfl
theorem k_108 : Cond.lays R_T R_T "plain" "I" ∈ zt := zm (List.mem_of_getElem? (i := 108) rfl) rfl
theorem k_110 : Cond.lays R_T R_T "set" "I" ∈ zt := zm (List.mem_of_getElem? (i := 110) rfl) rfl
theorem k_112 : Cond.lays R_T R_T "queue" "J" ∈ zt := zm (List.mem_of_getElem? (i := 112) rfl) rfl
theorem k_114 : Cond.lays R_T R_T "hasOption" "Z" ∈ zt := zm (List.mem_of_getElem? (i := 114) rfl) rfl
theorem k_116 : Cond.lays R_T R_T "option" "J" ∈ zt := zm (List.mem_of_getElem? (i := 116) rfl) rfl
theorem k_118 : Cond.lays R_T R_T "pairLong" "J" ∈ zt := zm (List.mem_of_getElem? (i := 118) rfl) rfl
theorem k_120 : Cond.lays R_T R_T "pairInt" "I" ∈ zt := zm (List.mem_of_getElem? (i := 120) rfl) rfl
theorem k_123 : Cond.arrayClass Jvm.ClassFile.FieldType.int ∈ zt := zm (List.mem_of_getElem? (i := 123) rfl) rfl
theorem k_124 : Cond.arrayClass Jvm.ClassFile.FieldType.boolean ∈ zt := zm (List.mem_of_getElem? (i := 124) rfl) rfl
theorem k_125 : Cond.classLink R_V 36 R_M ∈ zt := zm (List.mem_of_getElem? (i := 125) rfl) rfl
theorem k_126 : Cond.instantiable R_M 1 ∈ zt := zm (List.mem_of_getElem? (i := 126) rfl) rfl
theorem k_128 : Cond.instanceMethod y_M_init ∈ zt := zm (List.mem_of_getElem? (i := 128) rfl) rfl
theorem m_M_init : Cond.code y_M_init b_M_init 1 none ∈ zt := zm (List.mem_of_getElem? (i := 129) rfl) rfl
theorem k_130 : Cond.methodLink R_M 3 objectInit ∈ zt := zm (List.mem_of_getElem? (i := 130) rfl) rfl
theorem k_131 : Cond.fieldLink R_M 11 R_M "before" "[I" ∈ zt := zm (List.mem_of_getElem? (i := 131) rfl) rfl
theorem k_132 : Cond.laysFinal R_M R_M "before" "[I" ∈ zt := zm (List.mem_of_getElem? (i := 132) rfl) rfl
theorem k_136 : Cond.fieldLink R_V 11 R_V "made" "[LMergeVault$Commit;" ∈ zt := zm (List.mem_of_getElem? (i := 136) rfl) rfl
theorem k_137 : Cond.fieldLink R_V 68 R_V "madeCount" "I" ∈ zt := zm (List.mem_of_getElem? (i := 137) rfl) rfl
theorem k_138 : Cond.fieldLink R_V 15 R_V "heads" "[I" ∈ zt := zm (List.mem_of_getElem? (i := 138) rfl) rfl
theorem k_139 : Cond.fieldLink R_V 19 R_V "watching" "[Z" ∈ zt := zm (List.mem_of_getElem? (i := 139) rfl) rfl
theorem k_140 : Cond.fieldLink R_V 23 R_V "log" "[I" ∈ zt := zm (List.mem_of_getElem? (i := 140) rfl) rfl
theorem k_141 : Cond.fieldLink R_V 175 R_V "logged" "I" ∈ zt := zm (List.mem_of_getElem? (i := 141) rfl) rfl
theorem k_142 : Cond.fieldLink R_V 29 R_V "empty" "LMergeVault$Tree;" ∈ zt := zm (List.mem_of_getElem? (i := 142) rfl) rfl
theorem k_143 : Cond.fieldLink R_V 39 R_V "merger" "LMergeVault$Merger;" ∈ zt := zm (List.mem_of_getElem? (i := 143) rfl) rfl
theorem k_144 : Cond.fieldLink R_V 33 R_V "draft" "LMergeVault$Tree;" ∈ zt := zm (List.mem_of_getElem? (i := 144) rfl) rfl
theorem k_145 : Cond.fieldLink R_V 43 R_V "bases" "[LMergeVault$Tree;" ∈ zt := zm (List.mem_of_getElem? (i := 145) rfl) rfl
theorem k_146 : Cond.laysFinal R_V R_V "made" "[LMergeVault$Commit;" ∈ zt := zm (List.mem_of_getElem? (i := 146) rfl) rfl
theorem k_148 : Cond.lays R_V R_V "madeCount" "I" ∈ zt := zm (List.mem_of_getElem? (i := 148) rfl) rfl
theorem k_150 : Cond.laysFinal R_V R_V "heads" "[I" ∈ zt := zm (List.mem_of_getElem? (i := 150) rfl) rfl
theorem k_152 : Cond.laysFinal R_V R_V "watching" "[Z" ∈ zt := zm (List.mem_of_getElem? (i := 152) rfl) rfl
theorem k_154 : Cond.laysFinal R_V R_V "log" "[I" ∈ zt := zm (List.mem_of_getElem? (i := 154) rfl) rfl
theorem k_156 : Cond.lays R_V R_V "logged" "I" ∈ zt := zm (List.mem_of_getElem? (i := 156) rfl) rfl
theorem k_158 : Cond.laysFinal R_V R_V "empty" "LMergeVault$Tree;" ∈ zt := zm (List.mem_of_getElem? (i := 158) rfl) rfl
theorem k_160 : Cond.laysFinal R_V R_V "merger" "LMergeVault$Merger;" ∈ zt := zm (List.mem_of_getElem? (i := 160) rfl) rfl
theorem k_162 : Cond.laysFinal R_V R_V "draft" "LMergeVault$Tree;" ∈ zt := zm (List.mem_of_getElem? (i := 162) rfl) rfl
theorem k_164 : Cond.laysFinal R_V R_V "bases" "[LMergeVault$Tree;" ∈ zt := zm (List.mem_of_getElem? (i := 164) rfl) rfl
theorem k_167 : Cond.methodLink R_L 15 y_V_change ∈ zt := zm (List.mem_of_getElem? (i := 167) rfl) rfl
theorem k_168 : Cond.instanceMethod y_V_change ∈ zt := zm (List.mem_of_getElem? (i := 168) rfl) rfl
theorem k_169 : Cond.selects R_V y_V_change y_V_change ∈ zt := zm (List.mem_of_getElem? (i := 169) rfl) rfl
theorem m_V_change : Cond.code y_V_change b_V_change 7 (some .int) ∈ zt := zm (List.mem_of_getElem? (i := 170) rfl) rfl
theorem k_171 : Cond.methodLink R_V 47 y_V_isBranch ∈ zt := zm (List.mem_of_getElem? (i := 171) rfl) rfl
theorem k_172 : Cond.static y_V_isBranch ∈ zt := zm (List.mem_of_getElem? (i := 172) rfl) rfl
theorem m_V_isBranch : Cond.code y_V_isBranch b_V_isBranch 1 (some .boolean) ∈ zt := zm (List.mem_of_getElem? (i := 173) rfl) rfl
theorem k_174 : Cond.methodLink R_V 51 y_H_isInBounds ∈ zt := zm (List.mem_of_getElem? (i := 174) rfl) rfl
theorem k_175 : Cond.static y_H_isInBounds ∈ zt := zm (List.mem_of_getElem? (i := 175) rfl) rfl
theorem m_H_isInBounds : Cond.code y_H_isInBounds b_H_isInBounds 3 (some .boolean) ∈ zt := zm (List.mem_of_getElem? (i := 176) rfl) rfl
theorem k_177 : Cond.constantLong R_H 9 (32 : Int64) ∈ zt := zm (List.mem_of_getElem? (i := 177) rfl) rfl
theorem k_178 : Cond.constantLong R_H 13 (16 : Int64) ∈ zt := zm (List.mem_of_getElem? (i := 178) rfl) rfl
theorem k_179 : Cond.methodLink R_V 57 y_V_commitAt ∈ zt := zm (List.mem_of_getElem? (i := 179) rfl) rfl
theorem k_181 : Cond.instanceMethod y_V_commitAt ∈ zt := zm (List.mem_of_getElem? (i := 181) rfl) rfl
theorem m_V_commitAt : Cond.code y_V_commitAt b_V_commitAt 2 (some (.object "MergeVault$Commit")) ∈ zt := zm (List.mem_of_getElem? (i := 182) rfl) rfl
theorem k_183 : Cond.methodLink R_V 88 y_V_isCommit ∈ zt := zm (List.mem_of_getElem? (i := 183) rfl) rfl
theorem k_185 : Cond.instanceMethod y_V_isCommit ∈ zt := zm (List.mem_of_getElem? (i := 185) rfl) rfl
theorem m_V_isCommit : Cond.code y_V_isCommit b_V_isCommit 2 (some .boolean) ∈ zt := zm (List.mem_of_getElem? (i := 186) rfl) rfl
theorem k_187 : Cond.methodLink R_V 64 y_H_fits ∈ zt := zm (List.mem_of_getElem? (i := 187) rfl) rfl
theorem k_188 : Cond.static y_H_fits ∈ zt := zm (List.mem_of_getElem? (i := 188) rfl) rfl
theorem m_H_fits : Cond.code y_H_fits b_H_fits 4 (some .boolean) ∈ zt := zm (List.mem_of_getElem? (i := 189) rfl) rfl
theorem k_190 : Cond.methodLink R_H 15 y_T_setAsSum ∈ zt := zm (List.mem_of_getElem? (i := 190) rfl) rfl
theorem k_191 : Cond.instanceMethod y_T_setAsSum ∈ zt := zm (List.mem_of_getElem? (i := 191) rfl) rfl
theorem k_192 : Cond.selects R_T y_T_setAsSum y_T_setAsSum ∈ zt := zm (List.mem_of_getElem? (i := 192) rfl) rfl
theorem m_T_setAsSum : Cond.code y_T_setAsSum b_T_setAsSum 1 (some .long) ∈ zt := zm (List.mem_of_getElem? (i := 193) rfl) rfl
theorem k_194 : Cond.constantLong R_T 42 (4294967295 : Int64) ∈ zt := zm (List.mem_of_getElem? (i := 194) rfl) rfl
theorem k_196 : Cond.static y_V_isIn ∈ zt := zm (List.mem_of_getElem? (i := 196) rfl) rfl
theorem m_V_isIn : Cond.code y_V_isIn b_V_isIn 3 (some .boolean) ∈ zt := zm (List.mem_of_getElem? (i := 197) rfl) rfl
theorem k_198 : Cond.methodLink R_H 31 y_Q_members ∈ zt := zm (List.mem_of_getElem? (i := 198) rfl) rfl
theorem k_199 : Cond.static y_Q_members ∈ zt := zm (List.mem_of_getElem? (i := 199) rfl) rfl
theorem m_Q_members : Cond.code y_Q_members b_Q_members 5 (some .int) ∈ zt := zm (List.mem_of_getElem? (i := 200) rfl) rfl
theorem k_201 : Cond.methodLink R_Q 13 y_Q_elementAt ∈ zt := zm (List.mem_of_getElem? (i := 201) rfl) rfl
theorem k_202 : Cond.static y_Q_elementAt ∈ zt := zm (List.mem_of_getElem? (i := 202) rfl) rfl
theorem m_Q_elementAt : Cond.code y_Q_elementAt b_Q_elementAt 3 (some .int) ∈ zt := zm (List.mem_of_getElem? (i := 203) rfl) rfl
theorem k_204 : Cond.constantLong R_Q 11 (31 : Int64) ∈ zt := zm (List.mem_of_getElem? (i := 204) rfl) rfl
theorem k_205 : Cond.methodLink R_H 35 y_Q_length ∈ zt := zm (List.mem_of_getElem? (i := 205) rfl) rfl
theorem k_206 : Cond.static y_Q_length ∈ zt := zm (List.mem_of_getElem? (i := 206) rfl) rfl
theorem m_Q_length : Cond.code y_Q_length b_Q_length 3 (some .int) ∈ zt := zm (List.mem_of_getElem? (i := 207) rfl) rfl
theorem k_208 : Cond.methodLink R_V 72 y_T_become ∈ zt := zm (List.mem_of_getElem? (i := 208) rfl) rfl
theorem k_209 : Cond.instanceMethod y_T_become ∈ zt := zm (List.mem_of_getElem? (i := 209) rfl) rfl
theorem k_210 : Cond.selects R_T y_T_become y_T_become ∈ zt := zm (List.mem_of_getElem? (i := 210) rfl) rfl
theorem m_T_become : Cond.code y_T_become b_T_become 2 none ∈ zt := zm (List.mem_of_getElem? (i := 211) rfl) rfl
theorem k_212 : Cond.methodLink R_V 76 y_H_apply ∈ zt := zm (List.mem_of_getElem? (i := 212) rfl) rfl
theorem k_213 : Cond.static y_H_apply ∈ zt := zm (List.mem_of_getElem? (i := 213) rfl) rfl
theorem m_H_apply : Cond.code y_H_apply b_H_apply 5 none ∈ zt := zm (List.mem_of_getElem? (i := 214) rfl) rfl
theorem k_215 : Cond.methodLink R_H 58 y_Q_withElement ∈ zt := zm (List.mem_of_getElem? (i := 215) rfl) rfl
theorem k_216 : Cond.static y_Q_withElement ∈ zt := zm (List.mem_of_getElem? (i := 216) rfl) rfl
theorem m_Q_withElement : Cond.code y_Q_withElement b_Q_withElement 4 (some .long) ∈ zt := zm (List.mem_of_getElem? (i := 217) rfl) rfl
theorem k_218 : Cond.methodLink R_H 62 y_Q_withoutFirst ∈ zt := zm (List.mem_of_getElem? (i := 218) rfl) rfl
theorem k_219 : Cond.static y_Q_withoutFirst ∈ zt := zm (List.mem_of_getElem? (i := 219) rfl) rfl
theorem m_Q_withoutFirst : Cond.code y_Q_withoutFirst b_Q_withoutFirst 2 (some .long) ∈ zt := zm (List.mem_of_getElem? (i := 220) rfl) rfl
theorem k_221 : Cond.methodLink R_V 80 y_V_commitDraft ∈ zt := zm (List.mem_of_getElem? (i := 221) rfl) rfl
theorem k_223 : Cond.instanceMethod y_V_commitDraft ∈ zt := zm (List.mem_of_getElem? (i := 223) rfl) rfl
theorem m_V_commitDraft : Cond.code y_V_commitDraft b_V_commitDraft 5 (some .int) ∈ zt := zm (List.mem_of_getElem? (i := 224) rfl) rfl
theorem k_225 : Cond.instantiable R_C 7 ∈ zt := zm (List.mem_of_getElem? (i := 225) rfl) rfl
theorem k_226 : Cond.methodLink R_V 178 y_C_init ∈ zt := zm (List.mem_of_getElem? (i := 226) rfl) rfl
theorem k_227 : Cond.instanceMethod y_C_init ∈ zt := zm (List.mem_of_getElem? (i := 227) rfl) rfl
theorem m_C_init : Cond.code y_C_init b_C_init 5 none ∈ zt := zm (List.mem_of_getElem? (i := 228) rfl) rfl
theorem k_229 : Cond.methodLink R_C 1 objectInit ∈ zt := zm (List.mem_of_getElem? (i := 229) rfl) rfl
theorem k_230 : Cond.classLink R_C 23 R_T ∈ zt := zm (List.mem_of_getElem? (i := 230) rfl) rfl
theorem k_232 : Cond.methodLink R_C 30 y_T_become ∈ zt := zm (List.mem_of_getElem? (i := 232) rfl) rfl
theorem k_233 : Cond.methodLink R_C 34 y_C_pastOf ∈ zt := zm (List.mem_of_getElem? (i := 233) rfl) rfl
theorem k_234 : Cond.static y_C_pastOf ∈ zt := zm (List.mem_of_getElem? (i := 234) rfl) rfl
theorem m_C_pastOf : Cond.code y_C_pastOf b_C_pastOf 1 (some .long) ∈ zt := zm (List.mem_of_getElem? (i := 235) rfl) rfl
theorem k_236 : Cond.methodLink R_C 42 y_C_hashOfParents ∈ zt := zm (List.mem_of_getElem? (i := 236) rfl) rfl
theorem k_237 : Cond.static y_C_hashOfParents ∈ zt := zm (List.mem_of_getElem? (i := 237) rfl) rfl
theorem m_C_hashOfParents : Cond.code y_C_hashOfParents b_C_hashOfParents 2 (some .long) ∈ zt := zm (List.mem_of_getElem? (i := 238) rfl) rfl
theorem k_239 : Cond.constantLong R_C 65 (-3750763034362895579 : Int64) ∈ zt := zm (List.mem_of_getElem? (i := 239) rfl) rfl
theorem k_240 : Cond.methodLink R_C 46 y_C_mixed ∈ zt := zm (List.mem_of_getElem? (i := 240) rfl) rfl
theorem k_241 : Cond.static y_C_mixed ∈ zt := zm (List.mem_of_getElem? (i := 241) rfl) rfl
theorem m_C_mixed : Cond.code y_C_mixed b_C_mixed 7 (some .long) ∈ zt := zm (List.mem_of_getElem? (i := 242) rfl) rfl
theorem k_243 : Cond.constantLong R_C 101 (255 : Int64) ∈ zt := zm (List.mem_of_getElem? (i := 243) rfl) rfl
theorem k_244 : Cond.constantLong R_C 103 (1099511628211 : Int64) ∈ zt := zm (List.mem_of_getElem? (i := 244) rfl) rfl
theorem k_245 : Cond.constantLong R_C 67 (2 : Int64) ∈ zt := zm (List.mem_of_getElem? (i := 245) rfl) rfl
theorem k_246 : Cond.methodLink R_C 50 y_C_hashWithTree ∈ zt := zm (List.mem_of_getElem? (i := 246) rfl) rfl
theorem k_247 : Cond.static y_C_hashWithTree ∈ zt := zm (List.mem_of_getElem? (i := 247) rfl) rfl
theorem m_C_hashWithTree : Cond.code y_C_hashWithTree b_C_hashWithTree 5 (some .long) ∈ zt := zm (List.mem_of_getElem? (i := 248) rfl) rfl
theorem k_249 : Cond.methodLink R_C 81 y_T_setAsSum ∈ zt := zm (List.mem_of_getElem? (i := 249) rfl) rfl
theorem k_250 : Cond.fieldLink R_C 7 R_C "number" "I" ∈ zt := zm (List.mem_of_getElem? (i := 250) rfl) rfl
theorem k_251 : Cond.fieldLink R_V 95 R_C "number" "I" ∈ zt := zm (List.mem_of_getElem? (i := 251) rfl) rfl
theorem k_252 : Cond.fieldLink R_C 13 R_C "time" "I" ∈ zt := zm (List.mem_of_getElem? (i := 252) rfl) rfl
theorem k_253 : Cond.fieldLink R_V 169 R_C "time" "I" ∈ zt := zm (List.mem_of_getElem? (i := 253) rfl) rfl
theorem k_254 : Cond.fieldLink R_C 16 R_C "first" "LMergeVault$Commit;" ∈ zt := zm (List.mem_of_getElem? (i := 254) rfl) rfl
theorem k_255 : Cond.fieldLink R_V 102 R_C "first" "LMergeVault$Commit;" ∈ zt := zm (List.mem_of_getElem? (i := 255) rfl) rfl
theorem k_256 : Cond.fieldLink R_C 20 R_C "second" "LMergeVault$Commit;" ∈ zt := zm (List.mem_of_getElem? (i := 256) rfl) rfl
theorem k_257 : Cond.fieldLink R_V 106 R_C "second" "LMergeVault$Commit;" ∈ zt := zm (List.mem_of_getElem? (i := 257) rfl) rfl
theorem k_258 : Cond.fieldLink R_C 26 R_C "tree" "LMergeVault$Tree;" ∈ zt := zm (List.mem_of_getElem? (i := 258) rfl) rfl
theorem k_259 : Cond.fieldLink R_V 61 R_C "tree" "LMergeVault$Tree;" ∈ zt := zm (List.mem_of_getElem? (i := 259) rfl) rfl
theorem k_260 : Cond.fieldLink R_C 38 R_C "past" "J" ∈ zt := zm (List.mem_of_getElem? (i := 260) rfl) rfl
theorem k_261 : Cond.fieldLink R_V 109 R_C "past" "J" ∈ zt := zm (List.mem_of_getElem? (i := 261) rfl) rfl
theorem k_262 : Cond.fieldLink R_C 54 R_C "hash" "J" ∈ zt := zm (List.mem_of_getElem? (i := 262) rfl) rfl
theorem k_263 : Cond.fieldLink R_V 172 R_C "hash" "J" ∈ zt := zm (List.mem_of_getElem? (i := 263) rfl) rfl
theorem k_264 : Cond.laysFinal R_C R_C "number" "I" ∈ zt := zm (List.mem_of_getElem? (i := 264) rfl) rfl
theorem k_266 : Cond.laysFinal R_C R_C "time" "I" ∈ zt := zm (List.mem_of_getElem? (i := 266) rfl) rfl
theorem k_268 : Cond.laysFinal R_C R_C "first" "LMergeVault$Commit;" ∈ zt := zm (List.mem_of_getElem? (i := 268) rfl) rfl
theorem k_270 : Cond.laysFinal R_C R_C "second" "LMergeVault$Commit;" ∈ zt := zm (List.mem_of_getElem? (i := 270) rfl) rfl
theorem k_272 : Cond.laysFinal R_C R_C "tree" "LMergeVault$Tree;" ∈ zt := zm (List.mem_of_getElem? (i := 272) rfl) rfl
theorem k_274 : Cond.laysFinal R_C R_C "past" "J" ∈ zt := zm (List.mem_of_getElem? (i := 274) rfl) rfl
theorem k_276 : Cond.laysFinal R_C R_C "hash" "J" ∈ zt := zm (List.mem_of_getElem? (i := 276) rfl) rfl
theorem k_279 : Cond.methodLink R_V 84 y_V_moveHead ∈ zt := zm (List.mem_of_getElem? (i := 279) rfl) rfl
theorem k_281 : Cond.instanceMethod y_V_moveHead ∈ zt := zm (List.mem_of_getElem? (i := 281) rfl) rfl
theorem m_V_moveHead : Cond.code y_V_moveHead b_V_moveHead 3 none ∈ zt := zm (List.mem_of_getElem? (i := 282) rfl) rfl
theorem k_283 : Cond.methodLink R_L 20 y_V_fork ∈ zt := zm (List.mem_of_getElem? (i := 283) rfl) rfl
theorem k_284 : Cond.instanceMethod y_V_fork ∈ zt := zm (List.mem_of_getElem? (i := 284) rfl) rfl
theorem k_285 : Cond.selects R_V y_V_fork y_V_fork ∈ zt := zm (List.mem_of_getElem? (i := 285) rfl) rfl
theorem m_V_fork : Cond.code y_V_fork b_V_fork 3 (some .boolean) ∈ zt := zm (List.mem_of_getElem? (i := 286) rfl) rfl
theorem k_287 : Cond.methodLink R_L 25 y_V_swap ∈ zt := zm (List.mem_of_getElem? (i := 287) rfl) rfl
theorem k_288 : Cond.instanceMethod y_V_swap ∈ zt := zm (List.mem_of_getElem? (i := 288) rfl) rfl
theorem k_289 : Cond.selects R_V y_V_swap y_V_swap ∈ zt := zm (List.mem_of_getElem? (i := 289) rfl) rfl
theorem m_V_swap : Cond.code y_V_swap b_V_swap 4 (some .boolean) ∈ zt := zm (List.mem_of_getElem? (i := 290) rfl) rfl
theorem k_291 : Cond.methodLink R_L 30 y_V_merge ∈ zt := zm (List.mem_of_getElem? (i := 291) rfl) rfl
theorem k_292 : Cond.instanceMethod y_V_merge ∈ zt := zm (List.mem_of_getElem? (i := 292) rfl) rfl
theorem k_293 : Cond.selects R_V y_V_merge y_V_merge ∈ zt := zm (List.mem_of_getElem? (i := 293) rfl) rfl
theorem m_V_merge : Cond.code y_V_merge b_V_merge 6 (some .int) ∈ zt := zm (List.mem_of_getElem? (i := 294) rfl) rfl
theorem k_295 : Cond.methodLink R_V 91 y_C_descendsFrom ∈ zt := zm (List.mem_of_getElem? (i := 295) rfl) rfl
theorem k_296 : Cond.instanceMethod y_C_descendsFrom ∈ zt := zm (List.mem_of_getElem? (i := 296) rfl) rfl
theorem k_297 : Cond.selects R_C y_C_descendsFrom y_C_descendsFrom ∈ zt := zm (List.mem_of_getElem? (i := 297) rfl) rfl
theorem m_C_descendsFrom : Cond.code y_C_descendsFrom b_C_descendsFrom 2 (some .boolean) ∈ zt := zm (List.mem_of_getElem? (i := 298) rfl) rfl
theorem k_300 : Cond.methodLink R_V 98 y_V_draftMerging ∈ zt := zm (List.mem_of_getElem? (i := 300) rfl) rfl
theorem k_302 : Cond.instanceMethod y_V_draftMerging ∈ zt := zm (List.mem_of_getElem? (i := 302) rfl) rfl
theorem m_V_draftMerging : Cond.code y_V_draftMerging b_V_draftMerging 4 (some .int) ∈ zt := zm (List.mem_of_getElem? (i := 303) rfl) rfl
theorem k_304 : Cond.methodLink R_V 181 y_V_layBase ∈ zt := zm (List.mem_of_getElem? (i := 304) rfl) rfl
theorem k_306 : Cond.instanceMethod y_V_layBase ∈ zt := zm (List.mem_of_getElem? (i := 306) rfl) rfl
theorem m_V_layBase : Cond.code y_V_layBase b_V_layBase 10 (some .int) ∈ zt := zm (List.mem_of_getElem? (i := 307) rfl) rfl
theorem k_308 : Cond.methodLink R_V 119 y_V_meetsOf ∈ zt := zm (List.mem_of_getElem? (i := 308) rfl) rfl
theorem k_310 : Cond.instanceMethod y_V_meetsOf ∈ zt := zm (List.mem_of_getElem? (i := 310) rfl) rfl
theorem m_V_meetsOf : Cond.code y_V_meetsOf b_V_meetsOf 8 (some .long) ∈ zt := zm (List.mem_of_getElem? (i := 311) rfl) rfl
theorem k_312 : Cond.methodLink R_V 189 y_V_isIn ∈ zt := zm (List.mem_of_getElem? (i := 312) rfl) rfl
theorem k_313 : Cond.methodLink R_V 193 y_C_properPast ∈ zt := zm (List.mem_of_getElem? (i := 313) rfl) rfl
theorem k_314 : Cond.instanceMethod y_C_properPast ∈ zt := zm (List.mem_of_getElem? (i := 314) rfl) rfl
theorem k_315 : Cond.selects R_C y_C_properPast y_C_properPast ∈ zt := zm (List.mem_of_getElem? (i := 315) rfl) rfl
theorem m_C_properPast : Cond.code y_C_properPast b_C_properPast 1 (some .long) ∈ zt := zm (List.mem_of_getElem? (i := 316) rfl) rfl
theorem k_317 : Cond.constantLong R_C 63 (-1 : Int64) ∈ zt := zm (List.mem_of_getElem? (i := 317) rfl) rfl
theorem k_318 : Cond.constantLong R_V 127 (-1 : Int64) ∈ zt := zm (List.mem_of_getElem? (i := 318) rfl) rfl
theorem k_319 : Cond.methodLink R_V 123 y_V_nextIn ∈ zt := zm (List.mem_of_getElem? (i := 319) rfl) rfl
theorem k_320 : Cond.static y_V_nextIn ∈ zt := zm (List.mem_of_getElem? (i := 320) rfl) rfl
theorem m_V_nextIn : Cond.code y_V_nextIn b_V_nextIn 4 (some .int) ∈ zt := zm (List.mem_of_getElem? (i := 321) rfl) rfl
theorem k_322 : Cond.methodLink R_V 185 y_M_mergeInto ∈ zt := zm (List.mem_of_getElem? (i := 322) rfl) rfl
theorem k_323 : Cond.instanceMethod y_M_mergeInto ∈ zt := zm (List.mem_of_getElem? (i := 323) rfl) rfl
theorem k_324 : Cond.selects R_M y_M_mergeInto y_M_mergeInto ∈ zt := zm (List.mem_of_getElem? (i := 324) rfl) rfl
theorem m_M_mergeInto : Cond.code y_M_mergeInto b_M_mergeInto 4 (some .int) ∈ zt := zm (List.mem_of_getElem? (i := 325) rfl) rfl
theorem k_326 : Cond.methodLink R_M 23 y_M_mergedLong ∈ zt := zm (List.mem_of_getElem? (i := 326) rfl) rfl
theorem k_327 : Cond.static y_M_mergedLong ∈ zt := zm (List.mem_of_getElem? (i := 327) rfl) rfl
theorem m_M_mergedLong : Cond.code y_M_mergedLong b_M_mergedLong 6 (some .long) ∈ zt := zm (List.mem_of_getElem? (i := 328) rfl) rfl
theorem k_329 : Cond.methodLink R_M 27 y_M_mergeLatest ∈ zt := zm (List.mem_of_getElem? (i := 329) rfl) rfl
theorem k_330 : Cond.static y_M_mergeLatest ∈ zt := zm (List.mem_of_getElem? (i := 330) rfl) rfl
theorem m_M_mergeLatest : Cond.code y_M_mergeLatest b_M_mergeLatest 2 none ∈ zt := zm (List.mem_of_getElem? (i := 331) rfl) rfl
theorem k_332 : Cond.methodLink R_M 35 y_M_clash ∈ zt := zm (List.mem_of_getElem? (i := 332) rfl) rfl
theorem k_333 : Cond.static y_M_clash ∈ zt := zm (List.mem_of_getElem? (i := 333) rfl) rfl
theorem m_M_clash : Cond.code y_M_clash b_M_clash 3 (some .boolean) ∈ zt := zm (List.mem_of_getElem? (i := 334) rfl) rfl
theorem k_335 : Cond.methodLink R_M 39 y_M_mergedInt ∈ zt := zm (List.mem_of_getElem? (i := 335) rfl) rfl
theorem k_336 : Cond.static y_M_mergedInt ∈ zt := zm (List.mem_of_getElem? (i := 336) rfl) rfl
theorem m_M_mergedInt : Cond.code y_M_mergedInt b_M_mergedInt 3 (some .int) ∈ zt := zm (List.mem_of_getElem? (i := 337) rfl) rfl
theorem k_338 : Cond.methodLink R_M 46 y_M_mergedSet ∈ zt := zm (List.mem_of_getElem? (i := 338) rfl) rfl
theorem k_339 : Cond.static y_M_mergedSet ∈ zt := zm (List.mem_of_getElem? (i := 339) rfl) rfl
theorem m_M_mergedSet : Cond.code y_M_mergedSet b_M_mergedSet 3 (some .int) ∈ zt := zm (List.mem_of_getElem? (i := 340) rfl) rfl
theorem k_341 : Cond.methodLink R_M 52 y_M_mergedQueue ∈ zt := zm (List.mem_of_getElem? (i := 341) rfl) rfl
theorem k_343 : Cond.instanceMethod y_M_mergedQueue ∈ zt := zm (List.mem_of_getElem? (i := 343) rfl) rfl
theorem m_M_mergedQueue : Cond.code y_M_mergedQueue b_M_mergedQueue 13 (some .long) ∈ zt := zm (List.mem_of_getElem? (i := 344) rfl) rfl
theorem k_345 : Cond.methodLink R_M 80 y_Q_members ∈ zt := zm (List.mem_of_getElem? (i := 345) rfl) rfl
theorem k_346 : Cond.methodLink R_M 84 y_JI_bitCount ∈ zt := zm (List.mem_of_getElem? (i := 346) rfl) rfl
theorem k_347 : Cond.static y_JI_bitCount ∈ zt := zm (List.mem_of_getElem? (i := 347) rfl) rfl
theorem m_JI_bitCount : Cond.code y_JI_bitCount b_JI_bitCount 1 (some .int) ∈ zt := zm (List.mem_of_getElem? (i := 348) rfl) rfl
theorem k_349 : Cond.constant R_JI 265 (1431655765 : Int32) ∈ zt := zm (List.mem_of_getElem? (i := 349) rfl) rfl
theorem k_350 : Cond.constant R_JI 266 (858993459 : Int32) ∈ zt := zm (List.mem_of_getElem? (i := 350) rfl) rfl
theorem k_351 : Cond.constant R_JI 267 (252645135 : Int32) ∈ zt := zm (List.mem_of_getElem? (i := 351) rfl) rfl
theorem k_352 : Cond.constantLong R_M 55 (-1 : Int64) ∈ zt := zm (List.mem_of_getElem? (i := 352) rfl) rfl
theorem k_354 : Cond.methodLink R_M 94 y_Q_standingBefore ∈ zt := zm (List.mem_of_getElem? (i := 354) rfl) rfl
theorem k_355 : Cond.static y_Q_standingBefore ∈ zt := zm (List.mem_of_getElem? (i := 355) rfl) rfl
theorem m_Q_standingBefore : Cond.code y_Q_standingBefore b_Q_standingBefore 6 (some .int) ∈ zt := zm (List.mem_of_getElem? (i := 356) rfl) rfl
theorem k_357 : Cond.methodLink R_M 98 y_M_leastFree ∈ zt := zm (List.mem_of_getElem? (i := 357) rfl) rfl
theorem k_359 : Cond.instanceMethod y_M_leastFree ∈ zt := zm (List.mem_of_getElem? (i := 359) rfl) rfl
theorem m_M_leastFree : Cond.code y_M_leastFree b_M_leastFree 3 (some .int) ∈ zt := zm (List.mem_of_getElem? (i := 360) rfl) rfl
theorem k_361 : Cond.methodLink R_M 101 y_Q_withElement ∈ zt := zm (List.mem_of_getElem? (i := 361) rfl) rfl
theorem k_362 : Cond.methodLink R_M 57 y_M_mergeOption ∈ zt := zm (List.mem_of_getElem? (i := 362) rfl) rfl
theorem k_363 : Cond.static y_M_mergeOption ∈ zt := zm (List.mem_of_getElem? (i := 363) rfl) rfl
theorem m_M_mergeOption : Cond.code y_M_mergeOption b_M_mergeOption 5 (some .boolean) ∈ zt := zm (List.mem_of_getElem? (i := 364) rfl) rfl
theorem k_365 : Cond.methodLink R_L 35 y_V_watch ∈ zt := zm (List.mem_of_getElem? (i := 365) rfl) rfl
theorem k_366 : Cond.instanceMethod y_V_watch ∈ zt := zm (List.mem_of_getElem? (i := 366) rfl) rfl
theorem k_367 : Cond.selects R_V y_V_watch y_V_watch ∈ zt := zm (List.mem_of_getElem? (i := 367) rfl) rfl
theorem m_V_watch : Cond.code y_V_watch b_V_watch 3 (some .boolean) ∈ zt := zm (List.mem_of_getElem? (i := 368) rfl) rfl
theorem k_369 : Cond.methodLink R_L 40 y_V_head ∈ zt := zm (List.mem_of_getElem? (i := 369) rfl) rfl
theorem k_370 : Cond.instanceMethod y_V_head ∈ zt := zm (List.mem_of_getElem? (i := 370) rfl) rfl
theorem k_371 : Cond.selects R_V y_V_head y_V_head ∈ zt := zm (List.mem_of_getElem? (i := 371) rfl) rfl
theorem m_V_head : Cond.code y_V_head b_V_head 2 (some .int) ∈ zt := zm (List.mem_of_getElem? (i := 372) rfl) rfl
theorem k_373 : Cond.methodLink R_L 45 y_V_commits ∈ zt := zm (List.mem_of_getElem? (i := 373) rfl) rfl
theorem k_374 : Cond.instanceMethod y_V_commits ∈ zt := zm (List.mem_of_getElem? (i := 374) rfl) rfl
theorem k_375 : Cond.selects R_V y_V_commits y_V_commits ∈ zt := zm (List.mem_of_getElem? (i := 375) rfl) rfl
theorem m_V_commits : Cond.code y_V_commits b_V_commits 1 (some .int) ∈ zt := zm (List.mem_of_getElem? (i := 376) rfl) rfl
theorem k_377 : Cond.methodLink R_L 50 y_V_parent ∈ zt := zm (List.mem_of_getElem? (i := 377) rfl) rfl
theorem k_378 : Cond.instanceMethod y_V_parent ∈ zt := zm (List.mem_of_getElem? (i := 378) rfl) rfl
theorem k_379 : Cond.selects R_V y_V_parent y_V_parent ∈ zt := zm (List.mem_of_getElem? (i := 379) rfl) rfl
theorem m_V_parent : Cond.code y_V_parent b_V_parent 5 (some .int) ∈ zt := zm (List.mem_of_getElem? (i := 380) rfl) rfl
theorem k_381 : Cond.methodLink R_L 54 y_V_ancestors ∈ zt := zm (List.mem_of_getElem? (i := 381) rfl) rfl
theorem k_382 : Cond.instanceMethod y_V_ancestors ∈ zt := zm (List.mem_of_getElem? (i := 382) rfl) rfl
theorem k_383 : Cond.selects R_V y_V_ancestors y_V_ancestors ∈ zt := zm (List.mem_of_getElem? (i := 383) rfl) rfl
theorem m_V_ancestors : Cond.code y_V_ancestors b_V_ancestors 3 (some .int) ∈ zt := zm (List.mem_of_getElem? (i := 384) rfl) rfl
theorem k_385 : Cond.methodLink R_V 113 y_JL_bitCount ∈ zt := zm (List.mem_of_getElem? (i := 385) rfl) rfl
theorem k_386 : Cond.static y_JL_bitCount ∈ zt := zm (List.mem_of_getElem? (i := 386) rfl) rfl
theorem m_JL_bitCount : Cond.code y_JL_bitCount b_JL_bitCount 2 (some .int) ∈ zt := zm (List.mem_of_getElem? (i := 387) rfl) rfl
theorem k_388 : Cond.constantLong R_JL 314 (6148914691236517205 : Int64) ∈ zt := zm (List.mem_of_getElem? (i := 388) rfl) rfl
theorem k_389 : Cond.constantLong R_JL 316 (3689348814741910323 : Int64) ∈ zt := zm (List.mem_of_getElem? (i := 389) rfl) rfl
theorem k_390 : Cond.constantLong R_JL 318 (1085102592571150095 : Int64) ∈ zt := zm (List.mem_of_getElem? (i := 390) rfl) rfl
theorem k_391 : Cond.methodLink R_L 58 y_V_meet ∈ zt := zm (List.mem_of_getElem? (i := 391) rfl) rfl
theorem k_392 : Cond.instanceMethod y_V_meet ∈ zt := zm (List.mem_of_getElem? (i := 392) rfl) rfl
theorem k_393 : Cond.selects R_V y_V_meet y_V_meet ∈ zt := zm (List.mem_of_getElem? (i := 393) rfl) rfl
theorem m_V_meet : Cond.code y_V_meet b_V_meet 10 (some .int) ∈ zt := zm (List.mem_of_getElem? (i := 394) rfl) rfl
theorem k_395 : Cond.methodLink R_L 63 y_V_value ∈ zt := zm (List.mem_of_getElem? (i := 395) rfl) rfl
theorem k_396 : Cond.instanceMethod y_V_value ∈ zt := zm (List.mem_of_getElem? (i := 396) rfl) rfl
theorem k_397 : Cond.selects R_V y_V_value y_V_value ∈ zt := zm (List.mem_of_getElem? (i := 397) rfl) rfl
theorem m_V_value : Cond.code y_V_value b_V_value 5 (some .long) ∈ zt := zm (List.mem_of_getElem? (i := 398) rfl) rfl
theorem k_399 : Cond.methodLink R_V 141 y_T_setAsSum ∈ zt := zm (List.mem_of_getElem? (i := 399) rfl) rfl
theorem k_400 : Cond.methodLink R_V 148 y_Q_length ∈ zt := zm (List.mem_of_getElem? (i := 400) rfl) rfl
set_option maxRecDepth 100000 in
theorem k_401 : Cond.methodLink R_L 68 y_V_queued ∈ zt := zm (List.mem_of_getElem? (i := 401) rfl) rfl
set_option maxRecDepth 100000 in
theorem k_402 : Cond.instanceMethod y_V_queued ∈ zt := zm (List.mem_of_getElem? (i := 402) rfl) rfl
set_option maxRecDepth 100000 in
theorem k_403 : Cond.selects R_V y_V_queued y_V_queued ∈ zt := zm (List.mem_of_getElem? (i := 403) rfl) rfl
set_option maxRecDepth 100000 in
theorem m_V_queued : Cond.code y_V_queued b_V_queued 4 (some .int) ∈ zt := zm (List.mem_of_getElem? (i := 404) rfl) rfl
set_option maxRecDepth 100000 in
theorem k_405 : Cond.methodLink R_V 166 y_Q_elementAt ∈ zt := zm (List.mem_of_getElem? (i := 405) rfl) rfl
set_option maxRecDepth 100000 in
theorem k_406 : Cond.methodLink R_L 72 y_V_time ∈ zt := zm (List.mem_of_getElem? (i := 406) rfl) rfl
set_option maxRecDepth 100000 in
theorem k_407 : Cond.instanceMethod y_V_time ∈ zt := zm (List.mem_of_getElem? (i := 407) rfl) rfl
set_option maxRecDepth 100000 in
theorem k_408 : Cond.selects R_V y_V_time y_V_time ∈ zt := zm (List.mem_of_getElem? (i := 408) rfl) rfl
set_option maxRecDepth 100000 in
theorem m_V_time : Cond.code y_V_time b_V_time 3 (some .int) ∈ zt := zm (List.mem_of_getElem? (i := 409) rfl) rfl
set_option maxRecDepth 100000 in
theorem k_410 : Cond.methodLink R_L 76 y_V_hash ∈ zt := zm (List.mem_of_getElem? (i := 410) rfl) rfl
set_option maxRecDepth 100000 in
theorem k_411 : Cond.instanceMethod y_V_hash ∈ zt := zm (List.mem_of_getElem? (i := 411) rfl) rfl
set_option maxRecDepth 100000 in
theorem k_412 : Cond.selects R_V y_V_hash y_V_hash ∈ zt := zm (List.mem_of_getElem? (i := 412) rfl) rfl
set_option maxRecDepth 100000 in
theorem m_V_hash : Cond.code y_V_hash b_V_hash 3 (some .long) ∈ zt := zm (List.mem_of_getElem? (i := 413) rfl) rfl
set_option maxRecDepth 100000 in
theorem k_414 : Cond.methodLink R_L 81 y_V_events ∈ zt := zm (List.mem_of_getElem? (i := 414) rfl) rfl
set_option maxRecDepth 100000 in
theorem k_415 : Cond.instanceMethod y_V_events ∈ zt := zm (List.mem_of_getElem? (i := 415) rfl) rfl
set_option maxRecDepth 100000 in
theorem k_416 : Cond.selects R_V y_V_events y_V_events ∈ zt := zm (List.mem_of_getElem? (i := 416) rfl) rfl
set_option maxRecDepth 100000 in
theorem m_V_events : Cond.code y_V_events b_V_events 1 (some .int) ∈ zt := zm (List.mem_of_getElem? (i := 417) rfl) rfl
set_option maxRecDepth 100000 in
theorem k_418 : Cond.methodLink R_L 85 y_V_event ∈ zt := zm (List.mem_of_getElem? (i := 418) rfl) rfl
set_option maxRecDepth 100000 in
theorem k_419 : Cond.instanceMethod y_V_event ∈ zt := zm (List.mem_of_getElem? (i := 419) rfl) rfl
set_option maxRecDepth 100000 in
theorem k_420 : Cond.selects R_V y_V_event y_V_event ∈ zt := zm (List.mem_of_getElem? (i := 420) rfl) rfl
set_option maxRecDepth 100000 in
theorem m_V_event : Cond.code y_V_event b_V_event 2 (some .int) ∈ zt := zm (List.mem_of_getElem? (i := 421) rfl) rfl
set_option maxRecDepth 100000 in
theorem k_422 : Cond.classLink R_L 10 R_R ∈ zt := zm (List.mem_of_getElem? (i := 422) rfl) rfl
set_option maxRecDepth 100000 in
theorem k_423 : Cond.instantiable R_R 23 ∈ zt := zm (List.mem_of_getElem? (i := 423) rfl) rfl
set_option maxRecDepth 100000 in
theorem k_424 : Cond.methodLink R_L 12 y_R_init ∈ zt := zm (List.mem_of_getElem? (i := 424) rfl) rfl
set_option maxRecDepth 100000 in
theorem k_425 : Cond.instanceMethod y_R_init ∈ zt := zm (List.mem_of_getElem? (i := 425) rfl) rfl
set_option maxRecDepth 100000 in
theorem m_R_init : Cond.code y_R_init b_R_init 2 none ∈ zt := zm (List.mem_of_getElem? (i := 426) rfl) rfl
set_option maxRecDepth 100000 in
theorem k_427 : Cond.methodLink R_R 1 objectInit ∈ zt := zm (List.mem_of_getElem? (i := 427) rfl) rfl
set_option maxRecDepth 100000 in
theorem k_428 : Cond.fieldLink R_R 7 R_R "counter" "[J" ∈ zt := zm (List.mem_of_getElem? (i := 428) rfl) rfl
set_option maxRecDepth 100000 in
theorem k_429 : Cond.fieldLink R_R 13 R_R "latest" "[I" ∈ zt := zm (List.mem_of_getElem? (i := 429) rfl) rfl
set_option maxRecDepth 100000 in
theorem k_430 : Cond.fieldLink R_R 17 R_R "stamp" "[I" ∈ zt := zm (List.mem_of_getElem? (i := 430) rfl) rfl
set_option maxRecDepth 100000 in
theorem k_431 : Cond.fieldLink R_R 20 R_R "plain" "[I" ∈ zt := zm (List.mem_of_getElem? (i := 431) rfl) rfl
set_option maxRecDepth 100000 in
theorem k_432 : Cond.fieldLink R_R 23 R_R "set" "[J" ∈ zt := zm (List.mem_of_getElem? (i := 432) rfl) rfl
set_option maxRecDepth 100000 in
theorem k_433 : Cond.fieldLink R_R 26 R_R "size" "[I" ∈ zt := zm (List.mem_of_getElem? (i := 433) rfl) rfl
set_option maxRecDepth 100000 in
theorem k_434 : Cond.fieldLink R_R 29 R_R "queue" "[I" ∈ zt := zm (List.mem_of_getElem? (i := 434) rfl) rfl
set_option maxRecDepth 100000 in
theorem k_435 : Cond.fieldLink R_R 32 R_R "there" "[Z" ∈ zt := zm (List.mem_of_getElem? (i := 435) rfl) rfl
set_option maxRecDepth 100000 in
theorem k_436 : Cond.fieldLink R_R 36 R_R "option" "[J" ∈ zt := zm (List.mem_of_getElem? (i := 436) rfl) rfl
set_option maxRecDepth 100000 in
theorem k_437 : Cond.fieldLink R_R 39 R_R "pairLong" "[J" ∈ zt := zm (List.mem_of_getElem? (i := 437) rfl) rfl
set_option maxRecDepth 100000 in
theorem k_438 : Cond.fieldLink R_R 42 R_R "pairInt" "[I" ∈ zt := zm (List.mem_of_getElem? (i := 438) rfl) rfl
set_option maxRecDepth 100000 in
theorem k_439 : Cond.fieldLink R_R 75 R_R "commits" "I" ∈ zt := zm (List.mem_of_getElem? (i := 439) rfl) rfl
set_option maxRecDepth 100000 in
theorem k_440 : Cond.fieldLink R_R 45 R_R "first" "[I" ∈ zt := zm (List.mem_of_getElem? (i := 440) rfl) rfl
set_option maxRecDepth 100000 in
theorem k_441 : Cond.fieldLink R_R 48 R_R "second" "[I" ∈ zt := zm (List.mem_of_getElem? (i := 441) rfl) rfl
set_option maxRecDepth 100000 in
theorem k_442 : Cond.fieldLink R_R 51 R_R "above" "[J" ∈ zt := zm (List.mem_of_getElem? (i := 442) rfl) rfl
set_option maxRecDepth 100000 in
theorem k_443 : Cond.fieldLink R_R 54 R_R "hashes" "[J" ∈ zt := zm (List.mem_of_getElem? (i := 443) rfl) rfl
set_option maxRecDepth 100000 in
theorem k_444 : Cond.fieldLink R_R 57 R_R "heads" "[I" ∈ zt := zm (List.mem_of_getElem? (i := 444) rfl) rfl
set_option maxRecDepth 100000 in
theorem k_445 : Cond.fieldLink R_R 60 R_R "watched" "[Z" ∈ zt := zm (List.mem_of_getElem? (i := 445) rfl) rfl
set_option maxRecDepth 100000 in
theorem k_446 : Cond.fieldLink R_R 143 R_R "events" "I" ∈ zt := zm (List.mem_of_getElem? (i := 446) rfl) rfl
set_option maxRecDepth 100000 in
theorem k_447 : Cond.fieldLink R_R 63 R_R "log" "[I" ∈ zt := zm (List.mem_of_getElem? (i := 447) rfl) rfl
set_option maxRecDepth 100000 in
theorem k_448 : Cond.fieldLink R_R 66 R_R "left" "[I" ∈ zt := zm (List.mem_of_getElem? (i := 448) rfl) rfl
set_option maxRecDepth 100000 in
theorem k_449 : Cond.fieldLink R_R 69 R_R "right" "[I" ∈ zt := zm (List.mem_of_getElem? (i := 449) rfl) rfl
set_option maxRecDepth 100000 in
theorem k_450 : Cond.fieldLink R_R 72 R_R "next" "[I" ∈ zt := zm (List.mem_of_getElem? (i := 450) rfl) rfl
set_option maxRecDepth 100000 in
theorem k_451 : Cond.laysFinal R_R R_R "counter" "[J" ∈ zt := zm (List.mem_of_getElem? (i := 451) rfl) rfl
set_option maxRecDepth 100000 in
theorem k_453 : Cond.laysFinal R_R R_R "latest" "[I" ∈ zt := zm (List.mem_of_getElem? (i := 453) rfl) rfl
set_option maxRecDepth 100000 in
theorem k_455 : Cond.laysFinal R_R R_R "stamp" "[I" ∈ zt := zm (List.mem_of_getElem? (i := 455) rfl) rfl
set_option maxRecDepth 100000 in
theorem k_457 : Cond.laysFinal R_R R_R "plain" "[I" ∈ zt := zm (List.mem_of_getElem? (i := 457) rfl) rfl
set_option maxRecDepth 100000 in
theorem k_459 : Cond.laysFinal R_R R_R "set" "[J" ∈ zt := zm (List.mem_of_getElem? (i := 459) rfl) rfl
set_option maxRecDepth 100000 in
theorem k_461 : Cond.laysFinal R_R R_R "size" "[I" ∈ zt := zm (List.mem_of_getElem? (i := 461) rfl) rfl
set_option maxRecDepth 100000 in
theorem k_463 : Cond.laysFinal R_R R_R "queue" "[I" ∈ zt := zm (List.mem_of_getElem? (i := 463) rfl) rfl
set_option maxRecDepth 100000 in
theorem k_465 : Cond.laysFinal R_R R_R "there" "[Z" ∈ zt := zm (List.mem_of_getElem? (i := 465) rfl) rfl
set_option maxRecDepth 100000 in
theorem k_467 : Cond.laysFinal R_R R_R "option" "[J" ∈ zt := zm (List.mem_of_getElem? (i := 467) rfl) rfl
set_option maxRecDepth 100000 in
theorem k_469 : Cond.laysFinal R_R R_R "pairLong" "[J" ∈ zt := zm (List.mem_of_getElem? (i := 469) rfl) rfl
set_option maxRecDepth 100000 in
theorem k_471 : Cond.laysFinal R_R R_R "pairInt" "[I" ∈ zt := zm (List.mem_of_getElem? (i := 471) rfl) rfl
set_option maxRecDepth 100000 in
theorem k_473 : Cond.lays R_R R_R "commits" "I" ∈ zt := zm (List.mem_of_getElem? (i := 473) rfl) rfl
set_option maxRecDepth 100000 in
theorem k_475 : Cond.laysFinal R_R R_R "first" "[I" ∈ zt := zm (List.mem_of_getElem? (i := 475) rfl) rfl
set_option maxRecDepth 100000 in
theorem k_477 : Cond.laysFinal R_R R_R "second" "[I" ∈ zt := zm (List.mem_of_getElem? (i := 477) rfl) rfl
set_option maxRecDepth 100000 in
theorem k_479 : Cond.laysFinal R_R R_R "above" "[J" ∈ zt := zm (List.mem_of_getElem? (i := 479) rfl) rfl
set_option maxRecDepth 100000 in
theorem k_481 : Cond.laysFinal R_R R_R "hashes" "[J" ∈ zt := zm (List.mem_of_getElem? (i := 481) rfl) rfl
set_option maxRecDepth 100000 in
theorem k_483 : Cond.laysFinal R_R R_R "heads" "[I" ∈ zt := zm (List.mem_of_getElem? (i := 483) rfl) rfl
set_option maxRecDepth 100000 in
theorem k_485 : Cond.laysFinal R_R R_R "watched" "[Z" ∈ zt := zm (List.mem_of_getElem? (i := 485) rfl) rfl
set_option maxRecDepth 100000 in
theorem k_487 : Cond.lays R_R R_R "events" "I" ∈ zt := zm (List.mem_of_getElem? (i := 487) rfl) rfl
set_option maxRecDepth 100000 in
theorem k_489 : Cond.laysFinal R_R R_R "log" "[I" ∈ zt := zm (List.mem_of_getElem? (i := 489) rfl) rfl
set_option maxRecDepth 100000 in
theorem k_491 : Cond.laysFinal R_R R_R "left" "[I" ∈ zt := zm (List.mem_of_getElem? (i := 491) rfl) rfl
set_option maxRecDepth 100000 in
theorem k_493 : Cond.laysFinal R_R R_R "right" "[I" ∈ zt := zm (List.mem_of_getElem? (i := 493) rfl) rfl
set_option maxRecDepth 100000 in
theorem k_495 : Cond.laysFinal R_R R_R "next" "[I" ∈ zt := zm (List.mem_of_getElem? (i := 495) rfl) rfl
set_option maxRecDepth 100000 in
theorem k_498 : Cond.arrayClass Jvm.ClassFile.FieldType.long ∈ zt := zm (List.mem_of_getElem? (i := 498) rfl) rfl
set_option maxRecDepth 100000 in
theorem k_499 : Cond.methodLink R_L 19 y_R_change ∈ zt := zm (List.mem_of_getElem? (i := 499) rfl) rfl
set_option maxRecDepth 100000 in
theorem k_500 : Cond.instanceMethod y_R_change ∈ zt := zm (List.mem_of_getElem? (i := 500) rfl) rfl
set_option maxRecDepth 100000 in
theorem k_501 : Cond.selects R_R y_R_change y_R_change ∈ zt := zm (List.mem_of_getElem? (i := 501) rfl) rfl
set_option maxRecDepth 100000 in
theorem m_R_change : Cond.code y_R_change b_R_change 8 (some .int) ∈ zt := zm (List.mem_of_getElem? (i := 502) rfl) rfl
set_option maxRecDepth 100000 in
theorem k_503 : Cond.constantLong R_R 146 (31 : Int64) ∈ zt := zm (List.mem_of_getElem? (i := 503) rfl) rfl
set_option maxRecDepth 100000 in
theorem k_504 : Cond.constantLong R_R 148 (15 : Int64) ∈ zt := zm (List.mem_of_getElem? (i := 504) rfl) rfl
set_option maxRecDepth 100000 in
theorem k_505 : Cond.methodLink R_R 150 y_R_isBranch ∈ zt := zm (List.mem_of_getElem? (i := 505) rfl) rfl
set_option maxRecDepth 100000 in
theorem k_506 : Cond.static y_R_isBranch ∈ zt := zm (List.mem_of_getElem? (i := 506) rfl) rfl
set_option maxRecDepth 100000 in
theorem m_R_isBranch : Cond.code y_R_isBranch b_R_isBranch 1 (some .boolean) ∈ zt := zm (List.mem_of_getElem? (i := 507) rfl) rfl
set_option maxRecDepth 100000 in
theorem k_508 : Cond.methodLink R_R 154 y_R_unfit ∈ zt := zm (List.mem_of_getElem? (i := 508) rfl) rfl
set_option maxRecDepth 100000 in
theorem k_510 : Cond.instanceMethod y_R_unfit ∈ zt := zm (List.mem_of_getElem? (i := 510) rfl) rfl
set_option maxRecDepth 100000 in
theorem m_R_unfit : Cond.code y_R_unfit b_R_unfit 6 (some .boolean) ∈ zt := zm (List.mem_of_getElem? (i := 511) rfl) rfl
set_option maxRecDepth 100000 in
theorem k_512 : Cond.methodLink R_R 79 y_R_placeOf ∈ zt := zm (List.mem_of_getElem? (i := 512) rfl) rfl
set_option maxRecDepth 100000 in
theorem k_514 : Cond.instanceMethod y_R_placeOf ∈ zt := zm (List.mem_of_getElem? (i := 514) rfl) rfl
set_option maxRecDepth 100000 in
theorem m_R_placeOf : Cond.code y_R_placeOf b_R_placeOf 4 (some .int) ∈ zt := zm (List.mem_of_getElem? (i := 515) rfl) rfl
set_option maxRecDepth 100000 in
theorem k_516 : Cond.methodLink R_R 117 y_R_copy ∈ zt := zm (List.mem_of_getElem? (i := 516) rfl) rfl
set_option maxRecDepth 100000 in
theorem k_518 : Cond.instanceMethod y_R_copy ∈ zt := zm (List.mem_of_getElem? (i := 518) rfl) rfl
set_option maxRecDepth 100000 in
theorem m_R_copy : Cond.code y_R_copy b_R_copy 4 none ∈ zt := zm (List.mem_of_getElem? (i := 519) rfl) rfl
set_option maxRecDepth 100000 in
theorem k_520 : Cond.methodLink R_R 158 y_R_apply ∈ zt := zm (List.mem_of_getElem? (i := 520) rfl) rfl
set_option maxRecDepth 100000 in
theorem k_522 : Cond.instanceMethod y_R_apply ∈ zt := zm (List.mem_of_getElem? (i := 522) rfl) rfl
set_option maxRecDepth 100000 in
theorem m_R_apply : Cond.code y_R_apply b_R_apply 6 none ∈ zt := zm (List.mem_of_getElem? (i := 523) rfl) rfl
set_option maxRecDepth 100000 in
theorem k_524 : Cond.methodLink R_R 162 y_R_commit ∈ zt := zm (List.mem_of_getElem? (i := 524) rfl) rfl
set_option maxRecDepth 100000 in
theorem k_526 : Cond.instanceMethod y_R_commit ∈ zt := zm (List.mem_of_getElem? (i := 526) rfl) rfl
set_option maxRecDepth 100000 in
theorem m_R_commit : Cond.code y_R_commit b_R_commit 4 (some .int) ∈ zt := zm (List.mem_of_getElem? (i := 527) rfl) rfl
set_option maxRecDepth 100000 in
theorem k_528 : Cond.methodLink R_R 139 y_R_hashOf ∈ zt := zm (List.mem_of_getElem? (i := 528) rfl) rfl
set_option maxRecDepth 100000 in
theorem k_530 : Cond.instanceMethod y_R_hashOf ∈ zt := zm (List.mem_of_getElem? (i := 530) rfl) rfl
set_option maxRecDepth 100000 in
theorem m_R_hashOf : Cond.code y_R_hashOf b_R_hashOf 7 (some .long) ∈ zt := zm (List.mem_of_getElem? (i := 531) rfl) rfl
set_option maxRecDepth 100000 in
theorem k_532 : Cond.constantLong R_R 131 (-3750763034362895579 : Int64) ∈ zt := zm (List.mem_of_getElem? (i := 532) rfl) rfl
set_option maxRecDepth 100000 in
theorem k_533 : Cond.methodLink R_R 133 y_R_mix ∈ zt := zm (List.mem_of_getElem? (i := 533) rfl) rfl
set_option maxRecDepth 100000 in
theorem k_534 : Cond.static y_R_mix ∈ zt := zm (List.mem_of_getElem? (i := 534) rfl) rfl
set_option maxRecDepth 100000 in
theorem m_R_mix : Cond.code y_R_mix b_R_mix 7 (some .long) ∈ zt := zm (List.mem_of_getElem? (i := 535) rfl) rfl
set_option maxRecDepth 100000 in
theorem k_536 : Cond.constantLong R_R 127 (255 : Int64) ∈ zt := zm (List.mem_of_getElem? (i := 536) rfl) rfl
set_option maxRecDepth 100000 in
theorem k_537 : Cond.constantLong R_R 129 (1099511628211 : Int64) ∈ zt := zm (List.mem_of_getElem? (i := 537) rfl) rfl
set_option maxRecDepth 100000 in
theorem k_538 : Cond.constantLong R_R 137 (32 : Int64) ∈ zt := zm (List.mem_of_getElem? (i := 538) rfl) rfl
set_option maxRecDepth 100000 in
theorem k_539 : Cond.methodLink R_R 165 y_R_move ∈ zt := zm (List.mem_of_getElem? (i := 539) rfl) rfl
set_option maxRecDepth 100000 in
theorem k_541 : Cond.instanceMethod y_R_move ∈ zt := zm (List.mem_of_getElem? (i := 541) rfl) rfl
set_option maxRecDepth 100000 in
theorem m_R_move : Cond.code y_R_move b_R_move 3 none ∈ zt := zm (List.mem_of_getElem? (i := 542) rfl) rfl
set_option maxRecDepth 100000 in
theorem k_543 : Cond.methodLink R_L 24 y_R_fork ∈ zt := zm (List.mem_of_getElem? (i := 543) rfl) rfl
set_option maxRecDepth 100000 in
theorem k_544 : Cond.instanceMethod y_R_fork ∈ zt := zm (List.mem_of_getElem? (i := 544) rfl) rfl
set_option maxRecDepth 100000 in
theorem k_545 : Cond.selects R_R y_R_fork y_R_fork ∈ zt := zm (List.mem_of_getElem? (i := 545) rfl) rfl
set_option maxRecDepth 100000 in
theorem m_R_fork : Cond.code y_R_fork b_R_fork 3 (some .boolean) ∈ zt := zm (List.mem_of_getElem? (i := 546) rfl) rfl
set_option maxRecDepth 100000 in
theorem k_547 : Cond.methodLink R_L 29 y_R_swap ∈ zt := zm (List.mem_of_getElem? (i := 547) rfl) rfl
set_option maxRecDepth 100000 in
theorem k_548 : Cond.instanceMethod y_R_swap ∈ zt := zm (List.mem_of_getElem? (i := 548) rfl) rfl
set_option maxRecDepth 100000 in
theorem k_549 : Cond.selects R_R y_R_swap y_R_swap ∈ zt := zm (List.mem_of_getElem? (i := 549) rfl) rfl
set_option maxRecDepth 100000 in
theorem m_R_swap : Cond.code y_R_swap b_R_swap 4 (some .boolean) ∈ zt := zm (List.mem_of_getElem? (i := 550) rfl) rfl
set_option maxRecDepth 100000 in
theorem k_551 : Cond.methodLink R_R 168 y_R_isCommit ∈ zt := zm (List.mem_of_getElem? (i := 551) rfl) rfl
set_option maxRecDepth 100000 in
theorem k_553 : Cond.instanceMethod y_R_isCommit ∈ zt := zm (List.mem_of_getElem? (i := 553) rfl) rfl
set_option maxRecDepth 100000 in
theorem m_R_isCommit : Cond.code y_R_isCommit b_R_isCommit 2 (some .boolean) ∈ zt := zm (List.mem_of_getElem? (i := 554) rfl) rfl
set_option maxRecDepth 100000 in
theorem k_555 : Cond.methodLink R_L 34 y_R_merge ∈ zt := zm (List.mem_of_getElem? (i := 555) rfl) rfl
set_option maxRecDepth 100000 in
theorem k_556 : Cond.instanceMethod y_R_merge ∈ zt := zm (List.mem_of_getElem? (i := 556) rfl) rfl
set_option maxRecDepth 100000 in
theorem k_557 : Cond.selects R_R y_R_merge y_R_merge ∈ zt := zm (List.mem_of_getElem? (i := 557) rfl) rfl
set_option maxRecDepth 100000 in
theorem m_R_merge : Cond.code y_R_merge b_R_merge 7 (some .int) ∈ zt := zm (List.mem_of_getElem? (i := 558) rfl) rfl
set_option maxRecDepth 100000 in
theorem k_559 : Cond.methodLink R_R 171 y_R_isAbove ∈ zt := zm (List.mem_of_getElem? (i := 559) rfl) rfl
set_option maxRecDepth 100000 in
theorem k_561 : Cond.instanceMethod y_R_isAbove ∈ zt := zm (List.mem_of_getElem? (i := 561) rfl) rfl
set_option maxRecDepth 100000 in
theorem m_R_isAbove : Cond.code y_R_isAbove b_R_isAbove 3 (some .boolean) ∈ zt := zm (List.mem_of_getElem? (i := 562) rfl) rfl
set_option maxRecDepth 100000 in
theorem k_563 : Cond.methodLink R_R 175 y_R_base ∈ zt := zm (List.mem_of_getElem? (i := 563) rfl) rfl
set_option maxRecDepth 100000 in
theorem k_565 : Cond.instanceMethod y_R_base ∈ zt := zm (List.mem_of_getElem? (i := 565) rfl) rfl
set_option maxRecDepth 100000 in
theorem m_R_base : Cond.code y_R_base b_R_base 8 (some .int) ∈ zt := zm (List.mem_of_getElem? (i := 566) rfl) rfl
set_option maxRecDepth 100000 in
theorem k_567 : Cond.methodLink R_R 121 y_R_enter ∈ zt := zm (List.mem_of_getElem? (i := 567) rfl) rfl
set_option maxRecDepth 100000 in
theorem k_569 : Cond.instanceMethod y_R_enter ∈ zt := zm (List.mem_of_getElem? (i := 569) rfl) rfl
set_option maxRecDepth 100000 in
theorem m_R_enter : Cond.code y_R_enter b_R_enter 5 none ∈ zt := zm (List.mem_of_getElem? (i := 570) rfl) rfl
set_option maxRecDepth 100000 in
theorem k_571 : Cond.methodLink R_R 114 y_R_meetOf ∈ zt := zm (List.mem_of_getElem? (i := 571) rfl) rfl
set_option maxRecDepth 100000 in
theorem k_573 : Cond.instanceMethod y_R_meetOf ∈ zt := zm (List.mem_of_getElem? (i := 573) rfl) rfl
set_option maxRecDepth 100000 in
theorem m_R_meetOf : Cond.code y_R_meetOf b_R_meetOf 10 (some .int) ∈ zt := zm (List.mem_of_getElem? (i := 574) rfl) rfl
set_option maxRecDepth 100000 in
theorem k_575 : Cond.methodLink R_R 124 y_R_mergeTrees ∈ zt := zm (List.mem_of_getElem? (i := 575) rfl) rfl
set_option maxRecDepth 100000 in
theorem k_577 : Cond.instanceMethod y_R_mergeTrees ∈ zt := zm (List.mem_of_getElem? (i := 577) rfl) rfl
set_option maxRecDepth 100000 in
theorem m_R_mergeTrees : Cond.code y_R_mergeTrees b_R_mergeTrees 5 (some .int) ∈ zt := zm (List.mem_of_getElem? (i := 578) rfl) rfl
set_option maxRecDepth 100000 in
theorem k_579 : Cond.methodLink R_R 95 y_R_torn ∈ zt := zm (List.mem_of_getElem? (i := 579) rfl) rfl
set_option maxRecDepth 100000 in
theorem k_580 : Cond.static y_R_torn ∈ zt := zm (List.mem_of_getElem? (i := 580) rfl) rfl
set_option maxRecDepth 100000 in
theorem m_R_torn : Cond.code y_R_torn b_R_torn 3 (some .boolean) ∈ zt := zm (List.mem_of_getElem? (i := 581) rfl) rfl
set_option maxRecDepth 100000 in
theorem k_582 : Cond.methodLink R_R 98 y_R_chosen ∈ zt := zm (List.mem_of_getElem? (i := 582) rfl) rfl
set_option maxRecDepth 100000 in
theorem k_583 : Cond.static y_R_chosen ∈ zt := zm (List.mem_of_getElem? (i := 583) rfl) rfl
set_option maxRecDepth 100000 in
theorem m_R_chosen : Cond.code y_R_chosen b_R_chosen 3 (some .int) ∈ zt := zm (List.mem_of_getElem? (i := 584) rfl) rfl
set_option maxRecDepth 100000 in
theorem k_585 : Cond.constantLong R_R 102 (-1 : Int64) ∈ zt := zm (List.mem_of_getElem? (i := 585) rfl) rfl
set_option maxRecDepth 100000 in
theorem k_586 : Cond.methodLink R_R 104 y_R_mergeQueues ∈ zt := zm (List.mem_of_getElem? (i := 586) rfl) rfl
set_option maxRecDepth 100000 in
theorem k_588 : Cond.instanceMethod y_R_mergeQueues ∈ zt := zm (List.mem_of_getElem? (i := 588) rfl) rfl
set_option maxRecDepth 100000 in
theorem m_R_mergeQueues : Cond.code y_R_mergeQueues b_R_mergeQueues 11 (some .boolean) ∈ zt := zm (List.mem_of_getElem? (i := 589) rfl) rfl
set_option maxRecDepth 100000 in
theorem k_590 : Cond.methodLink R_R 87 y_R_member ∈ zt := zm (List.mem_of_getElem? (i := 590) rfl) rfl
set_option maxRecDepth 100000 in
theorem k_592 : Cond.instanceMethod y_R_member ∈ zt := zm (List.mem_of_getElem? (i := 592) rfl) rfl
set_option maxRecDepth 100000 in
theorem m_R_member : Cond.code y_R_member b_R_member 8 (some .boolean) ∈ zt := zm (List.mem_of_getElem? (i := 593) rfl) rfl
set_option maxRecDepth 100000 in
theorem k_594 : Cond.methodLink R_R 91 y_R_goesBefore ∈ zt := zm (List.mem_of_getElem? (i := 594) rfl) rfl
set_option maxRecDepth 100000 in
theorem k_596 : Cond.instanceMethod y_R_goesBefore ∈ zt := zm (List.mem_of_getElem? (i := 596) rfl) rfl
set_option maxRecDepth 100000 in
theorem m_R_goesBefore : Cond.code y_R_goesBefore b_R_goesBefore 9 (some .boolean) ∈ zt := zm (List.mem_of_getElem? (i := 597) rfl) rfl
set_option maxRecDepth 100000 in
theorem k_598 : Cond.methodLink R_R 83 y_R_before ∈ zt := zm (List.mem_of_getElem? (i := 598) rfl) rfl
set_option maxRecDepth 100000 in
theorem k_600 : Cond.instanceMethod y_R_before ∈ zt := zm (List.mem_of_getElem? (i := 600) rfl) rfl
set_option maxRecDepth 100000 in
theorem m_R_before : Cond.code y_R_before b_R_before 5 (some .boolean) ∈ zt := zm (List.mem_of_getElem? (i := 601) rfl) rfl
set_option maxRecDepth 100000 in
theorem k_602 : Cond.methodLink R_R 107 y_R_optionTorn ∈ zt := zm (List.mem_of_getElem? (i := 602) rfl) rfl
set_option maxRecDepth 100000 in
theorem k_604 : Cond.instanceMethod y_R_optionTorn ∈ zt := zm (List.mem_of_getElem? (i := 604) rfl) rfl
set_option maxRecDepth 100000 in
theorem m_R_optionTorn : Cond.code y_R_optionTorn b_R_optionTorn 4 (some .boolean) ∈ zt := zm (List.mem_of_getElem? (i := 605) rfl) rfl
set_option maxRecDepth 100000 in
theorem k_606 : Cond.methodLink R_R 110 y_R_mergeOptions ∈ zt := zm (List.mem_of_getElem? (i := 606) rfl) rfl
set_option maxRecDepth 100000 in
theorem k_608 : Cond.instanceMethod y_R_mergeOptions ∈ zt := zm (List.mem_of_getElem? (i := 608) rfl) rfl
set_option maxRecDepth 100000 in
theorem m_R_mergeOptions : Cond.code y_R_mergeOptions b_R_mergeOptions 9 none ∈ zt := zm (List.mem_of_getElem? (i := 609) rfl) rfl
set_option maxRecDepth 100000 in
theorem k_610 : Cond.methodLink R_L 39 y_R_watch ∈ zt := zm (List.mem_of_getElem? (i := 610) rfl) rfl
set_option maxRecDepth 100000 in
theorem k_611 : Cond.instanceMethod y_R_watch ∈ zt := zm (List.mem_of_getElem? (i := 611) rfl) rfl
set_option maxRecDepth 100000 in
theorem k_612 : Cond.selects R_R y_R_watch y_R_watch ∈ zt := zm (List.mem_of_getElem? (i := 612) rfl) rfl
set_option maxRecDepth 100000 in
theorem m_R_watch : Cond.code y_R_watch b_R_watch 3 (some .boolean) ∈ zt := zm (List.mem_of_getElem? (i := 613) rfl) rfl
set_option maxRecDepth 100000 in
theorem k_614 : Cond.methodLink R_L 44 y_R_head ∈ zt := zm (List.mem_of_getElem? (i := 614) rfl) rfl
set_option maxRecDepth 100000 in
theorem k_615 : Cond.instanceMethod y_R_head ∈ zt := zm (List.mem_of_getElem? (i := 615) rfl) rfl
set_option maxRecDepth 100000 in
theorem k_616 : Cond.selects R_R y_R_head y_R_head ∈ zt := zm (List.mem_of_getElem? (i := 616) rfl) rfl
set_option maxRecDepth 100000 in
theorem m_R_head : Cond.code y_R_head b_R_head 2 (some .int) ∈ zt := zm (List.mem_of_getElem? (i := 617) rfl) rfl
set_option maxRecDepth 100000 in
theorem k_618 : Cond.methodLink R_L 49 y_R_commits ∈ zt := zm (List.mem_of_getElem? (i := 618) rfl) rfl
set_option maxRecDepth 100000 in
theorem k_619 : Cond.instanceMethod y_R_commits ∈ zt := zm (List.mem_of_getElem? (i := 619) rfl) rfl
set_option maxRecDepth 100000 in
theorem k_620 : Cond.selects R_R y_R_commits y_R_commits ∈ zt := zm (List.mem_of_getElem? (i := 620) rfl) rfl
set_option maxRecDepth 100000 in
theorem m_R_commits : Cond.code y_R_commits b_R_commits 1 (some .int) ∈ zt := zm (List.mem_of_getElem? (i := 621) rfl) rfl
set_option maxRecDepth 100000 in
theorem k_622 : Cond.methodLink R_L 53 y_R_parent ∈ zt := zm (List.mem_of_getElem? (i := 622) rfl) rfl
set_option maxRecDepth 100000 in
theorem k_623 : Cond.instanceMethod y_R_parent ∈ zt := zm (List.mem_of_getElem? (i := 623) rfl) rfl
set_option maxRecDepth 100000 in
theorem k_624 : Cond.selects R_R y_R_parent y_R_parent ∈ zt := zm (List.mem_of_getElem? (i := 624) rfl) rfl
set_option maxRecDepth 100000 in
theorem m_R_parent : Cond.code y_R_parent b_R_parent 4 (some .int) ∈ zt := zm (List.mem_of_getElem? (i := 625) rfl) rfl
set_option maxRecDepth 100000 in
theorem k_626 : Cond.methodLink R_L 57 y_R_ancestors ∈ zt := zm (List.mem_of_getElem? (i := 626) rfl) rfl
set_option maxRecDepth 100000 in
theorem k_627 : Cond.instanceMethod y_R_ancestors ∈ zt := zm (List.mem_of_getElem? (i := 627) rfl) rfl
set_option maxRecDepth 100000 in
theorem k_628 : Cond.selects R_R y_R_ancestors y_R_ancestors ∈ zt := zm (List.mem_of_getElem? (i := 628) rfl) rfl
set_option maxRecDepth 100000 in
theorem m_R_ancestors : Cond.code y_R_ancestors b_R_ancestors 4 (some .int) ∈ zt := zm (List.mem_of_getElem? (i := 629) rfl) rfl
set_option maxRecDepth 100000 in
theorem k_630 : Cond.methodLink R_L 62 y_R_meet ∈ zt := zm (List.mem_of_getElem? (i := 630) rfl) rfl
set_option maxRecDepth 100000 in
theorem k_631 : Cond.instanceMethod y_R_meet ∈ zt := zm (List.mem_of_getElem? (i := 631) rfl) rfl
set_option maxRecDepth 100000 in
theorem k_632 : Cond.selects R_R y_R_meet y_R_meet ∈ zt := zm (List.mem_of_getElem? (i := 632) rfl) rfl
set_option maxRecDepth 100000 in
theorem m_R_meet : Cond.code y_R_meet b_R_meet 5 (some .int) ∈ zt := zm (List.mem_of_getElem? (i := 633) rfl) rfl
set_option maxRecDepth 100000 in
theorem k_634 : Cond.methodLink R_L 67 y_R_value ∈ zt := zm (List.mem_of_getElem? (i := 634) rfl) rfl
set_option maxRecDepth 100000 in
theorem k_635 : Cond.instanceMethod y_R_value ∈ zt := zm (List.mem_of_getElem? (i := 635) rfl) rfl
set_option maxRecDepth 100000 in
theorem k_636 : Cond.selects R_R y_R_value y_R_value ∈ zt := zm (List.mem_of_getElem? (i := 636) rfl) rfl
set_option maxRecDepth 100000 in
theorem m_R_value : Cond.code y_R_value b_R_value 3 (some .long) ∈ zt := zm (List.mem_of_getElem? (i := 637) rfl) rfl
set_option maxRecDepth 100000 in
theorem k_638 : Cond.methodLink R_L 71 y_R_queued ∈ zt := zm (List.mem_of_getElem? (i := 638) rfl) rfl
set_option maxRecDepth 100000 in
theorem k_639 : Cond.instanceMethod y_R_queued ∈ zt := zm (List.mem_of_getElem? (i := 639) rfl) rfl
set_option maxRecDepth 100000 in
theorem k_640 : Cond.selects R_R y_R_queued y_R_queued ∈ zt := zm (List.mem_of_getElem? (i := 640) rfl) rfl
set_option maxRecDepth 100000 in
theorem m_R_queued : Cond.code y_R_queued b_R_queued 3 (some .int) ∈ zt := zm (List.mem_of_getElem? (i := 641) rfl) rfl
set_option maxRecDepth 100000 in
theorem k_642 : Cond.methodLink R_L 75 y_R_time ∈ zt := zm (List.mem_of_getElem? (i := 642) rfl) rfl
set_option maxRecDepth 100000 in
theorem k_643 : Cond.instanceMethod y_R_time ∈ zt := zm (List.mem_of_getElem? (i := 643) rfl) rfl
set_option maxRecDepth 100000 in
theorem k_644 : Cond.selects R_R y_R_time y_R_time ∈ zt := zm (List.mem_of_getElem? (i := 644) rfl) rfl
set_option maxRecDepth 100000 in
theorem m_R_time : Cond.code y_R_time b_R_time 2 (some .int) ∈ zt := zm (List.mem_of_getElem? (i := 645) rfl) rfl
set_option maxRecDepth 100000 in
theorem k_646 : Cond.methodLink R_L 80 y_R_hash ∈ zt := zm (List.mem_of_getElem? (i := 646) rfl) rfl
set_option maxRecDepth 100000 in
theorem k_647 : Cond.instanceMethod y_R_hash ∈ zt := zm (List.mem_of_getElem? (i := 647) rfl) rfl
set_option maxRecDepth 100000 in
theorem k_648 : Cond.selects R_R y_R_hash y_R_hash ∈ zt := zm (List.mem_of_getElem? (i := 648) rfl) rfl
set_option maxRecDepth 100000 in
theorem m_R_hash : Cond.code y_R_hash b_R_hash 2 (some .long) ∈ zt := zm (List.mem_of_getElem? (i := 649) rfl) rfl
set_option maxRecDepth 100000 in
theorem k_650 : Cond.methodLink R_L 84 y_R_events ∈ zt := zm (List.mem_of_getElem? (i := 650) rfl) rfl
set_option maxRecDepth 100000 in
theorem k_651 : Cond.instanceMethod y_R_events ∈ zt := zm (List.mem_of_getElem? (i := 651) rfl) rfl
set_option maxRecDepth 100000 in
theorem k_652 : Cond.selects R_R y_R_events y_R_events ∈ zt := zm (List.mem_of_getElem? (i := 652) rfl) rfl
set_option maxRecDepth 100000 in
theorem m_R_events : Cond.code y_R_events b_R_events 1 (some .int) ∈ zt := zm (List.mem_of_getElem? (i := 653) rfl) rfl
set_option maxRecDepth 100000 in
theorem k_654 : Cond.methodLink R_L 88 y_R_event ∈ zt := zm (List.mem_of_getElem? (i := 654) rfl) rfl
set_option maxRecDepth 100000 in
theorem k_655 : Cond.instanceMethod y_R_event ∈ zt := zm (List.mem_of_getElem? (i := 655) rfl) rfl
set_option maxRecDepth 100000 in
theorem k_656 : Cond.selects R_R y_R_event y_R_event ∈ zt := zm (List.mem_of_getElem? (i := 656) rfl) rfl
set_option maxRecDepth 100000 in
theorem m_R_event : Cond.code y_R_event b_R_event 2 (some .int) ∈ zt := zm (List.mem_of_getElem? (i := 657) rfl) rfl
set_option maxRecDepth 100000 in
theorem k_658 : Cond.constantLong R_L 13 (4294967295 : Int64) ∈ zt := zm (List.mem_of_getElem? (i := 658) rfl) rfl
theorem hd_V_init : y_V_init.cls ≠ "java/lang/invoke/MethodHandle" ∧ y_V_init.cls ≠ "java/lang/invoke/VarHandle" ∧ (parseMethodDescriptor y_V_init.desc).map (fun d => d.parameters.length) = some 0 := by decide +kernel
theorem g_V_init : GoodIn zt w_V_init := zg_c m_V_init
theorem hd_T_init : y_T_init.cls ≠ "java/lang/invoke/MethodHandle" ∧ y_T_init.cls ≠ "java/lang/invoke/VarHandle" ∧ (parseMethodDescriptor y_T_init.desc).map (fun d => d.parameters.length) = some 0 := by decide +kernel
theorem g_T_init : GoodIn zt w_T_init := zg_c m_T_init
theorem hd_M_init : y_M_init.cls ≠ "java/lang/invoke/MethodHandle" ∧ y_M_init.cls ≠ "java/lang/invoke/VarHandle" ∧ (parseMethodDescriptor y_M_init.desc).map (fun d => d.parameters.length) = some 0 := by decide +kernel
theorem g_M_init : GoodIn zt w_M_init := zg_c m_M_init
theorem hd_V_change : y_V_change.cls ≠ "java/lang/invoke/MethodHandle" ∧ y_V_change.cls ≠ "java/lang/invoke/VarHandle" ∧ (parseMethodDescriptor y_V_change.desc).map (fun d => d.parameters.length) = some 3 := by decide +kernel
theorem g_V_change : GoodIn zt w_V_change := zg_c m_V_change
theorem hd_V_isBranch : y_V_isBranch.cls ≠ "java/lang/invoke/MethodHandle" ∧ y_V_isBranch.cls ≠ "java/lang/invoke/VarHandle" ∧ (parseMethodDescriptor y_V_isBranch.desc).map (fun d => d.parameters.length) = some 1 := by decide +kernel
theorem g_V_isBranch : GoodIn zt w_V_isBranch := zg_c m_V_isBranch
theorem hd_H_isInBounds : y_H_isInBounds.cls ≠ "java/lang/invoke/MethodHandle" ∧ y_H_isInBounds.cls ≠ "java/lang/invoke/VarHandle" ∧ (parseMethodDescriptor y_H_isInBounds.desc).map (fun d => d.parameters.length) = some 2 := by decide +kernel
theorem g_H_isInBounds : GoodIn zt w_H_isInBounds := zg_c m_H_isInBounds
theorem hd_V_commitAt : y_V_commitAt.cls ≠ "java/lang/invoke/MethodHandle" ∧ y_V_commitAt.cls ≠ "java/lang/invoke/VarHandle" ∧ (parseMethodDescriptor y_V_commitAt.desc).map (fun d => d.parameters.length) = some 1 := by decide +kernel
theorem g_V_commitAt : GoodIn zt w_V_commitAt := zg_c m_V_commitAt
theorem hd_V_isCommit : y_V_isCommit.cls ≠ "java/lang/invoke/MethodHandle" ∧ y_V_isCommit.cls ≠ "java/lang/invoke/VarHandle" ∧ (parseMethodDescriptor y_V_isCommit.desc).map (fun d => d.parameters.length) = some 1 := by decide +kernel
theorem g_V_isCommit : GoodIn zt w_V_isCommit := zg_c m_V_isCommit
theorem hd_H_fits : y_H_fits.cls ≠ "java/lang/invoke/MethodHandle" ∧ y_H_fits.cls ≠ "java/lang/invoke/VarHandle" ∧ (parseMethodDescriptor y_H_fits.desc).map (fun d => d.parameters.length) = some 3 := by decide +kernel
theorem g_H_fits : GoodIn zt w_H_fits := zg_c m_H_fits
theorem hd_T_setAsSum : y_T_setAsSum.cls ≠ "java/lang/invoke/MethodHandle" ∧ y_T_setAsSum.cls ≠ "java/lang/invoke/VarHandle" ∧ (parseMethodDescriptor y_T_setAsSum.desc).map (fun d => d.parameters.length) = some 0 := by decide +kernel
theorem g_T_setAsSum : GoodIn zt w_T_setAsSum := zg_c m_T_setAsSum
theorem hd_V_isIn : y_V_isIn.cls ≠ "java/lang/invoke/MethodHandle" ∧ y_V_isIn.cls ≠ "java/lang/invoke/VarHandle" ∧ (parseMethodDescriptor y_V_isIn.desc).map (fun d => d.parameters.length) = some 2 := by decide +kernel
theorem g_V_isIn : GoodIn zt w_V_isIn := zg_c m_V_isIn
theorem hd_Q_members : y_Q_members.cls ≠ "java/lang/invoke/MethodHandle" ∧ y_Q_members.cls ≠ "java/lang/invoke/VarHandle" ∧ (parseMethodDescriptor y_Q_members.desc).map (fun d => d.parameters.length) = some 1 := by decide +kernel
theorem g_Q_members : GoodIn zt w_Q_members := zg_c m_Q_members
theorem hd_Q_elementAt : y_Q_elementAt.cls ≠ "java/lang/invoke/MethodHandle" ∧ y_Q_elementAt.cls ≠ "java/lang/invoke/VarHandle" ∧ (parseMethodDescriptor y_Q_elementAt.desc).map (fun d => d.parameters.length) = some 2 := by decide +kernel
theorem g_Q_elementAt : GoodIn zt w_Q_elementAt := zg_c m_Q_elementAt
theorem hd_Q_length : y_Q_length.cls ≠ "java/lang/invoke/MethodHandle" ∧ y_Q_length.cls ≠ "java/lang/invoke/VarHandle" ∧ (parseMethodDescriptor y_Q_length.desc).map (fun d => d.parameters.length) = some 1 := by decide +kernel
theorem g_Q_length : GoodIn zt w_Q_length := zg_c m_Q_length
theorem hd_T_become : y_T_become.cls ≠ "java/lang/invoke/MethodHandle" ∧ y_T_become.cls ≠ "java/lang/invoke/VarHandle" ∧ (parseMethodDescriptor y_T_become.desc).map (fun d => d.parameters.length) = some 1 := by decide +kernel
theorem g_T_become : GoodIn zt w_T_become := zg_c m_T_become
theorem hd_H_apply : y_H_apply.cls ≠ "java/lang/invoke/MethodHandle" ∧ y_H_apply.cls ≠ "java/lang/invoke/VarHandle" ∧ (parseMethodDescriptor y_H_apply.desc).map (fun d => d.parameters.length) = some 4 := by decide +kernel
theorem g_H_apply : GoodIn zt w_H_apply := zg_c m_H_apply
theorem hd_Q_withElement : y_Q_withElement.cls ≠ "java/lang/invoke/MethodHandle" ∧ y_Q_withElement.cls ≠ "java/lang/invoke/VarHandle" ∧ (parseMethodDescriptor y_Q_withElement.desc).map (fun d => d.parameters.length) = some 3 := by decide +kernel
theorem g_Q_withElement : GoodIn zt w_Q_withElement := zg_c m_Q_withElement
theorem hd_Q_withoutFirst : y_Q_withoutFirst.cls ≠ "java/lang/invoke/MethodHandle" ∧ y_Q_withoutFirst.cls ≠ "java/lang/invoke/VarHandle" ∧ (parseMethodDescriptor y_Q_withoutFirst.desc).map (fun d => d.parameters.length) = some 1 := by decide +kernel
theorem g_Q_withoutFirst : GoodIn zt w_Q_withoutFirst := zg_c m_Q_withoutFirst
theorem hd_V_commitDraft : y_V_commitDraft.cls ≠ "java/lang/invoke/MethodHandle" ∧ y_V_commitDraft.cls ≠ "java/lang/invoke/VarHandle" ∧ (parseMethodDescriptor y_V_commitDraft.desc).map (fun d => d.parameters.length) = some 3 := by decide +kernel
theorem g_V_commitDraft : GoodIn zt w_V_commitDraft := zg_c m_V_commitDraft
theorem hd_C_init : y_C_init.cls ≠ "java/lang/invoke/MethodHandle" ∧ y_C_init.cls ≠ "java/lang/invoke/VarHandle" ∧ (parseMethodDescriptor y_C_init.desc).map (fun d => d.parameters.length) = some 4 := by decide +kernel
theorem g_C_init : GoodIn zt w_C_init := zg_c m_C_init
theorem hd_C_pastOf : y_C_pastOf.cls ≠ "java/lang/invoke/MethodHandle" ∧ y_C_pastOf.cls ≠ "java/lang/invoke/VarHandle" ∧ (parseMethodDescriptor y_C_pastOf.desc).map (fun d => d.parameters.length) = some 1 := by decide +kernel
theorem g_C_pastOf : GoodIn zt w_C_pastOf := zg_c m_C_pastOf
theorem hd_C_hashOfParents : y_C_hashOfParents.cls ≠ "java/lang/invoke/MethodHandle" ∧ y_C_hashOfParents.cls ≠ "java/lang/invoke/VarHandle" ∧ (parseMethodDescriptor y_C_hashOfParents.desc).map (fun d => d.parameters.length) = some 2 := by decide +kernel
theorem g_C_hashOfParents : GoodIn zt w_C_hashOfParents := zg_c m_C_hashOfParents
theorem hd_C_mixed : y_C_mixed.cls ≠ "java/lang/invoke/MethodHandle" ∧ y_C_mixed.cls ≠ "java/lang/invoke/VarHandle" ∧ (parseMethodDescriptor y_C_mixed.desc).map (fun d => d.parameters.length) = some 2 := by decide +kernel
theorem g_C_mixed : GoodIn zt w_C_mixed := zg_c m_C_mixed
theorem hd_C_hashWithTree : y_C_hashWithTree.cls ≠ "java/lang/invoke/MethodHandle" ∧ y_C_hashWithTree.cls ≠ "java/lang/invoke/VarHandle" ∧ (parseMethodDescriptor y_C_hashWithTree.desc).map (fun d => d.parameters.length) = some 2 := by decide +kernel
theorem g_C_hashWithTree : GoodIn zt w_C_hashWithTree := zg_c m_C_hashWithTree
theorem hd_V_moveHead : y_V_moveHead.cls ≠ "java/lang/invoke/MethodHandle" ∧ y_V_moveHead.cls ≠ "java/lang/invoke/VarHandle" ∧ (parseMethodDescriptor y_V_moveHead.desc).map (fun d => d.parameters.length) = some 2 := by decide +kernel
theorem g_V_moveHead : GoodIn zt w_V_moveHead := zg_c m_V_moveHead
theorem hd_V_fork : y_V_fork.cls ≠ "java/lang/invoke/MethodHandle" ∧ y_V_fork.cls ≠ "java/lang/invoke/VarHandle" ∧ (parseMethodDescriptor y_V_fork.desc).map (fun d => d.parameters.length) = some 2 := by decide +kernel
theorem g_V_fork : GoodIn zt w_V_fork := zg_c m_V_fork
theorem hd_V_swap : y_V_swap.cls ≠ "java/lang/invoke/MethodHandle" ∧ y_V_swap.cls ≠ "java/lang/invoke/VarHandle" ∧ (parseMethodDescriptor y_V_swap.desc).map (fun d => d.parameters.length) = some 3 := by decide +kernel
theorem g_V_swap : GoodIn zt w_V_swap := zg_c m_V_swap
theorem hd_V_merge : y_V_merge.cls ≠ "java/lang/invoke/MethodHandle" ∧ y_V_merge.cls ≠ "java/lang/invoke/VarHandle" ∧ (parseMethodDescriptor y_V_merge.desc).map (fun d => d.parameters.length) = some 2 := by decide +kernel
theorem g_V_merge : GoodIn zt w_V_merge := zg_c m_V_merge
theorem hd_C_descendsFrom : y_C_descendsFrom.cls ≠ "java/lang/invoke/MethodHandle" ∧ y_C_descendsFrom.cls ≠ "java/lang/invoke/VarHandle" ∧ (parseMethodDescriptor y_C_descendsFrom.desc).map (fun d => d.parameters.length) = some 1 := by decide +kernel
theorem g_C_descendsFrom : GoodIn zt w_C_descendsFrom := zg_c m_C_descendsFrom
theorem hd_V_draftMerging : y_V_draftMerging.cls ≠ "java/lang/invoke/MethodHandle" ∧ y_V_draftMerging.cls ≠ "java/lang/invoke/VarHandle" ∧ (parseMethodDescriptor y_V_draftMerging.desc).map (fun d => d.parameters.length) = some 2 := by decide +kernel
theorem g_V_draftMerging : GoodIn zt w_V_draftMerging := zg_c m_V_draftMerging
theorem hd_V_layBase : y_V_layBase.cls ≠ "java/lang/invoke/MethodHandle" ∧ y_V_layBase.cls ≠ "java/lang/invoke/VarHandle" ∧ (parseMethodDescriptor y_V_layBase.desc).map (fun d => d.parameters.length) = some 3 := by decide +kernel
theorem g_V_layBase : GoodIn zt w_V_layBase := zg_c m_V_layBase
theorem hd_V_meetsOf : y_V_meetsOf.cls ≠ "java/lang/invoke/MethodHandle" ∧ y_V_meetsOf.cls ≠ "java/lang/invoke/VarHandle" ∧ (parseMethodDescriptor y_V_meetsOf.desc).map (fun d => d.parameters.length) = some 2 := by decide +kernel
theorem g_V_meetsOf : GoodIn zt w_V_meetsOf := zg_c m_V_meetsOf
theorem hd_C_properPast : y_C_properPast.cls ≠ "java/lang/invoke/MethodHandle" ∧ y_C_properPast.cls ≠ "java/lang/invoke/VarHandle" ∧ (parseMethodDescriptor y_C_properPast.desc).map (fun d => d.parameters.length) = some 0 := by decide +kernel
theorem g_C_properPast : GoodIn zt w_C_properPast := zg_c m_C_properPast
theorem hd_V_nextIn : y_V_nextIn.cls ≠ "java/lang/invoke/MethodHandle" ∧ y_V_nextIn.cls ≠ "java/lang/invoke/VarHandle" ∧ (parseMethodDescriptor y_V_nextIn.desc).map (fun d => d.parameters.length) = some 2 := by decide +kernel
theorem g_V_nextIn : GoodIn zt w_V_nextIn := zg_c m_V_nextIn
theorem hd_M_mergeInto : y_M_mergeInto.cls ≠ "java/lang/invoke/MethodHandle" ∧ y_M_mergeInto.cls ≠ "java/lang/invoke/VarHandle" ∧ (parseMethodDescriptor y_M_mergeInto.desc).map (fun d => d.parameters.length) = some 3 := by decide +kernel
theorem g_M_mergeInto : GoodIn zt w_M_mergeInto := zg_c m_M_mergeInto
theorem hd_M_mergedLong : y_M_mergedLong.cls ≠ "java/lang/invoke/MethodHandle" ∧ y_M_mergedLong.cls ≠ "java/lang/invoke/VarHandle" ∧ (parseMethodDescriptor y_M_mergedLong.desc).map (fun d => d.parameters.length) = some 3 := by decide +kernel
theorem g_M_mergedLong : GoodIn zt w_M_mergedLong := zg_c m_M_mergedLong
theorem hd_M_mergeLatest : y_M_mergeLatest.cls ≠ "java/lang/invoke/MethodHandle" ∧ y_M_mergeLatest.cls ≠ "java/lang/invoke/VarHandle" ∧ (parseMethodDescriptor y_M_mergeLatest.desc).map (fun d => d.parameters.length) = some 2 := by decide +kernel
theorem g_M_mergeLatest : GoodIn zt w_M_mergeLatest := zg_c m_M_mergeLatest
theorem hd_M_clash : y_M_clash.cls ≠ "java/lang/invoke/MethodHandle" ∧ y_M_clash.cls ≠ "java/lang/invoke/VarHandle" ∧ (parseMethodDescriptor y_M_clash.desc).map (fun d => d.parameters.length) = some 3 := by decide +kernel
theorem g_M_clash : GoodIn zt w_M_clash := zg_c m_M_clash
theorem hd_M_mergedInt : y_M_mergedInt.cls ≠ "java/lang/invoke/MethodHandle" ∧ y_M_mergedInt.cls ≠ "java/lang/invoke/VarHandle" ∧ (parseMethodDescriptor y_M_mergedInt.desc).map (fun d => d.parameters.length) = some 3 := by decide +kernel
theorem g_M_mergedInt : GoodIn zt w_M_mergedInt := zg_c m_M_mergedInt
theorem hd_M_mergedSet : y_M_mergedSet.cls ≠ "java/lang/invoke/MethodHandle" ∧ y_M_mergedSet.cls ≠ "java/lang/invoke/VarHandle" ∧ (parseMethodDescriptor y_M_mergedSet.desc).map (fun d => d.parameters.length) = some 3 := by decide +kernel
theorem g_M_mergedSet : GoodIn zt w_M_mergedSet := zg_c m_M_mergedSet
theorem hd_M_mergedQueue : y_M_mergedQueue.cls ≠ "java/lang/invoke/MethodHandle" ∧ y_M_mergedQueue.cls ≠ "java/lang/invoke/VarHandle" ∧ (parseMethodDescriptor y_M_mergedQueue.desc).map (fun d => d.parameters.length) = some 3 := by decide +kernel
theorem g_M_mergedQueue : GoodIn zt w_M_mergedQueue := zg_c m_M_mergedQueue
theorem hd_JI_bitCount : y_JI_bitCount.cls ≠ "java/lang/invoke/MethodHandle" ∧ y_JI_bitCount.cls ≠ "java/lang/invoke/VarHandle" ∧ (parseMethodDescriptor y_JI_bitCount.desc).map (fun d => d.parameters.length) = some 1 := by decide +kernel
theorem g_JI_bitCount : GoodIn zt w_JI_bitCount := zg_c m_JI_bitCount
theorem hd_Q_standingBefore : y_Q_standingBefore.cls ≠ "java/lang/invoke/MethodHandle" ∧ y_Q_standingBefore.cls ≠ "java/lang/invoke/VarHandle" ∧ (parseMethodDescriptor y_Q_standingBefore.desc).map (fun d => d.parameters.length) = some 2 := by decide +kernel
theorem g_Q_standingBefore : GoodIn zt w_Q_standingBefore := zg_c m_Q_standingBefore
theorem hd_M_leastFree : y_M_leastFree.cls ≠ "java/lang/invoke/MethodHandle" ∧ y_M_leastFree.cls ≠ "java/lang/invoke/VarHandle" ∧ (parseMethodDescriptor y_M_leastFree.desc).map (fun d => d.parameters.length) = some 1 := by decide +kernel
theorem g_M_leastFree : GoodIn zt w_M_leastFree := zg_c m_M_leastFree
theorem hd_M_mergeOption : y_M_mergeOption.cls ≠ "java/lang/invoke/MethodHandle" ∧ y_M_mergeOption.cls ≠ "java/lang/invoke/VarHandle" ∧ (parseMethodDescriptor y_M_mergeOption.desc).map (fun d => d.parameters.length) = some 3 := by decide +kernel
theorem g_M_mergeOption : GoodIn zt w_M_mergeOption := zg_c m_M_mergeOption
theorem hd_V_watch : y_V_watch.cls ≠ "java/lang/invoke/MethodHandle" ∧ y_V_watch.cls ≠ "java/lang/invoke/VarHandle" ∧ (parseMethodDescriptor y_V_watch.desc).map (fun d => d.parameters.length) = some 2 := by decide +kernel
theorem g_V_watch : GoodIn zt w_V_watch := zg_c m_V_watch
theorem hd_V_head : y_V_head.cls ≠ "java/lang/invoke/MethodHandle" ∧ y_V_head.cls ≠ "java/lang/invoke/VarHandle" ∧ (parseMethodDescriptor y_V_head.desc).map (fun d => d.parameters.length) = some 1 := by decide +kernel
theorem g_V_head : GoodIn zt w_V_head := zg_c m_V_head
theorem hd_V_commits : y_V_commits.cls ≠ "java/lang/invoke/MethodHandle" ∧ y_V_commits.cls ≠ "java/lang/invoke/VarHandle" ∧ (parseMethodDescriptor y_V_commits.desc).map (fun d => d.parameters.length) = some 0 := by decide +kernel
theorem g_V_commits : GoodIn zt w_V_commits := zg_c m_V_commits
theorem hd_V_parent : y_V_parent.cls ≠ "java/lang/invoke/MethodHandle" ∧ y_V_parent.cls ≠ "java/lang/invoke/VarHandle" ∧ (parseMethodDescriptor y_V_parent.desc).map (fun d => d.parameters.length) = some 2 := by decide +kernel
theorem g_V_parent : GoodIn zt w_V_parent := zg_c m_V_parent
theorem hd_V_ancestors : y_V_ancestors.cls ≠ "java/lang/invoke/MethodHandle" ∧ y_V_ancestors.cls ≠ "java/lang/invoke/VarHandle" ∧ (parseMethodDescriptor y_V_ancestors.desc).map (fun d => d.parameters.length) = some 1 := by decide +kernel
theorem g_V_ancestors : GoodIn zt w_V_ancestors := zg_c m_V_ancestors
theorem hd_JL_bitCount : y_JL_bitCount.cls ≠ "java/lang/invoke/MethodHandle" ∧ y_JL_bitCount.cls ≠ "java/lang/invoke/VarHandle" ∧ (parseMethodDescriptor y_JL_bitCount.desc).map (fun d => d.parameters.length) = some 1 := by decide +kernel
theorem g_JL_bitCount : GoodIn zt w_JL_bitCount := zg_c m_JL_bitCount
theorem hd_V_meet : y_V_meet.cls ≠ "java/lang/invoke/MethodHandle" ∧ y_V_meet.cls ≠ "java/lang/invoke/VarHandle" ∧ (parseMethodDescriptor y_V_meet.desc).map (fun d => d.parameters.length) = some 3 := by decide +kernel
theorem g_V_meet : GoodIn zt w_V_meet := zg_c m_V_meet
theorem hd_V_value : y_V_value.cls ≠ "java/lang/invoke/MethodHandle" ∧ y_V_value.cls ≠ "java/lang/invoke/VarHandle" ∧ (parseMethodDescriptor y_V_value.desc).map (fun d => d.parameters.length) = some 2 := by decide +kernel
theorem g_V_value : GoodIn zt w_V_value := zg_c m_V_value
theorem hd_V_queued : y_V_queued.cls ≠ "java/lang/invoke/MethodHandle" ∧ y_V_queued.cls ≠ "java/lang/invoke/VarHandle" ∧ (parseMethodDescriptor y_V_queued.desc).map (fun d => d.parameters.length) = some 2 := by decide +kernel
theorem g_V_queued : GoodIn zt w_V_queued := zg_c m_V_queued
theorem hd_V_time : y_V_time.cls ≠ "java/lang/invoke/MethodHandle" ∧ y_V_time.cls ≠ "java/lang/invoke/VarHandle" ∧ (parseMethodDescriptor y_V_time.desc).map (fun d => d.parameters.length) = some 1 := by decide +kernel
theorem g_V_time : GoodIn zt w_V_time := zg_c m_V_time
theorem hd_V_hash : y_V_hash.cls ≠ "java/lang/invoke/MethodHandle" ∧ y_V_hash.cls ≠ "java/lang/invoke/VarHandle" ∧ (parseMethodDescriptor y_V_hash.desc).map (fun d => d.parameters.length) = some 1 := by decide +kernel
theorem g_V_hash : GoodIn zt w_V_hash := zg_c m_V_hash
theorem hd_V_events : y_V_events.cls ≠ "java/lang/invoke/MethodHandle" ∧ y_V_events.cls ≠ "java/lang/invoke/VarHandle" ∧ (parseMethodDescriptor y_V_events.desc).map (fun d => d.parameters.length) = some 0 := by decide +kernel
theorem g_V_events : GoodIn zt w_V_events := zg_c m_V_events
theorem hd_V_event : y_V_event.cls ≠ "java/lang/invoke/MethodHandle" ∧ y_V_event.cls ≠ "java/lang/invoke/VarHandle" ∧ (parseMethodDescriptor y_V_event.desc).map (fun d => d.parameters.length) = some 1 := by decide +kernel
theorem g_V_event : GoodIn zt w_V_event := zg_c m_V_event
theorem hd_R_init : y_R_init.cls ≠ "java/lang/invoke/MethodHandle" ∧ y_R_init.cls ≠ "java/lang/invoke/VarHandle" ∧ (parseMethodDescriptor y_R_init.desc).map (fun d => d.parameters.length) = some 0 := by decide +kernel
theorem g_R_init : GoodIn zt w_R_init := zg_c m_R_init
theorem hd_R_change : y_R_change.cls ≠ "java/lang/invoke/MethodHandle" ∧ y_R_change.cls ≠ "java/lang/invoke/VarHandle" ∧ (parseMethodDescriptor y_R_change.desc).map (fun d => d.parameters.length) = some 3 := by decide +kernel
theorem g_R_change : GoodIn zt w_R_change := zg_c m_R_change
theorem hd_R_isBranch : y_R_isBranch.cls ≠ "java/lang/invoke/MethodHandle" ∧ y_R_isBranch.cls ≠ "java/lang/invoke/VarHandle" ∧ (parseMethodDescriptor y_R_isBranch.desc).map (fun d => d.parameters.length) = some 1 := by decide +kernel
theorem g_R_isBranch : GoodIn zt w_R_isBranch := zg_c m_R_isBranch
theorem hd_R_unfit : y_R_unfit.cls ≠ "java/lang/invoke/MethodHandle" ∧ y_R_unfit.cls ≠ "java/lang/invoke/VarHandle" ∧ (parseMethodDescriptor y_R_unfit.desc).map (fun d => d.parameters.length) = some 3 := by decide +kernel
theorem g_R_unfit : GoodIn zt w_R_unfit := zg_c m_R_unfit
theorem hd_R_placeOf : y_R_placeOf.cls ≠ "java/lang/invoke/MethodHandle" ∧ y_R_placeOf.cls ≠ "java/lang/invoke/VarHandle" ∧ (parseMethodDescriptor y_R_placeOf.desc).map (fun d => d.parameters.length) = some 2 := by decide +kernel
theorem g_R_placeOf : GoodIn zt w_R_placeOf := zg_c m_R_placeOf
theorem hd_R_copy : y_R_copy.cls ≠ "java/lang/invoke/MethodHandle" ∧ y_R_copy.cls ≠ "java/lang/invoke/VarHandle" ∧ (parseMethodDescriptor y_R_copy.desc).map (fun d => d.parameters.length) = some 2 := by decide +kernel
theorem g_R_copy : GoodIn zt w_R_copy := zg_c m_R_copy
theorem hd_R_apply : y_R_apply.cls ≠ "java/lang/invoke/MethodHandle" ∧ y_R_apply.cls ≠ "java/lang/invoke/VarHandle" ∧ (parseMethodDescriptor y_R_apply.desc).map (fun d => d.parameters.length) = some 2 := by decide +kernel
theorem g_R_apply : GoodIn zt w_R_apply := zg_c m_R_apply
theorem hd_R_commit : y_R_commit.cls ≠ "java/lang/invoke/MethodHandle" ∧ y_R_commit.cls ≠ "java/lang/invoke/VarHandle" ∧ (parseMethodDescriptor y_R_commit.desc).map (fun d => d.parameters.length) = some 2 := by decide +kernel
theorem g_R_commit : GoodIn zt w_R_commit := zg_c m_R_commit
theorem hd_R_hashOf : y_R_hashOf.cls ≠ "java/lang/invoke/MethodHandle" ∧ y_R_hashOf.cls ≠ "java/lang/invoke/VarHandle" ∧ (parseMethodDescriptor y_R_hashOf.desc).map (fun d => d.parameters.length) = some 1 := by decide +kernel
theorem g_R_hashOf : GoodIn zt w_R_hashOf := zg_c m_R_hashOf
theorem hd_R_mix : y_R_mix.cls ≠ "java/lang/invoke/MethodHandle" ∧ y_R_mix.cls ≠ "java/lang/invoke/VarHandle" ∧ (parseMethodDescriptor y_R_mix.desc).map (fun d => d.parameters.length) = some 2 := by decide +kernel
theorem g_R_mix : GoodIn zt w_R_mix := zg_c m_R_mix
theorem hd_R_move : y_R_move.cls ≠ "java/lang/invoke/MethodHandle" ∧ y_R_move.cls ≠ "java/lang/invoke/VarHandle" ∧ (parseMethodDescriptor y_R_move.desc).map (fun d => d.parameters.length) = some 2 := by decide +kernel
theorem g_R_move : GoodIn zt w_R_move := zg_c m_R_move
theorem hd_R_fork : y_R_fork.cls ≠ "java/lang/invoke/MethodHandle" ∧ y_R_fork.cls ≠ "java/lang/invoke/VarHandle" ∧ (parseMethodDescriptor y_R_fork.desc).map (fun d => d.parameters.length) = some 2 := by decide +kernel
theorem g_R_fork : GoodIn zt w_R_fork := zg_c m_R_fork
theorem hd_R_swap : y_R_swap.cls ≠ "java/lang/invoke/MethodHandle" ∧ y_R_swap.cls ≠ "java/lang/invoke/VarHandle" ∧ (parseMethodDescriptor y_R_swap.desc).map (fun d => d.parameters.length) = some 3 := by decide +kernel
theorem g_R_swap : GoodIn zt w_R_swap := zg_c m_R_swap
theorem hd_R_isCommit : y_R_isCommit.cls ≠ "java/lang/invoke/MethodHandle" ∧ y_R_isCommit.cls ≠ "java/lang/invoke/VarHandle" ∧ (parseMethodDescriptor y_R_isCommit.desc).map (fun d => d.parameters.length) = some 1 := by decide +kernel
theorem g_R_isCommit : GoodIn zt w_R_isCommit := zg_c m_R_isCommit
theorem hd_R_merge : y_R_merge.cls ≠ "java/lang/invoke/MethodHandle" ∧ y_R_merge.cls ≠ "java/lang/invoke/VarHandle" ∧ (parseMethodDescriptor y_R_merge.desc).map (fun d => d.parameters.length) = some 2 := by decide +kernel
theorem g_R_merge : GoodIn zt w_R_merge := zg_c m_R_merge
theorem hd_R_isAbove : y_R_isAbove.cls ≠ "java/lang/invoke/MethodHandle" ∧ y_R_isAbove.cls ≠ "java/lang/invoke/VarHandle" ∧ (parseMethodDescriptor y_R_isAbove.desc).map (fun d => d.parameters.length) = some 2 := by decide +kernel
theorem g_R_isAbove : GoodIn zt w_R_isAbove := zg_c m_R_isAbove
theorem hd_R_base : y_R_base.cls ≠ "java/lang/invoke/MethodHandle" ∧ y_R_base.cls ≠ "java/lang/invoke/VarHandle" ∧ (parseMethodDescriptor y_R_base.desc).map (fun d => d.parameters.length) = some 2 := by decide +kernel
theorem g_R_base : GoodIn zt w_R_base := zg_c m_R_base
theorem hd_R_enter : y_R_enter.cls ≠ "java/lang/invoke/MethodHandle" ∧ y_R_enter.cls ≠ "java/lang/invoke/VarHandle" ∧ (parseMethodDescriptor y_R_enter.desc).map (fun d => d.parameters.length) = some 3 := by decide +kernel
theorem g_R_enter : GoodIn zt w_R_enter := zg_c m_R_enter
theorem hd_R_meetOf : y_R_meetOf.cls ≠ "java/lang/invoke/MethodHandle" ∧ y_R_meetOf.cls ≠ "java/lang/invoke/VarHandle" ∧ (parseMethodDescriptor y_R_meetOf.desc).map (fun d => d.parameters.length) = some 3 := by decide +kernel
theorem g_R_meetOf : GoodIn zt w_R_meetOf := zg_c m_R_meetOf
theorem hd_R_mergeTrees : y_R_mergeTrees.cls ≠ "java/lang/invoke/MethodHandle" ∧ y_R_mergeTrees.cls ≠ "java/lang/invoke/VarHandle" ∧ (parseMethodDescriptor y_R_mergeTrees.desc).map (fun d => d.parameters.length) = some 3 := by decide +kernel
theorem g_R_mergeTrees : GoodIn zt w_R_mergeTrees := zg_c m_R_mergeTrees
theorem hd_R_torn : y_R_torn.cls ≠ "java/lang/invoke/MethodHandle" ∧ y_R_torn.cls ≠ "java/lang/invoke/VarHandle" ∧ (parseMethodDescriptor y_R_torn.desc).map (fun d => d.parameters.length) = some 3 := by decide +kernel
theorem g_R_torn : GoodIn zt w_R_torn := zg_c m_R_torn
theorem hd_R_chosen : y_R_chosen.cls ≠ "java/lang/invoke/MethodHandle" ∧ y_R_chosen.cls ≠ "java/lang/invoke/VarHandle" ∧ (parseMethodDescriptor y_R_chosen.desc).map (fun d => d.parameters.length) = some 3 := by decide +kernel
theorem g_R_chosen : GoodIn zt w_R_chosen := zg_c m_R_chosen
theorem hd_R_mergeQueues : y_R_mergeQueues.cls ≠ "java/lang/invoke/MethodHandle" ∧ y_R_mergeQueues.cls ≠ "java/lang/invoke/VarHandle" ∧ (parseMethodDescriptor y_R_mergeQueues.desc).map (fun d => d.parameters.length) = some 3 := by decide +kernel
theorem g_R_mergeQueues : GoodIn zt w_R_mergeQueues := zg_c m_R_mergeQueues
theorem hd_R_member : y_R_member.cls ≠ "java/lang/invoke/MethodHandle" ∧ y_R_member.cls ≠ "java/lang/invoke/VarHandle" ∧ (parseMethodDescriptor y_R_member.desc).map (fun d => d.parameters.length) = some 4 := by decide +kernel
theorem g_R_member : GoodIn zt w_R_member := zg_c m_R_member
theorem hd_R_goesBefore : y_R_goesBefore.cls ≠ "java/lang/invoke/MethodHandle" ∧ y_R_goesBefore.cls ≠ "java/lang/invoke/VarHandle" ∧ (parseMethodDescriptor y_R_goesBefore.desc).map (fun d => d.parameters.length) = some 5 := by decide +kernel
theorem g_R_goesBefore : GoodIn zt w_R_goesBefore := zg_c m_R_goesBefore
theorem hd_R_before : y_R_before.cls ≠ "java/lang/invoke/MethodHandle" ∧ y_R_before.cls ≠ "java/lang/invoke/VarHandle" ∧ (parseMethodDescriptor y_R_before.desc).map (fun d => d.parameters.length) = some 3 := by decide +kernel
theorem g_R_before : GoodIn zt w_R_before := zg_c m_R_before
theorem hd_R_optionTorn : y_R_optionTorn.cls ≠ "java/lang/invoke/MethodHandle" ∧ y_R_optionTorn.cls ≠ "java/lang/invoke/VarHandle" ∧ (parseMethodDescriptor y_R_optionTorn.desc).map (fun d => d.parameters.length) = some 3 := by decide +kernel
theorem g_R_optionTorn : GoodIn zt w_R_optionTorn := zg_c m_R_optionTorn
theorem hd_R_mergeOptions : y_R_mergeOptions.cls ≠ "java/lang/invoke/MethodHandle" ∧ y_R_mergeOptions.cls ≠ "java/lang/invoke/VarHandle" ∧ (parseMethodDescriptor y_R_mergeOptions.desc).map (fun d => d.parameters.length) = some 3 := by decide +kernel
theorem g_R_mergeOptions : GoodIn zt w_R_mergeOptions := zg_c m_R_mergeOptions
theorem hd_R_watch : y_R_watch.cls ≠ "java/lang/invoke/MethodHandle" ∧ y_R_watch.cls ≠ "java/lang/invoke/VarHandle" ∧ (parseMethodDescriptor y_R_watch.desc).map (fun d => d.parameters.length) = some 2 := by decide +kernel
theorem g_R_watch : GoodIn zt w_R_watch := zg_c m_R_watch
theorem hd_R_head : y_R_head.cls ≠ "java/lang/invoke/MethodHandle" ∧ y_R_head.cls ≠ "java/lang/invoke/VarHandle" ∧ (parseMethodDescriptor y_R_head.desc).map (fun d => d.parameters.length) = some 1 := by decide +kernel
theorem g_R_head : GoodIn zt w_R_head := zg_c m_R_head
theorem hd_R_commits : y_R_commits.cls ≠ "java/lang/invoke/MethodHandle" ∧ y_R_commits.cls ≠ "java/lang/invoke/VarHandle" ∧ (parseMethodDescriptor y_R_commits.desc).map (fun d => d.parameters.length) = some 0 := by decide +kernel
theorem g_R_commits : GoodIn zt w_R_commits := zg_c m_R_commits
theorem hd_R_parent : y_R_parent.cls ≠ "java/lang/invoke/MethodHandle" ∧ y_R_parent.cls ≠ "java/lang/invoke/VarHandle" ∧ (parseMethodDescriptor y_R_parent.desc).map (fun d => d.parameters.length) = some 2 := by decide +kernel
theorem g_R_parent : GoodIn zt w_R_parent := zg_c m_R_parent
theorem hd_R_ancestors : y_R_ancestors.cls ≠ "java/lang/invoke/MethodHandle" ∧ y_R_ancestors.cls ≠ "java/lang/invoke/VarHandle" ∧ (parseMethodDescriptor y_R_ancestors.desc).map (fun d => d.parameters.length) = some 1 := by decide +kernel
theorem g_R_ancestors : GoodIn zt w_R_ancestors := zg_c m_R_ancestors
theorem hd_R_meet : y_R_meet.cls ≠ "java/lang/invoke/MethodHandle" ∧ y_R_meet.cls ≠ "java/lang/invoke/VarHandle" ∧ (parseMethodDescriptor y_R_meet.desc).map (fun d => d.parameters.length) = some 3 := by decide +kernel
theorem g_R_meet : GoodIn zt w_R_meet := zg_c m_R_meet
theorem hd_R_value : y_R_value.cls ≠ "java/lang/invoke/MethodHandle" ∧ y_R_value.cls ≠ "java/lang/invoke/VarHandle" ∧ (parseMethodDescriptor y_R_value.desc).map (fun d => d.parameters.length) = some 2 := by decide +kernel
theorem g_R_value : GoodIn zt w_R_value := zg_c m_R_value
theorem hd_R_queued : y_R_queued.cls ≠ "java/lang/invoke/MethodHandle" ∧ y_R_queued.cls ≠ "java/lang/invoke/VarHandle" ∧ (parseMethodDescriptor y_R_queued.desc).map (fun d => d.parameters.length) = some 2 := by decide +kernel
theorem g_R_queued : GoodIn zt w_R_queued := zg_c m_R_queued
theorem hd_R_time : y_R_time.cls ≠ "java/lang/invoke/MethodHandle" ∧ y_R_time.cls ≠ "java/lang/invoke/VarHandle" ∧ (parseMethodDescriptor y_R_time.desc).map (fun d => d.parameters.length) = some 1 := by decide +kernel
theorem g_R_time : GoodIn zt w_R_time := zg_c m_R_time
theorem hd_R_hash : y_R_hash.cls ≠ "java/lang/invoke/MethodHandle" ∧ y_R_hash.cls ≠ "java/lang/invoke/VarHandle" ∧ (parseMethodDescriptor y_R_hash.desc).map (fun d => d.parameters.length) = some 1 := by decide +kernel
theorem g_R_hash : GoodIn zt w_R_hash := zg_c m_R_hash
theorem hd_R_events : y_R_events.cls ≠ "java/lang/invoke/MethodHandle" ∧ y_R_events.cls ≠ "java/lang/invoke/VarHandle" ∧ (parseMethodDescriptor y_R_events.desc).map (fun d => d.parameters.length) = some 0 := by decide +kernel
theorem g_R_events : GoodIn zt w_R_events := zg_c m_R_events
theorem hd_R_event : y_R_event.cls ≠ "java/lang/invoke/MethodHandle" ∧ y_R_event.cls ≠ "java/lang/invoke/VarHandle" ∧ (parseMethodDescriptor y_R_event.desc).map (fun d => d.parameters.length) = some 1 := by decide +kernel
theorem g_R_event : GoodIn zt w_R_event := zg_c m_R_event
/-- what is known of the nest mates and of the arrays of references, of any state of a run -/
def zNw (U : State) : Prop := va_Nw (.methodLinkNest R_V 28 y_T_init R_V) U ∧ va_Nw (.methodLinkNest R_V 38 y_M_init R_V) U ∧ va_Nw (.methodLinkNest R_H 21 y_V_isIn R_V) U ∧ va_Nw (.methodLinkNest R_C 25 y_T_init R_V) U ∧ va_Nw (.methodLinkNest R_C 57 y_V_isIn R_V) U ∧ va_Nw (.methodLinkNest R_M 90 y_V_isIn R_V) U ∧ va_AO R_C U ∧ va_AO R_T U
theorem zNw_w {s U : State} (hW : s.WarmedH U.vm) (h : zNw s) : zNw U := ⟨va_Nw.warmM hW h.1, va_Nw.warmM hW h.2.1, va_Nw.warmM hW h.2.2.1, va_Nw.warmM hW h.2.2.2.1, va_Nw.warmM hW h.2.2.2.2.1, va_Nw.warmM hW h.2.2.2.2.2.1, va_AO.moved hW.alike h.2.2.2.2.2.2.1, va_AO.moved hW.alike h.2.2.2.2.2.2.2⟩
theorem zNw_s {u U : State} (e : u.vm = U.vm) (h : zNw u) : zNw U := ⟨va_Nw.same rfl e h.1, va_Nw.same rfl e h.2.1, va_Nw.same rfl e h.2.2.1, va_Nw.same rfl e h.2.2.2.1, va_Nw.same rfl e h.2.2.2.2.1, va_Nw.same rfl e h.2.2.2.2.2.1, va_AO.moved (e ▸ Vm.Alike.refl u.vm) h.2.2.2.2.2.2.1, va_AO.moved (e ▸ Vm.Alike.refl u.vm) h.2.2.2.2.2.2.2⟩
theorem in_T : ∀ w ∈ u_ws R_T T_T 10, w ∈ zt := by
  intro w h
  obtain ⟨k, hk, rfl⟩ := List.mem_map.mp h
  have hk := List.mem_range.mp hk
  rcases (show k = 0 ∨ k = 1 ∨ k = 2 ∨ k = 3 ∨ k = 4 ∨ k = 5 ∨ k = 6 ∨ k = 7 ∨ k = 8 ∨ k = 9 by omega) with rfl | rfl | rfl | rfl | rfl | rfl | rfl | rfl | rfl | rfl
  · exact k_102
  · exact k_104
  · exact k_106
  · exact k_108
  · exact k_110
  · exact k_112
  · exact k_114
  · exact k_116
  · exact k_118
  · exact k_120
theorem in_C : ∀ w ∈ u_ws R_C T_C 7, w ∈ zt := by
  intro w h
  obtain ⟨k, hk, rfl⟩ := List.mem_map.mp h
  have hk := List.mem_range.mp hk
  rcases (show k = 0 ∨ k = 1 ∨ k = 2 ∨ k = 3 ∨ k = 4 ∨ k = 5 ∨ k = 6 by omega) with rfl | rfl | rfl | rfl | rfl | rfl | rfl
  · exact k_264
  · exact k_266
  · exact k_268
  · exact k_270
  · exact k_272
  · exact k_274
  · exact k_276
theorem in_M : ∀ w ∈ u_ws R_M T_M 1, w ∈ zt := by
  intro w h
  obtain ⟨k, hk, rfl⟩ := List.mem_map.mp h
  have hk := List.mem_range.mp hk
  rcases (show k = 0 by omega) with rfl
  · exact k_132
theorem in_V : ∀ w ∈ u_ws R_V T_V 10, w ∈ zt := by
  intro w h
  obtain ⟨k, hk, rfl⟩ := List.mem_map.mp h
  have hk := List.mem_range.mp hk
  rcases (show k = 0 ∨ k = 1 ∨ k = 2 ∨ k = 3 ∨ k = 4 ∨ k = 5 ∨ k = 6 ∨ k = 7 ∨ k = 8 ∨ k = 9 by omega) with rfl | rfl | rfl | rfl | rfl | rfl | rfl | rfl | rfl | rfl
  · exact k_146
  · exact k_148
  · exact k_150
  · exact k_152
  · exact k_154
  · exact k_156
  · exact k_158
  · exact k_160
  · exact k_162
  · exact k_164
theorem in_R : ∀ w ∈ u_ws R_R T_R 23, w ∈ zt := by
  intro w h
  obtain ⟨k, hk, rfl⟩ := List.mem_map.mp h
  have hk := List.mem_range.mp hk
  rcases (show k = 0 ∨ k = 1 ∨ k = 2 ∨ k = 3 ∨ k = 4 ∨ k = 5 ∨ k = 6 ∨ k = 7 ∨ k = 8 ∨ k = 9 ∨ k = 10 ∨ k = 11 ∨ k = 12 ∨ k = 13 ∨ k = 14 ∨ k = 15 ∨ k = 16 ∨ k = 17 ∨ k = 18 ∨ k = 19 ∨ k = 20 ∨ k = 21 ∨ k = 22 by omega) with rfl | rfl | rfl | rfl | rfl | rfl | rfl | rfl | rfl | rfl | rfl | rfl | rfl | rfl | rfl | rfl | rfl | rfl | rfl | rfl | rfl | rfl | rfl
  · exact k_451
  · exact k_453
  · exact k_455
  · exact k_457
  · exact k_459
  · exact k_461
  · exact k_463
  · exact k_465
  · exact k_467
  · exact k_469
  · exact k_471
  · exact k_473
  · exact k_475
  · exact k_477
  · exact k_479
  · exact k_481
  · exact k_483
  · exact k_485
  · exact k_487
  · exact k_489
  · exact k_491
  · exact k_493
  · exact k_495
