theorem w4_75 : Cond.selects "java/lang/StringBuilder" yJ5_getValue_6d5f1 yJ5_getValue_6d5f1 ∈ Tt := inT4 (i := 75) rfl rfl
theorem w4_76 : Cond.code yJ5_getValue_6d5f1 cJ5_getValue_6d5f1 1 (some (.array .byte)) ∈ Tt := inT4 (i := 76) rfl rfl
theorem mlJ0_549 : Cond.methodLink "java/lang/String" 549 yJ5_length_8abf5 ∈ Tt := inT4 (i := 77) rfl rfl
theorem w4_78 : Cond.instanceMethod yJ5_length_8abf5 ∈ Tt := inT4 (i := 78) rfl rfl
theorem w4_79 : Cond.sameMethod "java/lang/AbstractStringBuilder" "java/lang/AbstractStringBuilder" "length" "()I" ∈ Tt := inT4 (i := 79) rfl rfl
theorem w4_80 : Cond.selects "java/lang/StringBuilder" yJ5_length_8abf5 yJ4_length_8abf5 ∈ Tt := inT4 (i := 80) rfl rfl
theorem w4_81 : Cond.instanceMethod yJ4_length_8abf5 ∈ Tt := inT4 (i := 81) rfl rfl
theorem w4_82 : Cond.code yJ4_length_8abf5 cJ4_length_8abf5 1 (some .int) ∈ Tt := inT4 (i := 82) rfl rfl
theorem mlJ4_343 : Cond.methodLink "java/lang/StringBuilder" 343 yJ5_length_8abf5 ∈ Tt := inT4 (i := 83) rfl rfl
theorem w4_84 : Cond.code yJ5_length_8abf5 cJ5_length_8abf5 1 (some .int) ∈ Tt := inT4 (i := 84) rfl rfl
theorem mlJ0_1047 : Cond.methodLink "java/lang/String" 1047 yJ5_isLatin1_aae02 ∈ Tt := inT4 (i := 85) rfl rfl
theorem mlJ0_54 : Cond.methodLink "java/lang/String" 54 yJ7_copyOfRange_39247 ∈ Tt := inT4 (i := 86) rfl rfl
theorem w4_87 : Cond.static yJ7_copyOfRange_39247 ∈ Tt := inT4 (i := 87) rfl rfl
theorem w4_88 : Cond.code yJ7_copyOfRange_39247 cJ7_copyOfRange_39247 3 (some (.array .byte)) ∈ Tt := inT4 (i := 88) rfl rfl
theorem mlJ7_339 : Cond.methodLink "java/util/Arrays" 339 yJ7_copyOfRangeByte_39247 ∈ Tt := inT4 (i := 89) rfl rfl
theorem w4_90 : Cond.static yJ7_copyOfRangeByte_39247 ∈ Tt := inT4 (i := 90) rfl rfl
theorem w4_91 : Cond.code yJ7_copyOfRangeByte_39247 cJ7_copyOfRangeByte_39247 5 (some (.array .byte)) ∈ Tt := inT4 (i := 91) rfl rfl
theorem mlJ7_343 : Cond.methodLink "java/util/Arrays" 343 yJ7_checkLength_df160 ∈ Tt := inT4 (i := 92) rfl rfl
theorem w4_93 : Cond.static yJ7_checkLength_df160 ∈ Tt := inT4 (i := 93) rfl rfl
theorem w4_94 : Cond.code yJ7_checkLength_df160 cJ7_checkLength_df160 2 none ∈ Tt := inT4 (i := 94) rfl rfl
theorem klJ7_43 : Cond.classLink "java/util/Arrays" 43 "java/lang/IllegalArgumentException" ∈ Tt := inT4 (i := 95) rfl rfl
theorem klJ7_45 : Cond.classLink "java/util/Arrays" 45 "java/lang/StringBuilder" ∈ Tt := inT4 (i := 96) rfl rfl
theorem mlJ7_47 : Cond.methodLink "java/util/Arrays" 47 yJ4_init_da8c8 ∈ Tt := inT4 (i := 97) rfl rfl
theorem mlJ7_54 : Cond.methodLink "java/util/Arrays" 54 yJ4_append_bf812 ∈ Tt := inT4 (i := 98) rfl rfl
theorem mlJ7_50 : Cond.methodLink "java/util/Arrays" 50 yJ4_append_15ec4 ∈ Tt := inT4 (i := 100) rfl rfl
theorem mlJ7_61 : Cond.methodLink "java/util/Arrays" 61 yJ4_toString_0e30d ∈ Tt := inT4 (i := 101) rfl rfl
theorem mlJ7_65 : Cond.methodLink "java/util/Arrays" 65 ⟨"java/lang/IllegalArgumentException", "<init>", "(Ljava/lang/String;)V"⟩ ∈ Tt := inT4 (i := 102) rfl rfl
theorem mlJ0_1051 : Cond.methodLink "java/lang/String" 1051 yJ2_compress_39247 ∈ Tt := inT4 (i := 103) rfl rfl
theorem w4_104 : Cond.static yJ2_compress_39247 ∈ Tt := inT4 (i := 104) rfl rfl
theorem w4_105 : Cond.code yJ2_compress_39247 cJ2_compress_39247 6 (some (.array .byte)) ∈ Tt := inT4 (i := 105) rfl rfl
theorem mlJ2_123 : Cond.methodLink "java/lang/StringUTF16" 123 yJ2_compress_5af95 ∈ Tt := inT4 (i := 106) rfl rfl
theorem w4_107 : Cond.static yJ2_compress_5af95 ∈ Tt := inT4 (i := 107) rfl rfl
theorem w4_108 : Cond.code yJ2_compress_5af95 cJ2_compress_5af95 7 (some .int) ∈ Tt := inT4 (i := 108) rfl rfl
theorem mlJ2_71 : Cond.methodLink "java/lang/StringUTF16" 71 yJ2_getChar_3b067 ∈ Tt := inT4 (i := 109) rfl rfl
theorem w4_110 : Cond.static yJ2_getChar_3b067 ∈ Tt := inT4 (i := 110) rfl rfl
theorem w4_111 : Cond.code yJ2_getChar_3b067 cJ2_getChar_3b067 2 (some .char) ∈ Tt := inT4 (i := 111) rfl rfl
theorem mlJ2_126 : Cond.methodLink "java/lang/StringUTF16" 126 yJ7_copyOfRange_39247 ∈ Tt := inT4 (i := 112) rfl rfl
theorem mlJ0_47 : Cond.methodLink "java/lang/String" 47 yJ2_coderFromArrayLen_85cad ∈ Tt := inT4 (i := 113) rfl rfl
theorem w4_114 : Cond.static yJ2_coderFromArrayLen_85cad ∈ Tt := inT4 (i := 114) rfl rfl
theorem w4_115 : Cond.code yJ2_coderFromArrayLen_85cad cJ2_coderFromArrayLen_85cad 2 (some .byte) ∈ Tt := inT4 (i := 115) rfl rfl
theorem flJ0_9 : Cond.fieldLink "java/lang/String" 9 "java/lang/String" "value" "[B" ∈ Tt := inT4 (i := 116) rfl rfl
theorem flJ0_15 : Cond.fieldLink "java/lang/String" 15 "java/lang/String" "coder" "B" ∈ Tt := inT4 (i := 117) rfl rfl
theorem w4_118 : Cond.laysFinal "java/lang/String" "java/lang/String" "value" "[B" ∈ Tt := inT4 (i := 118) rfl rfl
theorem w4_120 : Cond.laysFinal "java/lang/String" "java/lang/String" "coder" "B" ∈ Tt := inT4 (i := 120) rfl rfl
theorem w4_122 : Cond.lays "java/lang/String" "java/lang/String" "hash" "I" ∈ Tt := inT4 (i := 122) rfl rfl
theorem w4_124 : Cond.lays "java/lang/String" "java/lang/String" "hashIsZero" "Z" ∈ Tt := inT4 (i := 124) rfl rfl
theorem w4_126 : Cond.superclass "java/lang/String" "java/lang/Object" ∈ Tt := inT4 (i := 126) rfl rfl
theorem mlL_219 : Cond.methodLink "BookgrafterLaw" 219 yL_sameBooks ∈ Tt := inT4 (i := 127) rfl rfl
theorem w4_128 : Cond.static yL_sameBooks ∈ Tt := inT4 (i := 128) rfl rfl
theorem w4_129 : Cond.codeWith yL_sameBooks cL_sameBooks 5 (some .int) [(0, 18, 21, 19)] ∈ Tt := inT4 (i := 129) rfl rfl
theorem mlL_80 : Cond.methodLink "BookgrafterLaw" 80 yX3_sameBooks ∈ Tt := inT4 (i := 130) rfl rfl
theorem w4_131 : Cond.instanceMethod yX3_sameBooks ∈ Tt := inT4 (i := 131) rfl rfl
theorem w4_132 : Cond.selects "Bookgrafter" yX3_sameBooks yX3_sameBooks ∈ Tt := inT4 (i := 132) rfl rfl
theorem w4_133 : Cond.code yX3_sameBooks cX3_sameBooks 4 (some .boolean) ∈ Tt := inT4 (i := 133) rfl rfl
theorem mlL_222 : Cond.methodLink "BookgrafterLaw" 222 yL_openView ∈ Tt := inT4 (i := 134) rfl rfl
theorem w4_135 : Cond.static yL_openView ∈ Tt := inT4 (i := 135) rfl rfl
theorem w4_136 : Cond.codeWith yL_openView cL_openView 9 (some .int) [(0, 19, 22, 19), (0, 19, 26, 21)] ∈ Tt := inT4 (i := 136) rfl rfl
theorem mlL_84 : Cond.methodLink "BookgrafterLaw" 84 yX3_openView ∈ Tt := inT4 (i := 137) rfl rfl
theorem w4_138 : Cond.instanceMethod yX3_openView ∈ Tt := inT4 (i := 138) rfl rfl
theorem w4_139 : Cond.selects "Bookgrafter" yX3_openView yX3_openView ∈ Tt := inT4 (i := 139) rfl rfl
