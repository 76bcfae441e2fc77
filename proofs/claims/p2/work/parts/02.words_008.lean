theorem w3_55 : Cond.selects "Bookgrafter" yX3_has yX3_has ∈ Tt := inT3 (i := 55) rfl rfl
theorem w3_56 : Cond.code yX3_has cX3_has 5 (some .boolean) ∈ Tt := inT3 (i := 56) rfl rfl
theorem mlX3_123 : Cond.methodLink "Bookgrafter" 123 yX0_hasWorth ∈ Tt := inT3 (i := 57) rfl rfl
theorem w3_58 : Cond.instanceMethod yX0_hasWorth ∈ Tt := inT3 (i := 58) rfl rfl
theorem w3_59 : Cond.selects "Bookgrafter$Row" yX0_hasWorth yX0_hasWorth ∈ Tt := inT3 (i := 59) rfl rfl
theorem w3_60 : Cond.code yX0_hasWorth cX0_hasWorth 3 (some .boolean) ∈ Tt := inT3 (i := 60) rfl rfl
theorem mlL_201 : Cond.methodLink "BookgrafterLaw" 201 yL_near ∈ Tt := inT3 (i := 61) rfl rfl
theorem w3_62 : Cond.static yL_near ∈ Tt := inT3 (i := 62) rfl rfl
theorem w3_63 : Cond.codeWith yL_near cL_near 7 (some .int) [(0, 15, 18, 19), (0, 15, 22, 21)] ∈ Tt := inT3 (i := 63) rfl rfl
theorem mlL_58 : Cond.methodLink "BookgrafterLaw" 58 yX3_near ∈ Tt := inT3 (i := 64) rfl rfl
theorem w3_65 : Cond.instanceMethod yX3_near ∈ Tt := inT3 (i := 65) rfl rfl
theorem w3_66 : Cond.selects "Bookgrafter" yX3_near yX3_near ∈ Tt := inT3 (i := 66) rfl rfl
theorem w3_67 : Cond.code yX3_near cX3_near 7 (some .int) ∈ Tt := inT3 (i := 67) rfl rfl
theorem mlL_205 : Cond.methodLink "BookgrafterLaw" 205 yL_end ∈ Tt := inT3 (i := 68) rfl rfl
theorem w3_69 : Cond.static yL_end ∈ Tt := inT3 (i := 69) rfl rfl
theorem w3_70 : Cond.codeWith yL_end cL_end 6 (some .int) [(0, 13, 16, 19)] ∈ Tt := inT3 (i := 70) rfl rfl
theorem mlL_62 : Cond.methodLink "BookgrafterLaw" 62 yX3_end ∈ Tt := inT3 (i := 71) rfl rfl
theorem w3_72 : Cond.instanceMethod yX3_end ∈ Tt := inT3 (i := 72) rfl rfl
theorem w3_73 : Cond.selects "Bookgrafter" yX3_end yX3_end ∈ Tt := inT3 (i := 73) rfl rfl
theorem w3_74 : Cond.code yX3_end cX3_end 6 (some .int) ∈ Tt := inT3 (i := 74) rfl rfl
theorem mlX3_139 : Cond.methodLink "Bookgrafter" 139 yX3_keyOrRefuse ∈ Tt := inT3 (i := 75) rfl rfl
theorem w3_77 : Cond.instanceMethod yX3_keyOrRefuse ∈ Tt := inT3 (i := 77) rfl rfl
theorem w3_78 : Cond.code yX3_keyOrRefuse cX3_keyOrRefuse 3 (some .int) ∈ Tt := inT3 (i := 78) rfl rfl
theorem mlL_209 : Cond.methodLink "BookgrafterLaw" 209 yL_keyAt ∈ Tt := inT3 (i := 79) rfl rfl
theorem w3_80 : Cond.static yL_keyAt ∈ Tt := inT3 (i := 80) rfl rfl
theorem w3_81 : Cond.codeWith yL_keyAt cL_keyAt 6 (some .int) [(0, 13, 16, 19), (0, 13, 20, 21)] ∈ Tt := inT3 (i := 81) rfl rfl
theorem mlL_66 : Cond.methodLink "BookgrafterLaw" 66 yX3_keyAt ∈ Tt := inT3 (i := 82) rfl rfl
theorem w3_83 : Cond.instanceMethod yX3_keyAt ∈ Tt := inT3 (i := 83) rfl rfl
theorem w3_84 : Cond.selects "Bookgrafter" yX3_keyAt yX3_keyAt ∈ Tt := inT3 (i := 84) rfl rfl
theorem w3_85 : Cond.code yX3_keyAt cX3_keyAt 6 (some .int) ∈ Tt := inT3 (i := 85) rfl rfl
theorem mlX3_142 : Cond.methodLink "Bookgrafter" 142 yX0_rankBehind ∈ Tt := inT3 (i := 86) rfl rfl
theorem w3_87 : Cond.instanceMethod yX0_rankBehind ∈ Tt := inT3 (i := 87) rfl rfl
theorem w3_88 : Cond.selects "Bookgrafter$Row" yX0_rankBehind yX0_rankBehind ∈ Tt := inT3 (i := 88) rfl rfl
theorem w3_89 : Cond.code yX0_rankBehind cX0_rankBehind 4 (some .int) ∈ Tt := inT3 (i := 89) rfl rfl
theorem mlL_212 : Cond.methodLink "BookgrafterLaw" 212 yL_tellBook ∈ Tt := inT3 (i := 90) rfl rfl
theorem w3_91 : Cond.static yL_tellBook ∈ Tt := inT3 (i := 91) rfl rfl
theorem w3_92 : Cond.codeWith yL_tellBook cL_tellBook 5 (some .int) [(0, 11, 14, 19), (0, 11, 18, 21)] ∈ Tt := inT3 (i := 92) rfl rfl
theorem mlL_69 : Cond.methodLink "BookgrafterLaw" 69 yX3_tellBook ∈ Tt := inT3 (i := 93) rfl rfl
theorem w3_94 : Cond.instanceMethod yX3_tellBook ∈ Tt := inT3 (i := 94) rfl rfl
theorem w3_95 : Cond.selects "Bookgrafter" yX3_tellBook yX3_tellBook ∈ Tt := inT3 (i := 95) rfl rfl
theorem w3_96 : Cond.code yX3_tellBook cX3_tellBook 4 (some .int) ∈ Tt := inT3 (i := 96) rfl rfl
theorem mlL_215 : Cond.methodLink "BookgrafterLaw" 215 yL_bookText ∈ Tt := inT3 (i := 97) rfl rfl
theorem w3_98 : Cond.static yL_bookText ∈ Tt := inT3 (i := 98) rfl rfl
theorem w3_99 : Cond.codeWith yL_bookText cL_bookText 4 (some .int) [(0, 9, 12, 19)] ∈ Tt := inT3 (i := 99) rfl rfl
theorem mlL_72 : Cond.methodLink "BookgrafterLaw" 72 yX3_bookText ∈ Tt := inT3 (i := 100) rfl rfl
theorem w3_101 : Cond.instanceMethod yX3_bookText ∈ Tt := inT3 (i := 101) rfl rfl
theorem w3_102 : Cond.selects "Bookgrafter" yX3_bookText yX3_bookText ∈ Tt := inT3 (i := 102) rfl rfl
theorem w3_103 : Cond.code yX3_bookText cX3_bookText 6 (some (.object "java/lang/String")) ∈ Tt := inT3 (i := 103) rfl rfl
theorem klX3_148 : Cond.classLink "Bookgrafter" 148 "java/lang/StringBuilder" ∈ Tt := inT3 (i := 104) rfl rfl
theorem insJ4 : Cond.instantiable "java/lang/StringBuilder" 4 ∈ Tt := inT3 (i := 105) rfl rfl
theorem mlX3_150 : Cond.methodLink "Bookgrafter" 150 yJ4_init_da8c8 ∈ Tt := inT3 (i := 106) rfl rfl
theorem w3_107 : Cond.instanceMethod yJ4_init_da8c8 ∈ Tt := inT3 (i := 107) rfl rfl
theorem w3_108 : Cond.code yJ4_init_da8c8 cJ4_init_da8c8 1 none ∈ Tt := inT3 (i := 108) rfl rfl
theorem mlJ4_1 : Cond.methodLink "java/lang/StringBuilder" 1 yJ5_init_d00df ∈ Tt := inT3 (i := 109) rfl rfl
theorem w3_110 : Cond.instanceMethod yJ5_init_d00df ∈ Tt := inT3 (i := 110) rfl rfl
theorem w3_111 : Cond.code yJ5_init_d00df cJ5_init_d00df 2 none ∈ Tt := inT3 (i := 111) rfl rfl
theorem mlJ5_3 : Cond.methodLink "java/lang/AbstractStringBuilder" 3 objectInit ∈ Tt := inT3 (i := 112) rfl rfl
theorem flJ5_18 : Cond.fieldLink "java/lang/AbstractStringBuilder" 18 "java/lang/String" "COMPACT_STRINGS" "Z" ∈ Tt := inT3 (i := 113) rfl rfl
theorem mlJ5_26 : Cond.methodLink "java/lang/AbstractStringBuilder" 26 yJ2_newBytesFor_77867 ∈ Tt := inT3 (i := 115) rfl rfl
theorem w3_116 : Cond.static yJ2_newBytesFor_77867 ∈ Tt := inT3 (i := 116) rfl rfl
