theorem iniL : Cond.initialized "BookgrafterLaw" ∈ Tt := inT1 (i := 0) rfl rfl
theorem iniX3 : Cond.initialized "Bookgrafter" ∈ Tt := inT1 (i := 1) rfl rfl
theorem iniX0 : Cond.initialized "Bookgrafter$Row" ∈ Tt := inT1 (i := 2) rfl rfl
theorem iniJ7 : Cond.initialized "java/util/Arrays" ∈ Tt := inT1 (i := 3) rfl rfl
theorem iniX1 : Cond.initialized "Bookgrafter$View" ∈ Tt := inT1 (i := 4) rfl rfl
theorem iniX2 : Cond.initialized "Bookgrafter$Walk" ∈ Tt := inT1 (i := 5) rfl rfl
theorem iniX6 : Cond.initialized "BookgrafterModel" ∈ Tt := inT1 (i := 6) rfl rfl
theorem iniX5 : Cond.initialized "BookgrafterModel$Book" ∈ Tt := inT1 (i := 7) rfl rfl
theorem iniX4 : Cond.initialized "BookgrafterLaw$Out" ∈ Tt := inT1 (i := 8) rfl rfl
theorem w1_9 : Cond.initialized "java/lang/Throwable" ∈ Tt := inT1 (i := 9) rfl rfl
theorem w1_10 : Cond.initialized "java/lang/Exception" ∈ Tt := inT1 (i := 10) rfl rfl
theorem w1_11 : Cond.initialized "java/lang/RuntimeException" ∈ Tt := inT1 (i := 11) rfl rfl
theorem iniIO : Cond.initialized "java/lang/IndexOutOfBoundsException" ∈ Tt := inT1 (i := 12) rfl rfl
theorem iniIA : Cond.initialized "java/lang/IllegalArgumentException" ∈ Tt := inT1 (i := 13) rfl rfl
theorem iniMath : Cond.initialized "java/lang/Math" ∈ Tt := inT1 (i := 14) rfl rfl
theorem iniJ5 : Cond.initialized "java/lang/AbstractStringBuilder" ∈ Tt := inT1 (i := 15) rfl rfl
theorem iniJ4 : Cond.initialized "java/lang/StringBuilder" ∈ Tt := inT1 (i := 16) rfl rfl
theorem iniJ0 : Cond.initialized "java/lang/String" ∈ Tt := inT1 (i := 17) rfl rfl
theorem iniJ2 : Cond.initialized "java/lang/StringUTF16" ∈ Tt := inT1 (i := 18) rfl rfl
theorem iniJ8 : Cond.initialized "jdk/internal/util/ArraysSupport" ∈ Tt := inT1 (i := 19) rfl rfl
theorem iniJ10 : Cond.initialized "java/lang/System" ∈ Tt := inT1 (i := 20) rfl rfl
theorem iniJ1 : Cond.initialized "java/lang/StringLatin1" ∈ Tt := inT1 (i := 21) rfl rfl
theorem iniJ3 : Cond.initialized "jdk/internal/util/Preconditions" ∈ Tt := inT1 (i := 22) rfl rfl
theorem iniJxd2413 : Cond.initialized "java/lang/Number" ∈ Tt := inT1 (i := 23) rfl rfl
theorem iniJ6 : Cond.initialized "java/lang/Integer" ∈ Tt := inT1 (i := 24) rfl rfl
theorem klL_8 : Cond.classLink "BookgrafterLaw" 8 "Bookgrafter" ∈ Tt := inT1 (i := 25) rfl rfl
theorem insX3 : Cond.instantiable "Bookgrafter" 8 ∈ Tt := inT1 (i := 26) rfl rfl
theorem mlL_151 : Cond.methodLink "BookgrafterLaw" 151 yX3_init ∈ Tt := inT1 (i := 27) rfl rfl
theorem w1_28 : Cond.instanceMethod yX3_init ∈ Tt := inT1 (i := 28) rfl rfl
theorem w1_29 : Cond.code yX3_init cX3_init 2 none ∈ Tt := inT1 (i := 29) rfl rfl
theorem mlX3_1 : Cond.methodLink "Bookgrafter" 1 objectInit ∈ Tt := inT1 (i := 30) rfl rfl
theorem imObj : Cond.instanceMethod objectInit ∈ Tt := inT1 (i := 31) rfl rfl
theorem cdObj : Cond.code objectInit object_method_1_code 1 none ∈ Tt := inT1 (i := 32) rfl rfl
theorem klX3_9 : Cond.classLink "Bookgrafter" 9 "Bookgrafter$Row" ∈ Tt := inT1 (i := 33) rfl rfl
theorem insX0 : Cond.instantiable "Bookgrafter$Row" 4 ∈ Tt := inT1 (i := 35) rfl rfl
theorem mlX3_15 : Cond.methodLink "Bookgrafter" 15 yX0_init ∈ Tt := inT1 (i := 36) rfl rfl
theorem w1_37 : Cond.instanceMethod yX0_init ∈ Tt := inT1 (i := 37) rfl rfl
theorem w1_38 : Cond.code yX0_init cX0_init 2 none ∈ Tt := inT1 (i := 38) rfl rfl
theorem mlX0_3 : Cond.methodLink "Bookgrafter$Row" 3 objectInit ∈ Tt := inT1 (i := 39) rfl rfl
theorem mlX0_19 : Cond.methodLink "Bookgrafter$Row" 19 yJ7_fill_53178 ∈ Tt := inT1 (i := 40) rfl rfl
theorem w1_41 : Cond.static yJ7_fill_53178 ∈ Tt := inT1 (i := 41) rfl rfl
theorem w1_42 : Cond.code yJ7_fill_53178 cJ7_fill_53178 4 none ∈ Tt := inT1 (i := 42) rfl rfl
theorem flX0_9 : Cond.fieldLink "Bookgrafter$Row" 9 "Bookgrafter$Row" "order" "I" ∈ Tt := inT1 (i := 43) rfl rfl
theorem flX3_74 : Cond.fieldLink "Bookgrafter" 74 "Bookgrafter$Row" "order" "I" ∈ Tt := inT1 (i := 44) rfl rfl
theorem flX0_15 : Cond.fieldLink "Bookgrafter$Row" 15 "Bookgrafter$Row" "worths" "[I" ∈ Tt := inT1 (i := 45) rfl rfl
theorem flX3_49 : Cond.fieldLink "Bookgrafter" 49 "Bookgrafter$Row" "count" "I" ∈ Tt := inT1 (i := 46) rfl rfl
theorem flX0_42 : Cond.fieldLink "Bookgrafter$Row" 42 "Bookgrafter$Row" "count" "I" ∈ Tt := inT1 (i := 47) rfl rfl
theorem flX2_15 : Cond.fieldLink "Bookgrafter$Walk" 15 "Bookgrafter$Row" "changes" "I" ∈ Tt := inT1 (i := 48) rfl rfl
theorem flX0_45 : Cond.fieldLink "Bookgrafter$Row" 45 "Bookgrafter$Row" "changes" "I" ∈ Tt := inT1 (i := 49) rfl rfl
theorem w1_50 : Cond.laysFinal "Bookgrafter$Row" "Bookgrafter$Row" "order" "I" ∈ Tt := inT1 (i := 50) rfl rfl
theorem w1_52 : Cond.laysFinal "Bookgrafter$Row" "Bookgrafter$Row" "worths" "[I" ∈ Tt := inT1 (i := 52) rfl rfl
theorem w1_54 : Cond.lays "Bookgrafter$Row" "Bookgrafter$Row" "count" "I" ∈ Tt := inT1 (i := 54) rfl rfl
theorem w1_56 : Cond.lays "Bookgrafter$Row" "Bookgrafter$Row" "changes" "I" ∈ Tt := inT1 (i := 56) rfl rfl
theorem w1_58 : Cond.superclass "Bookgrafter$Row" "java/lang/Object" ∈ Tt := inT1 (i := 58) rfl rfl
theorem aCint : Cond.arrayClass .int ∈ Tt := inT1 (i := 59) rfl rfl
theorem klX3_21 : Cond.classLink "Bookgrafter" 21 "Bookgrafter$View" ∈ Tt := inT1 (i := 60) rfl rfl
theorem insX1 : Cond.instantiable "Bookgrafter$View" 3 ∈ Tt := inT1 (i := 62) rfl rfl
theorem mlX3_27 : Cond.methodLink "Bookgrafter" 27 yX1_init ∈ Tt := inT1 (i := 63) rfl rfl
theorem w1_64 : Cond.instanceMethod yX1_init ∈ Tt := inT1 (i := 64) rfl rfl
theorem w1_65 : Cond.code yX1_init cX1_init 2 none ∈ Tt := inT1 (i := 65) rfl rfl
theorem mlX1_3 : Cond.methodLink "Bookgrafter$View" 3 objectInit ∈ Tt := inT1 (i := 66) rfl rfl
theorem flX1_9 : Cond.fieldLink "Bookgrafter$View" 9 "Bookgrafter$View" "row" "LBookgrafter$Row;" ∈ Tt := inT1 (i := 67) rfl rfl
theorem flX3_178 : Cond.fieldLink "Bookgrafter" 178 "Bookgrafter$View" "row" "LBookgrafter$Row;" ∈ Tt := inT1 (i := 68) rfl rfl
theorem flX1_19 : Cond.fieldLink "Bookgrafter$View" 19 "Bookgrafter$View" "low" "I" ∈ Tt := inT1 (i := 69) rfl rfl
theorem flX3_182 : Cond.fieldLink "Bookgrafter" 182 "Bookgrafter$View" "low" "I" ∈ Tt := inT1 (i := 70) rfl rfl
theorem flX1_15 : Cond.fieldLink "Bookgrafter$View" 15 "Bookgrafter$View" "high" "I" ∈ Tt := inT1 (i := 71) rfl rfl
theorem flX3_185 : Cond.fieldLink "Bookgrafter" 185 "Bookgrafter$View" "high" "I" ∈ Tt := inT1 (i := 72) rfl rfl
theorem w1_73 : Cond.lays "Bookgrafter$View" "Bookgrafter$View" "row" "LBookgrafter$Row;" ∈ Tt := inT1 (i := 73) rfl rfl
theorem w1_75 : Cond.lays "Bookgrafter$View" "Bookgrafter$View" "low" "I" ∈ Tt := inT1 (i := 75) rfl rfl
theorem w1_77 : Cond.lays "Bookgrafter$View" "Bookgrafter$View" "high" "I" ∈ Tt := inT1 (i := 77) rfl rfl
theorem w1_79 : Cond.superclass "Bookgrafter$View" "java/lang/Object" ∈ Tt := inT1 (i := 79) rfl rfl
theorem klX3_30 : Cond.classLink "Bookgrafter" 30 "Bookgrafter$Walk" ∈ Tt := inT1 (i := 80) rfl rfl
theorem insX2 : Cond.instantiable "Bookgrafter$Walk" 4 ∈ Tt := inT1 (i := 81) rfl rfl
theorem w1_83 : Cond.instanceMethod yX2_init ∈ Tt := inT1 (i := 83) rfl rfl
theorem w1_84 : Cond.code yX2_init cX2_init 1 none ∈ Tt := inT1 (i := 84) rfl rfl
theorem mlX2_3 : Cond.methodLink "Bookgrafter$Walk" 3 objectInit ∈ Tt := inT1 (i := 85) rfl rfl
theorem flX2_9 : Cond.fieldLink "Bookgrafter$Walk" 9 "Bookgrafter$Walk" "row" "LBookgrafter$Row;" ∈ Tt := inT1 (i := 86) rfl rfl
theorem flX2_21 : Cond.fieldLink "Bookgrafter$Walk" 21 "Bookgrafter$Walk" "knownChanges" "I" ∈ Tt := inT1 (i := 87) rfl rfl
theorem flX2_24 : Cond.fieldLink "Bookgrafter$Walk" 24 "Bookgrafter$Walk" "lastRank" "I" ∈ Tt := inT1 (i := 88) rfl rfl
theorem flX2_27 : Cond.fieldLink "Bookgrafter$Walk" 27 "Bookgrafter$Walk" "isLastTold" "Z" ∈ Tt := inT1 (i := 89) rfl rfl
theorem w1_90 : Cond.lays "Bookgrafter$Walk" "Bookgrafter$Walk" "row" "LBookgrafter$Row;" ∈ Tt := inT1 (i := 90) rfl rfl
theorem w1_92 : Cond.lays "Bookgrafter$Walk" "Bookgrafter$Walk" "knownChanges" "I" ∈ Tt := inT1 (i := 92) rfl rfl
theorem w1_94 : Cond.lays "Bookgrafter$Walk" "Bookgrafter$Walk" "lastRank" "I" ∈ Tt := inT1 (i := 94) rfl rfl
theorem w1_96 : Cond.lays "Bookgrafter$Walk" "Bookgrafter$Walk" "isLastTold" "Z" ∈ Tt := inT1 (i := 96) rfl rfl
theorem w1_98 : Cond.superclass "Bookgrafter$Walk" "java/lang/Object" ∈ Tt := inT1 (i := 98) rfl rfl
theorem flX3_11 : Cond.fieldLink "Bookgrafter" 11 "Bookgrafter" "books" "[LBookgrafter$Row;" ∈ Tt := inT1 (i := 99) rfl rfl
theorem flX3_18 : Cond.fieldLink "Bookgrafter" 18 "Bookgrafter" "shelves" "[LBookgrafter$Row;" ∈ Tt := inT1 (i := 100) rfl rfl
theorem flX3_23 : Cond.fieldLink "Bookgrafter" 23 "Bookgrafter" "views" "[LBookgrafter$View;" ∈ Tt := inT1 (i := 101) rfl rfl
theorem flX3_33 : Cond.fieldLink "Bookgrafter" 33 "Bookgrafter" "walk" "LBookgrafter$Walk;" ∈ Tt := inT1 (i := 102) rfl rfl
theorem flX3_45 : Cond.fieldLink "Bookgrafter" 45 "Bookgrafter" "bookActs" "I" ∈ Tt := inT1 (i := 103) rfl rfl
theorem flX3_219 : Cond.fieldLink "Bookgrafter" 219 "Bookgrafter" "shelfActs" "I" ∈ Tt := inT1 (i := 104) rfl rfl
theorem flX3_294 : Cond.fieldLink "Bookgrafter" 294 "Bookgrafter" "refusals" "I" ∈ Tt := inT1 (i := 105) rfl rfl
theorem flX3_241 : Cond.fieldLink "Bookgrafter" 241 "Bookgrafter" "knocks" "I" ∈ Tt := inT1 (i := 106) rfl rfl
theorem w1_107 : Cond.laysFinal "Bookgrafter" "Bookgrafter" "books" "[LBookgrafter$Row;" ∈ Tt := inT1 (i := 107) rfl rfl
theorem w1_109 : Cond.laysFinal "Bookgrafter" "Bookgrafter" "shelves" "[LBookgrafter$Row;" ∈ Tt := inT1 (i := 109) rfl rfl
theorem w1_111 : Cond.laysFinal "Bookgrafter" "Bookgrafter" "views" "[LBookgrafter$View;" ∈ Tt := inT1 (i := 111) rfl rfl
theorem w1_113 : Cond.laysFinal "Bookgrafter" "Bookgrafter" "walk" "LBookgrafter$Walk;" ∈ Tt := inT1 (i := 113) rfl rfl
theorem w1_115 : Cond.lays "Bookgrafter" "Bookgrafter" "bookActs" "I" ∈ Tt := inT1 (i := 115) rfl rfl
theorem w1_117 : Cond.lays "Bookgrafter" "Bookgrafter" "shelfActs" "I" ∈ Tt := inT1 (i := 117) rfl rfl
theorem w1_119 : Cond.lays "Bookgrafter" "Bookgrafter" "refusals" "I" ∈ Tt := inT1 (i := 119) rfl rfl
theorem w1_121 : Cond.lays "Bookgrafter" "Bookgrafter" "knocks" "I" ∈ Tt := inT1 (i := 121) rfl rfl
theorem w1_123 : Cond.superclass "Bookgrafter" "java/lang/Object" ∈ Tt := inT1 (i := 123) rfl rfl
theorem mlL_246 : Cond.methodLink "BookgrafterLaw" 246 yX3_walkNext ∈ Tt := inT1 (i := 124) rfl rfl
theorem w1_125 : Cond.instanceMethod yX3_walkNext ∈ Tt := inT1 (i := 125) rfl rfl
theorem w1_126 : Cond.selects "Bookgrafter" yX3_walkNext yX3_walkNext ∈ Tt := inT1 (i := 126) rfl rfl
theorem w1_127 : Cond.code yX3_walkNext cX3_walkNext 1 (some .int) ∈ Tt := inT1 (i := 127) rfl rfl
theorem mlX3_200 : Cond.methodLink "Bookgrafter" 200 yX2_isGoing ∈ Tt := inT1 (i := 128) rfl rfl
theorem w1_129 : Cond.instanceMethod yX2_isGoing ∈ Tt := inT1 (i := 129) rfl rfl
theorem w1_130 : Cond.selects "Bookgrafter$Walk" yX2_isGoing yX2_isGoing ∈ Tt := inT1 (i := 130) rfl rfl
theorem w1_131 : Cond.code yX2_isGoing cX2_isGoing 1 (some .boolean) ∈ Tt := inT1 (i := 131) rfl rfl
theorem mlX3_63 : Cond.methodLink "Bookgrafter" 63 yX3_refuse ∈ Tt := inT1 (i := 132) rfl rfl
theorem w1_134 : Cond.instanceMethod yX3_refuse ∈ Tt := inT1 (i := 134) rfl rfl
theorem w1_135 : Cond.code yX3_refuse cX3_refuse 1 (some .int) ∈ Tt := inT1 (i := 135) rfl rfl
theorem mlX3_204 : Cond.methodLink "Bookgrafter" 204 yX2_tellNext ∈ Tt := inT1 (i := 136) rfl rfl
theorem w1_137 : Cond.instanceMethod yX2_tellNext ∈ Tt := inT1 (i := 137) rfl rfl
theorem w1_138 : Cond.selects "Bookgrafter$Walk" yX2_tellNext yX2_tellNext ∈ Tt := inT1 (i := 138) rfl rfl
theorem w1_139 : Cond.code yX2_tellNext cX2_tellNext 2 (some .int) ∈ Tt := inT1 (i := 139) rfl rfl
theorem mlX2_31 : Cond.methodLink "Bookgrafter$Walk" 31 yX0_firstInPart ∈ Tt := inT1 (i := 140) rfl rfl
theorem w1_141 : Cond.instanceMethod yX0_firstInPart ∈ Tt := inT1 (i := 141) rfl rfl
theorem w1_142 : Cond.selects "Bookgrafter$Row" yX0_firstInPart yX0_firstInPart ∈ Tt := inT1 (i := 142) rfl rfl
theorem w1_143 : Cond.code yX0_firstInPart cX0_firstInPart 4 (some .int) ∈ Tt := inT1 (i := 143) rfl rfl
theorem mlX0_32 : Cond.methodLink "Bookgrafter$Row" 32 yX0_isThere ∈ Tt := inT1 (i := 144) rfl rfl
theorem w1_145 : Cond.instanceMethod yX0_isThere ∈ Tt := inT1 (i := 145) rfl rfl
theorem w1_146 : Cond.selects "Bookgrafter$Row" yX0_isThere yX0_isThere ∈ Tt := inT1 (i := 146) rfl rfl
theorem w1_147 : Cond.code yX0_isThere cX0_isThere 2 (some .boolean) ∈ Tt := inT1 (i := 147) rfl rfl
theorem mlX2_35 : Cond.methodLink "Bookgrafter$Walk" 35 yX0_pairAt ∈ Tt := inT1 (i := 148) rfl rfl
theorem w1_149 : Cond.instanceMethod yX0_pairAt ∈ Tt := inT1 (i := 149) rfl rfl
theorem w1_150 : Cond.selects "Bookgrafter$Row" yX0_pairAt yX0_pairAt ∈ Tt := inT1 (i := 150) rfl rfl
theorem w1_151 : Cond.code yX0_pairAt cX0_pairAt 2 (some .int) ∈ Tt := inT1 (i := 151) rfl rfl
theorem mlX0_36 : Cond.methodLink "Bookgrafter$Row" 36 yX0_keyOf ∈ Tt := inT1 (i := 152) rfl rfl
theorem w1_153 : Cond.instanceMethod yX0_keyOf ∈ Tt := inT1 (i := 153) rfl rfl
theorem w1_154 : Cond.selects "Bookgrafter$Row" yX0_keyOf yX0_keyOf ∈ Tt := inT1 (i := 154) rfl rfl
theorem w1_155 : Cond.code yX0_keyOf cX0_keyOf 2 (some .int) ∈ Tt := inT1 (i := 155) rfl rfl
theorem mlX0_25 : Cond.methodLink "Bookgrafter$Row" 25 yX0_turned ∈ Tt := inT1 (i := 156) rfl rfl
theorem w1_158 : Cond.instanceMethod yX0_turned ∈ Tt := inT1 (i := 158) rfl rfl
theorem w1_159 : Cond.code yX0_turned cX0_turned 2 (some .int) ∈ Tt := inT1 (i := 159) rfl rfl
theorem mlX0_39 : Cond.methodLink "Bookgrafter$Row" 39 yX0_worthAt ∈ Tt := inT1 (i := 160) rfl rfl
theorem w1_161 : Cond.instanceMethod yX0_worthAt ∈ Tt := inT1 (i := 161) rfl rfl
theorem w1_162 : Cond.selects "Bookgrafter$Row" yX0_worthAt yX0_worthAt ∈ Tt := inT1 (i := 162) rfl rfl
theorem w1_163 : Cond.code yX0_worthAt cX0_worthAt 2 (some .int) ∈ Tt := inT1 (i := 163) rfl rfl
theorem mlL_254 : Cond.methodLink "BookgrafterLaw" 254 yX3_walkTake ∈ Tt := inT1 (i := 164) rfl rfl
theorem w1_165 : Cond.instanceMethod yX3_walkTake ∈ Tt := inT1 (i := 165) rfl rfl
theorem w1_166 : Cond.selects "Bookgrafter" yX3_walkTake yX3_walkTake ∈ Tt := inT1 (i := 166) rfl rfl
theorem w1_167 : Cond.code yX3_walkTake cX3_walkTake 1 (some .int) ∈ Tt := inT1 (i := 167) rfl rfl
theorem mlX3_207 : Cond.methodLink "Bookgrafter" 207 yX2_isTelling ∈ Tt := inT1 (i := 168) rfl rfl
theorem w1_169 : Cond.instanceMethod yX2_isTelling ∈ Tt := inT1 (i := 169) rfl rfl
theorem w1_170 : Cond.selects "Bookgrafter$Walk" yX2_isTelling yX2_isTelling ∈ Tt := inT1 (i := 170) rfl rfl
theorem w1_171 : Cond.code yX2_isTelling cX2_isTelling 1 (some .boolean) ∈ Tt := inT1 (i := 171) rfl rfl
theorem mlX3_213 : Cond.methodLink "Bookgrafter" 213 yX2_removeTold ∈ Tt := inT1 (i := 172) rfl rfl
theorem w1_173 : Cond.instanceMethod yX2_removeTold ∈ Tt := inT1 (i := 173) rfl rfl
theorem w1_174 : Cond.selects "Bookgrafter$Walk" yX2_removeTold yX2_removeTold ∈ Tt := inT1 (i := 174) rfl rfl
theorem w1_175 : Cond.code yX2_removeTold cX2_removeTold 2 (some .int) ∈ Tt := inT1 (i := 175) rfl rfl
theorem mlX2_42 : Cond.methodLink "Bookgrafter$Walk" 42 yX0_go ∈ Tt := inT1 (i := 176) rfl rfl
theorem w1_177 : Cond.instanceMethod yX0_go ∈ Tt := inT1 (i := 177) rfl rfl
theorem w1_178 : Cond.selects "Bookgrafter$Row" yX0_go yX0_go ∈ Tt := inT1 (i := 178) rfl rfl
theorem w1_179 : Cond.code yX0_go cX0_go 3 (some .int) ∈ Tt := inT1 (i := 179) rfl rfl
theorem mlL_295 : Cond.methodLink "BookgrafterLaw" 295 yX3_knock ∈ Tt := inT1 (i := 180) rfl rfl
theorem w1_181 : Cond.instanceMethod yX3_knock ∈ Tt := inT1 (i := 181) rfl rfl
theorem w1_182 : Cond.selects "Bookgrafter" yX3_knock yX3_knock ∈ Tt := inT1 (i := 182) rfl rfl
theorem w1_183 : Cond.code yX3_knock cX3_knock 1 (some .int) ∈ Tt := inT1 (i := 183) rfl rfl
theorem mlL_299 : Cond.methodLink "BookgrafterLaw" 299 yX3_isSound ∈ Tt := inT1 (i := 184) rfl rfl
theorem w1_185 : Cond.instanceMethod yX3_isSound ∈ Tt := inT1 (i := 185) rfl rfl
theorem w1_186 : Cond.selects "Bookgrafter" yX3_isSound yX3_isSound ∈ Tt := inT1 (i := 186) rfl rfl
theorem w1_187 : Cond.code yX3_isSound cX3_isSound 2 (some .boolean) ∈ Tt := inT1 (i := 187) rfl rfl
theorem mlX3_244 : Cond.methodLink "Bookgrafter" 244 yX3_isRowSound ∈ Tt := inT1 (i := 188) rfl rfl
theorem w1_189 : Cond.static yX3_isRowSound ∈ Tt := inT1 (i := 189) rfl rfl
theorem w1_190 : Cond.code yX3_isRowSound cX3_isRowSound 1 (some .boolean) ∈ Tt := inT1 (i := 190) rfl rfl
theorem mlX3_306 : Cond.methodLink "Bookgrafter" 306 yX3_isToldInOrder ∈ Tt := inT1 (i := 191) rfl rfl
theorem w1_192 : Cond.static yX3_isToldInOrder ∈ Tt := inT1 (i := 192) rfl rfl
theorem w1_193 : Cond.code yX3_isToldInOrder cX3_isToldInOrder 7 (some .boolean) ∈ Tt := inT1 (i := 193) rfl rfl
theorem mlX3_135 : Cond.methodLink "Bookgrafter" 135 yX0_endOfPart ∈ Tt := inT1 (i := 194) rfl rfl
theorem w1_195 : Cond.instanceMethod yX0_endOfPart ∈ Tt := inT1 (i := 195) rfl rfl
theorem w1_196 : Cond.selects "Bookgrafter$Row" yX0_endOfPart yX0_endOfPart ∈ Tt := inT1 (i := 196) rfl rfl
theorem w1_197 : Cond.code yX0_endOfPart cX0_endOfPart 4 (some .int) ∈ Tt := inT1 (i := 197) rfl rfl
theorem mlX0_48 : Cond.methodLink "Bookgrafter$Row" 48 yX0_lastInPart ∈ Tt := inT1 (i := 198) rfl rfl
theorem w1_199 : Cond.instanceMethod yX0_lastInPart ∈ Tt := inT1 (i := 199) rfl rfl
theorem w1_200 : Cond.selects "Bookgrafter$Row" yX0_lastInPart yX0_lastInPart ∈ Tt := inT1 (i := 200) rfl rfl
theorem w1_201 : Cond.code yX0_lastInPart cX0_lastInPart 4 (some .int) ∈ Tt := inT1 (i := 201) rfl rfl
theorem mlX0_52 : Cond.methodLink "Bookgrafter$Row" 52 yX0_firstInPart ∈ Tt := inT1 (i := 202) rfl rfl
theorem mlX3_132 : Cond.methodLink "Bookgrafter" 132 yX0_keyOf ∈ Tt := inT1 (i := 203) rfl rfl
theorem mlX3_126 : Cond.methodLink "Bookgrafter" 126 yX0_nearInPart ∈ Tt := inT1 (i := 204) rfl rfl
theorem w1_205 : Cond.instanceMethod yX0_nearInPart ∈ Tt := inT1 (i := 205) rfl rfl
theorem w1_206 : Cond.selects "Bookgrafter$Row" yX0_nearInPart yX0_nearInPart ∈ Tt := inT1 (i := 206) rfl rfl
theorem w1_207 : Cond.code yX0_nearInPart cX0_nearInPart 6 (some .int) ∈ Tt := inT1 (i := 207) rfl rfl
theorem mlX0_29 : Cond.methodLink "Bookgrafter$Row" 29 yX0_rankOf ∈ Tt := inT1 (i := 208) rfl rfl
theorem w1_209 : Cond.instanceMethod yX0_rankOf ∈ Tt := inT1 (i := 209) rfl rfl
theorem w1_210 : Cond.selects "Bookgrafter$Row" yX0_rankOf yX0_rankOf ∈ Tt := inT1 (i := 210) rfl rfl
theorem w1_211 : Cond.code yX0_rankOf cX0_rankOf 2 (some .int) ∈ Tt := inT1 (i := 211) rfl rfl
theorem mlX0_55 : Cond.methodLink "Bookgrafter$Row" 55 yJ9_min_7cf53 ∈ Tt := inT1 (i := 212) rfl rfl
theorem stMin : Cond.static yJ9_min_7cf53 ∈ Tt := inT1 (i := 213) rfl rfl
theorem cdMin : Cond.code yJ9_min_7cf53 cJ9_min_7cf53 2 (some .int) ∈ Tt := inT1 (i := 214) rfl rfl
theorem mlX0_60 : Cond.methodLink "Bookgrafter$Row" 60 yJ9_max_7cf53 ∈ Tt := inT1 (i := 215) rfl rfl
theorem stMax : Cond.static yJ9_max_7cf53 ∈ Tt := inT1 (i := 216) rfl rfl
theorem cdMax : Cond.code yJ9_max_7cf53 cJ9_max_7cf53 2 (some .int) ∈ Tt := inT1 (i := 217) rfl rfl
theorem mlX3_119 : Cond.methodLink "Bookgrafter" 119 yX0_isThere ∈ Tt := inT1 (i := 218) rfl rfl
theorem mlX3_316 : Cond.methodLink "Bookgrafter" 316 yX0_isAhead ∈ Tt := inT1 (i := 219) rfl rfl
theorem w1_220 : Cond.instanceMethod yX0_isAhead ∈ Tt := inT1 (i := 220) rfl rfl
theorem w1_221 : Cond.selects "Bookgrafter$Row" yX0_isAhead yX0_isAhead ∈ Tt := inT1 (i := 221) rfl rfl
theorem w1_222 : Cond.code yX0_isAhead cX0_isAhead 3 (some .boolean) ∈ Tt := inT1 (i := 222) rfl rfl
theorem mlX3_310 : Cond.methodLink "Bookgrafter" 310 yX3_isToldBackwards ∈ Tt := inT1 (i := 223) rfl rfl
theorem w1_224 : Cond.static yX3_isToldBackwards ∈ Tt := inT1 (i := 224) rfl rfl
theorem w1_225 : Cond.code yX3_isToldBackwards cX3_isToldBackwards 4 (some .boolean) ∈ Tt := inT1 (i := 225) rfl rfl
theorem mlX3_313 : Cond.methodLink "Bookgrafter" 313 yX3_areNeighboursFound ∈ Tt := inT1 (i := 226) rfl rfl
theorem w1_227 : Cond.static yX3_areNeighboursFound ∈ Tt := inT1 (i := 227) rfl rfl
theorem w1_228 : Cond.code yX3_areNeighboursFound cX3_areNeighboursFound 7 (some .boolean) ∈ Tt := inT1 (i := 228) rfl rfl
theorem mlX3_56 : Cond.methodLink "Bookgrafter" 56 yX0_copyOfPart ∈ Tt := inT1 (i := 229) rfl rfl
theorem w1_230 : Cond.instanceMethod yX0_copyOfPart ∈ Tt := inT1 (i := 230) rfl rfl
theorem w1_231 : Cond.selects "Bookgrafter$Row" yX0_copyOfPart yX0_copyOfPart ∈ Tt := inT1 (i := 231) rfl rfl
theorem w1_232 : Cond.code yX0_copyOfPart cX0_copyOfPart 5 (some (.object "Bookgrafter$Row")) ∈ Tt := inT1 (i := 232) rfl rfl
theorem klX0_10 : Cond.classLink "Bookgrafter$Row" 10 "Bookgrafter$Row" ∈ Tt := inT1 (i := 233) rfl rfl
theorem mlX0_63 : Cond.methodLink "Bookgrafter$Row" 63 yX0_init ∈ Tt := inT1 (i := 234) rfl rfl
theorem mlX0_66 : Cond.methodLink "Bookgrafter$Row" 66 yX0_addPart ∈ Tt := inT1 (i := 235) rfl rfl
theorem w1_236 : Cond.instanceMethod yX0_addPart ∈ Tt := inT1 (i := 236) rfl rfl
theorem w1_237 : Cond.selects "Bookgrafter$Row" yX0_addPart yX0_addPart ∈ Tt := inT1 (i := 237) rfl rfl
theorem w1_238 : Cond.code yX0_addPart cX0_addPart 6 (some .int) ∈ Tt := inT1 (i := 238) rfl rfl
theorem mlX0_70 : Cond.methodLink "Bookgrafter$Row" 70 yX0_come ∈ Tt := inT1 (i := 239) rfl rfl
theorem w2_0 : Cond.instanceMethod yX0_come ∈ Tt := inT2 (i := 0) rfl rfl
theorem w2_1 : Cond.selects "Bookgrafter$Row" yX0_come yX0_come ∈ Tt := inT2 (i := 1) rfl rfl
theorem w2_2 : Cond.code yX0_come cX0_come 4 (some .int) ∈ Tt := inT2 (i := 2) rfl rfl
theorem mlX3_167 : Cond.methodLink "Bookgrafter" 167 yX0_isSameAs ∈ Tt := inT2 (i := 3) rfl rfl
theorem w2_4 : Cond.instanceMethod yX0_isSameAs ∈ Tt := inT2 (i := 4) rfl rfl
theorem w2_5 : Cond.selects "Bookgrafter$Row" yX0_isSameAs yX0_isSameAs ∈ Tt := inT2 (i := 5) rfl rfl
theorem w2_6 : Cond.code yX0_isSameAs cX0_isSameAs 3 (some .boolean) ∈ Tt := inT2 (i := 6) rfl rfl
theorem mlX3_247 : Cond.methodLink "Bookgrafter" 247 yX3_isViewSound ∈ Tt := inT2 (i := 7) rfl rfl
theorem w2_8 : Cond.static yX3_isViewSound ∈ Tt := inT2 (i := 8) rfl rfl
theorem w2_9 : Cond.code yX3_isViewSound cX3_isViewSound 2 (some .boolean) ∈ Tt := inT2 (i := 9) rfl rfl
theorem mlX3_188 : Cond.methodLink "Bookgrafter" 188 yX0_countOfPart ∈ Tt := inT2 (i := 10) rfl rfl
theorem w2_11 : Cond.instanceMethod yX0_countOfPart ∈ Tt := inT2 (i := 11) rfl rfl
theorem w2_12 : Cond.selects "Bookgrafter$Row" yX0_countOfPart yX0_countOfPart ∈ Tt := inT2 (i := 12) rfl rfl
theorem w2_13 : Cond.code yX0_countOfPart cX0_countOfPart 5 (some .int) ∈ Tt := inT2 (i := 13) rfl rfl
theorem mlL_304 : Cond.methodLink "BookgrafterLaw" 304 yX3_digest ∈ Tt := inT2 (i := 14) rfl rfl
theorem w2_15 : Cond.instanceMethod yX3_digest ∈ Tt := inT2 (i := 15) rfl rfl
theorem w2_16 : Cond.selects "Bookgrafter" yX3_digest yX3_digest ∈ Tt := inT2 (i := 16) rfl rfl
theorem w2_17 : Cond.code yX3_digest cX3_digest 4 (some .long) ∈ Tt := inT2 (i := 17) rfl rfl
theorem cLX3_251 : Cond.constantLong "Bookgrafter" 251 17706 ∈ Tt := inT2 (i := 18) rfl rfl
theorem mlX3_253 : Cond.methodLink "Bookgrafter" 253 yX3_digestBook ∈ Tt := inT2 (i := 19) rfl rfl
theorem w2_20 : Cond.static yX3_digestBook ∈ Tt := inT2 (i := 20) rfl rfl
theorem w2_21 : Cond.code yX3_digestBook cX3_digestBook 6 (some .long) ∈ Tt := inT2 (i := 21) rfl rfl
theorem mlX3_145 : Cond.methodLink "Bookgrafter" 145 yX3_bookFact ∈ Tt := inT2 (i := 22) rfl rfl
theorem w2_23 : Cond.static yX3_bookFact ∈ Tt := inT2 (i := 23) rfl rfl
theorem w2_24 : Cond.code yX3_bookFact cX3_bookFact 2 (some .int) ∈ Tt := inT2 (i := 24) rfl rfl
theorem mlX3_300 : Cond.methodLink "Bookgrafter" 300 yX0_hash ∈ Tt := inT2 (i := 25) rfl rfl
theorem w2_26 : Cond.instanceMethod yX0_hash ∈ Tt := inT2 (i := 26) rfl rfl
theorem w2_27 : Cond.selects "Bookgrafter$Row" yX0_hash yX0_hash ∈ Tt := inT2 (i := 27) rfl rfl
theorem w2_28 : Cond.code yX0_hash cX0_hash 3 (some .int) ∈ Tt := inT2 (i := 28) rfl rfl
theorem mlX3_261 : Cond.methodLink "Bookgrafter" 261 yX3_mixed ∈ Tt := inT2 (i := 29) rfl rfl
theorem w2_30 : Cond.static yX3_mixed ∈ Tt := inT2 (i := 30) rfl rfl
theorem w2_31 : Cond.code yX3_mixed cX3_mixed 3 (some .long) ∈ Tt := inT2 (i := 31) rfl rfl
theorem cLX3_320 : Cond.constantLong "Bookgrafter" 320 31 ∈ Tt := inT2 (i := 32) rfl rfl
theorem mlX3_129 : Cond.methodLink "Bookgrafter" 129 yX0_pairAt ∈ Tt := inT2 (i := 33) rfl rfl
theorem mlX3_257 : Cond.methodLink "Bookgrafter" 257 yX3_digestView ∈ Tt := inT2 (i := 34) rfl rfl
theorem w2_35 : Cond.static yX3_digestView ∈ Tt := inT2 (i := 35) rfl rfl
theorem w2_36 : Cond.code yX3_digestView cX3_digestView 6 (some .long) ∈ Tt := inT2 (i := 36) rfl rfl
theorem mlX3_194 : Cond.methodLink "Bookgrafter" 194 yX0_worthsOfPart ∈ Tt := inT2 (i := 37) rfl rfl
theorem w2_38 : Cond.instanceMethod yX0_worthsOfPart ∈ Tt := inT2 (i := 38) rfl rfl
theorem w2_39 : Cond.selects "Bookgrafter$Row" yX0_worthsOfPart yX0_worthsOfPart ∈ Tt := inT2 (i := 39) rfl rfl
theorem w2_40 : Cond.code yX0_worthsOfPart cX0_worthsOfPart 5 (some .int) ∈ Tt := inT2 (i := 40) rfl rfl
theorem mlX3_265 : Cond.methodLink "Bookgrafter" 265 yX2_toldKey ∈ Tt := inT2 (i := 41) rfl rfl
theorem w2_42 : Cond.instanceMethod yX2_toldKey ∈ Tt := inT2 (i := 42) rfl rfl
theorem w2_43 : Cond.selects "Bookgrafter$Walk" yX2_toldKey yX2_toldKey ∈ Tt := inT2 (i := 43) rfl rfl
theorem w2_44 : Cond.code yX2_toldKey cX2_toldKey 1 (some .int) ∈ Tt := inT2 (i := 44) rfl rfl
theorem mlX2_45 : Cond.methodLink "Bookgrafter$Walk" 45 yX0_keyOf ∈ Tt := inT2 (i := 45) rfl rfl
theorem mlX3_268 : Cond.methodLink "Bookgrafter" 268 yX3_digestShelf ∈ Tt := inT2 (i := 46) rfl rfl
theorem w2_47 : Cond.static yX3_digestShelf ∈ Tt := inT2 (i := 47) rfl rfl
theorem w2_48 : Cond.code yX3_digestShelf cX3_digestShelf 6 (some .long) ∈ Tt := inT2 (i := 48) rfl rfl
theorem mlX3_232 : Cond.methodLink "Bookgrafter" 232 yX3_shelfFact ∈ Tt := inT2 (i := 49) rfl rfl
theorem w2_50 : Cond.static yX3_shelfFact ∈ Tt := inT2 (i := 50) rfl rfl
theorem w2_51 : Cond.code yX3_shelfFact cX3_shelfFact 2 (some .int) ∈ Tt := inT2 (i := 51) rfl rfl
theorem mlX3_303 : Cond.methodLink "Bookgrafter" 303 yX0_sumOfKeys ∈ Tt := inT2 (i := 52) rfl rfl
theorem w2_53 : Cond.instanceMethod yX0_sumOfKeys ∈ Tt := inT2 (i := 53) rfl rfl
theorem w2_54 : Cond.selects "Bookgrafter$Row" yX0_sumOfKeys yX0_sumOfKeys ∈ Tt := inT2 (i := 54) rfl rfl
theorem w2_55 : Cond.code yX0_sumOfKeys cX0_sumOfKeys 3 (some .int) ∈ Tt := inT2 (i := 55) rfl rfl
theorem mlX3_238 : Cond.methodLink "Bookgrafter" 238 yX3_houseFact ∈ Tt := inT2 (i := 56) rfl rfl
theorem w2_58 : Cond.instanceMethod yX3_houseFact ∈ Tt := inT2 (i := 58) rfl rfl
theorem w2_59 : Cond.code yX3_houseFact cX3_houseFact 2 (some .int) ∈ Tt := inT2 (i := 59) rfl rfl
theorem mlX3_271 : Cond.methodLink "Bookgrafter" 271 yX3_isSound ∈ Tt := inT2 (i := 60) rfl rfl
theorem klL_14 : Cond.classLink "BookgrafterLaw" 14 "BookgrafterLaw$Out" ∈ Tt := inT2 (i := 61) rfl rfl
theorem insX4 : Cond.instantiable "BookgrafterLaw$Out" 2 ∈ Tt := inT2 (i := 62) rfl rfl
theorem w2_64 : Cond.instanceMethod yX4_init ∈ Tt := inT2 (i := 64) rfl rfl
theorem w2_65 : Cond.code yX4_init cX4_init 1 none ∈ Tt := inT2 (i := 65) rfl rfl
theorem mlX4_1 : Cond.methodLink "BookgrafterLaw$Out" 1 objectInit ∈ Tt := inT2 (i := 66) rfl rfl
theorem w2_69 : Cond.lays "BookgrafterLaw$Out" "BookgrafterLaw$Out" "n" "J" ∈ Tt := inT2 (i := 69) rfl rfl
theorem w2_71 : Cond.lays "BookgrafterLaw$Out" "BookgrafterLaw$Out" "s" "Ljava/lang/String;" ∈ Tt := inT2 (i := 71) rfl rfl
theorem w2_73 : Cond.superclass "BookgrafterLaw$Out" "java/lang/Object" ∈ Tt := inT2 (i := 73) rfl rfl
theorem mlL_156 : Cond.methodLink "BookgrafterLaw" 156 yL_freshBook ∈ Tt := inT2 (i := 74) rfl rfl
theorem w2_75 : Cond.static yL_freshBook ∈ Tt := inT2 (i := 75) rfl rfl
theorem w2_76 : Cond.codeWith yL_freshBook cL_freshBook 5 (some .int) [(0, 11, 14, 19), (0, 11, 18, 21)] ∈ Tt := inT2 (i := 76) rfl rfl
theorem klL_19 : Cond.classLink "BookgrafterLaw" 19 "java/lang/IndexOutOfBoundsException" ∈ Tt := inT2 (i := 77) rfl rfl
theorem klL_21 : Cond.classLink "BookgrafterLaw" 21 "java/lang/IllegalArgumentException" ∈ Tt := inT2 (i := 78) rfl rfl
theorem mlL_7 : Cond.methodLink "BookgrafterLaw" 7 yX3_freshBook ∈ Tt := inT2 (i := 79) rfl rfl
theorem w2_80 : Cond.instanceMethod yX3_freshBook ∈ Tt := inT2 (i := 80) rfl rfl
theorem w2_81 : Cond.selects "Bookgrafter" yX3_freshBook yX3_freshBook ∈ Tt := inT2 (i := 81) rfl rfl
theorem w2_82 : Cond.code yX3_freshBook cX3_freshBook 4 (some .int) ∈ Tt := inT2 (i := 82) rfl rfl
theorem mlX3_37 : Cond.methodLink "Bookgrafter" 37 yX3_bookAt ∈ Tt := inT2 (i := 83) rfl rfl
theorem w2_85 : Cond.instanceMethod yX3_bookAt ∈ Tt := inT2 (i := 85) rfl rfl
theorem w2_86 : Cond.code yX3_bookAt cX3_bookAt 2 (some (.object "Bookgrafter$Row")) ∈ Tt := inT2 (i := 86) rfl rfl
theorem klX3_274 : Cond.classLink "Bookgrafter" 274 "java/lang/IndexOutOfBoundsException" ∈ Tt := inT2 (i := 87) rfl rfl
theorem w2_88 : Cond.instantiable "java/lang/IndexOutOfBoundsException" 6 ∈ Tt := inT2 (i := 88) rfl rfl
theorem w2_96 : Cond.selects "java/lang/IndexOutOfBoundsException" ⟨"java/lang/Throwable", "fillInStackTrace", "(I)Ljava/lang/Throwable;"⟩ ⟨"java/lang/Throwable", "fillInStackTrace", "(I)Ljava/lang/Throwable;"⟩ ∈ Tt := inT2 (i := 96) rfl rfl
theorem w2_97 : Cond.selects "java/lang/IndexOutOfBoundsException" ⟨"java/lang/Throwable", "fillInStackTrace", "()Ljava/lang/Throwable;"⟩ ⟨"java/lang/Throwable", "fillInStackTrace", "()Ljava/lang/Throwable;"⟩ ∈ Tt := inT2 (i := 97) rfl rfl
theorem w2_98 : Cond.lays "java/lang/IndexOutOfBoundsException" "java/lang/Throwable" "cause" "Ljava/lang/Throwable;" ∈ Tt := inT2 (i := 98) rfl rfl
theorem w2_99 : Cond.lays "java/lang/Throwable" "java/lang/Throwable" "cause" "Ljava/lang/Throwable;" ∈ Tt := inT2 (i := 99) rfl rfl
theorem w2_100 : Cond.lays "java/lang/IndexOutOfBoundsException" "java/lang/Throwable" "stackTrace" "[Ljava/lang/StackTraceElement;" ∈ Tt := inT2 (i := 100) rfl rfl
theorem w2_101 : Cond.lays "java/lang/Throwable" "java/lang/Throwable" "stackTrace" "[Ljava/lang/StackTraceElement;" ∈ Tt := inT2 (i := 101) rfl rfl
theorem w2_102 : Cond.lays "java/lang/IndexOutOfBoundsException" "java/lang/Throwable" "suppressedExceptions" "Ljava/util/List;" ∈ Tt := inT2 (i := 102) rfl rfl
theorem w2_103 : Cond.lays "java/lang/Throwable" "java/lang/Throwable" "suppressedExceptions" "Ljava/util/List;" ∈ Tt := inT2 (i := 103) rfl rfl
theorem w2_104 : Cond.lays "java/lang/IndexOutOfBoundsException" "java/lang/Throwable" "detailMessage" "Ljava/lang/String;" ∈ Tt := inT2 (i := 104) rfl rfl
theorem w2_105 : Cond.lays "java/lang/Throwable" "java/lang/Throwable" "detailMessage" "Ljava/lang/String;" ∈ Tt := inT2 (i := 105) rfl rfl
theorem w2_106 : Cond.lays "java/lang/IndexOutOfBoundsException" "java/lang/Throwable" "backtrace" "Ljava/lang/Object;" ∈ Tt := inT2 (i := 106) rfl rfl
theorem w2_107 : Cond.lays "java/lang/Throwable" "java/lang/Throwable" "backtrace" "Ljava/lang/Object;" ∈ Tt := inT2 (i := 107) rfl rfl
theorem w2_108 : Cond.fieldLink "java/lang/Throwable" 198 "java/lang/Throwable" "backtrace" "Ljava/lang/Object;" ∈ Tt := inT2 (i := 108) rfl rfl
theorem w2_109 : Cond.superclass "java/lang/Throwable" "java/lang/Object" ∈ Tt := inT2 (i := 109) rfl rfl
theorem w2_110 : Cond.instanceMethod ⟨"java/lang/Throwable", "<init>", "()V"⟩ ∈ Tt := inT2 (i := 110) rfl rfl
theorem w2_111 : Cond.code ⟨"java/lang/Throwable", "<init>", "()V"⟩ prog_23_method_1_code 1 none ∈ Tt := inT2 (i := 111) rfl rfl
theorem w2_112 : Cond.methodLink "java/lang/Throwable" 1 objectInit ∈ Tt := inT2 (i := 112) rfl rfl
theorem w2_113 : Cond.fieldLink "java/lang/Throwable" 13 "java/lang/Throwable" "UNASSIGNED_STACK" "[Ljava/lang/StackTraceElement;" ∈ Tt := inT2 (i := 113) rfl rfl
theorem w2_115 : Cond.fieldLink "java/lang/Throwable" 20 "java/lang/Throwable" "SUPPRESSED_SENTINEL" "Ljava/util/List;" ∈ Tt := inT2 (i := 115) rfl rfl
theorem w2_117 : Cond.methodLink "java/lang/Throwable" 27 ⟨"java/lang/Throwable", "fillInStackTrace", "()Ljava/lang/Throwable;"⟩ ∈ Tt := inT2 (i := 117) rfl rfl
theorem w2_118 : Cond.instanceMethod ⟨"java/lang/Throwable", "fillInStackTrace", "()Ljava/lang/Throwable;"⟩ ∈ Tt := inT2 (i := 118) rfl rfl
theorem w2_119 : Cond.sameMethod "java/lang/Throwable" "java/lang/Throwable" "fillInStackTrace" "()Ljava/lang/Throwable;" ∈ Tt := inT2 (i := 119) rfl rfl
theorem w2_120 : Cond.selects "java/lang/IllegalArgumentException" ⟨"java/lang/Throwable", "fillInStackTrace", "()Ljava/lang/Throwable;"⟩ ⟨"java/lang/Throwable", "fillInStackTrace", "()Ljava/lang/Throwable;"⟩ ∈ Tt := inT2 (i := 120) rfl rfl
theorem w2_122 : Cond.methodLink "java/lang/Throwable" 202 ⟨"java/lang/Throwable", "fillInStackTrace", "(I)Ljava/lang/Throwable;"⟩ ∈ Tt := inT2 (i := 122) rfl rfl
theorem w2_124 : Cond.instanceMethod ⟨"java/lang/Throwable", "fillInStackTrace", "(I)Ljava/lang/Throwable;"⟩ ∈ Tt := inT2 (i := 124) rfl rfl
theorem w2_125 : Cond.instantiable "java/lang/Throwable" 6 ∈ Tt := inT2 (i := 125) rfl rfl
theorem w2_126 : Cond.native ⟨"java/lang/Throwable", "fillInStackTrace", "(I)Ljava/lang/Throwable;"⟩ ∈ Tt := inT2 (i := 126) rfl rfl
theorem mlX3_278 : Cond.methodLink "Bookgrafter" 278 ⟨"java/lang/IndexOutOfBoundsException", "<init>", "(Ljava/lang/String;)V"⟩ ∈ Tt := inT2 (i := 128) rfl rfl
theorem w2_129 : Cond.instanceMethod ⟨"java/lang/IndexOutOfBoundsException", "<init>", "(Ljava/lang/String;)V"⟩ ∈ Tt := inT2 (i := 129) rfl rfl
theorem w2_130 : Cond.code ⟨"java/lang/IndexOutOfBoundsException", "<init>", "(Ljava/lang/String;)V"⟩ prog_13_method_2_code 2 none ∈ Tt := inT2 (i := 130) rfl rfl
theorem w2_131 : Cond.methodLink "java/lang/IndexOutOfBoundsException" 7 ⟨"java/lang/RuntimeException", "<init>", "(Ljava/lang/String;)V"⟩ ∈ Tt := inT2 (i := 131) rfl rfl
theorem w2_132 : Cond.instanceMethod ⟨"java/lang/RuntimeException", "<init>", "(Ljava/lang/String;)V"⟩ ∈ Tt := inT2 (i := 132) rfl rfl
theorem w2_133 : Cond.code ⟨"java/lang/RuntimeException", "<init>", "(Ljava/lang/String;)V"⟩ prog_17_method_2_code 2 none ∈ Tt := inT2 (i := 133) rfl rfl
theorem w2_134 : Cond.methodLink "java/lang/RuntimeException" 7 ⟨"java/lang/Exception", "<init>", "(Ljava/lang/String;)V"⟩ ∈ Tt := inT2 (i := 134) rfl rfl
theorem w2_135 : Cond.instanceMethod ⟨"java/lang/Exception", "<init>", "(Ljava/lang/String;)V"⟩ ∈ Tt := inT2 (i := 135) rfl rfl
theorem w2_136 : Cond.code ⟨"java/lang/Exception", "<init>", "(Ljava/lang/String;)V"⟩ prog_11_method_2_code 2 none ∈ Tt := inT2 (i := 136) rfl rfl
theorem w2_137 : Cond.methodLink "java/lang/Exception" 7 ⟨"java/lang/Throwable", "<init>", "(Ljava/lang/String;)V"⟩ ∈ Tt := inT2 (i := 137) rfl rfl
theorem w2_138 : Cond.instanceMethod ⟨"java/lang/Throwable", "<init>", "(Ljava/lang/String;)V"⟩ ∈ Tt := inT2 (i := 138) rfl rfl
theorem w2_139 : Cond.code ⟨"java/lang/Throwable", "<init>", "(Ljava/lang/String;)V"⟩ prog_23_method_2_code 2 none ∈ Tt := inT2 (i := 139) rfl rfl
theorem w2_141 : Cond.fieldLink "java/lang/Throwable" 31 "java/lang/Throwable" "detailMessage" "Ljava/lang/String;" ∈ Tt := inT2 (i := 141) rfl rfl
theorem w2_142 : Cond.fieldLink "java/lang/Throwable" 7 "java/lang/Throwable" "cause" "Ljava/lang/Throwable;" ∈ Tt := inT2 (i := 142) rfl rfl
theorem w2_143 : Cond.fieldLink "java/lang/Throwable" 17 "java/lang/Throwable" "stackTrace" "[Ljava/lang/StackTraceElement;" ∈ Tt := inT2 (i := 143) rfl rfl
theorem w2_144 : Cond.fieldLink "java/lang/Throwable" 24 "java/lang/Throwable" "suppressedExceptions" "Ljava/util/List;" ∈ Tt := inT2 (i := 144) rfl rfl
theorem w2_149 : Cond.lays "java/lang/IndexOutOfBoundsException" "java/lang/Throwable" "depth" "I" ∈ Tt := inT2 (i := 149) rfl rfl
theorem w2_152 : Cond.superclass "java/lang/IndexOutOfBoundsException" "java/lang/RuntimeException" ∈ Tt := inT2 (i := 152) rfl rfl
theorem aCbyte : Cond.arrayClass .byte ∈ Tt := inT2 (i := 153) rfl rfl
theorem mlX3_41 : Cond.methodLink "Bookgrafter" 41 yX3_checkUpTo ∈ Tt := inT2 (i := 154) rfl rfl
theorem w2_155 : Cond.static yX3_checkUpTo ∈ Tt := inT2 (i := 155) rfl rfl
theorem w2_156 : Cond.code yX3_checkUpTo cX3_checkUpTo 2 none ∈ Tt := inT2 (i := 156) rfl rfl
theorem klX3_285 : Cond.classLink "Bookgrafter" 285 "java/lang/IllegalArgumentException" ∈ Tt := inT2 (i := 157) rfl rfl
theorem w2_158 : Cond.instantiable "java/lang/IllegalArgumentException" 6 ∈ Tt := inT2 (i := 158) rfl rfl
theorem w2_160 : Cond.selects "java/lang/IllegalArgumentException" ⟨"java/lang/Throwable", "fillInStackTrace", "(I)Ljava/lang/Throwable;"⟩ ⟨"java/lang/Throwable", "fillInStackTrace", "(I)Ljava/lang/Throwable;"⟩ ∈ Tt := inT2 (i := 160) rfl rfl
theorem w2_161 : Cond.lays "java/lang/IllegalArgumentException" "java/lang/Throwable" "cause" "Ljava/lang/Throwable;" ∈ Tt := inT2 (i := 161) rfl rfl
theorem w2_162 : Cond.lays "java/lang/IllegalArgumentException" "java/lang/Throwable" "stackTrace" "[Ljava/lang/StackTraceElement;" ∈ Tt := inT2 (i := 162) rfl rfl
theorem w2_163 : Cond.lays "java/lang/IllegalArgumentException" "java/lang/Throwable" "suppressedExceptions" "Ljava/util/List;" ∈ Tt := inT2 (i := 163) rfl rfl
theorem w2_164 : Cond.lays "java/lang/IllegalArgumentException" "java/lang/Throwable" "detailMessage" "Ljava/lang/String;" ∈ Tt := inT2 (i := 164) rfl rfl
theorem w2_165 : Cond.lays "java/lang/IllegalArgumentException" "java/lang/Throwable" "backtrace" "Ljava/lang/Object;" ∈ Tt := inT2 (i := 165) rfl rfl
theorem mlX3_289 : Cond.methodLink "Bookgrafter" 289 ⟨"java/lang/IllegalArgumentException", "<init>", "(Ljava/lang/String;)V"⟩ ∈ Tt := inT2 (i := 167) rfl rfl
theorem w2_168 : Cond.instanceMethod ⟨"java/lang/IllegalArgumentException", "<init>", "(Ljava/lang/String;)V"⟩ ∈ Tt := inT2 (i := 168) rfl rfl
theorem w2_169 : Cond.code ⟨"java/lang/IllegalArgumentException", "<init>", "(Ljava/lang/String;)V"⟩ prog_12_method_2_code 2 none ∈ Tt := inT2 (i := 169) rfl rfl
theorem w2_170 : Cond.methodLink "java/lang/IllegalArgumentException" 7 ⟨"java/lang/RuntimeException", "<init>", "(Ljava/lang/String;)V"⟩ ∈ Tt := inT2 (i := 170) rfl rfl
theorem w2_171 : Cond.lays "java/lang/IllegalArgumentException" "java/lang/Throwable" "depth" "I" ∈ Tt := inT2 (i := 171) rfl rfl
theorem w2_172 : Cond.superclass "java/lang/IllegalArgumentException" "java/lang/RuntimeException" ∈ Tt := inT2 (i := 172) rfl rfl
theorem mlL_162 : Cond.methodLink "BookgrafterLaw" 162 yL_buildBook ∈ Tt := inT2 (i := 173) rfl rfl
theorem w2_174 : Cond.static yL_buildBook ∈ Tt := inT2 (i := 174) rfl rfl
theorem w2_175 : Cond.codeWith yL_buildBook cL_buildBook 6 (some .int) [(0, 13, 16, 19), (0, 13, 20, 21)] ∈ Tt := inT2 (i := 175) rfl rfl
theorem mlL_23 : Cond.methodLink "BookgrafterLaw" 23 yX3_buildBook ∈ Tt := inT2 (i := 176) rfl rfl
theorem w2_177 : Cond.instanceMethod yX3_buildBook ∈ Tt := inT2 (i := 177) rfl rfl
theorem w2_178 : Cond.selects "Bookgrafter" yX3_buildBook yX3_buildBook ∈ Tt := inT2 (i := 178) rfl rfl
theorem w2_179 : Cond.code yX3_buildBook cX3_buildBook 5 (some .int) ∈ Tt := inT2 (i := 179) rfl rfl
theorem mlX3_52 : Cond.methodLink "Bookgrafter" 52 yX3_builtOrder ∈ Tt := inT2 (i := 180) rfl rfl
theorem w2_181 : Cond.static yX3_builtOrder ∈ Tt := inT2 (i := 181) rfl rfl
theorem w2_182 : Cond.code yX3_builtOrder cX3_builtOrder 2 (some .int) ∈ Tt := inT2 (i := 182) rfl rfl
theorem mlL_166 : Cond.methodLink "BookgrafterLaw" 166 yL_splitBook ∈ Tt := inT2 (i := 183) rfl rfl
theorem w2_184 : Cond.static yL_splitBook ∈ Tt := inT2 (i := 184) rfl rfl
theorem w2_185 : Cond.codeWith yL_splitBook cL_splitBook 6 (some .int) [(0, 13, 16, 19), (0, 13, 20, 21)] ∈ Tt := inT2 (i := 185) rfl rfl
theorem mlL_27 : Cond.methodLink "BookgrafterLaw" 27 yX3_splitBook ∈ Tt := inT2 (i := 186) rfl rfl
theorem w2_187 : Cond.instanceMethod yX3_splitBook ∈ Tt := inT2 (i := 187) rfl rfl
theorem w2_188 : Cond.selects "Bookgrafter" yX3_splitBook yX3_splitBook ∈ Tt := inT2 (i := 188) rfl rfl
theorem w2_189 : Cond.code yX3_splitBook cX3_splitBook 6 (some .int) ∈ Tt := inT2 (i := 189) rfl rfl
theorem mlX3_60 : Cond.methodLink "Bookgrafter" 60 yX3_checkKey ∈ Tt := inT2 (i := 190) rfl rfl
theorem w2_191 : Cond.static yX3_checkKey ∈ Tt := inT2 (i := 191) rfl rfl
theorem w2_192 : Cond.code yX3_checkKey cX3_checkKey 1 none ∈ Tt := inT2 (i := 192) rfl rfl
theorem mlX3_67 : Cond.methodLink "Bookgrafter" 67 yX3_write ∈ Tt := inT2 (i := 194) rfl rfl
theorem w2_196 : Cond.instanceMethod yX3_write ∈ Tt := inT2 (i := 196) rfl rfl
theorem w2_197 : Cond.code yX3_write cX3_write 2 none ∈ Tt := inT2 (i := 197) rfl rfl
theorem mlX3_297 : Cond.methodLink "Bookgrafter" 297 yX2_forgetIfOn ∈ Tt := inT2 (i := 198) rfl rfl
theorem w2_199 : Cond.instanceMethod yX2_forgetIfOn ∈ Tt := inT2 (i := 199) rfl rfl
theorem w2_200 : Cond.selects "Bookgrafter$Walk" yX2_forgetIfOn yX2_forgetIfOn ∈ Tt := inT2 (i := 200) rfl rfl
theorem w2_201 : Cond.code yX2_forgetIfOn cX2_forgetIfOn 2 none ∈ Tt := inT2 (i := 201) rfl rfl
theorem mlX3_70 : Cond.methodLink "Bookgrafter" 70 yX0_rankOf ∈ Tt := inT2 (i := 202) rfl rfl
theorem mlX3_77 : Cond.methodLink "Bookgrafter" 77 yX0_clearPart ∈ Tt := inT2 (i := 203) rfl rfl
theorem w2_204 : Cond.instanceMethod yX0_clearPart ∈ Tt := inT2 (i := 204) rfl rfl
theorem w2_205 : Cond.selects "Bookgrafter$Row" yX0_clearPart yX0_clearPart ∈ Tt := inT2 (i := 205) rfl rfl
theorem w2_206 : Cond.code yX0_clearPart cX0_clearPart 5 (some .int) ∈ Tt := inT2 (i := 206) rfl rfl
theorem mlX0_73 : Cond.methodLink "Bookgrafter$Row" 73 yX0_go ∈ Tt := inT2 (i := 207) rfl rfl
theorem mlL_169 : Cond.methodLink "BookgrafterLaw" 169 yL_fill ∈ Tt := inT2 (i := 208) rfl rfl
theorem w2_209 : Cond.static yL_fill ∈ Tt := inT2 (i := 209) rfl rfl
theorem w2_210 : Cond.codeWith yL_fill cL_fill 8 (some .int) [(0, 17, 20, 19), (0, 17, 24, 21)] ∈ Tt := inT2 (i := 210) rfl rfl
theorem mlL_30 : Cond.methodLink "BookgrafterLaw" 30 yX3_fill ∈ Tt := inT2 (i := 211) rfl rfl
theorem w2_212 : Cond.instanceMethod yX3_fill ∈ Tt := inT2 (i := 212) rfl rfl
theorem w2_213 : Cond.selects "Bookgrafter" yX3_fill yX3_fill ∈ Tt := inT2 (i := 213) rfl rfl
theorem w2_214 : Cond.code yX3_fill cX3_fill 7 (some .int) ∈ Tt := inT2 (i := 214) rfl rfl
theorem mlX3_81 : Cond.methodLink "Bookgrafter" 81 yX3_checkSteps ∈ Tt := inT2 (i := 215) rfl rfl
theorem w2_216 : Cond.static yX3_checkSteps ∈ Tt := inT2 (i := 216) rfl rfl
theorem w2_217 : Cond.code yX3_checkSteps cX3_checkSteps 3 none ∈ Tt := inT2 (i := 217) rfl rfl
theorem mlX3_85 : Cond.methodLink "Bookgrafter" 85 yX3_checkWorthOrNone ∈ Tt := inT2 (i := 218) rfl rfl
theorem w2_219 : Cond.static yX3_checkWorthOrNone ∈ Tt := inT2 (i := 219) rfl rfl
theorem w2_220 : Cond.code yX3_checkWorthOrNone cX3_checkWorthOrNone 1 none ∈ Tt := inT2 (i := 220) rfl rfl
theorem mlX3_104 : Cond.methodLink "Bookgrafter" 104 yX3_checkWorth ∈ Tt := inT2 (i := 221) rfl rfl
theorem w2_222 : Cond.static yX3_checkWorth ∈ Tt := inT2 (i := 222) rfl rfl
theorem w2_223 : Cond.code yX3_checkWorth cX3_checkWorth 1 none ∈ Tt := inT2 (i := 223) rfl rfl
theorem mlX3_88 : Cond.methodLink "Bookgrafter" 88 yX0_removeSteps ∈ Tt := inT2 (i := 225) rfl rfl
theorem w2_226 : Cond.instanceMethod yX0_removeSteps ∈ Tt := inT2 (i := 226) rfl rfl
theorem w2_227 : Cond.selects "Bookgrafter$Row" yX0_removeSteps yX0_removeSteps ∈ Tt := inT2 (i := 227) rfl rfl
theorem w2_228 : Cond.code yX0_removeSteps cX0_removeSteps 6 (some .int) ∈ Tt := inT2 (i := 228) rfl rfl
theorem mlX3_92 : Cond.methodLink "Bookgrafter" 92 yX0_addSteps ∈ Tt := inT2 (i := 229) rfl rfl
theorem w2_230 : Cond.instanceMethod yX0_addSteps ∈ Tt := inT2 (i := 230) rfl rfl
theorem w2_231 : Cond.selects "Bookgrafter$Row" yX0_addSteps yX0_addSteps ∈ Tt := inT2 (i := 231) rfl rfl
theorem w2_232 : Cond.code yX0_addSteps cX0_addSteps 7 (some .int) ∈ Tt := inT2 (i := 232) rfl rfl
theorem mlL_173 : Cond.methodLink "BookgrafterLaw" 173 yL_pour ∈ Tt := inT2 (i := 233) rfl rfl
theorem w2_234 : Cond.static yL_pour ∈ Tt := inT2 (i := 234) rfl rfl
theorem w2_235 : Cond.codeWith yL_pour cL_pour 5 (some .int) [(0, 11, 14, 19)] ∈ Tt := inT2 (i := 235) rfl rfl
theorem mlL_34 : Cond.methodLink "BookgrafterLaw" 34 yX3_pour ∈ Tt := inT2 (i := 236) rfl rfl
theorem w2_237 : Cond.instanceMethod yX3_pour ∈ Tt := inT2 (i := 237) rfl rfl
theorem w2_238 : Cond.selects "Bookgrafter" yX3_pour yX3_pour ∈ Tt := inT2 (i := 238) rfl rfl
theorem w2_239 : Cond.code yX3_pour cX3_pour 5 (some .int) ∈ Tt := inT2 (i := 239) rfl rfl
theorem mlX3_96 : Cond.methodLink "Bookgrafter" 96 yX0_addPart ∈ Tt := inT3 (i := 0) rfl rfl
theorem mlL_176 : Cond.methodLink "BookgrafterLaw" 176 yL_keep ∈ Tt := inT3 (i := 1) rfl rfl
theorem w3_2 : Cond.static yL_keep ∈ Tt := inT3 (i := 2) rfl rfl
theorem w3_3 : Cond.codeWith yL_keep cL_keep 6 (some .int) [(0, 13, 16, 19)] ∈ Tt := inT3 (i := 3) rfl rfl
theorem mlL_37 : Cond.methodLink "BookgrafterLaw" 37 yX3_keep ∈ Tt := inT3 (i := 4) rfl rfl
theorem w3_5 : Cond.instanceMethod yX3_keep ∈ Tt := inT3 (i := 5) rfl rfl
theorem w3_6 : Cond.selects "Bookgrafter" yX3_keep yX3_keep ∈ Tt := inT3 (i := 6) rfl rfl
theorem w3_7 : Cond.code yX3_keep cX3_keep 6 (some .int) ∈ Tt := inT3 (i := 7) rfl rfl
theorem mlX3_100 : Cond.methodLink "Bookgrafter" 100 yX0_retain ∈ Tt := inT3 (i := 8) rfl rfl
theorem w3_9 : Cond.instanceMethod yX0_retain ∈ Tt := inT3 (i := 9) rfl rfl
theorem w3_10 : Cond.selects "Bookgrafter$Row" yX0_retain yX0_retain ∈ Tt := inT3 (i := 10) rfl rfl
theorem w3_11 : Cond.code yX0_retain cX0_retain 5 (some .int) ∈ Tt := inT3 (i := 11) rfl rfl
theorem mlL_180 : Cond.methodLink "BookgrafterLaw" 180 yL_put ∈ Tt := inT3 (i := 12) rfl rfl
theorem w3_13 : Cond.static yL_put ∈ Tt := inT3 (i := 13) rfl rfl
theorem w3_14 : Cond.codeWith yL_put cL_put 7 (some .int) [(0, 15, 18, 19), (0, 15, 22, 21)] ∈ Tt := inT3 (i := 14) rfl rfl
theorem mlL_41 : Cond.methodLink "BookgrafterLaw" 41 yX3_put ∈ Tt := inT3 (i := 15) rfl rfl
theorem w3_16 : Cond.instanceMethod yX3_put ∈ Tt := inT3 (i := 16) rfl rfl
theorem w3_17 : Cond.selects "Bookgrafter" yX3_put yX3_put ∈ Tt := inT3 (i := 17) rfl rfl
theorem w3_18 : Cond.code yX3_put cX3_put 9 (some .int) ∈ Tt := inT3 (i := 18) rfl rfl
theorem mlX3_107 : Cond.methodLink "Bookgrafter" 107 yX0_worthAt ∈ Tt := inT3 (i := 19) rfl rfl
theorem mlX3_110 : Cond.methodLink "Bookgrafter" 110 yX0_come ∈ Tt := inT3 (i := 20) rfl rfl
theorem mlL_184 : Cond.methodLink "BookgrafterLaw" 184 yL_exchange ∈ Tt := inT3 (i := 21) rfl rfl
theorem w3_22 : Cond.static yL_exchange ∈ Tt := inT3 (i := 22) rfl rfl
theorem w3_23 : Cond.codeWith yL_exchange cL_exchange 7 (some .int) [(0, 15, 18, 19), (0, 15, 22, 21)] ∈ Tt := inT3 (i := 23) rfl rfl
theorem mlL_45 : Cond.methodLink "BookgrafterLaw" 45 yX3_exchange ∈ Tt := inT3 (i := 24) rfl rfl
theorem w3_25 : Cond.instanceMethod yX3_exchange ∈ Tt := inT3 (i := 25) rfl rfl
theorem w3_26 : Cond.selects "Bookgrafter" yX3_exchange yX3_exchange ∈ Tt := inT3 (i := 26) rfl rfl
theorem w3_27 : Cond.code yX3_exchange cX3_exchange 7 (some .int) ∈ Tt := inT3 (i := 27) rfl rfl
theorem mlX3_113 : Cond.methodLink "Bookgrafter" 113 yX0_go ∈ Tt := inT3 (i := 28) rfl rfl
theorem mlL_187 : Cond.methodLink "BookgrafterLaw" 187 yL_take ∈ Tt := inT3 (i := 29) rfl rfl
theorem w3_30 : Cond.static yL_take ∈ Tt := inT3 (i := 30) rfl rfl
theorem w3_31 : Cond.codeWith yL_take cL_take 5 (some .int) [(0, 11, 14, 19), (0, 11, 18, 21)] ∈ Tt := inT3 (i := 31) rfl rfl
theorem mlL_48 : Cond.methodLink "BookgrafterLaw" 48 yX3_take ∈ Tt := inT3 (i := 32) rfl rfl
theorem w3_33 : Cond.instanceMethod yX3_take ∈ Tt := inT3 (i := 33) rfl rfl
theorem w3_34 : Cond.selects "Bookgrafter" yX3_take yX3_take ∈ Tt := inT3 (i := 34) rfl rfl
theorem w3_35 : Cond.code yX3_take cX3_take 4 (some .int) ∈ Tt := inT3 (i := 35) rfl rfl
theorem mlL_190 : Cond.methodLink "BookgrafterLaw" 190 yL_drop ∈ Tt := inT3 (i := 36) rfl rfl
theorem w3_37 : Cond.static yL_drop ∈ Tt := inT3 (i := 37) rfl rfl
theorem w3_38 : Cond.codeWith yL_drop cL_drop 5 (some .int) [(0, 11, 14, 19), (0, 11, 18, 21)] ∈ Tt := inT3 (i := 38) rfl rfl
theorem mlL_51 : Cond.methodLink "BookgrafterLaw" 51 yX3_drop ∈ Tt := inT3 (i := 39) rfl rfl
theorem w3_40 : Cond.instanceMethod yX3_drop ∈ Tt := inT3 (i := 40) rfl rfl
theorem w3_41 : Cond.selects "Bookgrafter" yX3_drop yX3_drop ∈ Tt := inT3 (i := 41) rfl rfl
theorem w3_42 : Cond.code yX3_drop cX3_drop 4 (some .int) ∈ Tt := inT3 (i := 42) rfl rfl
theorem mlX3_116 : Cond.methodLink "Bookgrafter" 116 yX0_dropOfPart ∈ Tt := inT3 (i := 43) rfl rfl
theorem w3_44 : Cond.instanceMethod yX0_dropOfPart ∈ Tt := inT3 (i := 44) rfl rfl
theorem w3_45 : Cond.selects "Bookgrafter$Row" yX0_dropOfPart yX0_dropOfPart ∈ Tt := inT3 (i := 45) rfl rfl
theorem w3_46 : Cond.code yX0_dropOfPart cX0_dropOfPart 6 (some .int) ∈ Tt := inT3 (i := 46) rfl rfl
theorem mlX0_76 : Cond.methodLink "Bookgrafter$Row" 76 yX0_clearPart ∈ Tt := inT3 (i := 47) rfl rfl
theorem mlX0_79 : Cond.methodLink "Bookgrafter$Row" 79 yX0_endOfPart ∈ Tt := inT3 (i := 48) rfl rfl
theorem mlX0_83 : Cond.methodLink "Bookgrafter$Row" 83 yX0_pairAt ∈ Tt := inT3 (i := 49) rfl rfl
theorem mlL_193 : Cond.methodLink "BookgrafterLaw" 193 yL_has ∈ Tt := inT3 (i := 50) rfl rfl
theorem w3_51 : Cond.static yL_has ∈ Tt := inT3 (i := 51) rfl rfl
theorem w3_52 : Cond.codeWith yL_has cL_has 6 (some .int) [(0, 20, 23, 19), (0, 20, 27, 21)] ∈ Tt := inT3 (i := 52) rfl rfl
theorem mlL_54 : Cond.methodLink "BookgrafterLaw" 54 yX3_has ∈ Tt := inT3 (i := 53) rfl rfl
theorem w3_54 : Cond.instanceMethod yX3_has ∈ Tt := inT3 (i := 54) rfl rfl
theorem w3_55 : Cond.selects "Bookgrafter" yX3_has yX3_has ∈ Tt := inT3 (i := 55) rfl rfl
theorem w3_56 : Cond.code yX3_has cX3_has 5 (some .boolean) ∈ Tt := inT3 (i := 56) rfl rfl
theorem mlX3_123 : Cond.methodLink "Bookgrafter" 123 yX0_hasWorth ∈ Tt := inT3 (i := 57) rfl rfl
theorem w3_58 : Cond.instanceMethod yX0_hasWorth ∈ Tt := inT3 (i := 58) rfl rfl
theorem w3_59 : Cond.selects "Bookgrafter$Row" yX0_hasWorth yX0_hasWorth ∈ Tt := inT3 (i := 59) rfl rfl
theorem w3_60 : Cond.code yX0_hasWorth cX0_hasWorth 3 (some .boolean) ∈ Tt := inT3 (i := 60) rfl rfl
theorem mlL_197 : Cond.methodLink "BookgrafterLaw" 197 yL_near ∈ Tt := inT3 (i := 61) rfl rfl
theorem w3_62 : Cond.static yL_near ∈ Tt := inT3 (i := 62) rfl rfl
theorem w3_63 : Cond.codeWith yL_near cL_near 7 (some .int) [(0, 15, 18, 19), (0, 15, 22, 21)] ∈ Tt := inT3 (i := 63) rfl rfl
theorem mlL_58 : Cond.methodLink "BookgrafterLaw" 58 yX3_near ∈ Tt := inT3 (i := 64) rfl rfl
theorem w3_65 : Cond.instanceMethod yX3_near ∈ Tt := inT3 (i := 65) rfl rfl
theorem w3_66 : Cond.selects "Bookgrafter" yX3_near yX3_near ∈ Tt := inT3 (i := 66) rfl rfl
theorem w3_67 : Cond.code yX3_near cX3_near 7 (some .int) ∈ Tt := inT3 (i := 67) rfl rfl
theorem mlL_201 : Cond.methodLink "BookgrafterLaw" 201 yL_end ∈ Tt := inT3 (i := 68) rfl rfl
theorem w3_69 : Cond.static yL_end ∈ Tt := inT3 (i := 69) rfl rfl
theorem w3_70 : Cond.codeWith yL_end cL_end 6 (some .int) [(0, 13, 16, 19)] ∈ Tt := inT3 (i := 70) rfl rfl
theorem mlL_62 : Cond.methodLink "BookgrafterLaw" 62 yX3_end ∈ Tt := inT3 (i := 71) rfl rfl
theorem w3_72 : Cond.instanceMethod yX3_end ∈ Tt := inT3 (i := 72) rfl rfl
theorem w3_73 : Cond.selects "Bookgrafter" yX3_end yX3_end ∈ Tt := inT3 (i := 73) rfl rfl
theorem w3_74 : Cond.code yX3_end cX3_end 6 (some .int) ∈ Tt := inT3 (i := 74) rfl rfl
theorem mlX3_139 : Cond.methodLink "Bookgrafter" 139 yX3_keyOrRefuse ∈ Tt := inT3 (i := 75) rfl rfl
theorem w3_77 : Cond.instanceMethod yX3_keyOrRefuse ∈ Tt := inT3 (i := 77) rfl rfl
theorem w3_78 : Cond.code yX3_keyOrRefuse cX3_keyOrRefuse 3 (some .int) ∈ Tt := inT3 (i := 78) rfl rfl
theorem mlL_205 : Cond.methodLink "BookgrafterLaw" 205 yL_keyAt ∈ Tt := inT3 (i := 79) rfl rfl
theorem w3_80 : Cond.static yL_keyAt ∈ Tt := inT3 (i := 80) rfl rfl
theorem w3_81 : Cond.codeWith yL_keyAt cL_keyAt 6 (some .int) [(0, 13, 16, 19), (0, 13, 20, 21)] ∈ Tt := inT3 (i := 81) rfl rfl
theorem mlL_66 : Cond.methodLink "BookgrafterLaw" 66 yX3_keyAt ∈ Tt := inT3 (i := 82) rfl rfl
theorem w3_83 : Cond.instanceMethod yX3_keyAt ∈ Tt := inT3 (i := 83) rfl rfl
theorem w3_84 : Cond.selects "Bookgrafter" yX3_keyAt yX3_keyAt ∈ Tt := inT3 (i := 84) rfl rfl
theorem w3_85 : Cond.code yX3_keyAt cX3_keyAt 6 (some .int) ∈ Tt := inT3 (i := 85) rfl rfl
theorem mlX3_142 : Cond.methodLink "Bookgrafter" 142 yX0_rankBehind ∈ Tt := inT3 (i := 86) rfl rfl
theorem w3_87 : Cond.instanceMethod yX0_rankBehind ∈ Tt := inT3 (i := 87) rfl rfl
theorem w3_88 : Cond.selects "Bookgrafter$Row" yX0_rankBehind yX0_rankBehind ∈ Tt := inT3 (i := 88) rfl rfl
theorem w3_89 : Cond.code yX0_rankBehind cX0_rankBehind 4 (some .int) ∈ Tt := inT3 (i := 89) rfl rfl
theorem mlL_208 : Cond.methodLink "BookgrafterLaw" 208 yL_tellBook ∈ Tt := inT3 (i := 90) rfl rfl
theorem w3_91 : Cond.static yL_tellBook ∈ Tt := inT3 (i := 91) rfl rfl
theorem w3_92 : Cond.codeWith yL_tellBook cL_tellBook 5 (some .int) [(0, 11, 14, 19), (0, 11, 18, 21)] ∈ Tt := inT3 (i := 92) rfl rfl
theorem mlL_69 : Cond.methodLink "BookgrafterLaw" 69 yX3_tellBook ∈ Tt := inT3 (i := 93) rfl rfl
theorem w3_94 : Cond.instanceMethod yX3_tellBook ∈ Tt := inT3 (i := 94) rfl rfl
theorem w3_95 : Cond.selects "Bookgrafter" yX3_tellBook yX3_tellBook ∈ Tt := inT3 (i := 95) rfl rfl
theorem w3_96 : Cond.code yX3_tellBook cX3_tellBook 4 (some .int) ∈ Tt := inT3 (i := 96) rfl rfl
theorem mlL_211 : Cond.methodLink "BookgrafterLaw" 211 yL_bookText ∈ Tt := inT3 (i := 97) rfl rfl
theorem w3_98 : Cond.static yL_bookText ∈ Tt := inT3 (i := 98) rfl rfl
theorem w3_99 : Cond.codeWith yL_bookText cL_bookText 4 (some .int) [(0, 9, 12, 19)] ∈ Tt := inT3 (i := 99) rfl rfl
theorem mlL_72 : Cond.methodLink "BookgrafterLaw" 72 yX3_bookText ∈ Tt := inT3 (i := 100) rfl rfl
theorem w3_101 : Cond.instanceMethod yX3_bookText ∈ Tt := inT3 (i := 101) rfl rfl
theorem w3_102 : Cond.selects "Bookgrafter" yX3_bookText yX3_bookText ∈ Tt := inT3 (i := 102) rfl rfl
theorem w3_103 : Cond.code yX3_bookText cX3_bookText 6 (some (.object "java/lang/String")) ∈ Tt := inT3 (i := 103) rfl rfl
theorem klX3_148 : Cond.classLink "Bookgrafter" 148 "java/lang/StringBuilder" ∈ Tt := inT3 (i := 104) rfl rfl
theorem insJ4 : Cond.instantiable "java/lang/StringBuilder" 4 ∈ Tt := inT3 (i := 105) rfl rfl
theorem mlX3_150 : Cond.methodLink "Bookgrafter" 150 yJ4_init_da8c8 ∈ Tt := inT3 (i := 106) rfl rfl
theorem w3_107 : Cond.instanceMethod yJ4_init_da8c8 ∈ Tt := inT3 (i := 107) rfl rfl
theorem w3_108 : Cond.code yJ4_init_da8c8 cJ4_init_da8c8 1 none ∈ Tt := inT3 (i := 108) rfl rfl
theorem mlJ4_1 : Cond.methodLink "java/lang/StringBuilder" 1 yJ5_init_d00df ∈ Tt := inT3 (i := 109) rfl rfl
theorem w3_110 : Cond.instanceMethod yJ5_init_d00df ∈ Tt := inT3 (i := 110) rfl rfl
theorem w3_111 : Cond.code yJ5_init_d00df cJ5_init_d00df 2 none ∈ Tt := inT3 (i := 111) rfl rfl
theorem mlJ5_3 : Cond.methodLink "java/lang/AbstractStringBuilder" 3 objectInit ∈ Tt := inT3 (i := 112) rfl rfl
theorem flJ5_18 : Cond.fieldLink "java/lang/AbstractStringBuilder" 18 "java/lang/String" "COMPACT_STRINGS" "Z" ∈ Tt := inT3 (i := 113) rfl rfl
theorem mlJ5_26 : Cond.methodLink "java/lang/AbstractStringBuilder" 26 yJ2_newBytesFor_77867 ∈ Tt := inT3 (i := 115) rfl rfl
theorem w3_116 : Cond.static yJ2_newBytesFor_77867 ∈ Tt := inT3 (i := 116) rfl rfl
theorem w3_117 : Cond.code yJ2_newBytesFor_77867 cJ2_newBytesFor_77867 1 (some (.array .byte)) ∈ Tt := inT3 (i := 117) rfl rfl
theorem mlJ2_11 : Cond.methodLink "java/lang/StringUTF16" 11 yJ2_newBytesLength_0f7a4 ∈ Tt := inT3 (i := 118) rfl rfl
theorem w3_119 : Cond.static yJ2_newBytesLength_0f7a4 ∈ Tt := inT3 (i := 119) rfl rfl
theorem w3_120 : Cond.code yJ2_newBytesLength_0f7a4 cJ2_newBytesLength_0f7a4 1 (some .int) ∈ Tt := inT3 (i := 120) rfl rfl
theorem cIJ2_20 : Cond.constant "java/lang/StringUTF16" 20 1073741823 ∈ Tt := inT3 (i := 121) rfl rfl
theorem flJ5_15 : Cond.fieldLink "java/lang/AbstractStringBuilder" 15 "java/lang/AbstractStringBuilder" "value" "[B" ∈ Tt := inT3 (i := 122) rfl rfl
theorem flJ5_22 : Cond.fieldLink "java/lang/AbstractStringBuilder" 22 "java/lang/AbstractStringBuilder" "coder" "B" ∈ Tt := inT3 (i := 123) rfl rfl
theorem flJ0_1048 : Cond.fieldLink "java/lang/String" 1048 "java/lang/AbstractStringBuilder" "maybeLatin1" "Z" ∈ Tt := inT3 (i := 124) rfl rfl
theorem flJ5_79 : Cond.fieldLink "java/lang/AbstractStringBuilder" 79 "java/lang/AbstractStringBuilder" "count" "I" ∈ Tt := inT3 (i := 125) rfl rfl
theorem w3_126 : Cond.lays "java/lang/StringBuilder" "java/lang/AbstractStringBuilder" "value" "[B" ∈ Tt := inT3 (i := 126) rfl rfl
theorem w3_128 : Cond.lays "java/lang/StringBuilder" "java/lang/AbstractStringBuilder" "coder" "B" ∈ Tt := inT3 (i := 128) rfl rfl
theorem w3_130 : Cond.lays "java/lang/StringBuilder" "java/lang/AbstractStringBuilder" "maybeLatin1" "Z" ∈ Tt := inT3 (i := 130) rfl rfl
theorem w3_132 : Cond.lays "java/lang/StringBuilder" "java/lang/AbstractStringBuilder" "count" "I" ∈ Tt := inT3 (i := 132) rfl rfl
theorem w3_134 : Cond.superclass "java/lang/StringBuilder" "java/lang/AbstractStringBuilder" ∈ Tt := inT3 (i := 134) rfl rfl
theorem mlX3_151 : Cond.methodLink "Bookgrafter" 151 yJ4_append_cf468 ∈ Tt := inT3 (i := 135) rfl rfl
theorem w3_136 : Cond.instanceMethod yJ4_append_cf468 ∈ Tt := inT3 (i := 136) rfl rfl
theorem w3_137 : Cond.selects "java/lang/StringBuilder" yJ4_append_cf468 yJ4_append_cf468 ∈ Tt := inT3 (i := 137) rfl rfl
theorem w3_138 : Cond.code yJ4_append_cf468 cJ4_append_cf468 2 (some (.object "java/lang/StringBuilder")) ∈ Tt := inT3 (i := 138) rfl rfl
theorem mlJ4_50 : Cond.methodLink "java/lang/StringBuilder" 50 yJ5_append_3fe6f ∈ Tt := inT3 (i := 139) rfl rfl
theorem w3_140 : Cond.instanceMethod yJ5_append_3fe6f ∈ Tt := inT3 (i := 140) rfl rfl
theorem w3_141 : Cond.code yJ5_append_3fe6f cJ5_append_3fe6f 2 (some (.object "java/lang/AbstractStringBuilder")) ∈ Tt := inT3 (i := 141) rfl rfl
theorem mlJ5_100 : Cond.methodLink "java/lang/AbstractStringBuilder" 100 yJ5_ensureCapacityInternal_d00df ∈ Tt := inT3 (i := 142) rfl rfl
theorem w3_144 : Cond.instanceMethod yJ5_ensureCapacityInternal_d00df ∈ Tt := inT3 (i := 144) rfl rfl
theorem w3_145 : Cond.code yJ5_ensureCapacityInternal_d00df cJ5_ensureCapacityInternal_d00df 3 none ∈ Tt := inT3 (i := 145) rfl rfl
theorem mlJ5_104 : Cond.methodLink "java/lang/AbstractStringBuilder" 104 yJ5_newCapacity_0f7a4 ∈ Tt := inT3 (i := 146) rfl rfl
theorem w3_148 : Cond.instanceMethod yJ5_newCapacity_0f7a4 ∈ Tt := inT3 (i := 148) rfl rfl
theorem w3_149 : Cond.code yJ5_newCapacity_0f7a4 cJ5_newCapacity_0f7a4 6 (some .int) ∈ Tt := inT3 (i := 149) rfl rfl
theorem mlJ5_114 : Cond.methodLink "java/lang/AbstractStringBuilder" 114 yJ8_newLength_cabcc ∈ Tt := inT3 (i := 150) rfl rfl
theorem w3_151 : Cond.static yJ8_newLength_cabcc ∈ Tt := inT3 (i := 151) rfl rfl
theorem w3_152 : Cond.code yJ8_newLength_cabcc cJ8_newLength_cabcc 4 (some .int) ∈ Tt := inT3 (i := 152) rfl rfl
theorem mlJ8_194 : Cond.methodLink "jdk/internal/util/ArraysSupport" 194 yJ9_max_7cf53 ∈ Tt := inT3 (i := 153) rfl rfl
theorem cIJ8_200 : Cond.constant "jdk/internal/util/ArraysSupport" 200 2147483639 ∈ Tt := inT3 (i := 154) rfl rfl
theorem mlJ8_201 : Cond.methodLink "jdk/internal/util/ArraysSupport" 201 yJ8_hugeLength_7cf53 ∈ Tt := inT3 (i := 155) rfl rfl
theorem w3_156 : Cond.static yJ8_hugeLength_7cf53 ∈ Tt := inT3 (i := 156) rfl rfl
theorem w3_157 : Cond.code yJ8_hugeLength_7cf53 cJ8_hugeLength_7cf53 3 (some .int) ∈ Tt := inT3 (i := 157) rfl rfl
theorem cIJ5_39 : Cond.constant "java/lang/AbstractStringBuilder" 39 2147483647 ∈ Tt := inT3 (i := 158) rfl rfl
theorem mlJ5_108 : Cond.methodLink "java/lang/AbstractStringBuilder" 108 yJ7_copyOf_9075b ∈ Tt := inT3 (i := 159) rfl rfl
theorem w3_160 : Cond.static yJ7_copyOf_9075b ∈ Tt := inT3 (i := 160) rfl rfl
theorem w3_161 : Cond.code yJ7_copyOf_9075b cJ7_copyOf_9075b 3 (some (.array .byte)) ∈ Tt := inT3 (i := 161) rfl rfl
theorem mlJ7_310 : Cond.methodLink "java/util/Arrays" 310 ⟨"[B", "clone", "()Ljava/lang/Object;"⟩ ∈ Tt := inT3 (i := 162) rfl rfl
theorem w3_163 : Cond.sameMethod "[B" "java/lang/Object" "clone" "()Ljava/lang/Object;" ∈ Tt := inT3 (i := 163) rfl rfl
theorem w3_164 : Cond.native ⟨"java/lang/Object", "clone", "()Ljava/lang/Object;"⟩ ∈ Tt := inT3 (i := 164) rfl rfl
theorem w3_165 : Cond.instanceMethod ⟨"java/lang/Object", "clone", "()Ljava/lang/Object;"⟩ ∈ Tt := inT3 (i := 165) rfl rfl
theorem w3_166 : Cond.selects "[B" ⟨"[B", "clone", "()Ljava/lang/Object;"⟩ ⟨"java/lang/Object", "clone", "()Ljava/lang/Object;"⟩ ∈ Tt := inT3 (i := 166) rfl rfl
theorem klJ7_311 : Cond.classLink "java/util/Arrays" 311 "[B" ∈ Tt := inT3 (i := 168) rfl rfl
theorem mlJ7_304 : Cond.methodLink "java/util/Arrays" 304 yJ9_min_7cf53 ∈ Tt := inT3 (i := 169) rfl rfl
theorem mlJ7_150 : Cond.methodLink "java/util/Arrays" 150 ⟨"java/lang/System", "arraycopy", "(Ljava/lang/Object;ILjava/lang/Object;II)V"⟩ ∈ Tt := inT3 (i := 170) rfl rfl
theorem w3_171 : Cond.static ⟨"java/lang/System", "arraycopy", "(Ljava/lang/Object;ILjava/lang/Object;II)V"⟩ ∈ Tt := inT3 (i := 171) rfl rfl
theorem w3_172 : Cond.native ⟨"java/lang/System", "arraycopy", "(Ljava/lang/Object;ILjava/lang/Object;II)V"⟩ ∈ Tt := inT3 (i := 172) rfl rfl
theorem mlJ5_83 : Cond.methodLink "java/lang/AbstractStringBuilder" 83 yJ5_isLatin1_aae02 ∈ Tt := inT3 (i := 173) rfl rfl
theorem w3_174 : Cond.instanceMethod yJ5_isLatin1_aae02 ∈ Tt := inT3 (i := 174) rfl rfl
theorem w3_175 : Cond.sameMethod "java/lang/AbstractStringBuilder" "java/lang/AbstractStringBuilder" "isLatin1" "()Z" ∈ Tt := inT3 (i := 175) rfl rfl
theorem w3_176 : Cond.selects "java/lang/StringBuilder" yJ5_isLatin1_aae02 yJ5_isLatin1_aae02 ∈ Tt := inT3 (i := 176) rfl rfl
theorem w3_177 : Cond.code yJ5_isLatin1_aae02 cJ5_isLatin1_aae02 1 (some .boolean) ∈ Tt := inT3 (i := 177) rfl rfl
theorem mlJ5_191 : Cond.methodLink "java/lang/AbstractStringBuilder" 191 yJ1_canEncode_fc78d ∈ Tt := inT3 (i := 178) rfl rfl
theorem w3_179 : Cond.static yJ1_canEncode_fc78d ∈ Tt := inT3 (i := 179) rfl rfl
theorem w3_180 : Cond.code yJ1_canEncode_fc78d cJ1_canEncode_fc78d 1 (some .boolean) ∈ Tt := inT3 (i := 180) rfl rfl
theorem mlJ5_195 : Cond.methodLink "java/lang/AbstractStringBuilder" 195 yJ5_inflate_da8c8 ∈ Tt := inT3 (i := 181) rfl rfl
theorem w3_183 : Cond.instanceMethod yJ5_inflate_da8c8 ∈ Tt := inT3 (i := 183) rfl rfl
theorem w3_184 : Cond.code yJ5_inflate_da8c8 cJ5_inflate_da8c8 2 none ∈ Tt := inT3 (i := 184) rfl rfl
theorem mlJ5_125 : Cond.methodLink "java/lang/AbstractStringBuilder" 125 yJ1_inflate_0e8fd ∈ Tt := inT3 (i := 185) rfl rfl
theorem w3_186 : Cond.static yJ1_inflate_0e8fd ∈ Tt := inT3 (i := 186) rfl rfl
theorem w3_187 : Cond.code yJ1_inflate_0e8fd cJ1_inflate_0e8fd 5 none ∈ Tt := inT3 (i := 187) rfl rfl
theorem mlJ1_240 : Cond.methodLink "java/lang/StringLatin1" 240 yJ2_inflate_0e8fd ∈ Tt := inT3 (i := 188) rfl rfl
theorem w3_189 : Cond.static yJ2_inflate_0e8fd ∈ Tt := inT3 (i := 189) rfl rfl
theorem w3_190 : Cond.code yJ2_inflate_0e8fd cJ2_inflate_0e8fd 6 none ∈ Tt := inT3 (i := 190) rfl rfl
theorem mlJ2_173 : Cond.methodLink "java/lang/StringUTF16" 173 yJ2_checkBoundsOffCount_d044e ∈ Tt := inT3 (i := 191) rfl rfl
theorem w3_192 : Cond.static yJ2_checkBoundsOffCount_d044e ∈ Tt := inT3 (i := 192) rfl rfl
theorem w3_193 : Cond.code yJ2_checkBoundsOffCount_d044e cJ2_checkBoundsOffCount_d044e 3 none ∈ Tt := inT3 (i := 193) rfl rfl
theorem mlJ2_48 : Cond.methodLink "java/lang/StringUTF16" 48 yJ2_length_9d52b ∈ Tt := inT3 (i := 194) rfl rfl
theorem w3_195 : Cond.static yJ2_length_9d52b ∈ Tt := inT3 (i := 195) rfl rfl
theorem w3_196 : Cond.code yJ2_length_9d52b cJ2_length_9d52b 1 (some .int) ∈ Tt := inT3 (i := 196) rfl rfl
theorem mlJ2_419 : Cond.methodLink "java/lang/StringUTF16" 419 yJ0_checkBoundsOffCount_cabcc ∈ Tt := inT3 (i := 197) rfl rfl
theorem w3_198 : Cond.static yJ0_checkBoundsOffCount_cabcc ∈ Tt := inT3 (i := 198) rfl rfl
theorem w3_199 : Cond.code yJ0_checkBoundsOffCount_cabcc cJ0_checkBoundsOffCount_cabcc 3 (some .int) ∈ Tt := inT3 (i := 199) rfl rfl
theorem flJ0_1053 : Cond.fieldLink "java/lang/String" 1053 "jdk/internal/util/Preconditions" "SIOOBE_FORMATTER" "Ljava/util/function/BiFunction;" ∈ Tt := inT3 (i := 200) rfl rfl
theorem mlJ0_1065 : Cond.methodLink "java/lang/String" 1065 yJ3_checkFromIndexSize_8c36e ∈ Tt := inT3 (i := 202) rfl rfl
theorem w3_203 : Cond.static yJ3_checkFromIndexSize_8c36e ∈ Tt := inT3 (i := 203) rfl rfl
theorem w3_204 : Cond.code yJ3_checkFromIndexSize_8c36e cJ3_checkFromIndexSize_8c36e 4 (some .int) ∈ Tt := inT3 (i := 204) rfl rfl
theorem mlJ2_111 : Cond.methodLink "java/lang/StringUTF16" 111 yJ2_putChar_b72d1 ∈ Tt := inT3 (i := 205) rfl rfl
theorem w3_206 : Cond.static yJ2_putChar_b72d1 ∈ Tt := inT3 (i := 206) rfl rfl
theorem w3_207 : Cond.code yJ2_putChar_b72d1 cJ2_putChar_b72d1 3 none ∈ Tt := inT3 (i := 207) rfl rfl
theorem flJ2_44 : Cond.fieldLink "java/lang/StringUTF16" 44 "java/lang/StringUTF16" "$assertionsDisabled" "Z" ∈ Tt := inT3 (i := 208) rfl rfl
theorem flJ2_59 : Cond.fieldLink "java/lang/StringUTF16" 59 "java/lang/StringUTF16" "HI_BYTE_SHIFT" "I" ∈ Tt := inT3 (i := 210) rfl rfl
theorem flJ2_63 : Cond.fieldLink "java/lang/StringUTF16" 63 "java/lang/StringUTF16" "LO_BYTE_SHIFT" "I" ∈ Tt := inT3 (i := 212) rfl rfl
theorem mlJ5_197 : Cond.methodLink "java/lang/AbstractStringBuilder" 197 yJ2_putCharSB_b72d1 ∈ Tt := inT3 (i := 214) rfl rfl
theorem w3_215 : Cond.static yJ2_putCharSB_b72d1 ∈ Tt := inT3 (i := 215) rfl rfl
theorem w3_216 : Cond.code yJ2_putCharSB_b72d1 cJ2_putCharSB_b72d1 3 none ∈ Tt := inT3 (i := 216) rfl rfl
theorem mlJ2_67 : Cond.methodLink "java/lang/StringUTF16" 67 yJ2_checkIndex_2214a ∈ Tt := inT3 (i := 217) rfl rfl
theorem w3_218 : Cond.static yJ2_checkIndex_2214a ∈ Tt := inT3 (i := 218) rfl rfl
theorem w3_219 : Cond.code yJ2_checkIndex_2214a cJ2_checkIndex_2214a 2 none ∈ Tt := inT3 (i := 219) rfl rfl
theorem mlJ2_414 : Cond.methodLink "java/lang/StringUTF16" 414 yJ0_checkIndex_df160 ∈ Tt := inT3 (i := 220) rfl rfl
theorem w3_221 : Cond.static yJ0_checkIndex_df160 ∈ Tt := inT3 (i := 221) rfl rfl
theorem w3_222 : Cond.code yJ0_checkIndex_df160 cJ0_checkIndex_df160 2 none ∈ Tt := inT3 (i := 222) rfl rfl
theorem mlJ0_1059 : Cond.methodLink "java/lang/String" 1059 yJ3_checkIndex_8e157 ∈ Tt := inT3 (i := 223) rfl rfl
theorem w3_224 : Cond.static yJ3_checkIndex_8e157 ∈ Tt := inT3 (i := 224) rfl rfl
theorem w3_225 : Cond.code yJ3_checkIndex_8e157 cJ3_checkIndex_8e157 3 (some .int) ∈ Tt := inT3 (i := 225) rfl rfl
theorem mlX3_157 : Cond.methodLink "Bookgrafter" 157 yJ4_append_15ec4 ∈ Tt := inT3 (i := 227) rfl rfl
theorem w3_228 : Cond.instanceMethod yJ4_append_15ec4 ∈ Tt := inT3 (i := 228) rfl rfl
theorem w3_229 : Cond.selects "java/lang/StringBuilder" yJ4_append_15ec4 yJ4_append_15ec4 ∈ Tt := inT3 (i := 229) rfl rfl
theorem w3_230 : Cond.code yJ4_append_15ec4 cJ4_append_15ec4 2 (some (.object "java/lang/StringBuilder")) ∈ Tt := inT3 (i := 230) rfl rfl
theorem mlJ4_29 : Cond.methodLink "java/lang/StringBuilder" 29 yJ5_append_cf1ce ∈ Tt := inT3 (i := 231) rfl rfl
theorem w3_232 : Cond.instanceMethod yJ5_append_cf1ce ∈ Tt := inT3 (i := 232) rfl rfl
theorem w3_233 : Cond.code yJ5_append_cf1ce cJ5_append_cf1ce 3 (some (.object "java/lang/AbstractStringBuilder")) ∈ Tt := inT3 (i := 233) rfl rfl
theorem mlJ5_204 : Cond.methodLink "java/lang/AbstractStringBuilder" 204 yJ5_appendNull_278bc ∈ Tt := inT3 (i := 234) rfl rfl
theorem w3_236 : Cond.instanceMethod yJ5_appendNull_278bc ∈ Tt := inT3 (i := 236) rfl rfl
theorem w3_237 : Cond.code yJ5_appendNull_278bc cJ5_appendNull_278bc 3 (some (.object "java/lang/AbstractStringBuilder")) ∈ Tt := inT3 (i := 237) rfl rfl
theorem mlJ5_226 : Cond.methodLink "java/lang/AbstractStringBuilder" 226 yJ2_putCharsAt_cd4e5 ∈ Tt := inT3 (i := 238) rfl rfl
theorem w3_239 : Cond.static yJ2_putCharsAt_cd4e5 ∈ Tt := inT3 (i := 239) rfl rfl
theorem w4_0 : Cond.code yJ2_putCharsAt_cd4e5 cJ2_putCharsAt_cd4e5 7 (some .int) ∈ Tt := inT4 (i := 0) rfl rfl
theorem mlJ2_96 : Cond.methodLink "java/lang/StringUTF16" 96 yJ2_checkBoundsBeginEnd_d044e ∈ Tt := inT4 (i := 1) rfl rfl
theorem w4_2 : Cond.static yJ2_checkBoundsBeginEnd_d044e ∈ Tt := inT4 (i := 2) rfl rfl
theorem w4_3 : Cond.code yJ2_checkBoundsBeginEnd_d044e cJ2_checkBoundsBeginEnd_d044e 3 none ∈ Tt := inT4 (i := 3) rfl rfl
theorem mlJ2_241 : Cond.methodLink "java/lang/StringUTF16" 241 yJ0_checkBoundsBeginEnd_23922 ∈ Tt := inT4 (i := 4) rfl rfl
theorem w4_5 : Cond.static yJ0_checkBoundsBeginEnd_23922 ∈ Tt := inT4 (i := 5) rfl rfl
theorem w4_6 : Cond.code yJ0_checkBoundsBeginEnd_23922 cJ0_checkBoundsBeginEnd_23922 3 none ∈ Tt := inT4 (i := 6) rfl rfl
theorem mlJ0_1062 : Cond.methodLink "java/lang/String" 1062 yJ3_checkFromToIndex_8c36e ∈ Tt := inT4 (i := 7) rfl rfl
theorem w4_8 : Cond.static yJ3_checkFromToIndex_8c36e ∈ Tt := inT4 (i := 8) rfl rfl
theorem w4_9 : Cond.code yJ3_checkFromToIndex_8c36e cJ3_checkFromToIndex_8c36e 4 (some .int) ∈ Tt := inT4 (i := 9) rfl rfl
theorem mlJ5_32 : Cond.methodLink "java/lang/AbstractStringBuilder" 32 yJ0_length_8abf5 ∈ Tt := inT4 (i := 10) rfl rfl
theorem w4_11 : Cond.instanceMethod yJ0_length_8abf5 ∈ Tt := inT4 (i := 11) rfl rfl
theorem w4_12 : Cond.selects "java/lang/String" yJ0_length_8abf5 yJ0_length_8abf5 ∈ Tt := inT4 (i := 12) rfl rfl
theorem w4_13 : Cond.code yJ0_length_8abf5 cJ0_length_8abf5 1 (some .int) ∈ Tt := inT4 (i := 13) rfl rfl
theorem mlJ0_335 : Cond.methodLink "java/lang/String" 335 yJ0_coder_7d493 ∈ Tt := inT4 (i := 14) rfl rfl
theorem w4_15 : Cond.instanceMethod yJ0_coder_7d493 ∈ Tt := inT4 (i := 15) rfl rfl
theorem w4_16 : Cond.selects "java/lang/String" yJ0_coder_7d493 yJ0_coder_7d493 ∈ Tt := inT4 (i := 16) rfl rfl
theorem w4_17 : Cond.code yJ0_coder_7d493 cJ0_coder_7d493 1 (some .byte) ∈ Tt := inT4 (i := 17) rfl rfl
theorem flJ0_38 : Cond.fieldLink "java/lang/String" 38 "java/lang/String" "COMPACT_STRINGS" "Z" ∈ Tt := inT4 (i := 18) rfl rfl
theorem mlJ5_208 : Cond.methodLink "java/lang/AbstractStringBuilder" 208 yJ5_putStringAt_47b60 ∈ Tt := inT4 (i := 19) rfl rfl
theorem w4_21 : Cond.instanceMethod yJ5_putStringAt_47b60 ∈ Tt := inT4 (i := 21) rfl rfl
theorem w4_22 : Cond.code yJ5_putStringAt_47b60 cJ5_putStringAt_47b60 3 none ∈ Tt := inT4 (i := 22) rfl rfl
theorem mlJ5_397 : Cond.methodLink "java/lang/AbstractStringBuilder" 397 yJ5_inflateIfNeededFor_a7421 ∈ Tt := inT4 (i := 23) rfl rfl
theorem w4_25 : Cond.instanceMethod yJ5_inflateIfNeededFor_a7421 ∈ Tt := inT4 (i := 25) rfl rfl
theorem w4_26 : Cond.code yJ5_inflateIfNeededFor_a7421 cJ5_inflateIfNeededFor_a7421 2 none ∈ Tt := inT4 (i := 26) rfl rfl
theorem mlJ5_40 : Cond.methodLink "java/lang/AbstractStringBuilder" 40 yJ0_coder_7d493 ∈ Tt := inT4 (i := 27) rfl rfl
theorem mlJ5_399 : Cond.methodLink "java/lang/AbstractStringBuilder" 399 yJ0_getBytes_840e7 ∈ Tt := inT4 (i := 28) rfl rfl
theorem w4_29 : Cond.instanceMethod yJ0_getBytes_840e7 ∈ Tt := inT4 (i := 29) rfl rfl
theorem w4_30 : Cond.selects "java/lang/String" yJ0_getBytes_840e7 yJ0_getBytes_840e7 ∈ Tt := inT4 (i := 30) rfl rfl
theorem w4_31 : Cond.code yJ0_getBytes_840e7 cJ0_getBytes_840e7 4 none ∈ Tt := inT4 (i := 31) rfl rfl
theorem mlJ0_212 : Cond.methodLink "java/lang/String" 212 ⟨"java/lang/System", "arraycopy", "(Ljava/lang/Object;ILjava/lang/Object;II)V"⟩ ∈ Tt := inT4 (i := 32) rfl rfl
theorem mlJ0_106 : Cond.methodLink "java/lang/String" 106 yJ1_inflate_0e8fd ∈ Tt := inT4 (i := 33) rfl rfl
theorem mlX3_160 : Cond.methodLink "Bookgrafter" 160 yJ4_append_bf812 ∈ Tt := inT4 (i := 34) rfl rfl
theorem w4_35 : Cond.instanceMethod yJ4_append_bf812 ∈ Tt := inT4 (i := 35) rfl rfl
theorem w4_36 : Cond.selects "java/lang/StringBuilder" yJ4_append_bf812 yJ4_append_bf812 ∈ Tt := inT4 (i := 36) rfl rfl
theorem w4_37 : Cond.code yJ4_append_bf812 cJ4_append_bf812 2 (some (.object "java/lang/StringBuilder")) ∈ Tt := inT4 (i := 37) rfl rfl
theorem mlJ4_53 : Cond.methodLink "java/lang/StringBuilder" 53 yJ5_append_c97b9 ∈ Tt := inT4 (i := 38) rfl rfl
theorem w4_39 : Cond.instanceMethod yJ5_append_c97b9 ∈ Tt := inT4 (i := 39) rfl rfl
theorem w4_40 : Cond.code yJ5_append_c97b9 cJ5_append_c97b9 4 (some (.object "java/lang/AbstractStringBuilder")) ∈ Tt := inT4 (i := 40) rfl rfl
theorem mlJ5_245 : Cond.methodLink "java/lang/AbstractStringBuilder" 245 yJ6_stringSize_0f7a4 ∈ Tt := inT4 (i := 41) rfl rfl
theorem w4_42 : Cond.static yJ6_stringSize_0f7a4 ∈ Tt := inT4 (i := 42) rfl rfl
theorem w4_43 : Cond.code yJ6_stringSize_0f7a4 cJ6_stringSize_0f7a4 4 (some .int) ∈ Tt := inT4 (i := 43) rfl rfl
theorem mlJ5_248 : Cond.methodLink "java/lang/AbstractStringBuilder" 248 yJ6_getChars_ba4f3 ∈ Tt := inT4 (i := 44) rfl rfl
theorem w4_45 : Cond.static yJ6_getChars_ba4f3 ∈ Tt := inT4 (i := 45) rfl rfl
theorem w4_46 : Cond.code yJ6_getChars_ba4f3 cJ6_getChars_ba4f3 7 (some .int) ∈ Tt := inT4 (i := 46) rfl rfl
theorem flJ6_83 : Cond.fieldLink "java/lang/Integer" 83 "java/lang/Integer" "DigitOnes" "[B" ∈ Tt := inT4 (i := 47) rfl rfl
theorem flJ6_87 : Cond.fieldLink "java/lang/Integer" 87 "java/lang/Integer" "DigitTens" "[B" ∈ Tt := inT4 (i := 49) rfl rfl
theorem mlJ5_251 : Cond.methodLink "java/lang/AbstractStringBuilder" 251 yJ2_getChars_46870 ∈ Tt := inT4 (i := 51) rfl rfl
theorem w4_52 : Cond.static yJ2_getChars_46870 ∈ Tt := inT4 (i := 52) rfl rfl
theorem w4_53 : Cond.code yJ2_getChars_46870 cJ2_getChars_46870 5 (some .int) ∈ Tt := inT4 (i := 53) rfl rfl
theorem mlJ2_393 : Cond.methodLink "java/lang/StringUTF16" 393 yJ2_getChars_ba4f3 ∈ Tt := inT4 (i := 54) rfl rfl
theorem w4_55 : Cond.static yJ2_getChars_ba4f3 ∈ Tt := inT4 (i := 55) rfl rfl
theorem w4_56 : Cond.code yJ2_getChars_ba4f3 cJ2_getChars_ba4f3 7 (some .int) ∈ Tt := inT4 (i := 56) rfl rfl
theorem flJ2_403 : Cond.fieldLink "java/lang/StringUTF16" 403 "java/lang/Integer" "DigitOnes" "[B" ∈ Tt := inT4 (i := 57) rfl rfl
theorem flJ2_407 : Cond.fieldLink "java/lang/StringUTF16" 407 "java/lang/Integer" "DigitTens" "[B" ∈ Tt := inT4 (i := 58) rfl rfl
theorem mlX3_163 : Cond.methodLink "Bookgrafter" 163 yJ4_toString_0e30d ∈ Tt := inT4 (i := 59) rfl rfl
theorem w4_60 : Cond.instanceMethod yJ4_toString_0e30d ∈ Tt := inT4 (i := 60) rfl rfl
theorem w4_61 : Cond.selects "java/lang/StringBuilder" yJ4_toString_0e30d yJ4_toString_0e30d ∈ Tt := inT4 (i := 61) rfl rfl
theorem w4_62 : Cond.code yJ4_toString_0e30d cJ4_toString_0e30d 1 (some (.object "java/lang/String")) ∈ Tt := inT4 (i := 62) rfl rfl
theorem klJ4_18 : Cond.classLink "java/lang/StringBuilder" 18 "java/lang/String" ∈ Tt := inT4 (i := 63) rfl rfl
theorem insJ0 : Cond.instantiable "java/lang/String" 4 ∈ Tt := inT4 (i := 64) rfl rfl
theorem mlJ4_137 : Cond.methodLink "java/lang/StringBuilder" 137 yJ0_init_81219 ∈ Tt := inT4 (i := 65) rfl rfl
theorem w4_66 : Cond.instanceMethod yJ0_init_81219 ∈ Tt := inT4 (i := 66) rfl rfl
theorem w4_67 : Cond.code yJ0_init_81219 cJ0_init_81219 2 none ∈ Tt := inT4 (i := 67) rfl rfl
theorem mlJ0_489 : Cond.methodLink "java/lang/String" 489 yJ0_init_db425 ∈ Tt := inT4 (i := 68) rfl rfl
theorem w4_69 : Cond.instanceMethod yJ0_init_db425 ∈ Tt := inT4 (i := 69) rfl rfl
theorem w4_70 : Cond.code yJ0_init_db425 cJ0_init_db425 5 none ∈ Tt := inT4 (i := 70) rfl rfl
theorem mlJ0_1 : Cond.methodLink "java/lang/String" 1 objectInit ∈ Tt := inT4 (i := 71) rfl rfl
theorem mlJ0_552 : Cond.methodLink "java/lang/String" 552 yJ5_getValue_6d5f1 ∈ Tt := inT4 (i := 72) rfl rfl
theorem w4_73 : Cond.instanceMethod yJ5_getValue_6d5f1 ∈ Tt := inT4 (i := 73) rfl rfl
theorem w4_74 : Cond.sameMethod "java/lang/AbstractStringBuilder" "java/lang/AbstractStringBuilder" "getValue" "()[B" ∈ Tt := inT4 (i := 74) rfl rfl
theorem w4_75 : Cond.selects "java/lang/StringBuilder" yJ5_getValue_6d5f1 yJ5_getValue_6d5f1 ∈ Tt := inT4 (i := 75) rfl rfl
theorem w4_76 : Cond.code yJ5_getValue_6d5f1 cJ5_getValue_6d5f1 1 (some (.array .byte)) ∈ Tt := inT4 (i := 76) rfl rfl
theorem mlJ0_549 : Cond.methodLink "java/lang/String" 549 yJ5_length_8abf5 ∈ Tt := inT4 (i := 77) rfl rfl
theorem w4_78 : Cond.instanceMethod yJ5_length_8abf5 ∈ Tt := inT4 (i := 78) rfl rfl
theorem w4_79 : Cond.sameMethod "java/lang/AbstractStringBuilder" "java/lang/AbstractStringBuilder" "length" "()I" ∈ Tt := inT4 (i := 79) rfl rfl
theorem w4_80 : Cond.selects "java/lang/StringBuilder" yJ5_length_8abf5 yJ4_length_8abf5 ∈ Tt := inT4 (i := 80) rfl rfl
theorem w4_81 : Cond.instanceMethod yJ4_length_8abf5 ∈ Tt := inT4 (i := 81) rfl rfl
theorem w4_82 : Cond.code yJ4_length_8abf5 cJ4_length_8abf5 1 (some .int) ∈ Tt := inT4 (i := 82) rfl rfl
theorem mlJ4_343 : Cond.methodLink "java/lang/StringBuilder" 343 yJ5_length_8abf5 ∈ Tt := inT4 (i := 83) rfl rfl
theorem w4_84 : Cond.code yJ5_length_8abf5 cJ5_length_8abf5 1 (some .int) ∈ Tt := inT4 (i := 84) rfl rfl
theorem mlJ0_1047 : Cond.methodLink "java/lang/String" 1047 yJ5_isLatin1_aae02 ∈ Tt := inT4 (i := 85) rfl rfl
theorem mlJ0_54 : Cond.methodLink "java/lang/String" 54 yJ7_copyOfRange_39247 ∈ Tt := inT4 (i := 86) rfl rfl
theorem w4_87 : Cond.static yJ7_copyOfRange_39247 ∈ Tt := inT4 (i := 87) rfl rfl
theorem w4_88 : Cond.code yJ7_copyOfRange_39247 cJ7_copyOfRange_39247 3 (some (.array .byte)) ∈ Tt := inT4 (i := 88) rfl rfl
theorem mlJ7_339 : Cond.methodLink "java/util/Arrays" 339 yJ7_copyOfRangeByte_39247 ∈ Tt := inT4 (i := 89) rfl rfl
theorem w4_90 : Cond.static yJ7_copyOfRangeByte_39247 ∈ Tt := inT4 (i := 90) rfl rfl
theorem w4_91 : Cond.code yJ7_copyOfRangeByte_39247 cJ7_copyOfRangeByte_39247 5 (some (.array .byte)) ∈ Tt := inT4 (i := 91) rfl rfl
theorem mlJ7_343 : Cond.methodLink "java/util/Arrays" 343 yJ7_checkLength_df160 ∈ Tt := inT4 (i := 92) rfl rfl
theorem w4_93 : Cond.static yJ7_checkLength_df160 ∈ Tt := inT4 (i := 93) rfl rfl
theorem w4_94 : Cond.code yJ7_checkLength_df160 cJ7_checkLength_df160 2 none ∈ Tt := inT4 (i := 94) rfl rfl
theorem klJ7_43 : Cond.classLink "java/util/Arrays" 43 "java/lang/IllegalArgumentException" ∈ Tt := inT4 (i := 95) rfl rfl
theorem klJ7_45 : Cond.classLink "java/util/Arrays" 45 "java/lang/StringBuilder" ∈ Tt := inT4 (i := 96) rfl rfl
theorem mlJ7_47 : Cond.methodLink "java/util/Arrays" 47 yJ4_init_da8c8 ∈ Tt := inT4 (i := 97) rfl rfl
theorem mlJ7_54 : Cond.methodLink "java/util/Arrays" 54 yJ4_append_bf812 ∈ Tt := inT4 (i := 98) rfl rfl
theorem mlJ7_50 : Cond.methodLink "java/util/Arrays" 50 yJ4_append_15ec4 ∈ Tt := inT4 (i := 100) rfl rfl
theorem mlJ7_61 : Cond.methodLink "java/util/Arrays" 61 yJ4_toString_0e30d ∈ Tt := inT4 (i := 101) rfl rfl
theorem mlJ7_65 : Cond.methodLink "java/util/Arrays" 65 ⟨"java/lang/IllegalArgumentException", "<init>", "(Ljava/lang/String;)V"⟩ ∈ Tt := inT4 (i := 102) rfl rfl
theorem mlJ0_1051 : Cond.methodLink "java/lang/String" 1051 yJ2_compress_39247 ∈ Tt := inT4 (i := 103) rfl rfl
theorem w4_104 : Cond.static yJ2_compress_39247 ∈ Tt := inT4 (i := 104) rfl rfl
theorem w4_105 : Cond.code yJ2_compress_39247 cJ2_compress_39247 6 (some (.array .byte)) ∈ Tt := inT4 (i := 105) rfl rfl
theorem mlJ2_123 : Cond.methodLink "java/lang/StringUTF16" 123 yJ2_compress_5af95 ∈ Tt := inT4 (i := 106) rfl rfl
theorem w4_107 : Cond.static yJ2_compress_5af95 ∈ Tt := inT4 (i := 107) rfl rfl
theorem w4_108 : Cond.code yJ2_compress_5af95 cJ2_compress_5af95 7 (some .int) ∈ Tt := inT4 (i := 108) rfl rfl
theorem mlJ2_71 : Cond.methodLink "java/lang/StringUTF16" 71 yJ2_getChar_3b067 ∈ Tt := inT4 (i := 109) rfl rfl
theorem w4_110 : Cond.static yJ2_getChar_3b067 ∈ Tt := inT4 (i := 110) rfl rfl
theorem w4_111 : Cond.code yJ2_getChar_3b067 cJ2_getChar_3b067 2 (some .char) ∈ Tt := inT4 (i := 111) rfl rfl
theorem mlJ2_126 : Cond.methodLink "java/lang/StringUTF16" 126 yJ7_copyOfRange_39247 ∈ Tt := inT4 (i := 112) rfl rfl
theorem mlJ0_47 : Cond.methodLink "java/lang/String" 47 yJ2_coderFromArrayLen_85cad ∈ Tt := inT4 (i := 113) rfl rfl
theorem w4_114 : Cond.static yJ2_coderFromArrayLen_85cad ∈ Tt := inT4 (i := 114) rfl rfl
theorem w4_115 : Cond.code yJ2_coderFromArrayLen_85cad cJ2_coderFromArrayLen_85cad 2 (some .byte) ∈ Tt := inT4 (i := 115) rfl rfl
theorem flJ0_9 : Cond.fieldLink "java/lang/String" 9 "java/lang/String" "value" "[B" ∈ Tt := inT4 (i := 116) rfl rfl
theorem flJ0_15 : Cond.fieldLink "java/lang/String" 15 "java/lang/String" "coder" "B" ∈ Tt := inT4 (i := 117) rfl rfl
theorem w4_118 : Cond.laysFinal "java/lang/String" "java/lang/String" "value" "[B" ∈ Tt := inT4 (i := 118) rfl rfl
theorem w4_120 : Cond.laysFinal "java/lang/String" "java/lang/String" "coder" "B" ∈ Tt := inT4 (i := 120) rfl rfl
theorem w4_122 : Cond.lays "java/lang/String" "java/lang/String" "hash" "I" ∈ Tt := inT4 (i := 122) rfl rfl
theorem w4_124 : Cond.lays "java/lang/String" "java/lang/String" "hashIsZero" "Z" ∈ Tt := inT4 (i := 124) rfl rfl
theorem w4_126 : Cond.superclass "java/lang/String" "java/lang/Object" ∈ Tt := inT4 (i := 126) rfl rfl
theorem mlL_215 : Cond.methodLink "BookgrafterLaw" 215 yL_sameBooks ∈ Tt := inT4 (i := 127) rfl rfl
theorem w4_128 : Cond.static yL_sameBooks ∈ Tt := inT4 (i := 128) rfl rfl
theorem w4_129 : Cond.codeWith yL_sameBooks cL_sameBooks 5 (some .int) [(0, 18, 21, 19)] ∈ Tt := inT4 (i := 129) rfl rfl
theorem mlL_80 : Cond.methodLink "BookgrafterLaw" 80 yX3_sameBooks ∈ Tt := inT4 (i := 130) rfl rfl
theorem w4_131 : Cond.instanceMethod yX3_sameBooks ∈ Tt := inT4 (i := 131) rfl rfl
theorem w4_132 : Cond.selects "Bookgrafter" yX3_sameBooks yX3_sameBooks ∈ Tt := inT4 (i := 132) rfl rfl
theorem w4_133 : Cond.code yX3_sameBooks cX3_sameBooks 4 (some .boolean) ∈ Tt := inT4 (i := 133) rfl rfl
theorem mlL_218 : Cond.methodLink "BookgrafterLaw" 218 yL_openView ∈ Tt := inT4 (i := 134) rfl rfl
theorem w4_135 : Cond.static yL_openView ∈ Tt := inT4 (i := 135) rfl rfl
theorem w4_136 : Cond.codeWith yL_openView cL_openView 9 (some .int) [(0, 19, 22, 19), (0, 19, 26, 21)] ∈ Tt := inT4 (i := 136) rfl rfl
theorem mlL_84 : Cond.methodLink "BookgrafterLaw" 84 yX3_openView ∈ Tt := inT4 (i := 137) rfl rfl
theorem w4_138 : Cond.instanceMethod yX3_openView ∈ Tt := inT4 (i := 138) rfl rfl
theorem w4_139 : Cond.selects "Bookgrafter" yX3_openView yX3_openView ∈ Tt := inT4 (i := 139) rfl rfl
theorem w4_140 : Cond.code yX3_openView cX3_openView 15 (some .int) ∈ Tt := inT4 (i := 140) rfl rfl
theorem mlX3_171 : Cond.methodLink "Bookgrafter" 171 yX3_viewAt ∈ Tt := inT4 (i := 141) rfl rfl
theorem w4_143 : Cond.instanceMethod yX3_viewAt ∈ Tt := inT4 (i := 143) rfl rfl
theorem w4_144 : Cond.code yX3_viewAt cX3_viewAt 2 (some (.object "Bookgrafter$View")) ∈ Tt := inT4 (i := 144) rfl rfl
theorem mlX3_175 : Cond.methodLink "Bookgrafter" 175 yX3_checkKindAndBounds ∈ Tt := inT4 (i := 146) rfl rfl
theorem w4_147 : Cond.static yX3_checkKindAndBounds ∈ Tt := inT4 (i := 147) rfl rfl
theorem w4_148 : Cond.code yX3_checkKindAndBounds cX3_checkKindAndBounds 3 none ∈ Tt := inT4 (i := 148) rfl rfl
theorem mlL_222 : Cond.methodLink "BookgrafterLaw" 222 yL_narrowView ∈ Tt := inT4 (i := 149) rfl rfl
theorem w4_150 : Cond.static yL_narrowView ∈ Tt := inT4 (i := 150) rfl rfl
theorem w4_151 : Cond.codeWith yL_narrowView cL_narrowView 7 (some .int) [(0, 15, 18, 19), (0, 15, 22, 21)] ∈ Tt := inT4 (i := 151) rfl rfl
theorem mlL_88 : Cond.methodLink "BookgrafterLaw" 88 yX3_narrowView ∈ Tt := inT4 (i := 152) rfl rfl
theorem w4_153 : Cond.instanceMethod yX3_narrowView ∈ Tt := inT4 (i := 153) rfl rfl
theorem w4_154 : Cond.selects "Bookgrafter" yX3_narrowView yX3_narrowView ∈ Tt := inT4 (i := 154) rfl rfl
theorem w4_155 : Cond.code yX3_narrowView cX3_narrowView 10 (some .int) ∈ Tt := inT4 (i := 155) rfl rfl
theorem mlX3_191 : Cond.methodLink "Bookgrafter" 191 yX1_isWithin ∈ Tt := inT4 (i := 156) rfl rfl
theorem w4_157 : Cond.instanceMethod yX1_isWithin ∈ Tt := inT4 (i := 157) rfl rfl
theorem w4_158 : Cond.selects "Bookgrafter$View" yX1_isWithin yX1_isWithin ∈ Tt := inT4 (i := 158) rfl rfl
theorem w4_159 : Cond.code yX1_isWithin cX1_isWithin 2 (some .boolean) ∈ Tt := inT4 (i := 159) rfl rfl
theorem mlL_225 : Cond.methodLink "BookgrafterLaw" 225 yL_buildFromView ∈ Tt := inT4 (i := 160) rfl rfl
theorem w4_161 : Cond.static yL_buildFromView ∈ Tt := inT4 (i := 161) rfl rfl
theorem w4_162 : Cond.codeWith yL_buildFromView cL_buildFromView 6 (some .int) [(0, 13, 16, 19), (0, 13, 20, 21)] ∈ Tt := inT4 (i := 162) rfl rfl
theorem mlL_91 : Cond.methodLink "BookgrafterLaw" 91 yX3_buildFromView ∈ Tt := inT4 (i := 163) rfl rfl
theorem w4_164 : Cond.instanceMethod yX3_buildFromView ∈ Tt := inT4 (i := 164) rfl rfl
theorem w4_165 : Cond.selects "Bookgrafter" yX3_buildFromView yX3_buildFromView ∈ Tt := inT4 (i := 165) rfl rfl
theorem w4_166 : Cond.code yX3_buildFromView cX3_buildFromView 5 (some .int) ∈ Tt := inT4 (i := 166) rfl rfl
theorem mlL_228 : Cond.methodLink "BookgrafterLaw" 228 yL_viewPut ∈ Tt := inT4 (i := 167) rfl rfl
theorem w4_168 : Cond.static yL_viewPut ∈ Tt := inT4 (i := 168) rfl rfl
theorem w4_169 : Cond.codeWith yL_viewPut cL_viewPut 6 (some .int) [(0, 13, 16, 19), (0, 13, 20, 21)] ∈ Tt := inT4 (i := 169) rfl rfl
theorem mlL_94 : Cond.methodLink "BookgrafterLaw" 94 yX3_viewPut ∈ Tt := inT4 (i := 170) rfl rfl
theorem w4_171 : Cond.instanceMethod yX3_viewPut ∈ Tt := inT4 (i := 171) rfl rfl
theorem w4_172 : Cond.selects "Bookgrafter" yX3_viewPut yX3_viewPut ∈ Tt := inT4 (i := 172) rfl rfl
theorem w4_173 : Cond.code yX3_viewPut cX3_viewPut 6 (some .int) ∈ Tt := inT4 (i := 173) rfl rfl
theorem mlL_231 : Cond.methodLink "BookgrafterLaw" 231 yL_viewTake ∈ Tt := inT4 (i := 174) rfl rfl
theorem w4_175 : Cond.static yL_viewTake ∈ Tt := inT4 (i := 175) rfl rfl
theorem w4_176 : Cond.codeWith yL_viewTake cL_viewTake 5 (some .int) [(0, 11, 14, 19), (0, 11, 18, 21)] ∈ Tt := inT4 (i := 176) rfl rfl
theorem mlL_97 : Cond.methodLink "BookgrafterLaw" 97 yX3_viewTake ∈ Tt := inT4 (i := 177) rfl rfl
theorem w4_178 : Cond.instanceMethod yX3_viewTake ∈ Tt := inT4 (i := 178) rfl rfl
theorem w4_179 : Cond.selects "Bookgrafter" yX3_viewTake yX3_viewTake ∈ Tt := inT4 (i := 179) rfl rfl
theorem w4_180 : Cond.code yX3_viewTake cX3_viewTake 5 (some .int) ∈ Tt := inT4 (i := 180) rfl rfl
theorem mlL_234 : Cond.methodLink "BookgrafterLaw" 234 yL_viewDrop ∈ Tt := inT4 (i := 181) rfl rfl
theorem w4_182 : Cond.static yL_viewDrop ∈ Tt := inT4 (i := 182) rfl rfl
theorem w4_183 : Cond.codeWith yL_viewDrop cL_viewDrop 5 (some .int) [(0, 11, 14, 19), (0, 11, 18, 21)] ∈ Tt := inT4 (i := 183) rfl rfl
theorem mlL_100 : Cond.methodLink "BookgrafterLaw" 100 yX3_viewDrop ∈ Tt := inT4 (i := 184) rfl rfl
theorem w4_185 : Cond.instanceMethod yX3_viewDrop ∈ Tt := inT4 (i := 185) rfl rfl
theorem w4_186 : Cond.selects "Bookgrafter" yX3_viewDrop yX3_viewDrop ∈ Tt := inT4 (i := 186) rfl rfl
theorem w4_187 : Cond.code yX3_viewDrop cX3_viewDrop 4 (some .int) ∈ Tt := inT4 (i := 187) rfl rfl
theorem mlL_237 : Cond.methodLink "BookgrafterLaw" 237 yL_viewNear ∈ Tt := inT4 (i := 188) rfl rfl
theorem w4_189 : Cond.static yL_viewNear ∈ Tt := inT4 (i := 189) rfl rfl
theorem w4_190 : Cond.codeWith yL_viewNear cL_viewNear 6 (some .int) [(0, 13, 16, 19), (0, 13, 20, 21)] ∈ Tt := inT4 (i := 190) rfl rfl
theorem mlL_103 : Cond.methodLink "BookgrafterLaw" 103 yX3_viewNear ∈ Tt := inT4 (i := 191) rfl rfl
theorem w4_192 : Cond.instanceMethod yX3_viewNear ∈ Tt := inT4 (i := 192) rfl rfl
theorem w4_193 : Cond.selects "Bookgrafter" yX3_viewNear yX3_viewNear ∈ Tt := inT4 (i := 193) rfl rfl
theorem w4_194 : Cond.code yX3_viewNear cX3_viewNear 5 (some .int) ∈ Tt := inT4 (i := 194) rfl rfl
theorem mlL_240 : Cond.methodLink "BookgrafterLaw" 240 yL_viewTell ∈ Tt := inT4 (i := 195) rfl rfl
theorem w4_196 : Cond.static yL_viewTell ∈ Tt := inT4 (i := 196) rfl rfl
theorem w4_197 : Cond.codeWith yL_viewTell cL_viewTell 5 (some .int) [(0, 11, 14, 19), (0, 11, 18, 21)] ∈ Tt := inT4 (i := 197) rfl rfl
theorem mlL_106 : Cond.methodLink "BookgrafterLaw" 106 yX3_viewTell ∈ Tt := inT4 (i := 198) rfl rfl
theorem w4_199 : Cond.instanceMethod yX3_viewTell ∈ Tt := inT4 (i := 199) rfl rfl
theorem w4_200 : Cond.selects "Bookgrafter" yX3_viewTell yX3_viewTell ∈ Tt := inT4 (i := 200) rfl rfl
theorem w4_201 : Cond.code yX3_viewTell cX3_viewTell 4 (some .int) ∈ Tt := inT4 (i := 201) rfl rfl
theorem mlL_243 : Cond.methodLink "BookgrafterLaw" 243 yL_startWalk ∈ Tt := inT4 (i := 202) rfl rfl
theorem w4_203 : Cond.static yL_startWalk ∈ Tt := inT4 (i := 203) rfl rfl
theorem w4_204 : Cond.codeWith yL_startWalk cL_startWalk 4 (some .int) [(0, 10, 13, 19)] ∈ Tt := inT4 (i := 204) rfl rfl
theorem mlL_109 : Cond.methodLink "BookgrafterLaw" 109 yX3_startWalk ∈ Tt := inT4 (i := 205) rfl rfl
theorem w4_206 : Cond.instanceMethod yX3_startWalk ∈ Tt := inT4 (i := 206) rfl rfl
theorem w4_207 : Cond.selects "Bookgrafter" yX3_startWalk yX3_startWalk ∈ Tt := inT4 (i := 207) rfl rfl
theorem w4_208 : Cond.code yX3_startWalk cX3_startWalk 3 (some .int) ∈ Tt := inT4 (i := 208) rfl rfl
theorem mlX3_197 : Cond.methodLink "Bookgrafter" 197 yX2_begin ∈ Tt := inT4 (i := 209) rfl rfl
theorem w4_210 : Cond.instanceMethod yX2_begin ∈ Tt := inT4 (i := 210) rfl rfl
theorem w4_211 : Cond.selects "Bookgrafter$Walk" yX2_begin yX2_begin ∈ Tt := inT4 (i := 211) rfl rfl
theorem w4_212 : Cond.code yX2_begin cX2_begin 2 none ∈ Tt := inT4 (i := 212) rfl rfl
theorem mlL_251 : Cond.methodLink "BookgrafterLaw" 251 yL_walkSet ∈ Tt := inT4 (i := 213) rfl rfl
theorem w4_214 : Cond.static yL_walkSet ∈ Tt := inT4 (i := 214) rfl rfl
theorem w4_215 : Cond.codeWith yL_walkSet cL_walkSet 4 (some .int) [(0, 10, 13, 21)] ∈ Tt := inT4 (i := 215) rfl rfl
theorem mlL_113 : Cond.methodLink "BookgrafterLaw" 113 yX3_walkSet ∈ Tt := inT4 (i := 216) rfl rfl
theorem w4_217 : Cond.instanceMethod yX3_walkSet ∈ Tt := inT4 (i := 217) rfl rfl
theorem w4_218 : Cond.selects "Bookgrafter" yX3_walkSet yX3_walkSet ∈ Tt := inT4 (i := 218) rfl rfl
theorem w4_219 : Cond.code yX3_walkSet cX3_walkSet 2 (some .int) ∈ Tt := inT4 (i := 219) rfl rfl
theorem mlX3_210 : Cond.methodLink "Bookgrafter" 210 yX2_setTold ∈ Tt := inT4 (i := 220) rfl rfl
theorem w4_221 : Cond.instanceMethod yX2_setTold ∈ Tt := inT4 (i := 221) rfl rfl
theorem w4_222 : Cond.selects "Bookgrafter$Walk" yX2_setTold yX2_setTold ∈ Tt := inT4 (i := 222) rfl rfl
theorem w4_223 : Cond.code yX2_setTold cX2_setTold 2 (some .int) ∈ Tt := inT4 (i := 223) rfl rfl
theorem mlX2_39 : Cond.methodLink "Bookgrafter$Walk" 39 yX0_come ∈ Tt := inT4 (i := 224) rfl rfl
theorem mlL_258 : Cond.methodLink "BookgrafterLaw" 258 yL_freshShelf ∈ Tt := inT4 (i := 225) rfl rfl
theorem w4_226 : Cond.static yL_freshShelf ∈ Tt := inT4 (i := 226) rfl rfl
theorem w4_227 : Cond.codeWith yL_freshShelf cL_freshShelf 5 (some .int) [(0, 11, 14, 19), (0, 11, 18, 21)] ∈ Tt := inT4 (i := 227) rfl rfl
theorem mlL_116 : Cond.methodLink "BookgrafterLaw" 116 yX3_freshShelf ∈ Tt := inT4 (i := 228) rfl rfl
theorem w4_229 : Cond.instanceMethod yX3_freshShelf ∈ Tt := inT4 (i := 229) rfl rfl
theorem w4_230 : Cond.selects "Bookgrafter" yX3_freshShelf yX3_freshShelf ∈ Tt := inT4 (i := 230) rfl rfl
theorem w4_231 : Cond.code yX3_freshShelf cX3_freshShelf 4 (some .int) ∈ Tt := inT4 (i := 231) rfl rfl
theorem mlX3_216 : Cond.methodLink "Bookgrafter" 216 yX3_shelfAt ∈ Tt := inT4 (i := 232) rfl rfl
theorem w4_234 : Cond.instanceMethod yX3_shelfAt ∈ Tt := inT4 (i := 234) rfl rfl
theorem w4_235 : Cond.code yX3_shelfAt cX3_shelfAt 2 (some (.object "Bookgrafter$Row")) ∈ Tt := inT4 (i := 235) rfl rfl
theorem mlL_261 : Cond.methodLink "BookgrafterLaw" 261 yL_buildShelf ∈ Tt := inT4 (i := 237) rfl rfl
theorem w4_238 : Cond.static yL_buildShelf ∈ Tt := inT4 (i := 238) rfl rfl
theorem w4_239 : Cond.codeWith yL_buildShelf cL_buildShelf 6 (some .int) [(0, 13, 16, 19), (0, 13, 20, 21)] ∈ Tt := inT4 (i := 239) rfl rfl
theorem mlL_119 : Cond.methodLink "BookgrafterLaw" 119 yX3_buildShelf ∈ Tt := inT5 (i := 0) rfl rfl
theorem w5_1 : Cond.instanceMethod yX3_buildShelf ∈ Tt := inT5 (i := 1) rfl rfl
theorem w5_2 : Cond.selects "Bookgrafter" yX3_buildShelf yX3_buildShelf ∈ Tt := inT5 (i := 2) rfl rfl
theorem w5_3 : Cond.code yX3_buildShelf cX3_buildShelf 5 (some .int) ∈ Tt := inT5 (i := 3) rfl rfl
theorem mlL_264 : Cond.methodLink "BookgrafterLaw" 264 yL_keysOf ∈ Tt := inT5 (i := 4) rfl rfl
theorem w5_5 : Cond.static yL_keysOf ∈ Tt := inT5 (i := 5) rfl rfl
theorem w5_6 : Cond.codeWith yL_keysOf cL_keysOf 5 (some .int) [(0, 11, 14, 19)] ∈ Tt := inT5 (i := 6) rfl rfl
theorem mlL_122 : Cond.methodLink "BookgrafterLaw" 122 yX3_keysOf ∈ Tt := inT5 (i := 7) rfl rfl
theorem w5_8 : Cond.instanceMethod yX3_keysOf ∈ Tt := inT5 (i := 8) rfl rfl
theorem w5_9 : Cond.selects "Bookgrafter" yX3_keysOf yX3_keysOf ∈ Tt := inT5 (i := 9) rfl rfl
theorem w5_10 : Cond.code yX3_keysOf cX3_keysOf 4 (some .int) ∈ Tt := inT5 (i := 10) rfl rfl
theorem mlX3_222 : Cond.methodLink "Bookgrafter" 222 yX0_copyOfKeys ∈ Tt := inT5 (i := 11) rfl rfl
theorem w5_12 : Cond.instanceMethod yX0_copyOfKeys ∈ Tt := inT5 (i := 12) rfl rfl
theorem w5_13 : Cond.selects "Bookgrafter$Row" yX0_copyOfKeys yX0_copyOfKeys ∈ Tt := inT5 (i := 13) rfl rfl
theorem w5_14 : Cond.code yX0_copyOfKeys cX0_copyOfKeys 3 (some (.object "Bookgrafter$Row")) ∈ Tt := inT5 (i := 14) rfl rfl
theorem mlL_267 : Cond.methodLink "BookgrafterLaw" 267 yL_lay ∈ Tt := inT5 (i := 15) rfl rfl
theorem w5_16 : Cond.static yL_lay ∈ Tt := inT5 (i := 16) rfl rfl
theorem w5_17 : Cond.codeWith yL_lay cL_lay 8 (some .int) [(0, 17, 20, 19), (0, 17, 24, 21)] ∈ Tt := inT5 (i := 17) rfl rfl
theorem mlL_125 : Cond.methodLink "BookgrafterLaw" 125 yX3_lay ∈ Tt := inT5 (i := 18) rfl rfl
theorem w5_19 : Cond.instanceMethod yX3_lay ∈ Tt := inT5 (i := 19) rfl rfl
theorem w5_20 : Cond.selects "Bookgrafter" yX3_lay yX3_lay ∈ Tt := inT5 (i := 20) rfl rfl
theorem w5_21 : Cond.code yX3_lay cX3_lay 7 (some .int) ∈ Tt := inT5 (i := 21) rfl rfl
theorem mlX3_226 : Cond.methodLink "Bookgrafter" 226 yX0_addKeySteps ∈ Tt := inT5 (i := 22) rfl rfl
theorem w5_23 : Cond.instanceMethod yX0_addKeySteps ∈ Tt := inT5 (i := 23) rfl rfl
theorem w5_24 : Cond.selects "Bookgrafter$Row" yX0_addKeySteps yX0_addKeySteps ∈ Tt := inT5 (i := 24) rfl rfl
theorem w5_25 : Cond.code yX0_addKeySteps cX0_addKeySteps 6 (some .int) ∈ Tt := inT5 (i := 25) rfl rfl
theorem mlL_271 : Cond.methodLink "BookgrafterLaw" 271 yL_shelfBoth ∈ Tt := inT5 (i := 26) rfl rfl
theorem w5_27 : Cond.static yL_shelfBoth ∈ Tt := inT5 (i := 27) rfl rfl
theorem w5_28 : Cond.codeWith yL_shelfBoth cL_shelfBoth 6 (some .int) [(0, 13, 16, 19), (0, 13, 20, 21)] ∈ Tt := inT5 (i := 28) rfl rfl
theorem mlL_129 : Cond.methodLink "BookgrafterLaw" 129 yX3_shelfBoth ∈ Tt := inT5 (i := 29) rfl rfl
theorem w5_30 : Cond.instanceMethod yX3_shelfBoth ∈ Tt := inT5 (i := 30) rfl rfl
theorem w5_31 : Cond.selects "Bookgrafter" yX3_shelfBoth yX3_shelfBoth ∈ Tt := inT5 (i := 31) rfl rfl
theorem w5_32 : Cond.code yX3_shelfBoth cX3_shelfBoth 6 (some .int) ∈ Tt := inT5 (i := 32) rfl rfl
theorem mlL_274 : Cond.methodLink "BookgrafterLaw" 274 yL_shelfDrop ∈ Tt := inT5 (i := 33) rfl rfl
theorem w5_34 : Cond.static yL_shelfDrop ∈ Tt := inT5 (i := 34) rfl rfl
theorem w5_35 : Cond.codeWith yL_shelfDrop cL_shelfDrop 5 (some .int) [(0, 11, 14, 19), (0, 11, 18, 21)] ∈ Tt := inT5 (i := 35) rfl rfl
theorem mlL_132 : Cond.methodLink "BookgrafterLaw" 132 yX3_shelfDrop ∈ Tt := inT5 (i := 36) rfl rfl
theorem w5_37 : Cond.instanceMethod yX3_shelfDrop ∈ Tt := inT5 (i := 37) rfl rfl
theorem w5_38 : Cond.selects "Bookgrafter" yX3_shelfDrop yX3_shelfDrop ∈ Tt := inT5 (i := 38) rfl rfl
theorem w5_39 : Cond.code yX3_shelfDrop cX3_shelfDrop 4 (some .int) ∈ Tt := inT5 (i := 39) rfl rfl
theorem mlX3_229 : Cond.methodLink "Bookgrafter" 229 yX0_dropKeyOfPart ∈ Tt := inT5 (i := 40) rfl rfl
theorem w5_41 : Cond.instanceMethod yX0_dropKeyOfPart ∈ Tt := inT5 (i := 41) rfl rfl
theorem w5_42 : Cond.selects "Bookgrafter$Row" yX0_dropKeyOfPart yX0_dropKeyOfPart ∈ Tt := inT5 (i := 42) rfl rfl
theorem w5_43 : Cond.code yX0_dropKeyOfPart cX0_dropKeyOfPart 5 (some .int) ∈ Tt := inT5 (i := 43) rfl rfl
theorem mlL_277 : Cond.methodLink "BookgrafterLaw" 277 yL_shelfCut ∈ Tt := inT5 (i := 44) rfl rfl
theorem w5_45 : Cond.static yL_shelfCut ∈ Tt := inT5 (i := 45) rfl rfl
theorem w5_46 : Cond.codeWith yL_shelfCut cL_shelfCut 8 (some .int) [(0, 17, 20, 19), (0, 17, 24, 21)] ∈ Tt := inT5 (i := 46) rfl rfl
theorem mlL_135 : Cond.methodLink "BookgrafterLaw" 135 yX3_shelfCut ∈ Tt := inT5 (i := 47) rfl rfl
theorem w5_48 : Cond.instanceMethod yX3_shelfCut ∈ Tt := inT5 (i := 48) rfl rfl
theorem w5_49 : Cond.selects "Bookgrafter" yX3_shelfCut yX3_shelfCut ∈ Tt := inT5 (i := 49) rfl rfl
theorem w5_50 : Cond.code yX3_shelfCut cX3_shelfCut 9 (some .int) ∈ Tt := inT5 (i := 50) rfl rfl
theorem mlL_280 : Cond.methodLink "BookgrafterLaw" 280 yL_shelfNear ∈ Tt := inT5 (i := 51) rfl rfl
theorem w5_52 : Cond.static yL_shelfNear ∈ Tt := inT5 (i := 52) rfl rfl
theorem w5_53 : Cond.codeWith yL_shelfNear cL_shelfNear 6 (some .int) [(0, 13, 16, 19), (0, 13, 20, 21)] ∈ Tt := inT5 (i := 53) rfl rfl
theorem mlL_138 : Cond.methodLink "BookgrafterLaw" 138 yX3_shelfNear ∈ Tt := inT5 (i := 54) rfl rfl
theorem w5_55 : Cond.instanceMethod yX3_shelfNear ∈ Tt := inT5 (i := 55) rfl rfl
theorem w5_56 : Cond.selects "Bookgrafter" yX3_shelfNear yX3_shelfNear ∈ Tt := inT5 (i := 56) rfl rfl
theorem w5_57 : Cond.code yX3_shelfNear cX3_shelfNear 5 (some .int) ∈ Tt := inT5 (i := 57) rfl rfl
theorem mlL_283 : Cond.methodLink "BookgrafterLaw" 283 yL_shelfTell ∈ Tt := inT5 (i := 58) rfl rfl
theorem w5_59 : Cond.static yL_shelfTell ∈ Tt := inT5 (i := 59) rfl rfl
theorem w5_60 : Cond.codeWith yL_shelfTell cL_shelfTell 5 (some .int) [(0, 11, 14, 19), (0, 11, 18, 21)] ∈ Tt := inT5 (i := 60) rfl rfl
theorem mlL_141 : Cond.methodLink "BookgrafterLaw" 141 yX3_shelfTell ∈ Tt := inT5 (i := 61) rfl rfl
theorem w5_62 : Cond.instanceMethod yX3_shelfTell ∈ Tt := inT5 (i := 62) rfl rfl
theorem w5_63 : Cond.selects "Bookgrafter" yX3_shelfTell yX3_shelfTell ∈ Tt := inT5 (i := 63) rfl rfl
theorem w5_64 : Cond.code yX3_shelfTell cX3_shelfTell 4 (some .int) ∈ Tt := inT5 (i := 64) rfl rfl
theorem mlL_286 : Cond.methodLink "BookgrafterLaw" 286 yL_sameShelves ∈ Tt := inT5 (i := 65) rfl rfl
theorem w5_66 : Cond.static yL_sameShelves ∈ Tt := inT5 (i := 66) rfl rfl
theorem w5_67 : Cond.codeWith yL_sameShelves cL_sameShelves 6 (some .int) [(0, 20, 23, 19), (0, 20, 27, 21)] ∈ Tt := inT5 (i := 67) rfl rfl
theorem mlL_144 : Cond.methodLink "BookgrafterLaw" 144 yX3_sameShelves ∈ Tt := inT5 (i := 68) rfl rfl
theorem w5_69 : Cond.instanceMethod yX3_sameShelves ∈ Tt := inT5 (i := 69) rfl rfl
theorem w5_70 : Cond.selects "Bookgrafter" yX3_sameShelves yX3_sameShelves ∈ Tt := inT5 (i := 70) rfl rfl
theorem w5_71 : Cond.code yX3_sameShelves cX3_sameShelves 6 (some .boolean) ∈ Tt := inT5 (i := 71) rfl rfl
theorem mlX3_235 : Cond.methodLink "Bookgrafter" 235 yX0_hasKeysOf ∈ Tt := inT5 (i := 72) rfl rfl
theorem w5_73 : Cond.instanceMethod yX0_hasKeysOf ∈ Tt := inT5 (i := 73) rfl rfl
theorem w5_74 : Cond.selects "Bookgrafter$Row" yX0_hasKeysOf yX0_hasKeysOf ∈ Tt := inT5 (i := 74) rfl rfl
theorem w5_75 : Cond.code yX0_hasKeysOf cX0_hasKeysOf 3 (some .boolean) ∈ Tt := inT5 (i := 75) rfl rfl
theorem mlL_292 : Cond.methodLink "BookgrafterLaw" 292 yL_house ∈ Tt := inT5 (i := 76) rfl rfl
theorem w5_77 : Cond.static yL_house ∈ Tt := inT5 (i := 77) rfl rfl
theorem w5_78 : Cond.codeWith yL_house cL_house 4 (some .int) [(0, 10, 13, 21)] ∈ Tt := inT5 (i := 78) rfl rfl
theorem mlL_148 : Cond.methodLink "BookgrafterLaw" 148 yX3_house ∈ Tt := inT5 (i := 79) rfl rfl
theorem w5_80 : Cond.instanceMethod yX3_house ∈ Tt := inT5 (i := 80) rfl rfl
theorem w5_81 : Cond.selects "Bookgrafter" yX3_house yX3_house ∈ Tt := inT5 (i := 81) rfl rfl
theorem w5_82 : Cond.code yX3_house cX3_house 2 (some .int) ∈ Tt := inT5 (i := 82) rfl rfl
theorem klL_152 : Cond.classLink "BookgrafterLaw" 152 "BookgrafterModel" ∈ Tt := inT5 (i := 83) rfl rfl
theorem insX6 : Cond.instantiable "BookgrafterModel" 11 ∈ Tt := inT5 (i := 84) rfl rfl
theorem mlL_154 : Cond.methodLink "BookgrafterLaw" 154 yX6_init ∈ Tt := inT5 (i := 85) rfl rfl
theorem w5_86 : Cond.instanceMethod yX6_init ∈ Tt := inT5 (i := 86) rfl rfl
theorem w5_87 : Cond.code yX6_init cX6_init 2 none ∈ Tt := inT5 (i := 87) rfl rfl
theorem mlX6_3 : Cond.methodLink "BookgrafterModel" 3 objectInit ∈ Tt := inT5 (i := 88) rfl rfl
theorem klX6_9 : Cond.classLink "BookgrafterModel" 9 "BookgrafterModel$Book" ∈ Tt := inT5 (i := 89) rfl rfl
theorem insX5 : Cond.instantiable "BookgrafterModel$Book" 2 ∈ Tt := inT5 (i := 91) rfl rfl
theorem mlX6_35 : Cond.methodLink "BookgrafterModel" 35 yX5_init ∈ Tt := inT5 (i := 92) rfl rfl
theorem w5_93 : Cond.instanceMethod yX5_init ∈ Tt := inT5 (i := 93) rfl rfl
theorem w5_94 : Cond.code yX5_init cX5_init 3 none ∈ Tt := inT5 (i := 94) rfl rfl
theorem mlX5_3 : Cond.methodLink "BookgrafterModel$Book" 3 objectInit ∈ Tt := inT5 (i := 95) rfl rfl
theorem flX5_15 : Cond.fieldLink "BookgrafterModel$Book" 15 "BookgrafterModel$Book" "order" "I" ∈ Tt := inT5 (i := 96) rfl rfl
theorem flX5_9 : Cond.fieldLink "BookgrafterModel$Book" 9 "BookgrafterModel$Book" "worths" "[I" ∈ Tt := inT5 (i := 98) rfl rfl
theorem w5_100 : Cond.laysFinal "BookgrafterModel$Book" "BookgrafterModel$Book" "order" "I" ∈ Tt := inT5 (i := 100) rfl rfl
theorem w5_102 : Cond.laysFinal "BookgrafterModel$Book" "BookgrafterModel$Book" "worths" "[I" ∈ Tt := inT5 (i := 102) rfl rfl
theorem w5_104 : Cond.superclass "BookgrafterModel$Book" "java/lang/Object" ∈ Tt := inT5 (i := 104) rfl rfl
theorem flX6_11 : Cond.fieldLink "BookgrafterModel" 11 "BookgrafterModel" "books" "[LBookgrafterModel$Book;" ∈ Tt := inT5 (i := 105) rfl rfl
theorem flX6_15 : Cond.fieldLink "BookgrafterModel" 15 "BookgrafterModel" "shelves" "[LBookgrafterModel$Book;" ∈ Tt := inT5 (i := 106) rfl rfl
theorem flX6_18 : Cond.fieldLink "BookgrafterModel" 18 "BookgrafterModel" "viewed" "[LBookgrafterModel$Book;" ∈ Tt := inT5 (i := 107) rfl rfl
theorem flX6_21 : Cond.fieldLink "BookgrafterModel" 21 "BookgrafterModel" "from" "[I" ∈ Tt := inT5 (i := 108) rfl rfl
theorem flX6_25 : Cond.fieldLink "BookgrafterModel" 25 "BookgrafterModel" "to" "[I" ∈ Tt := inT5 (i := 109) rfl rfl
theorem flX6_45 : Cond.fieldLink "BookgrafterModel" 45 "BookgrafterModel" "walked" "LBookgrafterModel$Book;" ∈ Tt := inT5 (i := 110) rfl rfl
theorem flX6_56 : Cond.fieldLink "BookgrafterModel" 56 "BookgrafterModel" "isBroken" "Z" ∈ Tt := inT5 (i := 111) rfl rfl
theorem flX6_28 : Cond.fieldLink "BookgrafterModel" 28 "BookgrafterModel" "told" "I" ∈ Tt := inT5 (i := 112) rfl rfl
theorem flX6_186 : Cond.fieldLink "BookgrafterModel" 186 "BookgrafterModel" "behind" "I" ∈ Tt := inT5 (i := 113) rfl rfl
theorem flX6_32 : Cond.fieldLink "BookgrafterModel" 32 "BookgrafterModel" "counts" "[I" ∈ Tt := inT5 (i := 114) rfl rfl
theorem flX6_38 : Cond.fieldLink "BookgrafterModel" 38 "BookgrafterModel" "thrown" "I" ∈ Tt := inT5 (i := 115) rfl rfl
theorem w5_116 : Cond.laysFinal "BookgrafterModel" "BookgrafterModel" "books" "[LBookgrafterModel$Book;" ∈ Tt := inT5 (i := 116) rfl rfl
theorem w5_118 : Cond.laysFinal "BookgrafterModel" "BookgrafterModel" "shelves" "[LBookgrafterModel$Book;" ∈ Tt := inT5 (i := 118) rfl rfl
theorem w5_120 : Cond.laysFinal "BookgrafterModel" "BookgrafterModel" "viewed" "[LBookgrafterModel$Book;" ∈ Tt := inT5 (i := 120) rfl rfl
theorem w5_122 : Cond.laysFinal "BookgrafterModel" "BookgrafterModel" "from" "[I" ∈ Tt := inT5 (i := 122) rfl rfl
theorem w5_124 : Cond.laysFinal "BookgrafterModel" "BookgrafterModel" "to" "[I" ∈ Tt := inT5 (i := 124) rfl rfl
theorem w5_126 : Cond.lays "BookgrafterModel" "BookgrafterModel" "walked" "LBookgrafterModel$Book;" ∈ Tt := inT5 (i := 126) rfl rfl
theorem w5_128 : Cond.lays "BookgrafterModel" "BookgrafterModel" "isBroken" "Z" ∈ Tt := inT5 (i := 128) rfl rfl
theorem w5_130 : Cond.lays "BookgrafterModel" "BookgrafterModel" "told" "I" ∈ Tt := inT5 (i := 130) rfl rfl
theorem w5_132 : Cond.lays "BookgrafterModel" "BookgrafterModel" "behind" "I" ∈ Tt := inT5 (i := 132) rfl rfl
theorem w5_134 : Cond.laysFinal "BookgrafterModel" "BookgrafterModel" "counts" "[I" ∈ Tt := inT5 (i := 134) rfl rfl
theorem w5_136 : Cond.lays "BookgrafterModel" "BookgrafterModel" "thrown" "I" ∈ Tt := inT5 (i := 136) rfl rfl
theorem w5_138 : Cond.superclass "BookgrafterModel" "java/lang/Object" ∈ Tt := inT5 (i := 138) rfl rfl
theorem mlL_289 : Cond.methodLink "BookgrafterLaw" 289 yX6_thrown ∈ Tt := inT5 (i := 139) rfl rfl
theorem w5_140 : Cond.instanceMethod yX6_thrown ∈ Tt := inT5 (i := 140) rfl rfl
theorem w5_141 : Cond.selects "BookgrafterModel" yX6_thrown yX6_thrown ∈ Tt := inT5 (i := 141) rfl rfl
theorem w5_142 : Cond.code yX6_thrown cX6_thrown 1 (some .int) ∈ Tt := inT5 (i := 142) rfl rfl
theorem mlL_161 : Cond.methodLink "BookgrafterLaw" 161 yX6_freshBook ∈ Tt := inT5 (i := 143) rfl rfl
theorem w5_144 : Cond.instanceMethod yX6_freshBook ∈ Tt := inT5 (i := 144) rfl rfl
theorem w5_145 : Cond.selects "BookgrafterModel" yX6_freshBook yX6_freshBook ∈ Tt := inT5 (i := 145) rfl rfl
theorem w5_146 : Cond.code yX6_freshBook cX6_freshBook 4 (some .int) ∈ Tt := inT5 (i := 146) rfl rfl
theorem mlX6_60 : Cond.methodLink "BookgrafterModel" 60 yX6_isBook ∈ Tt := inT5 (i := 147) rfl rfl
theorem w5_148 : Cond.static yX6_isBook ∈ Tt := inT5 (i := 148) rfl rfl
theorem w5_149 : Cond.code yX6_isBook cX6_isBook 1 (some .boolean) ∈ Tt := inT5 (i := 149) rfl rfl
theorem mlX6_41 : Cond.methodLink "BookgrafterModel" 41 yX6_isIn ∈ Tt := inT5 (i := 150) rfl rfl
theorem w5_151 : Cond.static yX6_isIn ∈ Tt := inT5 (i := 151) rfl rfl
theorem w5_152 : Cond.code yX6_isIn cX6_isIn 3 (some .boolean) ∈ Tt := inT5 (i := 152) rfl rfl
theorem mlX6_63 : Cond.methodLink "BookgrafterModel" 63 yX6_isLet ∈ Tt := inT5 (i := 153) rfl rfl
theorem w5_155 : Cond.instanceMethod yX6_isLet ∈ Tt := inT5 (i := 155) rfl rfl
theorem w5_156 : Cond.code yX6_isLet cX6_isLet 3 (some .boolean) ∈ Tt := inT5 (i := 156) rfl rfl
theorem mlX6_67 : Cond.methodLink "BookgrafterModel" 67 yX5_many ∈ Tt := inT5 (i := 157) rfl rfl
theorem w5_158 : Cond.instanceMethod yX5_many ∈ Tt := inT5 (i := 158) rfl rfl
theorem w5_159 : Cond.selects "BookgrafterModel$Book" yX5_many yX5_many ∈ Tt := inT5 (i := 159) rfl rfl
theorem w5_160 : Cond.code yX5_many cX5_many 5 (some .int) ∈ Tt := inT5 (i := 160) rfl rfl
theorem mlX5_19 : Cond.methodLink "BookgrafterModel$Book" 19 yX5_key ∈ Tt := inT5 (i := 161) rfl rfl
theorem w5_162 : Cond.instanceMethod yX5_key ∈ Tt := inT5 (i := 162) rfl rfl
theorem w5_163 : Cond.selects "BookgrafterModel$Book" yX5_key yX5_key ∈ Tt := inT5 (i := 163) rfl rfl
theorem w5_164 : Cond.code yX5_key cX5_key 2 (some .int) ∈ Tt := inT5 (i := 164) rfl rfl
theorem mlX5_23 : Cond.methodLink "BookgrafterModel$Book" 23 yX5_has ∈ Tt := inT5 (i := 165) rfl rfl
theorem w5_166 : Cond.instanceMethod yX5_has ∈ Tt := inT5 (i := 166) rfl rfl
theorem w5_167 : Cond.selects "BookgrafterModel$Book" yX5_has yX5_has ∈ Tt := inT5 (i := 167) rfl rfl
theorem w5_168 : Cond.code yX5_has cX5_has 2 (some .boolean) ∈ Tt := inT5 (i := 168) rfl rfl
theorem mlX6_71 : Cond.methodLink "BookgrafterModel" 71 yX6_did ∈ Tt := inT5 (i := 169) rfl rfl
theorem w5_171 : Cond.instanceMethod yX6_did ∈ Tt := inT5 (i := 171) rfl rfl
theorem w5_172 : Cond.code yX6_did cX6_did 2 (some .int) ∈ Tt := inT5 (i := 172) rfl rfl
theorem mlL_165 : Cond.methodLink "BookgrafterLaw" 165 yX6_buildBook ∈ Tt := inT5 (i := 173) rfl rfl
theorem w5_174 : Cond.instanceMethod yX6_buildBook ∈ Tt := inT5 (i := 174) rfl rfl
theorem w5_175 : Cond.selects "BookgrafterModel" yX6_buildBook yX6_buildBook ∈ Tt := inT5 (i := 175) rfl rfl
theorem w5_176 : Cond.code yX6_buildBook cX6_buildBook 4 (some .int) ∈ Tt := inT5 (i := 176) rfl rfl
theorem mlX6_82 : Cond.methodLink "BookgrafterModel" 82 yX6_built ∈ Tt := inT5 (i := 177) rfl rfl
theorem w5_178 : Cond.static yX6_built ∈ Tt := inT5 (i := 178) rfl rfl
theorem w5_179 : Cond.code yX6_built cX6_built 2 (some (.object "BookgrafterModel$Book")) ∈ Tt := inT5 (i := 179) rfl rfl
theorem mlX6_78 : Cond.methodLink "BookgrafterModel" 78 yX5_like ∈ Tt := inT5 (i := 180) rfl rfl
theorem w5_181 : Cond.instanceMethod yX5_like ∈ Tt := inT5 (i := 181) rfl rfl
theorem w5_182 : Cond.selects "BookgrafterModel$Book" yX5_like yX5_like ∈ Tt := inT5 (i := 182) rfl rfl
theorem w5_183 : Cond.code yX5_like cX5_like 6 (some (.object "BookgrafterModel$Book")) ∈ Tt := inT5 (i := 183) rfl rfl
theorem klX5_10 : Cond.classLink "BookgrafterModel$Book" 10 "BookgrafterModel$Book" ∈ Tt := inT5 (i := 184) rfl rfl
theorem mlX5_45 : Cond.methodLink "BookgrafterModel$Book" 45 yX5_init ∈ Tt := inT5 (i := 185) rfl rfl
theorem mlL_168 : Cond.methodLink "BookgrafterLaw" 168 yX6_splitBook ∈ Tt := inT5 (i := 186) rfl rfl
theorem w5_187 : Cond.instanceMethod yX6_splitBook ∈ Tt := inT5 (i := 187) rfl rfl
theorem w5_188 : Cond.selects "BookgrafterModel" yX6_splitBook yX6_splitBook ∈ Tt := inT5 (i := 188) rfl rfl
theorem w5_189 : Cond.code yX6_splitBook cX6_splitBook 8 (some .int) ∈ Tt := inT5 (i := 189) rfl rfl
theorem mlX6_86 : Cond.methodLink "BookgrafterModel" 86 yX6_isKey ∈ Tt := inT5 (i := 190) rfl rfl
theorem w5_191 : Cond.static yX6_isKey ∈ Tt := inT5 (i := 191) rfl rfl
theorem w5_192 : Cond.code yX6_isKey cX6_isKey 1 (some .boolean) ∈ Tt := inT5 (i := 192) rfl rfl
theorem mlX6_89 : Cond.methodLink "BookgrafterModel" 89 yX6_refuse ∈ Tt := inT5 (i := 193) rfl rfl
theorem w5_195 : Cond.instanceMethod yX6_refuse ∈ Tt := inT5 (i := 195) rfl rfl
theorem w5_196 : Cond.code yX6_refuse cX6_refuse 1 (some .int) ∈ Tt := inT5 (i := 196) rfl rfl
theorem mlX6_93 : Cond.methodLink "BookgrafterModel" 93 yX5_rank ∈ Tt := inT5 (i := 197) rfl rfl
theorem w5_198 : Cond.instanceMethod yX5_rank ∈ Tt := inT5 (i := 198) rfl rfl
theorem w5_199 : Cond.selects "BookgrafterModel$Book" yX5_rank yX5_rank ∈ Tt := inT5 (i := 199) rfl rfl
theorem w5_200 : Cond.code yX5_rank cX5_rank 2 (some .int) ∈ Tt := inT5 (i := 200) rfl rfl
theorem mlX6_96 : Cond.methodLink "BookgrafterModel" 96 yX6_write ∈ Tt := inT5 (i := 201) rfl rfl
theorem w5_203 : Cond.instanceMethod yX6_write ∈ Tt := inT5 (i := 203) rfl rfl
theorem w5_204 : Cond.code yX6_write cX6_write 2 none ∈ Tt := inT5 (i := 204) rfl rfl
theorem mlX6_100 : Cond.methodLink "BookgrafterModel" 100 yX5_key ∈ Tt := inT5 (i := 205) rfl rfl
theorem mlX6_103 : Cond.methodLink "BookgrafterModel" 103 yX6_set ∈ Tt := inT5 (i := 206) rfl rfl
theorem w5_208 : Cond.instanceMethod yX6_set ∈ Tt := inT5 (i := 208) rfl rfl
theorem w5_209 : Cond.code yX6_set cX6_set 5 (some .int) ∈ Tt := inT5 (i := 209) rfl rfl
theorem mlX6_49 : Cond.methodLink "BookgrafterModel" 49 yX5_has ∈ Tt := inT5 (i := 210) rfl rfl
theorem mlL_172 : Cond.methodLink "BookgrafterLaw" 172 yX6_fill ∈ Tt := inT5 (i := 211) rfl rfl
theorem w5_212 : Cond.instanceMethod yX6_fill ∈ Tt := inT5 (i := 212) rfl rfl
theorem w5_213 : Cond.selects "BookgrafterModel" yX6_fill yX6_fill ∈ Tt := inT5 (i := 213) rfl rfl
theorem w5_214 : Cond.code yX6_fill cX6_fill 8 (some .int) ∈ Tt := inT5 (i := 214) rfl rfl
theorem mlL_175 : Cond.methodLink "BookgrafterLaw" 175 yX6_pour ∈ Tt := inT5 (i := 215) rfl rfl
theorem w5_216 : Cond.instanceMethod yX6_pour ∈ Tt := inT5 (i := 216) rfl rfl
theorem w5_217 : Cond.selects "BookgrafterModel" yX6_pour yX6_pour ∈ Tt := inT5 (i := 217) rfl rfl
theorem w5_218 : Cond.code yX6_pour cX6_pour 5 (some .int) ∈ Tt := inT5 (i := 218) rfl rfl
theorem mlL_179 : Cond.methodLink "BookgrafterLaw" 179 yX6_keep ∈ Tt := inT5 (i := 219) rfl rfl
theorem w5_220 : Cond.instanceMethod yX6_keep ∈ Tt := inT5 (i := 220) rfl rfl
theorem w5_221 : Cond.selects "BookgrafterModel" yX6_keep yX6_keep ∈ Tt := inT5 (i := 221) rfl rfl
theorem w5_222 : Cond.code yX6_keep cX6_keep 6 (some .int) ∈ Tt := inT5 (i := 222) rfl rfl
theorem mlL_183 : Cond.methodLink "BookgrafterLaw" 183 yX6_put ∈ Tt := inT5 (i := 223) rfl rfl
theorem w5_224 : Cond.instanceMethod yX6_put ∈ Tt := inT5 (i := 224) rfl rfl
theorem w5_225 : Cond.selects "BookgrafterModel" yX6_put yX6_put ∈ Tt := inT5 (i := 225) rfl rfl
theorem w5_226 : Cond.code yX6_put cX6_put 5 (some .int) ∈ Tt := inT5 (i := 226) rfl rfl
theorem mlX6_107 : Cond.methodLink "BookgrafterModel" 107 yX6_change ∈ Tt := inT5 (i := 227) rfl rfl
theorem w5_229 : Cond.instanceMethod yX6_change ∈ Tt := inT5 (i := 229) rfl rfl
theorem w5_230 : Cond.code yX6_change cX6_change 6 (some .int) ∈ Tt := inT5 (i := 230) rfl rfl
theorem mlL_186 : Cond.methodLink "BookgrafterLaw" 186 yX6_exchange ∈ Tt := inT5 (i := 231) rfl rfl
theorem w5_232 : Cond.instanceMethod yX6_exchange ∈ Tt := inT5 (i := 232) rfl rfl
theorem w5_233 : Cond.selects "BookgrafterModel" yX6_exchange yX6_exchange ∈ Tt := inT5 (i := 233) rfl rfl
theorem w5_234 : Cond.code yX6_exchange cX6_exchange 5 (some .int) ∈ Tt := inT5 (i := 234) rfl rfl
theorem mlL_189 : Cond.methodLink "BookgrafterLaw" 189 yX6_take ∈ Tt := inT5 (i := 235) rfl rfl
theorem w5_236 : Cond.instanceMethod yX6_take ∈ Tt := inT5 (i := 236) rfl rfl
theorem w5_237 : Cond.selects "BookgrafterModel" yX6_take yX6_take ∈ Tt := inT5 (i := 237) rfl rfl
theorem w5_238 : Cond.code yX6_take cX6_take 3 (some .int) ∈ Tt := inT5 (i := 238) rfl rfl
theorem mlL_192 : Cond.methodLink "BookgrafterLaw" 192 yX6_drop ∈ Tt := inT5 (i := 239) rfl rfl
theorem w6_0 : Cond.instanceMethod yX6_drop ∈ Tt := inT6 (i := 0) rfl rfl
theorem w6_1 : Cond.selects "BookgrafterModel" yX6_drop yX6_drop ∈ Tt := inT6 (i := 1) rfl rfl
theorem w6_2 : Cond.code yX6_drop cX6_drop 3 (some .int) ∈ Tt := inT6 (i := 2) rfl rfl
theorem mlX6_120 : Cond.methodLink "BookgrafterModel" 120 yX6_dropped ∈ Tt := inT6 (i := 3) rfl rfl
theorem w6_5 : Cond.instanceMethod yX6_dropped ∈ Tt := inT6 (i := 5) rfl rfl
theorem w6_6 : Cond.code yX6_dropped cX6_dropped 7 (some .int) ∈ Tt := inT6 (i := 6) rfl rfl
theorem mlX6_111 : Cond.methodLink "BookgrafterModel" 111 yX5_first ∈ Tt := inT6 (i := 7) rfl rfl
theorem w6_8 : Cond.instanceMethod yX5_first ∈ Tt := inT6 (i := 8) rfl rfl
theorem w6_9 : Cond.selects "BookgrafterModel$Book" yX5_first yX5_first ∈ Tt := inT6 (i := 9) rfl rfl
theorem w6_10 : Cond.code yX5_first cX5_first 4 (some .int) ∈ Tt := inT6 (i := 10) rfl rfl
theorem mlX6_114 : Cond.methodLink "BookgrafterModel" 114 yX5_last ∈ Tt := inT6 (i := 11) rfl rfl
theorem w6_12 : Cond.instanceMethod yX5_last ∈ Tt := inT6 (i := 12) rfl rfl
theorem w6_13 : Cond.selects "BookgrafterModel$Book" yX5_last yX5_last ∈ Tt := inT6 (i := 13) rfl rfl
theorem w6_14 : Cond.code yX5_last cX5_last 4 (some .int) ∈ Tt := inT6 (i := 14) rfl rfl
theorem mlX6_117 : Cond.methodLink "BookgrafterModel" 117 yX5_pair ∈ Tt := inT6 (i := 15) rfl rfl
theorem w6_16 : Cond.instanceMethod yX5_pair ∈ Tt := inT6 (i := 16) rfl rfl
theorem w6_17 : Cond.selects "BookgrafterModel$Book" yX5_pair yX5_pair ∈ Tt := inT6 (i := 17) rfl rfl
theorem w6_18 : Cond.code yX5_pair cX5_pair 2 (some .int) ∈ Tt := inT6 (i := 18) rfl rfl
theorem mlL_196 : Cond.methodLink "BookgrafterLaw" 196 yX6_has ∈ Tt := inT6 (i := 19) rfl rfl
theorem w6_20 : Cond.instanceMethod yX6_has ∈ Tt := inT6 (i := 20) rfl rfl
theorem w6_21 : Cond.selects "BookgrafterModel" yX6_has yX6_has ∈ Tt := inT6 (i := 21) rfl rfl
theorem w6_22 : Cond.code yX6_has cX6_has 6 (some .boolean) ∈ Tt := inT6 (i := 22) rfl rfl
theorem mlL_200 : Cond.methodLink "BookgrafterLaw" 200 yX6_near ∈ Tt := inT6 (i := 23) rfl rfl
theorem w6_24 : Cond.instanceMethod yX6_near ∈ Tt := inT6 (i := 24) rfl rfl
theorem w6_25 : Cond.selects "BookgrafterModel" yX6_near yX6_near ∈ Tt := inT6 (i := 25) rfl rfl
theorem w6_26 : Cond.code yX6_near cX6_near 5 (some .int) ∈ Tt := inT6 (i := 26) rfl rfl
theorem mlX6_124 : Cond.methodLink "BookgrafterModel" 124 yX5_near ∈ Tt := inT6 (i := 27) rfl rfl
theorem w6_28 : Cond.instanceMethod yX5_near ∈ Tt := inT6 (i := 28) rfl rfl
theorem w6_29 : Cond.selects "BookgrafterModel$Book" yX5_near yX5_near ∈ Tt := inT6 (i := 29) rfl rfl
theorem w6_30 : Cond.code yX5_near cX5_near 6 (some .int) ∈ Tt := inT6 (i := 30) rfl rfl
theorem mlX5_27 : Cond.methodLink "BookgrafterModel$Book" 27 yX5_rank ∈ Tt := inT6 (i := 31) rfl rfl
theorem mlX5_30 : Cond.methodLink "BookgrafterModel$Book" 30 yJ9_min_7cf53 ∈ Tt := inT6 (i := 32) rfl rfl
theorem mlX5_36 : Cond.methodLink "BookgrafterModel$Book" 36 yX5_last ∈ Tt := inT6 (i := 33) rfl rfl
theorem mlX5_39 : Cond.methodLink "BookgrafterModel$Book" 39 yJ9_max_7cf53 ∈ Tt := inT6 (i := 34) rfl rfl
theorem mlX5_42 : Cond.methodLink "BookgrafterModel$Book" 42 yX5_first ∈ Tt := inT6 (i := 35) rfl rfl
theorem mlX6_128 : Cond.methodLink "BookgrafterModel" 128 yX6_told ∈ Tt := inT6 (i := 36) rfl rfl
theorem w6_37 : Cond.static yX6_told ∈ Tt := inT6 (i := 37) rfl rfl
theorem w6_38 : Cond.code yX6_told cX6_told 3 (some .int) ∈ Tt := inT6 (i := 38) rfl rfl
theorem mlL_204 : Cond.methodLink "BookgrafterLaw" 204 yX6_end ∈ Tt := inT6 (i := 39) rfl rfl
theorem w6_40 : Cond.instanceMethod yX6_end ∈ Tt := inT6 (i := 40) rfl rfl
theorem w6_41 : Cond.selects "BookgrafterModel" yX6_end yX6_end ∈ Tt := inT6 (i := 41) rfl rfl
theorem w6_42 : Cond.code yX6_end cX6_end 5 (some .int) ∈ Tt := inT6 (i := 42) rfl rfl
theorem mlL_207 : Cond.methodLink "BookgrafterLaw" 207 yX6_keyAt ∈ Tt := inT6 (i := 43) rfl rfl
theorem w6_44 : Cond.instanceMethod yX6_keyAt ∈ Tt := inT6 (i := 44) rfl rfl
theorem w6_45 : Cond.selects "BookgrafterModel" yX6_keyAt yX6_keyAt ∈ Tt := inT6 (i := 45) rfl rfl
theorem w6_46 : Cond.code yX6_keyAt cX6_keyAt 7 (some .int) ∈ Tt := inT6 (i := 46) rfl rfl
theorem mlL_210 : Cond.methodLink "BookgrafterLaw" 210 yX6_tellBook ∈ Tt := inT6 (i := 47) rfl rfl
theorem w6_48 : Cond.instanceMethod yX6_tellBook ∈ Tt := inT6 (i := 48) rfl rfl
theorem w6_49 : Cond.selects "BookgrafterModel" yX6_tellBook yX6_tellBook ∈ Tt := inT6 (i := 49) rfl rfl
theorem w6_50 : Cond.code yX6_tellBook cX6_tellBook 4 (some .int) ∈ Tt := inT6 (i := 50) rfl rfl
theorem mlX6_131 : Cond.methodLink "BookgrafterModel" 131 yX6_hash ∈ Tt := inT6 (i := 51) rfl rfl
theorem w6_52 : Cond.static yX6_hash ∈ Tt := inT6 (i := 52) rfl rfl
theorem w6_53 : Cond.code yX6_hash cX6_hash 3 (some .int) ∈ Tt := inT6 (i := 53) rfl rfl
theorem mlL_214 : Cond.methodLink "BookgrafterLaw" 214 yX6_bookText ∈ Tt := inT6 (i := 54) rfl rfl
theorem w6_55 : Cond.instanceMethod yX6_bookText ∈ Tt := inT6 (i := 55) rfl rfl
theorem w6_56 : Cond.selects "BookgrafterModel" yX6_bookText yX6_bookText ∈ Tt := inT6 (i := 56) rfl rfl
theorem w6_57 : Cond.code yX6_bookText cX6_bookText 5 (some (.object "java/lang/String")) ∈ Tt := inT6 (i := 57) rfl rfl
theorem klX6_137 : Cond.classLink "BookgrafterModel" 137 "java/lang/StringBuilder" ∈ Tt := inT6 (i := 59) rfl rfl
theorem mlX6_141 : Cond.methodLink "BookgrafterModel" 141 yJ4_init_a7421 ∈ Tt := inT6 (i := 61) rfl rfl
theorem w6_62 : Cond.instanceMethod yJ4_init_a7421 ∈ Tt := inT6 (i := 62) rfl rfl
theorem w6_63 : Cond.code yJ4_init_a7421 cJ4_init_a7421 2 none ∈ Tt := inT6 (i := 63) rfl rfl
theorem mlJ4_7 : Cond.methodLink "java/lang/StringBuilder" 7 yJ5_init_a7421 ∈ Tt := inT6 (i := 64) rfl rfl
theorem w6_65 : Cond.instanceMethod yJ5_init_a7421 ∈ Tt := inT6 (i := 65) rfl rfl
theorem w6_66 : Cond.code yJ5_init_a7421 cJ5_init_a7421 5 none ∈ Tt := inT6 (i := 66) rfl rfl
theorem cIJ5_38 : Cond.constant "java/lang/AbstractStringBuilder" 38 2147483631 ∈ Tt := inT6 (i := 67) rfl rfl
theorem mlJ5_43 : Cond.methodLink "java/lang/AbstractStringBuilder" 43 yJ5_append_cf1ce ∈ Tt := inT6 (i := 68) rfl rfl
theorem w6_69 : Cond.instanceMethod yJ4_append_cf1ce ∈ Tt := inT6 (i := 69) rfl rfl
theorem w6_70 : Cond.code yJ4_append_cf1ce cJ4_append_cf1ce 2 (some (.object "java/lang/AbstractStringBuilder")) ∈ Tt := inT6 (i := 70) rfl rfl
theorem mlJ4_23 : Cond.methodLink "java/lang/StringBuilder" 23 yJ4_append_15ec4 ∈ Tt := inT6 (i := 71) rfl rfl
theorem mlX6_144 : Cond.methodLink "BookgrafterModel" 144 yJ4_length_8abf5 ∈ Tt := inT6 (i := 72) rfl rfl
theorem mlX6_149 : Cond.methodLink "BookgrafterModel" 149 yJ4_append_15ec4 ∈ Tt := inT6 (i := 74) rfl rfl
theorem mlX6_153 : Cond.methodLink "BookgrafterModel" 153 yJ4_append_bf812 ∈ Tt := inT6 (i := 75) rfl rfl
theorem mlX6_160 : Cond.methodLink "BookgrafterModel" 160 yJ4_toString_0e30d ∈ Tt := inT6 (i := 78) rfl rfl
theorem mlL_217 : Cond.methodLink "BookgrafterLaw" 217 yX6_sameBooks ∈ Tt := inT6 (i := 79) rfl rfl
theorem w6_80 : Cond.instanceMethod yX6_sameBooks ∈ Tt := inT6 (i := 80) rfl rfl
theorem w6_81 : Cond.selects "BookgrafterModel" yX6_sameBooks yX6_sameBooks ∈ Tt := inT6 (i := 81) rfl rfl
theorem w6_82 : Cond.code yX6_sameBooks cX6_sameBooks 3 (some .boolean) ∈ Tt := inT6 (i := 82) rfl rfl
theorem mlX6_164 : Cond.methodLink "BookgrafterModel" 164 yX6_same ∈ Tt := inT6 (i := 83) rfl rfl
theorem w6_84 : Cond.static yX6_same ∈ Tt := inT6 (i := 84) rfl rfl
theorem w6_85 : Cond.code yX6_same cX6_same 3 (some .boolean) ∈ Tt := inT6 (i := 85) rfl rfl
theorem mlL_221 : Cond.methodLink "BookgrafterLaw" 221 yX6_openView ∈ Tt := inT6 (i := 86) rfl rfl
theorem w6_87 : Cond.instanceMethod yX6_openView ∈ Tt := inT6 (i := 87) rfl rfl
theorem w6_88 : Cond.selects "BookgrafterModel" yX6_openView yX6_openView ∈ Tt := inT6 (i := 88) rfl rfl
theorem w6_89 : Cond.code yX6_openView cX6_openView 8 (some .int) ∈ Tt := inT6 (i := 89) rfl rfl
theorem mlX6_168 : Cond.methodLink "BookgrafterModel" 168 yX6_isView ∈ Tt := inT6 (i := 90) rfl rfl
theorem w6_91 : Cond.static yX6_isView ∈ Tt := inT6 (i := 91) rfl rfl
theorem w6_92 : Cond.code yX6_isView cX6_isView 1 (some .boolean) ∈ Tt := inT6 (i := 92) rfl rfl
theorem mlX6_171 : Cond.methodLink "BookgrafterModel" 171 yX6_seen ∈ Tt := inT6 (i := 93) rfl rfl
theorem w6_95 : Cond.instanceMethod yX6_seen ∈ Tt := inT6 (i := 95) rfl rfl
theorem w6_96 : Cond.code yX6_seen cX6_seen 2 (some .int) ∈ Tt := inT6 (i := 96) rfl rfl
theorem mlL_224 : Cond.methodLink "BookgrafterLaw" 224 yX6_narrowView ∈ Tt := inT6 (i := 97) rfl rfl
theorem w6_98 : Cond.instanceMethod yX6_narrowView ∈ Tt := inT6 (i := 98) rfl rfl
theorem w6_99 : Cond.selects "BookgrafterModel" yX6_narrowView yX6_narrowView ∈ Tt := inT6 (i := 99) rfl rfl
theorem w6_100 : Cond.code yX6_narrowView cX6_narrowView 6 (some .int) ∈ Tt := inT6 (i := 100) rfl rfl
theorem mlX6_174 : Cond.methodLink "BookgrafterModel" 174 yX6_isWithin ∈ Tt := inT6 (i := 101) rfl rfl
theorem w6_103 : Cond.instanceMethod yX6_isWithin ∈ Tt := inT6 (i := 103) rfl rfl
theorem w6_104 : Cond.code yX6_isWithin cX6_isWithin 3 (some .boolean) ∈ Tt := inT6 (i := 104) rfl rfl
theorem mlL_227 : Cond.methodLink "BookgrafterLaw" 227 yX6_buildFromView ∈ Tt := inT6 (i := 105) rfl rfl
theorem w6_106 : Cond.instanceMethod yX6_buildFromView ∈ Tt := inT6 (i := 106) rfl rfl
theorem w6_107 : Cond.selects "BookgrafterModel" yX6_buildFromView yX6_buildFromView ∈ Tt := inT6 (i := 107) rfl rfl
theorem w6_108 : Cond.code yX6_buildFromView cX6_buildFromView 4 (some .int) ∈ Tt := inT6 (i := 108) rfl rfl
theorem mlL_230 : Cond.methodLink "BookgrafterLaw" 230 yX6_viewPut ∈ Tt := inT6 (i := 109) rfl rfl
theorem w6_110 : Cond.instanceMethod yX6_viewPut ∈ Tt := inT6 (i := 110) rfl rfl
theorem w6_111 : Cond.selects "BookgrafterModel" yX6_viewPut yX6_viewPut ∈ Tt := inT6 (i := 111) rfl rfl
theorem w6_112 : Cond.code yX6_viewPut cX6_viewPut 4 (some .int) ∈ Tt := inT6 (i := 112) rfl rfl
theorem mlL_233 : Cond.methodLink "BookgrafterLaw" 233 yX6_viewTake ∈ Tt := inT6 (i := 113) rfl rfl
theorem w6_114 : Cond.instanceMethod yX6_viewTake ∈ Tt := inT6 (i := 114) rfl rfl
theorem w6_115 : Cond.selects "BookgrafterModel" yX6_viewTake yX6_viewTake ∈ Tt := inT6 (i := 115) rfl rfl
theorem w6_116 : Cond.code yX6_viewTake cX6_viewTake 5 (some .int) ∈ Tt := inT6 (i := 116) rfl rfl
theorem mlL_236 : Cond.methodLink "BookgrafterLaw" 236 yX6_viewDrop ∈ Tt := inT6 (i := 117) rfl rfl
theorem w6_118 : Cond.instanceMethod yX6_viewDrop ∈ Tt := inT6 (i := 118) rfl rfl
theorem w6_119 : Cond.selects "BookgrafterModel" yX6_viewDrop yX6_viewDrop ∈ Tt := inT6 (i := 119) rfl rfl
theorem w6_120 : Cond.code yX6_viewDrop cX6_viewDrop 3 (some .int) ∈ Tt := inT6 (i := 120) rfl rfl
theorem mlL_239 : Cond.methodLink "BookgrafterLaw" 239 yX6_viewNear ∈ Tt := inT6 (i := 121) rfl rfl
theorem w6_122 : Cond.instanceMethod yX6_viewNear ∈ Tt := inT6 (i := 122) rfl rfl
theorem w6_123 : Cond.selects "BookgrafterModel" yX6_viewNear yX6_viewNear ∈ Tt := inT6 (i := 123) rfl rfl
theorem w6_124 : Cond.code yX6_viewNear cX6_viewNear 4 (some .int) ∈ Tt := inT6 (i := 124) rfl rfl
theorem mlL_242 : Cond.methodLink "BookgrafterLaw" 242 yX6_viewTell ∈ Tt := inT6 (i := 125) rfl rfl
theorem w6_126 : Cond.instanceMethod yX6_viewTell ∈ Tt := inT6 (i := 126) rfl rfl
theorem w6_127 : Cond.selects "BookgrafterModel" yX6_viewTell yX6_viewTell ∈ Tt := inT6 (i := 127) rfl rfl
theorem w6_128 : Cond.code yX6_viewTell cX6_viewTell 4 (some .int) ∈ Tt := inT6 (i := 128) rfl rfl
theorem mlX6_183 : Cond.methodLink "BookgrafterModel" 183 yX6_sum ∈ Tt := inT6 (i := 129) rfl rfl
theorem w6_131 : Cond.instanceMethod yX6_sum ∈ Tt := inT6 (i := 131) rfl rfl
theorem w6_132 : Cond.code yX6_sum cX6_sum 4 (some .int) ∈ Tt := inT6 (i := 132) rfl rfl
theorem mlX6_178 : Cond.methodLink "BookgrafterModel" 178 yJ9_max_7cf53 ∈ Tt := inT6 (i := 133) rfl rfl
theorem mlL_245 : Cond.methodLink "BookgrafterLaw" 245 yX6_startWalk ∈ Tt := inT6 (i := 134) rfl rfl
theorem w6_135 : Cond.instanceMethod yX6_startWalk ∈ Tt := inT6 (i := 135) rfl rfl
theorem w6_136 : Cond.selects "BookgrafterModel" yX6_startWalk yX6_startWalk ∈ Tt := inT6 (i := 136) rfl rfl
theorem w6_137 : Cond.code yX6_startWalk cX6_startWalk 2 (some .int) ∈ Tt := inT6 (i := 137) rfl rfl
theorem mlL_250 : Cond.methodLink "BookgrafterLaw" 250 yX6_walkNext ∈ Tt := inT6 (i := 138) rfl rfl
theorem w6_139 : Cond.instanceMethod yX6_walkNext ∈ Tt := inT6 (i := 139) rfl rfl
theorem w6_140 : Cond.selects "BookgrafterModel" yX6_walkNext yX6_walkNext ∈ Tt := inT6 (i := 140) rfl rfl
theorem w6_141 : Cond.code yX6_walkNext cX6_walkNext 2 (some .int) ∈ Tt := inT6 (i := 141) rfl rfl
theorem mlX6_189 : Cond.methodLink "BookgrafterModel" 189 yX6_isGoing ∈ Tt := inT6 (i := 142) rfl rfl
theorem w6_144 : Cond.instanceMethod yX6_isGoing ∈ Tt := inT6 (i := 144) rfl rfl
theorem w6_145 : Cond.code yX6_isGoing cX6_isGoing 1 (some .boolean) ∈ Tt := inT6 (i := 145) rfl rfl
theorem mlL_253 : Cond.methodLink "BookgrafterLaw" 253 yX6_walkSet ∈ Tt := inT6 (i := 146) rfl rfl
theorem w6_147 : Cond.instanceMethod yX6_walkSet ∈ Tt := inT6 (i := 147) rfl rfl
theorem w6_148 : Cond.selects "BookgrafterModel" yX6_walkSet yX6_walkSet ∈ Tt := inT6 (i := 148) rfl rfl
theorem w6_149 : Cond.code yX6_walkSet cX6_walkSet 3 (some .int) ∈ Tt := inT6 (i := 149) rfl rfl
theorem mlL_257 : Cond.methodLink "BookgrafterLaw" 257 yX6_walkTake ∈ Tt := inT6 (i := 150) rfl rfl
theorem w6_151 : Cond.instanceMethod yX6_walkTake ∈ Tt := inT6 (i := 151) rfl rfl
theorem w6_152 : Cond.selects "BookgrafterModel" yX6_walkTake yX6_walkTake ∈ Tt := inT6 (i := 152) rfl rfl
theorem w6_153 : Cond.code yX6_walkTake cX6_walkTake 2 (some .int) ∈ Tt := inT6 (i := 153) rfl rfl
theorem mlL_260 : Cond.methodLink "BookgrafterLaw" 260 yX6_freshShelf ∈ Tt := inT6 (i := 154) rfl rfl
theorem w6_155 : Cond.instanceMethod yX6_freshShelf ∈ Tt := inT6 (i := 155) rfl rfl
theorem w6_156 : Cond.selects "BookgrafterModel" yX6_freshShelf yX6_freshShelf ∈ Tt := inT6 (i := 156) rfl rfl
theorem w6_157 : Cond.code yX6_freshShelf cX6_freshShelf 4 (some .int) ∈ Tt := inT6 (i := 157) rfl rfl
theorem mlX6_193 : Cond.methodLink "BookgrafterModel" 193 yX6_isShelf ∈ Tt := inT6 (i := 158) rfl rfl
theorem w6_159 : Cond.static yX6_isShelf ∈ Tt := inT6 (i := 159) rfl rfl
theorem w6_160 : Cond.code yX6_isShelf cX6_isShelf 1 (some .boolean) ∈ Tt := inT6 (i := 160) rfl rfl
theorem mlX6_196 : Cond.methodLink "BookgrafterModel" 196 yX6_laid ∈ Tt := inT6 (i := 161) rfl rfl
theorem w6_163 : Cond.instanceMethod yX6_laid ∈ Tt := inT6 (i := 163) rfl rfl
theorem w6_164 : Cond.code yX6_laid cX6_laid 2 (some .int) ∈ Tt := inT6 (i := 164) rfl rfl
theorem mlL_263 : Cond.methodLink "BookgrafterLaw" 263 yX6_buildShelf ∈ Tt := inT6 (i := 165) rfl rfl
theorem w6_166 : Cond.instanceMethod yX6_buildShelf ∈ Tt := inT6 (i := 166) rfl rfl
theorem w6_167 : Cond.selects "BookgrafterModel" yX6_buildShelf yX6_buildShelf ∈ Tt := inT6 (i := 167) rfl rfl
theorem w6_168 : Cond.code yX6_buildShelf cX6_buildShelf 4 (some .int) ∈ Tt := inT6 (i := 168) rfl rfl
theorem mlL_266 : Cond.methodLink "BookgrafterLaw" 266 yX6_keysOf ∈ Tt := inT6 (i := 169) rfl rfl
theorem w6_170 : Cond.instanceMethod yX6_keysOf ∈ Tt := inT6 (i := 170) rfl rfl
theorem w6_171 : Cond.selects "BookgrafterModel" yX6_keysOf yX6_keysOf ∈ Tt := inT6 (i := 171) rfl rfl
theorem w6_172 : Cond.code yX6_keysOf cX6_keysOf 4 (some .int) ∈ Tt := inT6 (i := 172) rfl rfl
theorem mlL_270 : Cond.methodLink "BookgrafterLaw" 270 yX6_lay ∈ Tt := inT6 (i := 173) rfl rfl
theorem w6_174 : Cond.instanceMethod yX6_lay ∈ Tt := inT6 (i := 174) rfl rfl
theorem w6_175 : Cond.selects "BookgrafterModel" yX6_lay yX6_lay ∈ Tt := inT6 (i := 175) rfl rfl
theorem w6_176 : Cond.code yX6_lay cX6_lay 8 (some .int) ∈ Tt := inT6 (i := 176) rfl rfl
theorem mlL_273 : Cond.methodLink "BookgrafterLaw" 273 yX6_shelfBoth ∈ Tt := inT6 (i := 177) rfl rfl
theorem w6_178 : Cond.instanceMethod yX6_shelfBoth ∈ Tt := inT6 (i := 178) rfl rfl
theorem w6_179 : Cond.selects "BookgrafterModel" yX6_shelfBoth yX6_shelfBoth ∈ Tt := inT6 (i := 179) rfl rfl
theorem w6_180 : Cond.code yX6_shelfBoth cX6_shelfBoth 6 (some .int) ∈ Tt := inT6 (i := 180) rfl rfl
theorem mlL_276 : Cond.methodLink "BookgrafterLaw" 276 yX6_shelfDrop ∈ Tt := inT6 (i := 181) rfl rfl
theorem w6_182 : Cond.instanceMethod yX6_shelfDrop ∈ Tt := inT6 (i := 182) rfl rfl
theorem w6_183 : Cond.selects "BookgrafterModel" yX6_shelfDrop yX6_shelfDrop ∈ Tt := inT6 (i := 183) rfl rfl
theorem w6_184 : Cond.code yX6_shelfDrop cX6_shelfDrop 4 (some .int) ∈ Tt := inT6 (i := 184) rfl rfl
theorem mlX6_199 : Cond.methodLink "BookgrafterModel" 199 yX6_key ∈ Tt := inT6 (i := 185) rfl rfl
theorem w6_186 : Cond.static yX6_key ∈ Tt := inT6 (i := 186) rfl rfl
theorem w6_187 : Cond.code yX6_key cX6_key 1 (some .int) ∈ Tt := inT6 (i := 187) rfl rfl
theorem mlL_279 : Cond.methodLink "BookgrafterLaw" 279 yX6_shelfCut ∈ Tt := inT6 (i := 188) rfl rfl
theorem w6_189 : Cond.instanceMethod yX6_shelfCut ∈ Tt := inT6 (i := 189) rfl rfl
theorem w6_190 : Cond.selects "BookgrafterModel" yX6_shelfCut yX6_shelfCut ∈ Tt := inT6 (i := 190) rfl rfl
theorem w6_191 : Cond.code yX6_shelfCut cX6_shelfCut 11 (some .int) ∈ Tt := inT6 (i := 191) rfl rfl
theorem mlL_282 : Cond.methodLink "BookgrafterLaw" 282 yX6_shelfNear ∈ Tt := inT6 (i := 192) rfl rfl
theorem w6_193 : Cond.instanceMethod yX6_shelfNear ∈ Tt := inT6 (i := 193) rfl rfl
theorem w6_194 : Cond.selects "BookgrafterModel" yX6_shelfNear yX6_shelfNear ∈ Tt := inT6 (i := 194) rfl rfl
theorem w6_195 : Cond.code yX6_shelfNear cX6_shelfNear 4 (some .int) ∈ Tt := inT6 (i := 195) rfl rfl
theorem mlL_285 : Cond.methodLink "BookgrafterLaw" 285 yX6_shelfTell ∈ Tt := inT6 (i := 196) rfl rfl
theorem w6_197 : Cond.instanceMethod yX6_shelfTell ∈ Tt := inT6 (i := 197) rfl rfl
theorem w6_198 : Cond.selects "BookgrafterModel" yX6_shelfTell yX6_shelfTell ∈ Tt := inT6 (i := 198) rfl rfl
theorem w6_199 : Cond.code yX6_shelfTell cX6_shelfTell 5 (some .int) ∈ Tt := inT6 (i := 199) rfl rfl
theorem mlX6_200 : Cond.methodLink "BookgrafterModel" 200 yX6_sum_ ∈ Tt := inT6 (i := 200) rfl rfl
theorem w6_201 : Cond.static yX6_sum_ ∈ Tt := inT6 (i := 201) rfl rfl
theorem w6_202 : Cond.code yX6_sum_ cX6_sum_ 3 (some .int) ∈ Tt := inT6 (i := 202) rfl rfl
theorem mlL_288 : Cond.methodLink "BookgrafterLaw" 288 yX6_sameShelves ∈ Tt := inT6 (i := 203) rfl rfl
theorem w6_204 : Cond.instanceMethod yX6_sameShelves ∈ Tt := inT6 (i := 204) rfl rfl
theorem w6_205 : Cond.selects "BookgrafterModel" yX6_sameShelves yX6_sameShelves ∈ Tt := inT6 (i := 205) rfl rfl
theorem w6_206 : Cond.code yX6_sameShelves cX6_sameShelves 6 (some .boolean) ∈ Tt := inT6 (i := 206) rfl rfl
theorem mlL_294 : Cond.methodLink "BookgrafterLaw" 294 yX6_house ∈ Tt := inT6 (i := 207) rfl rfl
theorem w6_208 : Cond.instanceMethod yX6_house ∈ Tt := inT6 (i := 208) rfl rfl
theorem w6_209 : Cond.selects "BookgrafterModel" yX6_house yX6_house ∈ Tt := inT6 (i := 209) rfl rfl
theorem w6_210 : Cond.code yX6_house cX6_house 2 (some .int) ∈ Tt := inT6 (i := 210) rfl rfl
theorem mlL_298 : Cond.methodLink "BookgrafterLaw" 298 yX6_knock ∈ Tt := inT6 (i := 211) rfl rfl
theorem w6_212 : Cond.instanceMethod yX6_knock ∈ Tt := inT6 (i := 212) rfl rfl
theorem w6_213 : Cond.selects "BookgrafterModel" yX6_knock yX6_knock ∈ Tt := inT6 (i := 213) rfl rfl
theorem w6_214 : Cond.code yX6_knock cX6_knock 1 (some .int) ∈ Tt := inT6 (i := 214) rfl rfl
theorem mlL_303 : Cond.methodLink "BookgrafterLaw" 303 yX6_isSound ∈ Tt := inT6 (i := 215) rfl rfl
theorem w6_216 : Cond.instanceMethod yX6_isSound ∈ Tt := inT6 (i := 216) rfl rfl
theorem w6_217 : Cond.selects "BookgrafterModel" yX6_isSound yX6_isSound ∈ Tt := inT6 (i := 217) rfl rfl
theorem w6_218 : Cond.code yX6_isSound cX6_isSound 1 (some .boolean) ∈ Tt := inT6 (i := 218) rfl rfl
theorem mlL_308 : Cond.methodLink "BookgrafterLaw" 308 yX6_digest ∈ Tt := inT6 (i := 219) rfl rfl
theorem w6_220 : Cond.instanceMethod yX6_digest ∈ Tt := inT6 (i := 220) rfl rfl
theorem w6_221 : Cond.selects "BookgrafterModel" yX6_digest yX6_digest ∈ Tt := inT6 (i := 221) rfl rfl
theorem w6_222 : Cond.code yX6_digest cX6_digest 8 (some .long) ∈ Tt := inT6 (i := 222) rfl rfl
theorem cLX6_204 : Cond.constantLong "BookgrafterModel" 204 17706 ∈ Tt := inT6 (i := 223) rfl rfl
theorem mlX6_206 : Cond.methodLink "BookgrafterModel" 206 yX6_add ∈ Tt := inT6 (i := 224) rfl rfl
theorem w6_225 : Cond.static yX6_add ∈ Tt := inT6 (i := 225) rfl rfl
theorem w6_226 : Cond.code yX6_add cX6_add 4 (some .long) ∈ Tt := inT6 (i := 226) rfl rfl
theorem cLX6_202 : Cond.constantLong "BookgrafterModel" 202 31 ∈ Tt := inT6 (i := 227) rfl rfl
theorem w6_228 : Cond.sameMethod "java/lang/Throwable" "java/lang/Throwable" "fillInStackTrace" "(I)Ljava/lang/Throwable;" ∈ Tt := inT6 (i := 228) rfl rfl
theorem w6_229 : Cond.sameMethod "java/lang/AbstractStringBuilder" "java/lang/AbstractStringBuilder" "append" "(C)Ljava/lang/AbstractStringBuilder;" ∈ Tt := inT6 (i := 229) rfl rfl
theorem w6_230 : Cond.sameMethod "java/lang/AbstractStringBuilder" "java/lang/AbstractStringBuilder" "ensureCapacityInternal" "(I)V" ∈ Tt := inT6 (i := 230) rfl rfl
theorem w6_231 : Cond.sameMethod "java/lang/AbstractStringBuilder" "java/lang/AbstractStringBuilder" "newCapacity" "(I)I" ∈ Tt := inT6 (i := 231) rfl rfl
theorem w6_232 : Cond.sameMethod "java/lang/AbstractStringBuilder" "java/lang/AbstractStringBuilder" "inflate" "()V" ∈ Tt := inT6 (i := 232) rfl rfl
theorem w6_233 : Cond.sameMethod "java/lang/AbstractStringBuilder" "java/lang/AbstractStringBuilder" "append" "(Ljava/lang/String;)Ljava/lang/AbstractStringBuilder;" ∈ Tt := inT6 (i := 233) rfl rfl
theorem w6_234 : Cond.sameMethod "java/lang/AbstractStringBuilder" "java/lang/AbstractStringBuilder" "appendNull" "()Ljava/lang/AbstractStringBuilder;" ∈ Tt := inT6 (i := 234) rfl rfl
theorem w6_235 : Cond.sameMethod "java/lang/AbstractStringBuilder" "java/lang/AbstractStringBuilder" "putStringAt" "(ILjava/lang/String;)V" ∈ Tt := inT6 (i := 235) rfl rfl
theorem w6_236 : Cond.sameMethod "java/lang/AbstractStringBuilder" "java/lang/AbstractStringBuilder" "inflateIfNeededFor" "(Ljava/lang/String;)V" ∈ Tt := inT6 (i := 236) rfl rfl
theorem w6_237 : Cond.sameMethod "java/lang/AbstractStringBuilder" "java/lang/AbstractStringBuilder" "append" "(I)Ljava/lang/AbstractStringBuilder;" ∈ Tt := inT6 (i := 237) rfl rfl
theorem w6_238 : Cond.selects "java/lang/StringBuilder" yJ5_append_cf1ce yJ4_append_cf1ce ∈ Tt := inT6 (i := 238) rfl rfl
theorem w6_239 : Cond.selects "java/lang/StringBuilder" yJ4_length_8abf5 yJ4_length_8abf5 ∈ Tt := inT6 (i := 239) rfl rfl
theorem w0_0 : Cond.selects "Bookgrafter" yX3_refuse yX3_refuse ∈ Tt := inT0 (i := 0) rfl rfl
theorem w0_1 : Cond.selects "Bookgrafter$Row" yX0_turned yX0_turned ∈ Tt := inT0 (i := 1) rfl rfl
theorem w0_2 : Cond.selects "Bookgrafter" yX3_houseFact yX3_houseFact ∈ Tt := inT0 (i := 2) rfl rfl
theorem w0_3 : Cond.selects "Bookgrafter" yX3_bookAt yX3_bookAt ∈ Tt := inT0 (i := 3) rfl rfl
theorem w0_4 : Cond.selects "java/lang/Throwable" ⟨"java/lang/Throwable", "fillInStackTrace", "(I)Ljava/lang/Throwable;"⟩ ⟨"java/lang/Throwable", "fillInStackTrace", "(I)Ljava/lang/Throwable;"⟩ ∈ Tt := inT0 (i := 4) rfl rfl
theorem w0_5 : Cond.selects "Bookgrafter" yX3_write yX3_write ∈ Tt := inT0 (i := 5) rfl rfl
theorem w0_6 : Cond.selects "Bookgrafter" yX3_keyOrRefuse yX3_keyOrRefuse ∈ Tt := inT0 (i := 6) rfl rfl
theorem w0_7 : Cond.selects "Bookgrafter" yX3_viewAt yX3_viewAt ∈ Tt := inT0 (i := 7) rfl rfl
theorem w0_8 : Cond.selects "Bookgrafter" yX3_shelfAt yX3_shelfAt ∈ Tt := inT0 (i := 8) rfl rfl
theorem w0_9 : Cond.selects "BookgrafterModel" yX6_isLet yX6_isLet ∈ Tt := inT0 (i := 9) rfl rfl
theorem w0_10 : Cond.selects "BookgrafterModel" yX6_did yX6_did ∈ Tt := inT0 (i := 10) rfl rfl
theorem w0_11 : Cond.selects "BookgrafterModel" yX6_refuse yX6_refuse ∈ Tt := inT0 (i := 11) rfl rfl
theorem w0_12 : Cond.selects "BookgrafterModel" yX6_write yX6_write ∈ Tt := inT0 (i := 12) rfl rfl
theorem w0_13 : Cond.selects "BookgrafterModel" yX6_set yX6_set ∈ Tt := inT0 (i := 13) rfl rfl
theorem w0_14 : Cond.selects "BookgrafterModel" yX6_change yX6_change ∈ Tt := inT0 (i := 14) rfl rfl
theorem w0_15 : Cond.selects "BookgrafterModel" yX6_dropped yX6_dropped ∈ Tt := inT0 (i := 15) rfl rfl
theorem w0_16 : Cond.selects "BookgrafterModel" yX6_seen yX6_seen ∈ Tt := inT0 (i := 16) rfl rfl
theorem w0_17 : Cond.selects "BookgrafterModel" yX6_isWithin yX6_isWithin ∈ Tt := inT0 (i := 17) rfl rfl
theorem w0_18 : Cond.selects "BookgrafterModel" yX6_sum yX6_sum ∈ Tt := inT0 (i := 18) rfl rfl
theorem w0_19 : Cond.selects "BookgrafterModel" yX6_isGoing yX6_isGoing ∈ Tt := inT0 (i := 19) rfl rfl
theorem w0_20 : Cond.selects "BookgrafterModel" yX6_laid yX6_laid ∈ Tt := inT0 (i := 20) rfl rfl
theorem iX0 : ∀ w ∈ wsX00, w ∈ Tt := (List.forall_mem_cons.mpr ⟨w1_50, (List.forall_mem_cons.mpr ⟨w1_52, (List.forall_mem_cons.mpr ⟨w1_54, (List.forall_mem_cons.mpr ⟨w1_56, (fun _ h => absurd h List.not_mem_nil)⟩)⟩)⟩)⟩)
theorem iX1 : ∀ w ∈ wsX10, w ∈ Tt := (List.forall_mem_cons.mpr ⟨w1_73, (List.forall_mem_cons.mpr ⟨w1_75, (List.forall_mem_cons.mpr ⟨w1_77, (fun _ h => absurd h List.not_mem_nil)⟩)⟩)⟩)
theorem iX2 : ∀ w ∈ wsX20, w ∈ Tt := (List.forall_mem_cons.mpr ⟨w1_90, (List.forall_mem_cons.mpr ⟨w1_92, (List.forall_mem_cons.mpr ⟨w1_94, (List.forall_mem_cons.mpr ⟨w1_96, (fun _ h => absurd h List.not_mem_nil)⟩)⟩)⟩)⟩)
theorem iX3 : ∀ w ∈ wsX30, w ∈ Tt := (List.forall_mem_cons.mpr ⟨w1_107, (List.forall_mem_cons.mpr ⟨w1_109, (List.forall_mem_cons.mpr ⟨w1_111, (List.forall_mem_cons.mpr ⟨w1_113, (List.forall_mem_cons.mpr ⟨w1_115, (List.forall_mem_cons.mpr ⟨w1_117, (List.forall_mem_cons.mpr ⟨w1_119, (List.forall_mem_cons.mpr ⟨w1_121, (fun _ h => absurd h List.not_mem_nil)⟩)⟩)⟩)⟩)⟩)⟩)⟩)⟩)
theorem iX4 : ∀ w ∈ wsX40, w ∈ Tt := (List.forall_mem_cons.mpr ⟨w2_69, (List.forall_mem_cons.mpr ⟨w2_71, (fun _ h => absurd h List.not_mem_nil)⟩)⟩)
theorem iX5 : ∀ w ∈ wsX50, w ∈ Tt := (List.forall_mem_cons.mpr ⟨w5_100, (List.forall_mem_cons.mpr ⟨w5_102, (fun _ h => absurd h List.not_mem_nil)⟩)⟩)
theorem iX6 : ∀ w ∈ wsX60, w ∈ Tt := (List.forall_mem_cons.mpr ⟨w5_116, (List.forall_mem_cons.mpr ⟨w5_118, (List.forall_mem_cons.mpr ⟨w5_120, (List.forall_mem_cons.mpr ⟨w5_122, (List.forall_mem_cons.mpr ⟨w5_124, (List.forall_mem_cons.mpr ⟨w5_126, (List.forall_mem_cons.mpr ⟨w5_128, (List.forall_mem_cons.mpr ⟨w5_130, (List.forall_mem_cons.mpr ⟨w5_132, (List.forall_mem_cons.mpr ⟨w5_134, (List.forall_mem_cons.mpr ⟨w5_136, (fun _ h => absurd h List.not_mem_nil)⟩)⟩)⟩)⟩)⟩)⟩)⟩)⟩)⟩)⟩)⟩)
theorem iJ0 : ∀ w ∈ wsJ00, w ∈ Tt := (List.forall_mem_cons.mpr ⟨w4_118, (List.forall_mem_cons.mpr ⟨w4_120, (List.forall_mem_cons.mpr ⟨w4_122, (List.forall_mem_cons.mpr ⟨w4_124, (fun _ h => absurd h List.not_mem_nil)⟩)⟩)⟩)⟩)
theorem iJ4 : ∀ w ∈ wsJ40, w ∈ Tt := (List.forall_mem_cons.mpr ⟨w3_126, (List.forall_mem_cons.mpr ⟨w3_128, (List.forall_mem_cons.mpr ⟨w3_130, (List.forall_mem_cons.mpr ⟨w3_132, (fun _ h => absurd h List.not_mem_nil)⟩)⟩)⟩)⟩)
def CLB (own : String) (idx : Nat) (y : MethodName) (b : ByteArray) (n : Nat) (r : Option FieldType) (k : Nat) : Prop := Cond.methodLink own idx y ∈ Tt ∧ Cond.initialized y.cls ∈ Tt ∧ Cond.code y b n r ∈ Tt ∧ (y.cls ≠ "java/lang/invoke/MethodHandle" ∧ y.cls ≠ "java/lang/invoke/VarHandle" ∧ (parseMethodDescriptor y.desc).map (fun d => d.parameters.length) = some k)
def CLV (own : String) (idx : Nat) (y : MethodName) (b : ByteArray) (n : Nat) (r : Option FieldType) (k : Nat) : Prop := CLB own idx y b n r k ∧ Cond.instanceMethod y ∈ Tt ∧ Cond.selects y.cls y y ∈ Tt
def CLS (own : String) (idx : Nat) (y : MethodName) (b : ByteArray) (n : Nat) (r : Option FieldType) (k : Nat) : Prop := CLB own idx y b n r k ∧ Cond.static y ∈ Tt
def CLI (own : String) (idx : Nat) (y : MethodName) (b : ByteArray) (n : Nat) (k : Nat) : Prop := CLB own idx y b n none k ∧ Cond.instanceMethod y ∈ Tt ∧ y.name = "<init>"
theorem lL_151 : CLI RL 151 yX3_init cX3_init 2 0 := ⟨⟨mlL_151, iniX3, w1_29, ⟨by decide +kernel, by decide +kernel, by decide +kernel⟩⟩, w1_28, by decide⟩
theorem lX3_15 : CLI RX3 15 yX0_init cX0_init 2 1 := ⟨⟨mlX3_15, iniX0, w1_38, ⟨by decide +kernel, by decide +kernel, by decide +kernel⟩⟩, w1_37, by decide⟩
theorem lX0_19 : CLS RX0 19 yJ7_fill_53178 cJ7_fill_53178 4 none 2 := ⟨⟨mlX0_19, iniJ7, w1_42, ⟨by decide +kernel, by decide +kernel, by decide +kernel⟩⟩, w1_41⟩
theorem lX3_27 : CLI RX3 27 yX1_init cX1_init 2 1 := ⟨⟨mlX3_27, iniX1, w1_65, ⟨by decide +kernel, by decide +kernel, by decide +kernel⟩⟩, w1_64, by decide⟩
theorem lL_246 : CLV RL 246 yX3_walkNext cX3_walkNext 1 (some .int) 0 := ⟨⟨mlL_246, iniX3, w1_127, ⟨by decide +kernel, by decide +kernel, by decide +kernel⟩⟩, w1_125, w1_126⟩
theorem lX3_200 : CLV RX3 200 yX2_isGoing cX2_isGoing 1 (some .boolean) 0 := ⟨⟨mlX3_200, iniX2, w1_131, ⟨by decide +kernel, by decide +kernel, by decide +kernel⟩⟩, w1_129, w1_130⟩
theorem lX3_63 : CLV RX3 63 yX3_refuse cX3_refuse 1 (some .int) 0 := ⟨⟨mlX3_63, iniX3, w1_135, ⟨by decide +kernel, by decide +kernel, by decide +kernel⟩⟩, w1_134, w0_0⟩
theorem lX3_204 : CLV RX3 204 yX2_tellNext cX2_tellNext 2 (some .int) 0 := ⟨⟨mlX3_204, iniX2, w1_139, ⟨by decide +kernel, by decide +kernel, by decide +kernel⟩⟩, w1_137, w1_138⟩
theorem lX2_31 : CLV RX2 31 yX0_firstInPart cX0_firstInPart 4 (some .int) 2 := ⟨⟨mlX2_31, iniX0, w1_143, ⟨by decide +kernel, by decide +kernel, by decide +kernel⟩⟩, w1_141, w1_142⟩
theorem lX0_32 : CLV RX0 32 yX0_isThere cX0_isThere 2 (some .boolean) 1 := ⟨⟨mlX0_32, iniX0, w1_147, ⟨by decide +kernel, by decide +kernel, by decide +kernel⟩⟩, w1_145, w1_146⟩
theorem lX2_35 : CLV RX2 35 yX0_pairAt cX0_pairAt 2 (some .int) 1 := ⟨⟨mlX2_35, iniX0, w1_151, ⟨by decide +kernel, by decide +kernel, by decide +kernel⟩⟩, w1_149, w1_150⟩
theorem lX0_36 : CLV RX0 36 yX0_keyOf cX0_keyOf 2 (some .int) 1 := ⟨⟨mlX0_36, iniX0, w1_155, ⟨by decide +kernel, by decide +kernel, by decide +kernel⟩⟩, w1_153, w1_154⟩
theorem lX0_25 : CLV RX0 25 yX0_turned cX0_turned 2 (some .int) 1 := ⟨⟨mlX0_25, iniX0, w1_159, ⟨by decide +kernel, by decide +kernel, by decide +kernel⟩⟩, w1_158, w0_1⟩
theorem lX0_39 : CLV RX0 39 yX0_worthAt cX0_worthAt 2 (some .int) 1 := ⟨⟨mlX0_39, iniX0, w1_163, ⟨by decide +kernel, by decide +kernel, by decide +kernel⟩⟩, w1_161, w1_162⟩
theorem lL_254 : CLV RL 254 yX3_walkTake cX3_walkTake 1 (some .int) 0 := ⟨⟨mlL_254, iniX3, w1_167, ⟨by decide +kernel, by decide +kernel, by decide +kernel⟩⟩, w1_165, w1_166⟩
theorem lX3_207 : CLV RX3 207 yX2_isTelling cX2_isTelling 1 (some .boolean) 0 := ⟨⟨mlX3_207, iniX2, w1_171, ⟨by decide +kernel, by decide +kernel, by decide +kernel⟩⟩, w1_169, w1_170⟩
theorem lX3_213 : CLV RX3 213 yX2_removeTold cX2_removeTold 2 (some .int) 0 := ⟨⟨mlX3_213, iniX2, w1_175, ⟨by decide +kernel, by decide +kernel, by decide +kernel⟩⟩, w1_173, w1_174⟩
theorem lX2_42 : CLV RX2 42 yX0_go cX0_go 3 (some .int) 1 := ⟨⟨mlX2_42, iniX0, w1_179, ⟨by decide +kernel, by decide +kernel, by decide +kernel⟩⟩, w1_177, w1_178⟩
theorem lL_295 : CLV RL 295 yX3_knock cX3_knock 1 (some .int) 0 := ⟨⟨mlL_295, iniX3, w1_183, ⟨by decide +kernel, by decide +kernel, by decide +kernel⟩⟩, w1_181, w1_182⟩
theorem lL_299 : CLV RL 299 yX3_isSound cX3_isSound 2 (some .boolean) 0 := ⟨⟨mlL_299, iniX3, w1_187, ⟨by decide +kernel, by decide +kernel, by decide +kernel⟩⟩, w1_185, w1_186⟩
theorem lX3_244 : CLS RX3 244 yX3_isRowSound cX3_isRowSound 1 (some .boolean) 1 := ⟨⟨mlX3_244, iniX3, w1_190, ⟨by decide +kernel, by decide +kernel, by decide +kernel⟩⟩, w1_189⟩
theorem lX3_306 : CLS RX3 306 yX3_isToldInOrder cX3_isToldInOrder 7 (some .boolean) 4 := ⟨⟨mlX3_306, iniX3, w1_193, ⟨by decide +kernel, by decide +kernel, by decide +kernel⟩⟩, w1_192⟩
theorem lX3_135 : CLV RX3 135 yX0_endOfPart cX0_endOfPart 4 (some .int) 3 := ⟨⟨mlX3_135, iniX0, w1_197, ⟨by decide +kernel, by decide +kernel, by decide +kernel⟩⟩, w1_195, w1_196⟩
theorem lX0_48 : CLV RX0 48 yX0_lastInPart cX0_lastInPart 4 (some .int) 2 := ⟨⟨mlX0_48, iniX0, w1_201, ⟨by decide +kernel, by decide +kernel, by decide +kernel⟩⟩, w1_199, w1_200⟩
theorem lX0_52 : CLV RX0 52 yX0_firstInPart cX0_firstInPart 4 (some .int) 2 := ⟨⟨mlX0_52, iniX0, w1_143, ⟨by decide +kernel, by decide +kernel, by decide +kernel⟩⟩, w1_141, w1_142⟩
theorem lX3_132 : CLV RX3 132 yX0_keyOf cX0_keyOf 2 (some .int) 1 := ⟨⟨mlX3_132, iniX0, w1_155, ⟨by decide +kernel, by decide +kernel, by decide +kernel⟩⟩, w1_153, w1_154⟩
theorem lX3_126 : CLV RX3 126 yX0_nearInPart cX0_nearInPart 6 (some .int) 4 := ⟨⟨mlX3_126, iniX0, w1_207, ⟨by decide +kernel, by decide +kernel, by decide +kernel⟩⟩, w1_205, w1_206⟩
theorem lX0_29 : CLV RX0 29 yX0_rankOf cX0_rankOf 2 (some .int) 1 := ⟨⟨mlX0_29, iniX0, w1_211, ⟨by decide +kernel, by decide +kernel, by decide +kernel⟩⟩, w1_209, w1_210⟩
theorem lX0_55 : CLS RX0 55 yJ9_min_7cf53 cJ9_min_7cf53 2 (some .int) 2 := ⟨⟨mlX0_55, iniMath, cdMin, ⟨by decide +kernel, by decide +kernel, by decide +kernel⟩⟩, stMin⟩
theorem lX0_60 : CLS RX0 60 yJ9_max_7cf53 cJ9_max_7cf53 2 (some .int) 2 := ⟨⟨mlX0_60, iniMath, cdMax, ⟨by decide +kernel, by decide +kernel, by decide +kernel⟩⟩, stMax⟩
theorem lX3_119 : CLV RX3 119 yX0_isThere cX0_isThere 2 (some .boolean) 1 := ⟨⟨mlX3_119, iniX0, w1_147, ⟨by decide +kernel, by decide +kernel, by decide +kernel⟩⟩, w1_145, w1_146⟩
theorem lX3_316 : CLV RX3 316 yX0_isAhead cX0_isAhead 3 (some .boolean) 2 := ⟨⟨mlX3_316, iniX0, w1_222, ⟨by decide +kernel, by decide +kernel, by decide +kernel⟩⟩, w1_220, w1_221⟩
theorem lX3_310 : CLS RX3 310 yX3_isToldBackwards cX3_isToldBackwards 4 (some .boolean) 1 := ⟨⟨mlX3_310, iniX3, w1_225, ⟨by decide +kernel, by decide +kernel, by decide +kernel⟩⟩, w1_224⟩
theorem lX3_313 : CLS RX3 313 yX3_areNeighboursFound cX3_areNeighboursFound 7 (some .boolean) 1 := ⟨⟨mlX3_313, iniX3, w1_228, ⟨by decide +kernel, by decide +kernel, by decide +kernel⟩⟩, w1_227⟩
theorem lX3_56 : CLV RX3 56 yX0_copyOfPart cX0_copyOfPart 5 (some (.object "Bookgrafter$Row")) 3 := ⟨⟨mlX3_56, iniX0, w1_232, ⟨by decide +kernel, by decide +kernel, by decide +kernel⟩⟩, w1_230, w1_231⟩
theorem lX0_63 : CLI RX0 63 yX0_init cX0_init 2 1 := ⟨⟨mlX0_63, iniX0, w1_38, ⟨by decide +kernel, by decide +kernel, by decide +kernel⟩⟩, w1_37, by decide⟩
theorem lX0_66 : CLV RX0 66 yX0_addPart cX0_addPart 6 (some .int) 3 := ⟨⟨mlX0_66, iniX0, w1_238, ⟨by decide +kernel, by decide +kernel, by decide +kernel⟩⟩, w1_236, w1_237⟩
theorem lX0_70 : CLV RX0 70 yX0_come cX0_come 4 (some .int) 2 := ⟨⟨mlX0_70, iniX0, w2_2, ⟨by decide +kernel, by decide +kernel, by decide +kernel⟩⟩, w2_0, w2_1⟩
theorem lX3_167 : CLV RX3 167 yX0_isSameAs cX0_isSameAs 3 (some .boolean) 1 := ⟨⟨mlX3_167, iniX0, w2_6, ⟨by decide +kernel, by decide +kernel, by decide +kernel⟩⟩, w2_4, w2_5⟩
theorem lX3_247 : CLS RX3 247 yX3_isViewSound cX3_isViewSound 2 (some .boolean) 1 := ⟨⟨mlX3_247, iniX3, w2_9, ⟨by decide +kernel, by decide +kernel, by decide +kernel⟩⟩, w2_8⟩
theorem lX3_188 : CLV RX3 188 yX0_countOfPart cX0_countOfPart 5 (some .int) 2 := ⟨⟨mlX3_188, iniX0, w2_13, ⟨by decide +kernel, by decide +kernel, by decide +kernel⟩⟩, w2_11, w2_12⟩
theorem lL_304 : CLV RL 304 yX3_digest cX3_digest 4 (some .long) 0 := ⟨⟨mlL_304, iniX3, w2_17, ⟨by decide +kernel, by decide +kernel, by decide +kernel⟩⟩, w2_15, w2_16⟩
theorem lX3_253 : CLS RX3 253 yX3_digestBook cX3_digestBook 6 (some .long) 2 := ⟨⟨mlX3_253, iniX3, w2_21, ⟨by decide +kernel, by decide +kernel, by decide +kernel⟩⟩, w2_20⟩
theorem lX3_145 : CLS RX3 145 yX3_bookFact cX3_bookFact 2 (some .int) 2 := ⟨⟨mlX3_145, iniX3, w2_24, ⟨by decide +kernel, by decide +kernel, by decide +kernel⟩⟩, w2_23⟩
theorem lX3_300 : CLV RX3 300 yX0_hash cX0_hash 3 (some .int) 0 := ⟨⟨mlX3_300, iniX0, w2_28, ⟨by decide +kernel, by decide +kernel, by decide +kernel⟩⟩, w2_26, w2_27⟩
theorem lX3_261 : CLS RX3 261 yX3_mixed cX3_mixed 3 (some .long) 2 := ⟨⟨mlX3_261, iniX3, w2_31, ⟨by decide +kernel, by decide +kernel, by decide +kernel⟩⟩, w2_30⟩
theorem lX3_129 : CLV RX3 129 yX0_pairAt cX0_pairAt 2 (some .int) 1 := ⟨⟨mlX3_129, iniX0, w1_151, ⟨by decide +kernel, by decide +kernel, by decide +kernel⟩⟩, w1_149, w1_150⟩
theorem lX3_257 : CLS RX3 257 yX3_digestView cX3_digestView 6 (some .long) 2 := ⟨⟨mlX3_257, iniX3, w2_36, ⟨by decide +kernel, by decide +kernel, by decide +kernel⟩⟩, w2_35⟩
theorem lX3_194 : CLV RX3 194 yX0_worthsOfPart cX0_worthsOfPart 5 (some .int) 2 := ⟨⟨mlX3_194, iniX0, w2_40, ⟨by decide +kernel, by decide +kernel, by decide +kernel⟩⟩, w2_38, w2_39⟩
theorem lX3_265 : CLV RX3 265 yX2_toldKey cX2_toldKey 1 (some .int) 0 := ⟨⟨mlX3_265, iniX2, w2_44, ⟨by decide +kernel, by decide +kernel, by decide +kernel⟩⟩, w2_42, w2_43⟩
theorem lX2_45 : CLV RX2 45 yX0_keyOf cX0_keyOf 2 (some .int) 1 := ⟨⟨mlX2_45, iniX0, w1_155, ⟨by decide +kernel, by decide +kernel, by decide +kernel⟩⟩, w1_153, w1_154⟩
theorem lX3_268 : CLS RX3 268 yX3_digestShelf cX3_digestShelf 6 (some .long) 2 := ⟨⟨mlX3_268, iniX3, w2_48, ⟨by decide +kernel, by decide +kernel, by decide +kernel⟩⟩, w2_47⟩
theorem lX3_232 : CLS RX3 232 yX3_shelfFact cX3_shelfFact 2 (some .int) 2 := ⟨⟨mlX3_232, iniX3, w2_51, ⟨by decide +kernel, by decide +kernel, by decide +kernel⟩⟩, w2_50⟩
theorem lX3_303 : CLV RX3 303 yX0_sumOfKeys cX0_sumOfKeys 3 (some .int) 0 := ⟨⟨mlX3_303, iniX0, w2_55, ⟨by decide +kernel, by decide +kernel, by decide +kernel⟩⟩, w2_53, w2_54⟩
theorem lX3_238 : CLV RX3 238 yX3_houseFact cX3_houseFact 2 (some .int) 1 := ⟨⟨mlX3_238, iniX3, w2_59, ⟨by decide +kernel, by decide +kernel, by decide +kernel⟩⟩, w2_58, w0_2⟩
theorem lX3_271 : CLV RX3 271 yX3_isSound cX3_isSound 2 (some .boolean) 0 := ⟨⟨mlX3_271, iniX3, w1_187, ⟨by decide +kernel, by decide +kernel, by decide +kernel⟩⟩, w1_185, w1_186⟩
theorem lL_7 : CLV RL 7 yX3_freshBook cX3_freshBook 4 (some .int) 2 := ⟨⟨mlL_7, iniX3, w2_82, ⟨by decide +kernel, by decide +kernel, by decide +kernel⟩⟩, w2_80, w2_81⟩
theorem lX3_37 : CLV RX3 37 yX3_bookAt cX3_bookAt 2 (some (.object "Bookgrafter$Row")) 1 := ⟨⟨mlX3_37, iniX3, w2_86, ⟨by decide +kernel, by decide +kernel, by decide +kernel⟩⟩, w2_85, w0_3⟩
theorem lX3_41 : CLS RX3 41 yX3_checkUpTo cX3_checkUpTo 2 none 2 := ⟨⟨mlX3_41, iniX3, w2_156, ⟨by decide +kernel, by decide +kernel, by decide +kernel⟩⟩, w2_155⟩
theorem lL_23 : CLV RL 23 yX3_buildBook cX3_buildBook 5 (some .int) 3 := ⟨⟨mlL_23, iniX3, w2_179, ⟨by decide +kernel, by decide +kernel, by decide +kernel⟩⟩, w2_177, w2_178⟩
theorem lX3_52 : CLS RX3 52 yX3_builtOrder cX3_builtOrder 2 (some .int) 2 := ⟨⟨mlX3_52, iniX3, w2_182, ⟨by decide +kernel, by decide +kernel, by decide +kernel⟩⟩, w2_181⟩
theorem lL_27 : CLV RL 27 yX3_splitBook cX3_splitBook 6 (some .int) 3 := ⟨⟨mlL_27, iniX3, w2_189, ⟨by decide +kernel, by decide +kernel, by decide +kernel⟩⟩, w2_187, w2_188⟩
theorem lX3_60 : CLS RX3 60 yX3_checkKey cX3_checkKey 1 none 1 := ⟨⟨mlX3_60, iniX3, w2_192, ⟨by decide +kernel, by decide +kernel, by decide +kernel⟩⟩, w2_191⟩
theorem lX3_67 : CLV RX3 67 yX3_write cX3_write 2 none 1 := ⟨⟨mlX3_67, iniX3, w2_197, ⟨by decide +kernel, by decide +kernel, by decide +kernel⟩⟩, w2_196, w0_5⟩
theorem lX3_297 : CLV RX3 297 yX2_forgetIfOn cX2_forgetIfOn 2 none 1 := ⟨⟨mlX3_297, iniX2, w2_201, ⟨by decide +kernel, by decide +kernel, by decide +kernel⟩⟩, w2_199, w2_200⟩
theorem lX3_70 : CLV RX3 70 yX0_rankOf cX0_rankOf 2 (some .int) 1 := ⟨⟨mlX3_70, iniX0, w1_211, ⟨by decide +kernel, by decide +kernel, by decide +kernel⟩⟩, w1_209, w1_210⟩
theorem lX3_77 : CLV RX3 77 yX0_clearPart cX0_clearPart 5 (some .int) 2 := ⟨⟨mlX3_77, iniX0, w2_206, ⟨by decide +kernel, by decide +kernel, by decide +kernel⟩⟩, w2_204, w2_205⟩
theorem lX0_73 : CLV RX0 73 yX0_go cX0_go 3 (some .int) 1 := ⟨⟨mlX0_73, iniX0, w1_179, ⟨by decide +kernel, by decide +kernel, by decide +kernel⟩⟩, w1_177, w1_178⟩
theorem lL_30 : CLV RL 30 yX3_fill cX3_fill 7 (some .int) 5 := ⟨⟨mlL_30, iniX3, w2_214, ⟨by decide +kernel, by decide +kernel, by decide +kernel⟩⟩, w2_212, w2_213⟩
theorem lX3_81 : CLS RX3 81 yX3_checkSteps cX3_checkSteps 3 none 3 := ⟨⟨mlX3_81, iniX3, w2_217, ⟨by decide +kernel, by decide +kernel, by decide +kernel⟩⟩, w2_216⟩
theorem lX3_85 : CLS RX3 85 yX3_checkWorthOrNone cX3_checkWorthOrNone 1 none 1 := ⟨⟨mlX3_85, iniX3, w2_220, ⟨by decide +kernel, by decide +kernel, by decide +kernel⟩⟩, w2_219⟩
theorem lX3_104 : CLS RX3 104 yX3_checkWorth cX3_checkWorth 1 none 1 := ⟨⟨mlX3_104, iniX3, w2_223, ⟨by decide +kernel, by decide +kernel, by decide +kernel⟩⟩, w2_222⟩
theorem lX3_88 : CLV RX3 88 yX0_removeSteps cX0_removeSteps 6 (some .int) 3 := ⟨⟨mlX3_88, iniX0, w2_228, ⟨by decide +kernel, by decide +kernel, by decide +kernel⟩⟩, w2_226, w2_227⟩
theorem lX3_92 : CLV RX3 92 yX0_addSteps cX0_addSteps 7 (some .int) 4 := ⟨⟨mlX3_92, iniX0, w2_232, ⟨by decide +kernel, by decide +kernel, by decide +kernel⟩⟩, w2_230, w2_231⟩
theorem lL_34 : CLV RL 34 yX3_pour cX3_pour 5 (some .int) 2 := ⟨⟨mlL_34, iniX3, w2_239, ⟨by decide +kernel, by decide +kernel, by decide +kernel⟩⟩, w2_237, w2_238⟩
theorem lX3_96 : CLV RX3 96 yX0_addPart cX0_addPart 6 (some .int) 3 := ⟨⟨mlX3_96, iniX0, w1_238, ⟨by decide +kernel, by decide +kernel, by decide +kernel⟩⟩, w1_236, w1_237⟩
theorem lL_37 : CLV RL 37 yX3_keep cX3_keep 6 (some .int) 3 := ⟨⟨mlL_37, iniX3, w3_7, ⟨by decide +kernel, by decide +kernel, by decide +kernel⟩⟩, w3_5, w3_6⟩
theorem lX3_100 : CLV RX3 100 yX0_retain cX0_retain 5 (some .int) 2 := ⟨⟨mlX3_100, iniX0, w3_11, ⟨by decide +kernel, by decide +kernel, by decide +kernel⟩⟩, w3_9, w3_10⟩
theorem lL_41 : CLV RL 41 yX3_put cX3_put 9 (some .int) 4 := ⟨⟨mlL_41, iniX3, w3_18, ⟨by decide +kernel, by decide +kernel, by decide +kernel⟩⟩, w3_16, w3_17⟩
theorem lX3_107 : CLV RX3 107 yX0_worthAt cX0_worthAt 2 (some .int) 1 := ⟨⟨mlX3_107, iniX0, w1_163, ⟨by decide +kernel, by decide +kernel, by decide +kernel⟩⟩, w1_161, w1_162⟩
theorem lX3_110 : CLV RX3 110 yX0_come cX0_come 4 (some .int) 2 := ⟨⟨mlX3_110, iniX0, w2_2, ⟨by decide +kernel, by decide +kernel, by decide +kernel⟩⟩, w2_0, w2_1⟩
theorem lL_45 : CLV RL 45 yX3_exchange cX3_exchange 7 (some .int) 4 := ⟨⟨mlL_45, iniX3, w3_27, ⟨by decide +kernel, by decide +kernel, by decide +kernel⟩⟩, w3_25, w3_26⟩
theorem lX3_113 : CLV RX3 113 yX0_go cX0_go 3 (some .int) 1 := ⟨⟨mlX3_113, iniX0, w1_179, ⟨by decide +kernel, by decide +kernel, by decide +kernel⟩⟩, w1_177, w1_178⟩
theorem lL_48 : CLV RL 48 yX3_take cX3_take 4 (some .int) 2 := ⟨⟨mlL_48, iniX3, w3_35, ⟨by decide +kernel, by decide +kernel, by decide +kernel⟩⟩, w3_33, w3_34⟩
theorem lL_51 : CLV RL 51 yX3_drop cX3_drop 4 (some .int) 2 := ⟨⟨mlL_51, iniX3, w3_42, ⟨by decide +kernel, by decide +kernel, by decide +kernel⟩⟩, w3_40, w3_41⟩
theorem lX3_116 : CLV RX3 116 yX0_dropOfPart cX0_dropOfPart 6 (some .int) 3 := ⟨⟨mlX3_116, iniX0, w3_46, ⟨by decide +kernel, by decide +kernel, by decide +kernel⟩⟩, w3_44, w3_45⟩
theorem lX0_76 : CLV RX0 76 yX0_clearPart cX0_clearPart 5 (some .int) 2 := ⟨⟨mlX0_76, iniX0, w2_206, ⟨by decide +kernel, by decide +kernel, by decide +kernel⟩⟩, w2_204, w2_205⟩
theorem lX0_79 : CLV RX0 79 yX0_endOfPart cX0_endOfPart 4 (some .int) 3 := ⟨⟨mlX0_79, iniX0, w1_197, ⟨by decide +kernel, by decide +kernel, by decide +kernel⟩⟩, w1_195, w1_196⟩
theorem lX0_83 : CLV RX0 83 yX0_pairAt cX0_pairAt 2 (some .int) 1 := ⟨⟨mlX0_83, iniX0, w1_151, ⟨by decide +kernel, by decide +kernel, by decide +kernel⟩⟩, w1_149, w1_150⟩
theorem lL_54 : CLV RL 54 yX3_has cX3_has 5 (some .boolean) 3 := ⟨⟨mlL_54, iniX3, w3_56, ⟨by decide +kernel, by decide +kernel, by decide +kernel⟩⟩, w3_54, w3_55⟩
theorem lX3_123 : CLV RX3 123 yX0_hasWorth cX0_hasWorth 3 (some .boolean) 1 := ⟨⟨mlX3_123, iniX0, w3_60, ⟨by decide +kernel, by decide +kernel, by decide +kernel⟩⟩, w3_58, w3_59⟩
theorem lL_58 : CLV RL 58 yX3_near cX3_near 7 (some .int) 4 := ⟨⟨mlL_58, iniX3, w3_67, ⟨by decide +kernel, by decide +kernel, by decide +kernel⟩⟩, w3_65, w3_66⟩
theorem lL_62 : CLV RL 62 yX3_end cX3_end 6 (some .int) 3 := ⟨⟨mlL_62, iniX3, w3_74, ⟨by decide +kernel, by decide +kernel, by decide +kernel⟩⟩, w3_72, w3_73⟩
theorem lX3_139 : CLV RX3 139 yX3_keyOrRefuse cX3_keyOrRefuse 3 (some .int) 2 := ⟨⟨mlX3_139, iniX3, w3_78, ⟨by decide +kernel, by decide +kernel, by decide +kernel⟩⟩, w3_77, w0_6⟩
theorem lL_66 : CLV RL 66 yX3_keyAt cX3_keyAt 6 (some .int) 3 := ⟨⟨mlL_66, iniX3, w3_85, ⟨by decide +kernel, by decide +kernel, by decide +kernel⟩⟩, w3_83, w3_84⟩
theorem lX3_142 : CLV RX3 142 yX0_rankBehind cX0_rankBehind 4 (some .int) 1 := ⟨⟨mlX3_142, iniX0, w3_89, ⟨by decide +kernel, by decide +kernel, by decide +kernel⟩⟩, w3_87, w3_88⟩
theorem lL_69 : CLV RL 69 yX3_tellBook cX3_tellBook 4 (some .int) 2 := ⟨⟨mlL_69, iniX3, w3_96, ⟨by decide +kernel, by decide +kernel, by decide +kernel⟩⟩, w3_94, w3_95⟩
theorem lL_72 : CLV RL 72 yX3_bookText cX3_bookText 6 (some (.object "java/lang/String")) 1 := ⟨⟨mlL_72, iniX3, w3_103, ⟨by decide +kernel, by decide +kernel, by decide +kernel⟩⟩, w3_101, w3_102⟩
theorem lX3_150 : CLI RX3 150 yJ4_init_da8c8 cJ4_init_da8c8 1 0 := ⟨⟨mlX3_150, iniJ4, w3_108, ⟨by decide +kernel, by decide +kernel, by decide +kernel⟩⟩, w3_107, by decide⟩
theorem lJ4_1 : CLI RJ4 1 yJ5_init_d00df cJ5_init_d00df 2 1 := ⟨⟨mlJ4_1, iniJ5, w3_111, ⟨by decide +kernel, by decide +kernel, by decide +kernel⟩⟩, w3_110, by decide⟩
theorem lJ5_26 : CLS RJ5 26 yJ2_newBytesFor_77867 cJ2_newBytesFor_77867 1 (some (.array .byte)) 1 := ⟨⟨mlJ5_26, iniJ2, w3_117, ⟨by decide +kernel, by decide +kernel, by decide +kernel⟩⟩, w3_116⟩
theorem lJ2_11 : CLS RJ2 11 yJ2_newBytesLength_0f7a4 cJ2_newBytesLength_0f7a4 1 (some .int) 1 := ⟨⟨mlJ2_11, iniJ2, w3_120, ⟨by decide +kernel, by decide +kernel, by decide +kernel⟩⟩, w3_119⟩
theorem lX3_151 : CLV RX3 151 yJ4_append_cf468 cJ4_append_cf468 2 (some (.object "java/lang/StringBuilder")) 1 := ⟨⟨mlX3_151, iniJ4, w3_138, ⟨by decide +kernel, by decide +kernel, by decide +kernel⟩⟩, w3_136, w3_137⟩
-- no link for Cond.methodLink "java/lang/StringBuilder" 50 <java/lang/AbstractStringBuilder|append|(C)Ljava/lang/AbstractStringBuilder;>
-- no link for Cond.methodLink "java/lang/AbstractStringBuilder" 100 <java/lang/AbstractStringBuilder|ensureCapacityInternal|(I)V>
-- no link for Cond.methodLink "java/lang/AbstractStringBuilder" 104 <java/lang/AbstractStringBuilder|newCapacity|(I)I>
theorem lJ5_114 : CLS RJ5 114 yJ8_newLength_cabcc cJ8_newLength_cabcc 4 (some .int) 3 := ⟨⟨mlJ5_114, iniJ8, w3_152, ⟨by decide +kernel, by decide +kernel, by decide +kernel⟩⟩, w3_151⟩
theorem lJ8_194 : CLS RJ8 194 yJ9_max_7cf53 cJ9_max_7cf53 2 (some .int) 2 := ⟨⟨mlJ8_194, iniMath, cdMax, ⟨by decide +kernel, by decide +kernel, by decide +kernel⟩⟩, stMax⟩
theorem lJ8_201 : CLS RJ8 201 yJ8_hugeLength_7cf53 cJ8_hugeLength_7cf53 3 (some .int) 2 := ⟨⟨mlJ8_201, iniJ8, w3_157, ⟨by decide +kernel, by decide +kernel, by decide +kernel⟩⟩, w3_156⟩
theorem lJ5_108 : CLS RJ5 108 yJ7_copyOf_9075b cJ7_copyOf_9075b 3 (some (.array .byte)) 2 := ⟨⟨mlJ5_108, iniJ7, w3_161, ⟨by decide +kernel, by decide +kernel, by decide +kernel⟩⟩, w3_160⟩
theorem lJ7_304 : CLS RJ7 304 yJ9_min_7cf53 cJ9_min_7cf53 2 (some .int) 2 := ⟨⟨mlJ7_304, iniMath, cdMin, ⟨by decide +kernel, by decide +kernel, by decide +kernel⟩⟩, stMin⟩
-- no link for Cond.methodLink "java/lang/AbstractStringBuilder" 83 <java/lang/AbstractStringBuilder|isLatin1|()Z>
theorem lJ5_191 : CLS RJ5 191 yJ1_canEncode_fc78d cJ1_canEncode_fc78d 1 (some .boolean) 1 := ⟨⟨mlJ5_191, iniJ1, w3_180, ⟨by decide +kernel, by decide +kernel, by decide +kernel⟩⟩, w3_179⟩
-- no link for Cond.methodLink "java/lang/AbstractStringBuilder" 195 <java/lang/AbstractStringBuilder|inflate|()V>
theorem lJ5_125 : CLS RJ5 125 yJ1_inflate_0e8fd cJ1_inflate_0e8fd 5 none 5 := ⟨⟨mlJ5_125, iniJ1, w3_187, ⟨by decide +kernel, by decide +kernel, by decide +kernel⟩⟩, w3_186⟩
theorem lJ1_240 : CLS RJ1 240 yJ2_inflate_0e8fd cJ2_inflate_0e8fd 6 none 5 := ⟨⟨mlJ1_240, iniJ2, w3_190, ⟨by decide +kernel, by decide +kernel, by decide +kernel⟩⟩, w3_189⟩
theorem lJ2_173 : CLS RJ2 173 yJ2_checkBoundsOffCount_d044e cJ2_checkBoundsOffCount_d044e 3 none 3 := ⟨⟨mlJ2_173, iniJ2, w3_193, ⟨by decide +kernel, by decide +kernel, by decide +kernel⟩⟩, w3_192⟩
theorem lJ2_48 : CLS RJ2 48 yJ2_length_9d52b cJ2_length_9d52b 1 (some .int) 1 := ⟨⟨mlJ2_48, iniJ2, w3_196, ⟨by decide +kernel, by decide +kernel, by decide +kernel⟩⟩, w3_195⟩
theorem lJ2_419 : CLS RJ2 419 yJ0_checkBoundsOffCount_cabcc cJ0_checkBoundsOffCount_cabcc 3 (some .int) 3 := ⟨⟨mlJ2_419, iniJ0, w3_199, ⟨by decide +kernel, by decide +kernel, by decide +kernel⟩⟩, w3_198⟩
theorem lJ0_1065 : CLS RJ0 1065 yJ3_checkFromIndexSize_8c36e cJ3_checkFromIndexSize_8c36e 4 (some .int) 4 := ⟨⟨mlJ0_1065, iniJ3, w3_204, ⟨by decide +kernel, by decide +kernel, by decide +kernel⟩⟩, w3_203⟩
theorem lJ2_111 : CLS RJ2 111 yJ2_putChar_b72d1 cJ2_putChar_b72d1 3 none 3 := ⟨⟨mlJ2_111, iniJ2, w3_207, ⟨by decide +kernel, by decide +kernel, by decide +kernel⟩⟩, w3_206⟩
theorem lJ5_197 : CLS RJ5 197 yJ2_putCharSB_b72d1 cJ2_putCharSB_b72d1 3 none 3 := ⟨⟨mlJ5_197, iniJ2, w3_216, ⟨by decide +kernel, by decide +kernel, by decide +kernel⟩⟩, w3_215⟩
theorem lJ2_67 : CLS RJ2 67 yJ2_checkIndex_2214a cJ2_checkIndex_2214a 2 none 2 := ⟨⟨mlJ2_67, iniJ2, w3_219, ⟨by decide +kernel, by decide +kernel, by decide +kernel⟩⟩, w3_218⟩
theorem lJ2_414 : CLS RJ2 414 yJ0_checkIndex_df160 cJ0_checkIndex_df160 2 none 2 := ⟨⟨mlJ2_414, iniJ0, w3_222, ⟨by decide +kernel, by decide +kernel, by decide +kernel⟩⟩, w3_221⟩
theorem lJ0_1059 : CLS RJ0 1059 yJ3_checkIndex_8e157 cJ3_checkIndex_8e157 3 (some .int) 3 := ⟨⟨mlJ0_1059, iniJ3, w3_225, ⟨by decide +kernel, by decide +kernel, by decide +kernel⟩⟩, w3_224⟩
theorem lX3_157 : CLV RX3 157 yJ4_append_15ec4 cJ4_append_15ec4 2 (some (.object "java/lang/StringBuilder")) 1 := ⟨⟨mlX3_157, iniJ4, w3_230, ⟨by decide +kernel, by decide +kernel, by decide +kernel⟩⟩, w3_228, w3_229⟩
-- no link for Cond.methodLink "java/lang/StringBuilder" 29 <java/lang/AbstractStringBuilder|append|(Ljava/lang/String;)Ljava/lang/AbstractStringBuilder;>
-- no link for Cond.methodLink "java/lang/AbstractStringBuilder" 204 <java/lang/AbstractStringBuilder|appendNull|()Ljava/lang/AbstractStringBuilder;>
theorem lJ5_226 : CLS RJ5 226 yJ2_putCharsAt_cd4e5 cJ2_putCharsAt_cd4e5 7 (some .int) 6 := ⟨⟨mlJ5_226, iniJ2, w4_0, ⟨by decide +kernel, by decide +kernel, by decide +kernel⟩⟩, w3_239⟩
theorem lJ2_96 : CLS RJ2 96 yJ2_checkBoundsBeginEnd_d044e cJ2_checkBoundsBeginEnd_d044e 3 none 3 := ⟨⟨mlJ2_96, iniJ2, w4_3, ⟨by decide +kernel, by decide +kernel, by decide +kernel⟩⟩, w4_2⟩
theorem lJ2_241 : CLS RJ2 241 yJ0_checkBoundsBeginEnd_23922 cJ0_checkBoundsBeginEnd_23922 3 none 3 := ⟨⟨mlJ2_241, iniJ0, w4_6, ⟨by decide +kernel, by decide +kernel, by decide +kernel⟩⟩, w4_5⟩
theorem lJ0_1062 : CLS RJ0 1062 yJ3_checkFromToIndex_8c36e cJ3_checkFromToIndex_8c36e 4 (some .int) 4 := ⟨⟨mlJ0_1062, iniJ3, w4_9, ⟨by decide +kernel, by decide +kernel, by decide +kernel⟩⟩, w4_8⟩
theorem lJ5_32 : CLV RJ5 32 yJ0_length_8abf5 cJ0_length_8abf5 1 (some .int) 0 := ⟨⟨mlJ5_32, iniJ0, w4_13, ⟨by decide +kernel, by decide +kernel, by decide +kernel⟩⟩, w4_11, w4_12⟩
theorem lJ0_335 : CLV RJ0 335 yJ0_coder_7d493 cJ0_coder_7d493 1 (some .byte) 0 := ⟨⟨mlJ0_335, iniJ0, w4_17, ⟨by decide +kernel, by decide +kernel, by decide +kernel⟩⟩, w4_15, w4_16⟩
-- no link for Cond.methodLink "java/lang/AbstractStringBuilder" 208 <java/lang/AbstractStringBuilder|putStringAt|(ILjava/lang/String;)V>
-- no link for Cond.methodLink "java/lang/AbstractStringBuilder" 397 <java/lang/AbstractStringBuilder|inflateIfNeededFor|(Ljava/lang/String;)V>
theorem lJ5_40 : CLV RJ5 40 yJ0_coder_7d493 cJ0_coder_7d493 1 (some .byte) 0 := ⟨⟨mlJ5_40, iniJ0, w4_17, ⟨by decide +kernel, by decide +kernel, by decide +kernel⟩⟩, w4_15, w4_16⟩
theorem lJ5_399 : CLV RJ5 399 yJ0_getBytes_840e7 cJ0_getBytes_840e7 4 none 3 := ⟨⟨mlJ5_399, iniJ0, w4_31, ⟨by decide +kernel, by decide +kernel, by decide +kernel⟩⟩, w4_29, w4_30⟩
theorem lJ0_106 : CLS RJ0 106 yJ1_inflate_0e8fd cJ1_inflate_0e8fd 5 none 5 := ⟨⟨mlJ0_106, iniJ1, w3_187, ⟨by decide +kernel, by decide +kernel, by decide +kernel⟩⟩, w3_186⟩
theorem lX3_160 : CLV RX3 160 yJ4_append_bf812 cJ4_append_bf812 2 (some (.object "java/lang/StringBuilder")) 1 := ⟨⟨mlX3_160, iniJ4, w4_37, ⟨by decide +kernel, by decide +kernel, by decide +kernel⟩⟩, w4_35, w4_36⟩
-- no link for Cond.methodLink "java/lang/StringBuilder" 53 <java/lang/AbstractStringBuilder|append|(I)Ljava/lang/AbstractStringBuilder;>
theorem lJ5_245 : CLS RJ5 245 yJ6_stringSize_0f7a4 cJ6_stringSize_0f7a4 4 (some .int) 1 := ⟨⟨mlJ5_245, iniJ6, w4_43, ⟨by decide +kernel, by decide +kernel, by decide +kernel⟩⟩, w4_42⟩
theorem lJ5_248 : CLS RJ5 248 yJ6_getChars_ba4f3 cJ6_getChars_ba4f3 7 (some .int) 3 := ⟨⟨mlJ5_248, iniJ6, w4_46, ⟨by decide +kernel, by decide +kernel, by decide +kernel⟩⟩, w4_45⟩
theorem lJ5_251 : CLS RJ5 251 yJ2_getChars_46870 cJ2_getChars_46870 5 (some .int) 4 := ⟨⟨mlJ5_251, iniJ2, w4_53, ⟨by decide +kernel, by decide +kernel, by decide +kernel⟩⟩, w4_52⟩
theorem lJ2_393 : CLS RJ2 393 yJ2_getChars_ba4f3 cJ2_getChars_ba4f3 7 (some .int) 3 := ⟨⟨mlJ2_393, iniJ2, w4_56, ⟨by decide +kernel, by decide +kernel, by decide +kernel⟩⟩, w4_55⟩
theorem lX3_163 : CLV RX3 163 yJ4_toString_0e30d cJ4_toString_0e30d 1 (some (.object "java/lang/String")) 0 := ⟨⟨mlX3_163, iniJ4, w4_62, ⟨by decide +kernel, by decide +kernel, by decide +kernel⟩⟩, w4_60, w4_61⟩
theorem lJ4_137 : CLI RJ4 137 yJ0_init_81219 cJ0_init_81219 2 1 := ⟨⟨mlJ4_137, iniJ0, w4_67, ⟨by decide +kernel, by decide +kernel, by decide +kernel⟩⟩, w4_66, by decide⟩
theorem lJ0_489 : CLI RJ0 489 yJ0_init_db425 cJ0_init_db425 5 2 := ⟨⟨mlJ0_489, iniJ0, w4_70, ⟨by decide +kernel, by decide +kernel, by decide +kernel⟩⟩, w4_69, by decide⟩
-- no link for Cond.methodLink "java/lang/String" 552 <java/lang/AbstractStringBuilder|getValue|()[B>
-- no link for Cond.methodLink "java/lang/String" 549 <java/lang/AbstractStringBuilder|length|()I>
-- no link for Cond.methodLink "java/lang/StringBuilder" 343 <java/lang/AbstractStringBuilder|length|()I>
-- no link for Cond.methodLink "java/lang/String" 1047 <java/lang/AbstractStringBuilder|isLatin1|()Z>
theorem lJ0_54 : CLS RJ0 54 yJ7_copyOfRange_39247 cJ7_copyOfRange_39247 3 (some (.array .byte)) 3 := ⟨⟨mlJ0_54, iniJ7, w4_88, ⟨by decide +kernel, by decide +kernel, by decide +kernel⟩⟩, w4_87⟩
theorem lJ7_339 : CLS RJ7 339 yJ7_copyOfRangeByte_39247 cJ7_copyOfRangeByte_39247 5 (some (.array .byte)) 3 := ⟨⟨mlJ7_339, iniJ7, w4_91, ⟨by decide +kernel, by decide +kernel, by decide +kernel⟩⟩, w4_90⟩
theorem lJ7_343 : CLS RJ7 343 yJ7_checkLength_df160 cJ7_checkLength_df160 2 none 2 := ⟨⟨mlJ7_343, iniJ7, w4_94, ⟨by decide +kernel, by decide +kernel, by decide +kernel⟩⟩, w4_93⟩
theorem lJ7_47 : CLI RJ7 47 yJ4_init_da8c8 cJ4_init_da8c8 1 0 := ⟨⟨mlJ7_47, iniJ4, w3_108, ⟨by decide +kernel, by decide +kernel, by decide +kernel⟩⟩, w3_107, by decide⟩
theorem lJ7_54 : CLV RJ7 54 yJ4_append_bf812 cJ4_append_bf812 2 (some (.object "java/lang/StringBuilder")) 1 := ⟨⟨mlJ7_54, iniJ4, w4_37, ⟨by decide +kernel, by decide +kernel, by decide +kernel⟩⟩, w4_35, w4_36⟩
theorem lJ7_50 : CLV RJ7 50 yJ4_append_15ec4 cJ4_append_15ec4 2 (some (.object "java/lang/StringBuilder")) 1 := ⟨⟨mlJ7_50, iniJ4, w3_230, ⟨by decide +kernel, by decide +kernel, by decide +kernel⟩⟩, w3_228, w3_229⟩
theorem lJ7_61 : CLV RJ7 61 yJ4_toString_0e30d cJ4_toString_0e30d 1 (some (.object "java/lang/String")) 0 := ⟨⟨mlJ7_61, iniJ4, w4_62, ⟨by decide +kernel, by decide +kernel, by decide +kernel⟩⟩, w4_60, w4_61⟩
theorem lJ0_1051 : CLS RJ0 1051 yJ2_compress_39247 cJ2_compress_39247 6 (some (.array .byte)) 3 := ⟨⟨mlJ0_1051, iniJ2, w4_105, ⟨by decide +kernel, by decide +kernel, by decide +kernel⟩⟩, w4_104⟩
theorem lJ2_123 : CLS RJ2 123 yJ2_compress_5af95 cJ2_compress_5af95 7 (some .int) 5 := ⟨⟨mlJ2_123, iniJ2, w4_108, ⟨by decide +kernel, by decide +kernel, by decide +kernel⟩⟩, w4_107⟩
theorem lJ2_71 : CLS RJ2 71 yJ2_getChar_3b067 cJ2_getChar_3b067 2 (some .char) 2 := ⟨⟨mlJ2_71, iniJ2, w4_111, ⟨by decide +kernel, by decide +kernel, by decide +kernel⟩⟩, w4_110⟩
theorem lJ2_126 : CLS RJ2 126 yJ7_copyOfRange_39247 cJ7_copyOfRange_39247 3 (some (.array .byte)) 3 := ⟨⟨mlJ2_126, iniJ7, w4_88, ⟨by decide +kernel, by decide +kernel, by decide +kernel⟩⟩, w4_87⟩
theorem lJ0_47 : CLS RJ0 47 yJ2_coderFromArrayLen_85cad cJ2_coderFromArrayLen_85cad 2 (some .byte) 2 := ⟨⟨mlJ0_47, iniJ2, w4_115, ⟨by decide +kernel, by decide +kernel, by decide +kernel⟩⟩, w4_114⟩
theorem lL_80 : CLV RL 80 yX3_sameBooks cX3_sameBooks 4 (some .boolean) 2 := ⟨⟨mlL_80, iniX3, w4_133, ⟨by decide +kernel, by decide +kernel, by decide +kernel⟩⟩, w4_131, w4_132⟩
theorem lL_84 : CLV RL 84 yX3_openView cX3_openView 15 (some .int) 6 := ⟨⟨mlL_84, iniX3, w4_140, ⟨by decide +kernel, by decide +kernel, by decide +kernel⟩⟩, w4_138, w4_139⟩
theorem lX3_171 : CLV RX3 171 yX3_viewAt cX3_viewAt 2 (some (.object "Bookgrafter$View")) 1 := ⟨⟨mlX3_171, iniX3, w4_144, ⟨by decide +kernel, by decide +kernel, by decide +kernel⟩⟩, w4_143, w0_7⟩
theorem lX3_175 : CLS RX3 175 yX3_checkKindAndBounds cX3_checkKindAndBounds 3 none 3 := ⟨⟨mlX3_175, iniX3, w4_148, ⟨by decide +kernel, by decide +kernel, by decide +kernel⟩⟩, w4_147⟩
theorem lL_88 : CLV RL 88 yX3_narrowView cX3_narrowView 10 (some .int) 4 := ⟨⟨mlL_88, iniX3, w4_155, ⟨by decide +kernel, by decide +kernel, by decide +kernel⟩⟩, w4_153, w4_154⟩
theorem lX3_191 : CLV RX3 191 yX1_isWithin cX1_isWithin 2 (some .boolean) 1 := ⟨⟨mlX3_191, iniX1, w4_159, ⟨by decide +kernel, by decide +kernel, by decide +kernel⟩⟩, w4_157, w4_158⟩
theorem lL_91 : CLV RL 91 yX3_buildFromView cX3_buildFromView 5 (some .int) 3 := ⟨⟨mlL_91, iniX3, w4_166, ⟨by decide +kernel, by decide +kernel, by decide +kernel⟩⟩, w4_164, w4_165⟩
theorem lL_94 : CLV RL 94 yX3_viewPut cX3_viewPut 6 (some .int) 3 := ⟨⟨mlL_94, iniX3, w4_173, ⟨by decide +kernel, by decide +kernel, by decide +kernel⟩⟩, w4_171, w4_172⟩
theorem lL_97 : CLV RL 97 yX3_viewTake cX3_viewTake 5 (some .int) 2 := ⟨⟨mlL_97, iniX3, w4_180, ⟨by decide +kernel, by decide +kernel, by decide +kernel⟩⟩, w4_178, w4_179⟩
theorem lL_100 : CLV RL 100 yX3_viewDrop cX3_viewDrop 4 (some .int) 2 := ⟨⟨mlL_100, iniX3, w4_187, ⟨by decide +kernel, by decide +kernel, by decide +kernel⟩⟩, w4_185, w4_186⟩
theorem lL_103 : CLV RL 103 yX3_viewNear cX3_viewNear 5 (some .int) 3 := ⟨⟨mlL_103, iniX3, w4_194, ⟨by decide +kernel, by decide +kernel, by decide +kernel⟩⟩, w4_192, w4_193⟩
theorem lL_106 : CLV RL 106 yX3_viewTell cX3_viewTell 4 (some .int) 2 := ⟨⟨mlL_106, iniX3, w4_201, ⟨by decide +kernel, by decide +kernel, by decide +kernel⟩⟩, w4_199, w4_200⟩
theorem lL_109 : CLV RL 109 yX3_startWalk cX3_startWalk 3 (some .int) 1 := ⟨⟨mlL_109, iniX3, w4_208, ⟨by decide +kernel, by decide +kernel, by decide +kernel⟩⟩, w4_206, w4_207⟩
theorem lX3_197 : CLV RX3 197 yX2_begin cX2_begin 2 none 1 := ⟨⟨mlX3_197, iniX2, w4_212, ⟨by decide +kernel, by decide +kernel, by decide +kernel⟩⟩, w4_210, w4_211⟩
theorem lL_113 : CLV RL 113 yX3_walkSet cX3_walkSet 2 (some .int) 1 := ⟨⟨mlL_113, iniX3, w4_219, ⟨by decide +kernel, by decide +kernel, by decide +kernel⟩⟩, w4_217, w4_218⟩
theorem lX3_210 : CLV RX3 210 yX2_setTold cX2_setTold 2 (some .int) 1 := ⟨⟨mlX3_210, iniX2, w4_223, ⟨by decide +kernel, by decide +kernel, by decide +kernel⟩⟩, w4_221, w4_222⟩
theorem lX2_39 : CLV RX2 39 yX0_come cX0_come 4 (some .int) 2 := ⟨⟨mlX2_39, iniX0, w2_2, ⟨by decide +kernel, by decide +kernel, by decide +kernel⟩⟩, w2_0, w2_1⟩
theorem lL_116 : CLV RL 116 yX3_freshShelf cX3_freshShelf 4 (some .int) 2 := ⟨⟨mlL_116, iniX3, w4_231, ⟨by decide +kernel, by decide +kernel, by decide +kernel⟩⟩, w4_229, w4_230⟩
theorem lX3_216 : CLV RX3 216 yX3_shelfAt cX3_shelfAt 2 (some (.object "Bookgrafter$Row")) 1 := ⟨⟨mlX3_216, iniX3, w4_235, ⟨by decide +kernel, by decide +kernel, by decide +kernel⟩⟩, w4_234, w0_8⟩
theorem lL_119 : CLV RL 119 yX3_buildShelf cX3_buildShelf 5 (some .int) 3 := ⟨⟨mlL_119, iniX3, w5_3, ⟨by decide +kernel, by decide +kernel, by decide +kernel⟩⟩, w5_1, w5_2⟩
theorem lL_122 : CLV RL 122 yX3_keysOf cX3_keysOf 4 (some .int) 2 := ⟨⟨mlL_122, iniX3, w5_10, ⟨by decide +kernel, by decide +kernel, by decide +kernel⟩⟩, w5_8, w5_9⟩
theorem lX3_222 : CLV RX3 222 yX0_copyOfKeys cX0_copyOfKeys 3 (some (.object "Bookgrafter$Row")) 0 := ⟨⟨mlX3_222, iniX0, w5_14, ⟨by decide +kernel, by decide +kernel, by decide +kernel⟩⟩, w5_12, w5_13⟩
theorem lL_125 : CLV RL 125 yX3_lay cX3_lay 7 (some .int) 5 := ⟨⟨mlL_125, iniX3, w5_21, ⟨by decide +kernel, by decide +kernel, by decide +kernel⟩⟩, w5_19, w5_20⟩
theorem lX3_226 : CLV RX3 226 yX0_addKeySteps cX0_addKeySteps 6 (some .int) 3 := ⟨⟨mlX3_226, iniX0, w5_25, ⟨by decide +kernel, by decide +kernel, by decide +kernel⟩⟩, w5_23, w5_24⟩
theorem lL_129 : CLV RL 129 yX3_shelfBoth cX3_shelfBoth 6 (some .int) 3 := ⟨⟨mlL_129, iniX3, w5_32, ⟨by decide +kernel, by decide +kernel, by decide +kernel⟩⟩, w5_30, w5_31⟩
theorem lL_132 : CLV RL 132 yX3_shelfDrop cX3_shelfDrop 4 (some .int) 2 := ⟨⟨mlL_132, iniX3, w5_39, ⟨by decide +kernel, by decide +kernel, by decide +kernel⟩⟩, w5_37, w5_38⟩
theorem lX3_229 : CLV RX3 229 yX0_dropKeyOfPart cX0_dropKeyOfPart 5 (some .int) 3 := ⟨⟨mlX3_229, iniX0, w5_43, ⟨by decide +kernel, by decide +kernel, by decide +kernel⟩⟩, w5_41, w5_42⟩
theorem lL_135 : CLV RL 135 yX3_shelfCut cX3_shelfCut 9 (some .int) 5 := ⟨⟨mlL_135, iniX3, w5_50, ⟨by decide +kernel, by decide +kernel, by decide +kernel⟩⟩, w5_48, w5_49⟩
theorem lL_138 : CLV RL 138 yX3_shelfNear cX3_shelfNear 5 (some .int) 3 := ⟨⟨mlL_138, iniX3, w5_57, ⟨by decide +kernel, by decide +kernel, by decide +kernel⟩⟩, w5_55, w5_56⟩
theorem lL_141 : CLV RL 141 yX3_shelfTell cX3_shelfTell 4 (some .int) 2 := ⟨⟨mlL_141, iniX3, w5_64, ⟨by decide +kernel, by decide +kernel, by decide +kernel⟩⟩, w5_62, w5_63⟩
theorem lL_144 : CLV RL 144 yX3_sameShelves cX3_sameShelves 6 (some .boolean) 3 := ⟨⟨mlL_144, iniX3, w5_71, ⟨by decide +kernel, by decide +kernel, by decide +kernel⟩⟩, w5_69, w5_70⟩
theorem lX3_235 : CLV RX3 235 yX0_hasKeysOf cX0_hasKeysOf 3 (some .boolean) 1 := ⟨⟨mlX3_235, iniX0, w5_75, ⟨by decide +kernel, by decide +kernel, by decide +kernel⟩⟩, w5_73, w5_74⟩
theorem lL_148 : CLV RL 148 yX3_house cX3_house 2 (some .int) 1 := ⟨⟨mlL_148, iniX3, w5_82, ⟨by decide +kernel, by decide +kernel, by decide +kernel⟩⟩, w5_80, w5_81⟩
theorem lL_154 : CLI RL 154 yX6_init cX6_init 2 0 := ⟨⟨mlL_154, iniX6, w5_87, ⟨by decide +kernel, by decide +kernel, by decide +kernel⟩⟩, w5_86, by decide⟩
theorem lX6_35 : CLI RX6 35 yX5_init cX5_init 3 1 := ⟨⟨mlX6_35, iniX5, w5_94, ⟨by decide +kernel, by decide +kernel, by decide +kernel⟩⟩, w5_93, by decide⟩
theorem lL_289 : CLV RL 289 yX6_thrown cX6_thrown 1 (some .int) 0 := ⟨⟨mlL_289, iniX6, w5_142, ⟨by decide +kernel, by decide +kernel, by decide +kernel⟩⟩, w5_140, w5_141⟩
theorem lL_161 : CLV RL 161 yX6_freshBook cX6_freshBook 4 (some .int) 2 := ⟨⟨mlL_161, iniX6, w5_146, ⟨by decide +kernel, by decide +kernel, by decide +kernel⟩⟩, w5_144, w5_145⟩
theorem lX6_60 : CLS RX6 60 yX6_isBook cX6_isBook 1 (some .boolean) 1 := ⟨⟨mlX6_60, iniX6, w5_149, ⟨by decide +kernel, by decide +kernel, by decide +kernel⟩⟩, w5_148⟩
theorem lX6_41 : CLS RX6 41 yX6_isIn cX6_isIn 3 (some .boolean) 3 := ⟨⟨mlX6_41, iniX6, w5_152, ⟨by decide +kernel, by decide +kernel, by decide +kernel⟩⟩, w5_151⟩
theorem lX6_63 : CLV RX6 63 yX6_isLet cX6_isLet 3 (some .boolean) 2 := ⟨⟨mlX6_63, iniX6, w5_156, ⟨by decide +kernel, by decide +kernel, by decide +kernel⟩⟩, w5_155, w0_9⟩
theorem lX6_67 : CLV RX6 67 yX5_many cX5_many 5 (some .int) 2 := ⟨⟨mlX6_67, iniX5, w5_160, ⟨by decide +kernel, by decide +kernel, by decide +kernel⟩⟩, w5_158, w5_159⟩
theorem lX5_19 : CLV RX5 19 yX5_key cX5_key 2 (some .int) 1 := ⟨⟨mlX5_19, iniX5, w5_164, ⟨by decide +kernel, by decide +kernel, by decide +kernel⟩⟩, w5_162, w5_163⟩
theorem lX5_23 : CLV RX5 23 yX5_has cX5_has 2 (some .boolean) 1 := ⟨⟨mlX5_23, iniX5, w5_168, ⟨by decide +kernel, by decide +kernel, by decide +kernel⟩⟩, w5_166, w5_167⟩
theorem lX6_71 : CLV RX6 71 yX6_did cX6_did 2 (some .int) 1 := ⟨⟨mlX6_71, iniX6, w5_172, ⟨by decide +kernel, by decide +kernel, by decide +kernel⟩⟩, w5_171, w0_10⟩
theorem lL_165 : CLV RL 165 yX6_buildBook cX6_buildBook 4 (some .int) 3 := ⟨⟨mlL_165, iniX6, w5_176, ⟨by decide +kernel, by decide +kernel, by decide +kernel⟩⟩, w5_174, w5_175⟩
theorem lX6_82 : CLS RX6 82 yX6_built cX6_built 2 (some (.object "BookgrafterModel$Book")) 2 := ⟨⟨mlX6_82, iniX6, w5_179, ⟨by decide +kernel, by decide +kernel, by decide +kernel⟩⟩, w5_178⟩
theorem lX6_78 : CLV RX6 78 yX5_like cX5_like 6 (some (.object "BookgrafterModel$Book")) 3 := ⟨⟨mlX6_78, iniX5, w5_183, ⟨by decide +kernel, by decide +kernel, by decide +kernel⟩⟩, w5_181, w5_182⟩
theorem lX5_45 : CLI RX5 45 yX5_init cX5_init 3 1 := ⟨⟨mlX5_45, iniX5, w5_94, ⟨by decide +kernel, by decide +kernel, by decide +kernel⟩⟩, w5_93, by decide⟩
theorem lL_168 : CLV RL 168 yX6_splitBook cX6_splitBook 8 (some .int) 3 := ⟨⟨mlL_168, iniX6, w5_189, ⟨by decide +kernel, by decide +kernel, by decide +kernel⟩⟩, w5_187, w5_188⟩
theorem lX6_86 : CLS RX6 86 yX6_isKey cX6_isKey 1 (some .boolean) 1 := ⟨⟨mlX6_86, iniX6, w5_192, ⟨by decide +kernel, by decide +kernel, by decide +kernel⟩⟩, w5_191⟩
theorem lX6_89 : CLV RX6 89 yX6_refuse cX6_refuse 1 (some .int) 0 := ⟨⟨mlX6_89, iniX6, w5_196, ⟨by decide +kernel, by decide +kernel, by decide +kernel⟩⟩, w5_195, w0_11⟩
theorem lX6_93 : CLV RX6 93 yX5_rank cX5_rank 2 (some .int) 1 := ⟨⟨mlX6_93, iniX5, w5_200, ⟨by decide +kernel, by decide +kernel, by decide +kernel⟩⟩, w5_198, w5_199⟩
theorem lX6_96 : CLV RX6 96 yX6_write cX6_write 2 none 1 := ⟨⟨mlX6_96, iniX6, w5_204, ⟨by decide +kernel, by decide +kernel, by decide +kernel⟩⟩, w5_203, w0_12⟩
theorem lX6_100 : CLV RX6 100 yX5_key cX5_key 2 (some .int) 1 := ⟨⟨mlX6_100, iniX5, w5_164, ⟨by decide +kernel, by decide +kernel, by decide +kernel⟩⟩, w5_162, w5_163⟩
theorem lX6_103 : CLV RX6 103 yX6_set cX6_set 5 (some .int) 3 := ⟨⟨mlX6_103, iniX6, w5_209, ⟨by decide +kernel, by decide +kernel, by decide +kernel⟩⟩, w5_208, w0_13⟩
theorem lX6_49 : CLV RX6 49 yX5_has cX5_has 2 (some .boolean) 1 := ⟨⟨mlX6_49, iniX5, w5_168, ⟨by decide +kernel, by decide +kernel, by decide +kernel⟩⟩, w5_166, w5_167⟩
theorem lL_172 : CLV RL 172 yX6_fill cX6_fill 8 (some .int) 5 := ⟨⟨mlL_172, iniX6, w5_214, ⟨by decide +kernel, by decide +kernel, by decide +kernel⟩⟩, w5_212, w5_213⟩
theorem lL_175 : CLV RL 175 yX6_pour cX6_pour 5 (some .int) 2 := ⟨⟨mlL_175, iniX6, w5_218, ⟨by decide +kernel, by decide +kernel, by decide +kernel⟩⟩, w5_216, w5_217⟩
theorem lL_179 : CLV RL 179 yX6_keep cX6_keep 6 (some .int) 3 := ⟨⟨mlL_179, iniX6, w5_222, ⟨by decide +kernel, by decide +kernel, by decide +kernel⟩⟩, w5_220, w5_221⟩
theorem lL_183 : CLV RL 183 yX6_put cX6_put 5 (some .int) 4 := ⟨⟨mlL_183, iniX6, w5_226, ⟨by decide +kernel, by decide +kernel, by decide +kernel⟩⟩, w5_224, w5_225⟩
theorem lX6_107 : CLV RX6 107 yX6_change cX6_change 6 (some .int) 4 := ⟨⟨mlX6_107, iniX6, w5_230, ⟨by decide +kernel, by decide +kernel, by decide +kernel⟩⟩, w5_229, w0_14⟩
theorem lL_186 : CLV RL 186 yX6_exchange cX6_exchange 5 (some .int) 4 := ⟨⟨mlL_186, iniX6, w5_234, ⟨by decide +kernel, by decide +kernel, by decide +kernel⟩⟩, w5_232, w5_233⟩
theorem lL_189 : CLV RL 189 yX6_take cX6_take 3 (some .int) 2 := ⟨⟨mlL_189, iniX6, w5_238, ⟨by decide +kernel, by decide +kernel, by decide +kernel⟩⟩, w5_236, w5_237⟩
theorem lL_192 : CLV RL 192 yX6_drop cX6_drop 3 (some .int) 2 := ⟨⟨mlL_192, iniX6, w6_2, ⟨by decide +kernel, by decide +kernel, by decide +kernel⟩⟩, w6_0, w6_1⟩
theorem lX6_120 : CLV RX6 120 yX6_dropped cX6_dropped 7 (some .int) 4 := ⟨⟨mlX6_120, iniX6, w6_6, ⟨by decide +kernel, by decide +kernel, by decide +kernel⟩⟩, w6_5, w0_15⟩
theorem lX6_111 : CLV RX6 111 yX5_first cX5_first 4 (some .int) 2 := ⟨⟨mlX6_111, iniX5, w6_10, ⟨by decide +kernel, by decide +kernel, by decide +kernel⟩⟩, w6_8, w6_9⟩
theorem lX6_114 : CLV RX6 114 yX5_last cX5_last 4 (some .int) 2 := ⟨⟨mlX6_114, iniX5, w6_14, ⟨by decide +kernel, by decide +kernel, by decide +kernel⟩⟩, w6_12, w6_13⟩
theorem lX6_117 : CLV RX6 117 yX5_pair cX5_pair 2 (some .int) 1 := ⟨⟨mlX6_117, iniX5, w6_18, ⟨by decide +kernel, by decide +kernel, by decide +kernel⟩⟩, w6_16, w6_17⟩
theorem lL_196 : CLV RL 196 yX6_has cX6_has 6 (some .boolean) 3 := ⟨⟨mlL_196, iniX6, w6_22, ⟨by decide +kernel, by decide +kernel, by decide +kernel⟩⟩, w6_20, w6_21⟩
theorem lL_200 : CLV RL 200 yX6_near cX6_near 5 (some .int) 4 := ⟨⟨mlL_200, iniX6, w6_26, ⟨by decide +kernel, by decide +kernel, by decide +kernel⟩⟩, w6_24, w6_25⟩
theorem lX6_124 : CLV RX6 124 yX5_near cX5_near 6 (some .int) 4 := ⟨⟨mlX6_124, iniX5, w6_30, ⟨by decide +kernel, by decide +kernel, by decide +kernel⟩⟩, w6_28, w6_29⟩
theorem lX5_27 : CLV RX5 27 yX5_rank cX5_rank 2 (some .int) 1 := ⟨⟨mlX5_27, iniX5, w5_200, ⟨by decide +kernel, by decide +kernel, by decide +kernel⟩⟩, w5_198, w5_199⟩
theorem lX5_30 : CLS RX5 30 yJ9_min_7cf53 cJ9_min_7cf53 2 (some .int) 2 := ⟨⟨mlX5_30, iniMath, cdMin, ⟨by decide +kernel, by decide +kernel, by decide +kernel⟩⟩, stMin⟩
theorem lX5_36 : CLV RX5 36 yX5_last cX5_last 4 (some .int) 2 := ⟨⟨mlX5_36, iniX5, w6_14, ⟨by decide +kernel, by decide +kernel, by decide +kernel⟩⟩, w6_12, w6_13⟩
theorem lX5_39 : CLS RX5 39 yJ9_max_7cf53 cJ9_max_7cf53 2 (some .int) 2 := ⟨⟨mlX5_39, iniMath, cdMax, ⟨by decide +kernel, by decide +kernel, by decide +kernel⟩⟩, stMax⟩
theorem lX5_42 : CLV RX5 42 yX5_first cX5_first 4 (some .int) 2 := ⟨⟨mlX5_42, iniX5, w6_10, ⟨by decide +kernel, by decide +kernel, by decide +kernel⟩⟩, w6_8, w6_9⟩
theorem lX6_128 : CLS RX6 128 yX6_told cX6_told 3 (some .int) 3 := ⟨⟨mlX6_128, iniX6, w6_38, ⟨by decide +kernel, by decide +kernel, by decide +kernel⟩⟩, w6_37⟩
theorem lL_204 : CLV RL 204 yX6_end cX6_end 5 (some .int) 3 := ⟨⟨mlL_204, iniX6, w6_42, ⟨by decide +kernel, by decide +kernel, by decide +kernel⟩⟩, w6_40, w6_41⟩
theorem lL_207 : CLV RL 207 yX6_keyAt cX6_keyAt 7 (some .int) 3 := ⟨⟨mlL_207, iniX6, w6_46, ⟨by decide +kernel, by decide +kernel, by decide +kernel⟩⟩, w6_44, w6_45⟩
theorem lL_210 : CLV RL 210 yX6_tellBook cX6_tellBook 4 (some .int) 2 := ⟨⟨mlL_210, iniX6, w6_50, ⟨by decide +kernel, by decide +kernel, by decide +kernel⟩⟩, w6_48, w6_49⟩
theorem lX6_131 : CLS RX6 131 yX6_hash cX6_hash 3 (some .int) 1 := ⟨⟨mlX6_131, iniX6, w6_53, ⟨by decide +kernel, by decide +kernel, by decide +kernel⟩⟩, w6_52⟩
theorem lL_214 : CLV RL 214 yX6_bookText cX6_bookText 5 (some (.object "java/lang/String")) 1 := ⟨⟨mlL_214, iniX6, w6_57, ⟨by decide +kernel, by decide +kernel, by decide +kernel⟩⟩, w6_55, w6_56⟩
theorem lX6_141 : CLI RX6 141 yJ4_init_a7421 cJ4_init_a7421 2 1 := ⟨⟨mlX6_141, iniJ4, w6_63, ⟨by decide +kernel, by decide +kernel, by decide +kernel⟩⟩, w6_62, by decide⟩
theorem lJ4_7 : CLI RJ4 7 yJ5_init_a7421 cJ5_init_a7421 5 1 := ⟨⟨mlJ4_7, iniJ5, w6_66, ⟨by decide +kernel, by decide +kernel, by decide +kernel⟩⟩, w6_65, by decide⟩
-- no link for Cond.methodLink "java/lang/AbstractStringBuilder" 43 <java/lang/AbstractStringBuilder|append|(Ljava/lang/String;)Ljava/lang/AbstractStringBuilder;>
theorem lJ4_23 : CLV RJ4 23 yJ4_append_15ec4 cJ4_append_15ec4 2 (some (.object "java/lang/StringBuilder")) 1 := ⟨⟨mlJ4_23, iniJ4, w3_230, ⟨by decide +kernel, by decide +kernel, by decide +kernel⟩⟩, w3_228, w3_229⟩
theorem lX6_144 : CLV RX6 144 yJ4_length_8abf5 cJ4_length_8abf5 1 (some .int) 0 := ⟨⟨mlX6_144, iniJ4, w4_82, ⟨by decide +kernel, by decide +kernel, by decide +kernel⟩⟩, w4_81, w6_239⟩
theorem lX6_149 : CLV RX6 149 yJ4_append_15ec4 cJ4_append_15ec4 2 (some (.object "java/lang/StringBuilder")) 1 := ⟨⟨mlX6_149, iniJ4, w3_230, ⟨by decide +kernel, by decide +kernel, by decide +kernel⟩⟩, w3_228, w3_229⟩
theorem lX6_153 : CLV RX6 153 yJ4_append_bf812 cJ4_append_bf812 2 (some (.object "java/lang/StringBuilder")) 1 := ⟨⟨mlX6_153, iniJ4, w4_37, ⟨by decide +kernel, by decide +kernel, by decide +kernel⟩⟩, w4_35, w4_36⟩
theorem lX6_160 : CLV RX6 160 yJ4_toString_0e30d cJ4_toString_0e30d 1 (some (.object "java/lang/String")) 0 := ⟨⟨mlX6_160, iniJ4, w4_62, ⟨by decide +kernel, by decide +kernel, by decide +kernel⟩⟩, w4_60, w4_61⟩
theorem lL_217 : CLV RL 217 yX6_sameBooks cX6_sameBooks 3 (some .boolean) 2 := ⟨⟨mlL_217, iniX6, w6_82, ⟨by decide +kernel, by decide +kernel, by decide +kernel⟩⟩, w6_80, w6_81⟩
theorem lX6_164 : CLS RX6 164 yX6_same cX6_same 3 (some .boolean) 2 := ⟨⟨mlX6_164, iniX6, w6_85, ⟨by decide +kernel, by decide +kernel, by decide +kernel⟩⟩, w6_84⟩
theorem lL_221 : CLV RL 221 yX6_openView cX6_openView 8 (some .int) 6 := ⟨⟨mlL_221, iniX6, w6_89, ⟨by decide +kernel, by decide +kernel, by decide +kernel⟩⟩, w6_87, w6_88⟩
theorem lX6_168 : CLS RX6 168 yX6_isView cX6_isView 1 (some .boolean) 1 := ⟨⟨mlX6_168, iniX6, w6_92, ⟨by decide +kernel, by decide +kernel, by decide +kernel⟩⟩, w6_91⟩
theorem lX6_171 : CLV RX6 171 yX6_seen cX6_seen 2 (some .int) 1 := ⟨⟨mlX6_171, iniX6, w6_96, ⟨by decide +kernel, by decide +kernel, by decide +kernel⟩⟩, w6_95, w0_16⟩
theorem lL_224 : CLV RL 224 yX6_narrowView cX6_narrowView 6 (some .int) 4 := ⟨⟨mlL_224, iniX6, w6_100, ⟨by decide +kernel, by decide +kernel, by decide +kernel⟩⟩, w6_98, w6_99⟩
theorem lX6_174 : CLV RX6 174 yX6_isWithin cX6_isWithin 3 (some .boolean) 2 := ⟨⟨mlX6_174, iniX6, w6_104, ⟨by decide +kernel, by decide +kernel, by decide +kernel⟩⟩, w6_103, w0_17⟩
theorem lL_227 : CLV RL 227 yX6_buildFromView cX6_buildFromView 4 (some .int) 3 := ⟨⟨mlL_227, iniX6, w6_108, ⟨by decide +kernel, by decide +kernel, by decide +kernel⟩⟩, w6_106, w6_107⟩
theorem lL_230 : CLV RL 230 yX6_viewPut cX6_viewPut 4 (some .int) 3 := ⟨⟨mlL_230, iniX6, w6_112, ⟨by decide +kernel, by decide +kernel, by decide +kernel⟩⟩, w6_110, w6_111⟩
theorem lL_233 : CLV RL 233 yX6_viewTake cX6_viewTake 5 (some .int) 2 := ⟨⟨mlL_233, iniX6, w6_116, ⟨by decide +kernel, by decide +kernel, by decide +kernel⟩⟩, w6_114, w6_115⟩
theorem lL_236 : CLV RL 236 yX6_viewDrop cX6_viewDrop 3 (some .int) 2 := ⟨⟨mlL_236, iniX6, w6_120, ⟨by decide +kernel, by decide +kernel, by decide +kernel⟩⟩, w6_118, w6_119⟩
theorem lL_239 : CLV RL 239 yX6_viewNear cX6_viewNear 4 (some .int) 3 := ⟨⟨mlL_239, iniX6, w6_124, ⟨by decide +kernel, by decide +kernel, by decide +kernel⟩⟩, w6_122, w6_123⟩
theorem lL_242 : CLV RL 242 yX6_viewTell cX6_viewTell 4 (some .int) 2 := ⟨⟨mlL_242, iniX6, w6_128, ⟨by decide +kernel, by decide +kernel, by decide +kernel⟩⟩, w6_126, w6_127⟩
theorem lX6_183 : CLV RX6 183 yX6_sum cX6_sum 4 (some .int) 1 := ⟨⟨mlX6_183, iniX6, w6_132, ⟨by decide +kernel, by decide +kernel, by decide +kernel⟩⟩, w6_131, w0_18⟩
theorem lX6_178 : CLS RX6 178 yJ9_max_7cf53 cJ9_max_7cf53 2 (some .int) 2 := ⟨⟨mlX6_178, iniMath, cdMax, ⟨by decide +kernel, by decide +kernel, by decide +kernel⟩⟩, stMax⟩
theorem lL_245 : CLV RL 245 yX6_startWalk cX6_startWalk 2 (some .int) 1 := ⟨⟨mlL_245, iniX6, w6_137, ⟨by decide +kernel, by decide +kernel, by decide +kernel⟩⟩, w6_135, w6_136⟩
theorem lL_250 : CLV RL 250 yX6_walkNext cX6_walkNext 2 (some .int) 0 := ⟨⟨mlL_250, iniX6, w6_141, ⟨by decide +kernel, by decide +kernel, by decide +kernel⟩⟩, w6_139, w6_140⟩
theorem lX6_189 : CLV RX6 189 yX6_isGoing cX6_isGoing 1 (some .boolean) 0 := ⟨⟨mlX6_189, iniX6, w6_145, ⟨by decide +kernel, by decide +kernel, by decide +kernel⟩⟩, w6_144, w0_19⟩
theorem lL_253 : CLV RL 253 yX6_walkSet cX6_walkSet 3 (some .int) 1 := ⟨⟨mlL_253, iniX6, w6_149, ⟨by decide +kernel, by decide +kernel, by decide +kernel⟩⟩, w6_147, w6_148⟩
theorem lL_257 : CLV RL 257 yX6_walkTake cX6_walkTake 2 (some .int) 0 := ⟨⟨mlL_257, iniX6, w6_153, ⟨by decide +kernel, by decide +kernel, by decide +kernel⟩⟩, w6_151, w6_152⟩
theorem lL_260 : CLV RL 260 yX6_freshShelf cX6_freshShelf 4 (some .int) 2 := ⟨⟨mlL_260, iniX6, w6_157, ⟨by decide +kernel, by decide +kernel, by decide +kernel⟩⟩, w6_155, w6_156⟩
theorem lX6_193 : CLS RX6 193 yX6_isShelf cX6_isShelf 1 (some .boolean) 1 := ⟨⟨mlX6_193, iniX6, w6_160, ⟨by decide +kernel, by decide +kernel, by decide +kernel⟩⟩, w6_159⟩
theorem lX6_196 : CLV RX6 196 yX6_laid cX6_laid 2 (some .int) 1 := ⟨⟨mlX6_196, iniX6, w6_164, ⟨by decide +kernel, by decide +kernel, by decide +kernel⟩⟩, w6_163, w0_20⟩
theorem lL_263 : CLV RL 263 yX6_buildShelf cX6_buildShelf 4 (some .int) 3 := ⟨⟨mlL_263, iniX6, w6_168, ⟨by decide +kernel, by decide +kernel, by decide +kernel⟩⟩, w6_166, w6_167⟩
theorem lL_266 : CLV RL 266 yX6_keysOf cX6_keysOf 4 (some .int) 2 := ⟨⟨mlL_266, iniX6, w6_172, ⟨by decide +kernel, by decide +kernel, by decide +kernel⟩⟩, w6_170, w6_171⟩
theorem lL_270 : CLV RL 270 yX6_lay cX6_lay 8 (some .int) 5 := ⟨⟨mlL_270, iniX6, w6_176, ⟨by decide +kernel, by decide +kernel, by decide +kernel⟩⟩, w6_174, w6_175⟩
theorem lL_273 : CLV RL 273 yX6_shelfBoth cX6_shelfBoth 6 (some .int) 3 := ⟨⟨mlL_273, iniX6, w6_180, ⟨by decide +kernel, by decide +kernel, by decide +kernel⟩⟩, w6_178, w6_179⟩
theorem lL_276 : CLV RL 276 yX6_shelfDrop cX6_shelfDrop 4 (some .int) 2 := ⟨⟨mlL_276, iniX6, w6_184, ⟨by decide +kernel, by decide +kernel, by decide +kernel⟩⟩, w6_182, w6_183⟩
theorem lX6_199 : CLS RX6 199 yX6_key cX6_key 1 (some .int) 1 := ⟨⟨mlX6_199, iniX6, w6_187, ⟨by decide +kernel, by decide +kernel, by decide +kernel⟩⟩, w6_186⟩
theorem lL_279 : CLV RL 279 yX6_shelfCut cX6_shelfCut 11 (some .int) 5 := ⟨⟨mlL_279, iniX6, w6_191, ⟨by decide +kernel, by decide +kernel, by decide +kernel⟩⟩, w6_189, w6_190⟩
theorem lL_282 : CLV RL 282 yX6_shelfNear cX6_shelfNear 4 (some .int) 3 := ⟨⟨mlL_282, iniX6, w6_195, ⟨by decide +kernel, by decide +kernel, by decide +kernel⟩⟩, w6_193, w6_194⟩
theorem lL_285 : CLV RL 285 yX6_shelfTell cX6_shelfTell 5 (some .int) 2 := ⟨⟨mlL_285, iniX6, w6_199, ⟨by decide +kernel, by decide +kernel, by decide +kernel⟩⟩, w6_197, w6_198⟩
theorem lX6_200 : CLS RX6 200 yX6_sum_ cX6_sum_ 3 (some .int) 1 := ⟨⟨mlX6_200, iniX6, w6_202, ⟨by decide +kernel, by decide +kernel, by decide +kernel⟩⟩, w6_201⟩
theorem lL_288 : CLV RL 288 yX6_sameShelves cX6_sameShelves 6 (some .boolean) 3 := ⟨⟨mlL_288, iniX6, w6_206, ⟨by decide +kernel, by decide +kernel, by decide +kernel⟩⟩, w6_204, w6_205⟩
theorem lL_294 : CLV RL 294 yX6_house cX6_house 2 (some .int) 1 := ⟨⟨mlL_294, iniX6, w6_210, ⟨by decide +kernel, by decide +kernel, by decide +kernel⟩⟩, w6_208, w6_209⟩
theorem lL_298 : CLV RL 298 yX6_knock cX6_knock 1 (some .int) 0 := ⟨⟨mlL_298, iniX6, w6_214, ⟨by decide +kernel, by decide +kernel, by decide +kernel⟩⟩, w6_212, w6_213⟩
theorem lL_303 : CLV RL 303 yX6_isSound cX6_isSound 1 (some .boolean) 0 := ⟨⟨mlL_303, iniX6, w6_218, ⟨by decide +kernel, by decide +kernel, by decide +kernel⟩⟩, w6_216, w6_217⟩
theorem lL_308 : CLV RL 308 yX6_digest cX6_digest 8 (some .long) 0 := ⟨⟨mlL_308, iniX6, w6_222, ⟨by decide +kernel, by decide +kernel, by decide +kernel⟩⟩, w6_220, w6_221⟩
theorem lX6_206 : CLS RX6 206 yX6_add cX6_add 4 (some .long) 2 := ⟨⟨mlX6_206, iniX6, w6_226, ⟨by decide +kernel, by decide +kernel, by decide +kernel⟩⟩, w6_225⟩
