theorem mlX1_3 : Cond.methodLink "Bookgrafter$View" 3 objectInit ∈ Tt := inT1 (i := 66) rfl rfl
theorem flX1_9 : Cond.fieldLink "Bookgrafter$View" 9 "Bookgrafter$View" "row" "LBookgrafter$Row;" ∈ Tt := inT1 (i := 67) rfl rfl
theorem flX3_178 : Cond.fieldLink "Bookgrafter" 178 "Bookgrafter$View" "row" "LBookgrafter$Row;" ∈ Tt := inT1 (i := 68) rfl rfl
theorem flX1_19 : Cond.fieldLink "Bookgrafter$View" 19 "Bookgrafter$View" "low" "I" ∈ Tt := inT1 (i := 69) rfl rfl
theorem flX3_182 : Cond.fieldLink "Bookgrafter" 182 "Bookgrafter$View" "low" "I" ∈ Tt := inT1 (i := 70) rfl rfl
theorem flX1_15 : Cond.fieldLink "Bookgrafter$View" 15 "Bookgrafter$View" "high" "I" ∈ Tt := inT1 (i := 71) rfl rfl
theorem flX3_185 : Cond.fieldLink "Bookgrafter" 185 "Bookgrafter$View" "high" "I" ∈ Tt := inT1 (i := 72) rfl rfl
theorem w1_73 : Cond.lays "Bookgrafter$View" "Bookgrafter$View" "row" "LBookgrafter$Row;" ∈ Tt := inT1 (i := 73) rfl rfl
theorem w1_75 : Cond.lays "Bookgrafter$View" "Bookgrafter$View" "low" "I" ∈ Tt := inT1 (i := 75) rfl rfl
theorem w1_77 : Cond.lays "Bookgrafter$View" "Bookgrafter$View" "high" "I" ∈ Tt := inT1 (i := 77) rfl rfl
theorem w1_79 : Cond.superclass "Bookgrafter$View" "java/lang/Object" ∈ Tt := inT1 (i := 79) rfl rfl
theorem klX3_30 : Cond.classLink "Bookgrafter" 30 "Bookgrafter$Walk" ∈ Tt := inT1 (i := 80) rfl rfl
theorem insX2 : Cond.instantiable "Bookgrafter$Walk" 4 ∈ Tt := inT1 (i := 81) rfl rfl
theorem w1_83 : Cond.instanceMethod yX2_init ∈ Tt := inT1 (i := 83) rfl rfl
theorem w1_84 : Cond.code yX2_init cX2_init 1 none ∈ Tt := inT1 (i := 84) rfl rfl
theorem mlX2_3 : Cond.methodLink "Bookgrafter$Walk" 3 objectInit ∈ Tt := inT1 (i := 85) rfl rfl
theorem flX2_9 : Cond.fieldLink "Bookgrafter$Walk" 9 "Bookgrafter$Walk" "row" "LBookgrafter$Row;" ∈ Tt := inT1 (i := 86) rfl rfl
theorem flX2_21 : Cond.fieldLink "Bookgrafter$Walk" 21 "Bookgrafter$Walk" "knownChanges" "I" ∈ Tt := inT1 (i := 87) rfl rfl
theorem flX2_24 : Cond.fieldLink "Bookgrafter$Walk" 24 "Bookgrafter$Walk" "lastRank" "I" ∈ Tt := inT1 (i := 88) rfl rfl
theorem flX2_27 : Cond.fieldLink "Bookgrafter$Walk" 27 "Bookgrafter$Walk" "isLastTold" "Z" ∈ Tt := inT1 (i := 89) rfl rfl
theorem w1_90 : Cond.lays "Bookgrafter$Walk" "Bookgrafter$Walk" "row" "LBookgrafter$Row;" ∈ Tt := inT1 (i := 90) rfl rfl
theorem w1_92 : Cond.lays "Bookgrafter$Walk" "Bookgrafter$Walk" "knownChanges" "I" ∈ Tt := inT1 (i := 92) rfl rfl
theorem w1_94 : Cond.lays "Bookgrafter$Walk" "Bookgrafter$Walk" "lastRank" "I" ∈ Tt := inT1 (i := 94) rfl rfl
theorem w1_96 : Cond.lays "Bookgrafter$Walk" "Bookgrafter$Walk" "isLastTold" "Z" ∈ Tt := inT1 (i := 96) rfl rfl
theorem w1_98 : Cond.superclass "Bookgrafter$Walk" "java/lang/Object" ∈ Tt := inT1 (i := 98) rfl rfl
theorem flX3_11 : Cond.fieldLink "Bookgrafter" 11 "Bookgrafter" "books" "[LBookgrafter$Row;" ∈ Tt := inT1 (i := 99) rfl rfl
theorem flX3_18 : Cond.fieldLink "Bookgrafter" 18 "Bookgrafter" "shelves" "[LBookgrafter$Row;" ∈ Tt := inT1 (i := 100) rfl rfl
theorem flX3_23 : Cond.fieldLink "Bookgrafter" 23 "Bookgrafter" "views" "[LBookgrafter$View;" ∈ Tt := inT1 (i := 101) rfl rfl
theorem flX3_33 : Cond.fieldLink "Bookgrafter" 33 "Bookgrafter" "walk" "LBookgrafter$Walk;" ∈ Tt := inT1 (i := 102) rfl rfl
theorem flX3_45 : Cond.fieldLink "Bookgrafter" 45 "Bookgrafter" "bookActs" "I" ∈ Tt := inT1 (i := 103) rfl rfl
theorem flX3_219 : Cond.fieldLink "Bookgrafter" 219 "Bookgrafter" "shelfActs" "I" ∈ Tt := inT1 (i := 104) rfl rfl
theorem flX3_294 : Cond.fieldLink "Bookgrafter" 294 "Bookgrafter" "refusals" "I" ∈ Tt := inT1 (i := 105) rfl rfl
theorem flX3_241 : Cond.fieldLink "Bookgrafter" 241 "Bookgrafter" "knocks" "I" ∈ Tt := inT1 (i := 106) rfl rfl
theorem w1_107 : Cond.laysFinal "Bookgrafter" "Bookgrafter" "books" "[LBookgrafter$Row;" ∈ Tt := inT1 (i := 107) rfl rfl
theorem w1_109 : Cond.laysFinal "Bookgrafter" "Bookgrafter" "shelves" "[LBookgrafter$Row;" ∈ Tt := inT1 (i := 109) rfl rfl
theorem w1_111 : Cond.laysFinal "Bookgrafter" "Bookgrafter" "views" "[LBookgrafter$View;" ∈ Tt := inT1 (i := 111) rfl rfl
theorem w1_113 : Cond.laysFinal "Bookgrafter" "Bookgrafter" "walk" "LBookgrafter$Walk;" ∈ Tt := inT1 (i := 113) rfl rfl
theorem w1_115 : Cond.lays "Bookgrafter" "Bookgrafter" "bookActs" "I" ∈ Tt := inT1 (i := 115) rfl rfl
theorem w1_117 : Cond.lays "Bookgrafter" "Bookgrafter" "shelfActs" "I" ∈ Tt := inT1 (i := 117) rfl rfl
theorem w1_119 : Cond.lays "Bookgrafter" "Bookgrafter" "refusals" "I" ∈ Tt := inT1 (i := 119) rfl rfl
theorem w1_121 : Cond.lays "Bookgrafter" "Bookgrafter" "knocks" "I" ∈ Tt := inT1 (i := 121) rfl rfl
theorem w1_123 : Cond.superclass "Bookgrafter" "java/lang/Object" ∈ Tt := inT1 (i := 123) rfl rfl
theorem mlL_250 : Cond.methodLink "BookgrafterLaw" 250 yX3_walkNext ∈ Tt := inT1 (i := 124) rfl rfl
theorem w1_125 : Cond.instanceMethod yX3_walkNext ∈ Tt := inT1 (i := 125) rfl rfl
theorem w1_126 : Cond.selects "Bookgrafter" yX3_walkNext yX3_walkNext ∈ Tt := inT1 (i := 126) rfl rfl
theorem w1_127 : Cond.code yX3_walkNext cX3_walkNext 1 (some .int) ∈ Tt := inT1 (i := 127) rfl rfl
theorem mlX3_200 : Cond.methodLink "Bookgrafter" 200 yX2_isGoing ∈ Tt := inT1 (i := 128) rfl rfl
theorem w1_129 : Cond.instanceMethod yX2_isGoing ∈ Tt := inT1 (i := 129) rfl rfl
theorem w1_130 : Cond.selects "Bookgrafter$Walk" yX2_isGoing yX2_isGoing ∈ Tt := inT1 (i := 130) rfl rfl
theorem w1_131 : Cond.code yX2_isGoing cX2_isGoing 1 (some .boolean) ∈ Tt := inT1 (i := 131) rfl rfl
theorem mlX3_63 : Cond.methodLink "Bookgrafter" 63 yX3_refuse ∈ Tt := inT1 (i := 132) rfl rfl
theorem w1_134 : Cond.instanceMethod yX3_refuse ∈ Tt := inT1 (i := 134) rfl rfl
theorem w1_135 : Cond.code yX3_refuse cX3_refuse 1 (some .int) ∈ Tt := inT1 (i := 135) rfl rfl
theorem mlX3_204 : Cond.methodLink "Bookgrafter" 204 yX2_tellNext ∈ Tt := inT1 (i := 136) rfl rfl
theorem w1_137 : Cond.instanceMethod yX2_tellNext ∈ Tt := inT1 (i := 137) rfl rfl
theorem w1_138 : Cond.selects "Bookgrafter$Walk" yX2_tellNext yX2_tellNext ∈ Tt := inT1 (i := 138) rfl rfl
theorem w1_139 : Cond.code yX2_tellNext cX2_tellNext 2 (some .int) ∈ Tt := inT1 (i := 139) rfl rfl
theorem mlX2_31 : Cond.methodLink "Bookgrafter$Walk" 31 yX0_firstInPart ∈ Tt := inT1 (i := 140) rfl rfl
theorem w1_141 : Cond.instanceMethod yX0_firstInPart ∈ Tt := inT1 (i := 141) rfl rfl
theorem w1_142 : Cond.selects "Bookgrafter$Row" yX0_firstInPart yX0_firstInPart ∈ Tt := inT1 (i := 142) rfl rfl
