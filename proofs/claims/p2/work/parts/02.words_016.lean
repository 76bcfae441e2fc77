theorem insX6 : Cond.instantiable "BookgrafterModel" 11 ∈ Tt := inT5 (i := 84) rfl rfl
theorem mlL_154 : Cond.methodLink "BookgrafterLaw" 154 yX6_init ∈ Tt := inT5 (i := 85) rfl rfl
theorem w5_86 : Cond.instanceMethod yX6_init ∈ Tt := inT5 (i := 86) rfl rfl
theorem w5_87 : Cond.code yX6_init cX6_init 2 none ∈ Tt := inT5 (i := 87) rfl rfl
theorem mlX6_3 : Cond.methodLink "BookgrafterModel" 3 objectInit ∈ Tt := inT5 (i := 88) rfl rfl
theorem klX6_9 : Cond.classLink "BookgrafterModel" 9 "BookgrafterModel$Book" ∈ Tt := inT5 (i := 89) rfl rfl
theorem insX5 : Cond.instantiable "BookgrafterModel$Book" 2 ∈ Tt := inT5 (i := 91) rfl rfl
theorem mlX6_35 : Cond.methodLink "BookgrafterModel" 35 yX5_init ∈ Tt := inT5 (i := 92) rfl rfl
theorem w5_93 : Cond.instanceMethod yX5_init ∈ Tt := inT5 (i := 93) rfl rfl
theorem w5_94 : Cond.code yX5_init cX5_init 3 none ∈ Tt := inT5 (i := 94) rfl rfl
theorem mlX5_3 : Cond.methodLink "BookgrafterModel$Book" 3 objectInit ∈ Tt := inT5 (i := 95) rfl rfl
theorem flX5_15 : Cond.fieldLink "BookgrafterModel$Book" 15 "BookgrafterModel$Book" "order" "I" ∈ Tt := inT5 (i := 96) rfl rfl
theorem flX5_9 : Cond.fieldLink "BookgrafterModel$Book" 9 "BookgrafterModel$Book" "worths" "[I" ∈ Tt := inT5 (i := 98) rfl rfl
theorem w5_100 : Cond.laysFinal "BookgrafterModel$Book" "BookgrafterModel$Book" "order" "I" ∈ Tt := inT5 (i := 100) rfl rfl
theorem w5_102 : Cond.laysFinal "BookgrafterModel$Book" "BookgrafterModel$Book" "worths" "[I" ∈ Tt := inT5 (i := 102) rfl rfl
theorem w5_104 : Cond.superclass "BookgrafterModel$Book" "java/lang/Object" ∈ Tt := inT5 (i := 104) rfl rfl
theorem flX6_11 : Cond.fieldLink "BookgrafterModel" 11 "BookgrafterModel" "books" "[LBookgrafterModel$Book;" ∈ Tt := inT5 (i := 105) rfl rfl
theorem flX6_15 : Cond.fieldLink "BookgrafterModel" 15 "BookgrafterModel" "shelves" "[LBookgrafterModel$Book;" ∈ Tt := inT5 (i := 106) rfl rfl
theorem flX6_18 : Cond.fieldLink "BookgrafterModel" 18 "BookgrafterModel" "viewed" "[LBookgrafterModel$Book;" ∈ Tt := inT5 (i := 107) rfl rfl
theorem flX6_21 : Cond.fieldLink "BookgrafterModel" 21 "BookgrafterModel" "from" "[I" ∈ Tt := inT5 (i := 108) rfl rfl
theorem flX6_25 : Cond.fieldLink "BookgrafterModel" 25 "BookgrafterModel" "to" "[I" ∈ Tt := inT5 (i := 109) rfl rfl
theorem flX6_45 : Cond.fieldLink "BookgrafterModel" 45 "BookgrafterModel" "walked" "LBookgrafterModel$Book;" ∈ Tt := inT5 (i := 110) rfl rfl
theorem flX6_56 : Cond.fieldLink "BookgrafterModel" 56 "BookgrafterModel" "isBroken" "Z" ∈ Tt := inT5 (i := 111) rfl rfl
theorem flX6_28 : Cond.fieldLink "BookgrafterModel" 28 "BookgrafterModel" "told" "I" ∈ Tt := inT5 (i := 112) rfl rfl
theorem flX6_186 : Cond.fieldLink "BookgrafterModel" 186 "BookgrafterModel" "behind" "I" ∈ Tt := inT5 (i := 113) rfl rfl
theorem flX6_32 : Cond.fieldLink "BookgrafterModel" 32 "BookgrafterModel" "counts" "[I" ∈ Tt := inT5 (i := 114) rfl rfl
theorem flX6_38 : Cond.fieldLink "BookgrafterModel" 38 "BookgrafterModel" "thrown" "I" ∈ Tt := inT5 (i := 115) rfl rfl
theorem w5_116 : Cond.laysFinal "BookgrafterModel" "BookgrafterModel" "books" "[LBookgrafterModel$Book;" ∈ Tt := inT5 (i := 116) rfl rfl
theorem w5_118 : Cond.laysFinal "BookgrafterModel" "BookgrafterModel" "shelves" "[LBookgrafterModel$Book;" ∈ Tt := inT5 (i := 118) rfl rfl
theorem w5_120 : Cond.laysFinal "BookgrafterModel" "BookgrafterModel" "viewed" "[LBookgrafterModel$Book;" ∈ Tt := inT5 (i := 120) rfl rfl
theorem w5_122 : Cond.laysFinal "BookgrafterModel" "BookgrafterModel" "from" "[I" ∈ Tt := inT5 (i := 122) rfl rfl
theorem w5_124 : Cond.laysFinal "BookgrafterModel" "BookgrafterModel" "to" "[I" ∈ Tt := inT5 (i := 124) rfl rfl
theorem w5_126 : Cond.lays "BookgrafterModel" "BookgrafterModel" "walked" "LBookgrafterModel$Book;" ∈ Tt := inT5 (i := 126) rfl rfl
theorem w5_128 : Cond.lays "BookgrafterModel" "BookgrafterModel" "isBroken" "Z" ∈ Tt := inT5 (i := 128) rfl rfl
theorem w5_130 : Cond.lays "BookgrafterModel" "BookgrafterModel" "told" "I" ∈ Tt := inT5 (i := 130) rfl rfl
theorem w5_132 : Cond.lays "BookgrafterModel" "BookgrafterModel" "behind" "I" ∈ Tt := inT5 (i := 132) rfl rfl
theorem w5_134 : Cond.laysFinal "BookgrafterModel" "BookgrafterModel" "counts" "[I" ∈ Tt := inT5 (i := 134) rfl rfl
theorem w5_136 : Cond.lays "BookgrafterModel" "BookgrafterModel" "thrown" "I" ∈ Tt := inT5 (i := 136) rfl rfl
theorem w5_138 : Cond.superclass "BookgrafterModel" "java/lang/Object" ∈ Tt := inT5 (i := 138) rfl rfl
theorem mlL_162 : Cond.methodLink "BookgrafterLaw" 162 yX6_thrown ∈ Tt := inT5 (i := 139) rfl rfl
theorem w5_140 : Cond.instanceMethod yX6_thrown ∈ Tt := inT5 (i := 140) rfl rfl
theorem w5_141 : Cond.selects "BookgrafterModel" yX6_thrown yX6_thrown ∈ Tt := inT5 (i := 141) rfl rfl
theorem w5_142 : Cond.code yX6_thrown cX6_thrown 1 (some .int) ∈ Tt := inT5 (i := 142) rfl rfl
theorem mlL_161 : Cond.methodLink "BookgrafterLaw" 161 yX6_freshBook ∈ Tt := inT5 (i := 143) rfl rfl
theorem w5_144 : Cond.instanceMethod yX6_freshBook ∈ Tt := inT5 (i := 144) rfl rfl
theorem w5_145 : Cond.selects "BookgrafterModel" yX6_freshBook yX6_freshBook ∈ Tt := inT5 (i := 145) rfl rfl
theorem w5_146 : Cond.code yX6_freshBook cX6_freshBook 4 (some .int) ∈ Tt := inT5 (i := 146) rfl rfl
theorem mlX6_60 : Cond.methodLink "BookgrafterModel" 60 yX6_isBook ∈ Tt := inT5 (i := 147) rfl rfl
theorem w5_148 : Cond.static yX6_isBook ∈ Tt := inT5 (i := 148) rfl rfl
theorem w5_149 : Cond.code yX6_isBook cX6_isBook 1 (some .boolean) ∈ Tt := inT5 (i := 149) rfl rfl
theorem mlX6_41 : Cond.methodLink "BookgrafterModel" 41 yX6_isIn ∈ Tt := inT5 (i := 150) rfl rfl
theorem w5_151 : Cond.static yX6_isIn ∈ Tt := inT5 (i := 151) rfl rfl
theorem w5_152 : Cond.code yX6_isIn cX6_isIn 3 (some .boolean) ∈ Tt := inT5 (i := 152) rfl rfl
theorem mlX6_63 : Cond.methodLink "BookgrafterModel" 63 yX6_isLet ∈ Tt := inT5 (i := 153) rfl rfl
theorem w5_155 : Cond.instanceMethod yX6_isLet ∈ Tt := inT5 (i := 155) rfl rfl
theorem w5_156 : Cond.code yX6_isLet cX6_isLet 3 (some .boolean) ∈ Tt := inT5 (i := 156) rfl rfl
theorem mlX6_67 : Cond.methodLink "BookgrafterModel" 67 yX5_many ∈ Tt := inT5 (i := 157) rfl rfl
theorem w5_158 : Cond.instanceMethod yX5_many ∈ Tt := inT5 (i := 158) rfl rfl
theorem w5_159 : Cond.selects "BookgrafterModel$Book" yX5_many yX5_many ∈ Tt := inT5 (i := 159) rfl rfl
theorem w5_160 : Cond.code yX5_many cX5_many 5 (some .int) ∈ Tt := inT5 (i := 160) rfl rfl
