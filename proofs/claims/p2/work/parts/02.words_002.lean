theorem w1_143 : Cond.code yX0_firstInPart cX0_firstInPart 4 (some .int) ∈ Tt := inT1 (i := 143) rfl rfl
theorem mlX0_32 : Cond.methodLink "Bookgrafter$Row" 32 yX0_isThere ∈ Tt := inT1 (i := 144) rfl rfl
theorem w1_145 : Cond.instanceMethod yX0_isThere ∈ Tt := inT1 (i := 145) rfl rfl
theorem w1_146 : Cond.selects "Bookgrafter$Row" yX0_isThere yX0_isThere ∈ Tt := inT1 (i := 146) rfl rfl
theorem w1_147 : Cond.code yX0_isThere cX0_isThere 2 (some .boolean) ∈ Tt := inT1 (i := 147) rfl rfl
theorem mlX2_35 : Cond.methodLink "Bookgrafter$Walk" 35 yX0_pairAt ∈ Tt := inT1 (i := 148) rfl rfl
theorem w1_149 : Cond.instanceMethod yX0_pairAt ∈ Tt := inT1 (i := 149) rfl rfl
theorem w1_150 : Cond.selects "Bookgrafter$Row" yX0_pairAt yX0_pairAt ∈ Tt := inT1 (i := 150) rfl rfl
theorem w1_151 : Cond.code yX0_pairAt cX0_pairAt 2 (some .int) ∈ Tt := inT1 (i := 151) rfl rfl
theorem mlX0_36 : Cond.methodLink "Bookgrafter$Row" 36 yX0_keyOf ∈ Tt := inT1 (i := 152) rfl rfl
theorem w1_153 : Cond.instanceMethod yX0_keyOf ∈ Tt := inT1 (i := 153) rfl rfl
theorem w1_154 : Cond.selects "Bookgrafter$Row" yX0_keyOf yX0_keyOf ∈ Tt := inT1 (i := 154) rfl rfl
theorem w1_155 : Cond.code yX0_keyOf cX0_keyOf 2 (some .int) ∈ Tt := inT1 (i := 155) rfl rfl
theorem mlX0_25 : Cond.methodLink "Bookgrafter$Row" 25 yX0_turned ∈ Tt := inT1 (i := 156) rfl rfl
theorem w1_158 : Cond.instanceMethod yX0_turned ∈ Tt := inT1 (i := 158) rfl rfl
theorem w1_159 : Cond.code yX0_turned cX0_turned 2 (some .int) ∈ Tt := inT1 (i := 159) rfl rfl
theorem mlX0_39 : Cond.methodLink "Bookgrafter$Row" 39 yX0_worthAt ∈ Tt := inT1 (i := 160) rfl rfl
theorem w1_161 : Cond.instanceMethod yX0_worthAt ∈ Tt := inT1 (i := 161) rfl rfl
theorem w1_162 : Cond.selects "Bookgrafter$Row" yX0_worthAt yX0_worthAt ∈ Tt := inT1 (i := 162) rfl rfl
theorem w1_163 : Cond.code yX0_worthAt cX0_worthAt 2 (some .int) ∈ Tt := inT1 (i := 163) rfl rfl
theorem mlL_257 : Cond.methodLink "BookgrafterLaw" 257 yX3_walkTake ∈ Tt := inT1 (i := 164) rfl rfl
theorem w1_165 : Cond.instanceMethod yX3_walkTake ∈ Tt := inT1 (i := 165) rfl rfl
theorem w1_166 : Cond.selects "Bookgrafter" yX3_walkTake yX3_walkTake ∈ Tt := inT1 (i := 166) rfl rfl
theorem w1_167 : Cond.code yX3_walkTake cX3_walkTake 1 (some .int) ∈ Tt := inT1 (i := 167) rfl rfl
theorem mlX3_207 : Cond.methodLink "Bookgrafter" 207 yX2_isTelling ∈ Tt := inT1 (i := 168) rfl rfl
theorem w1_169 : Cond.instanceMethod yX2_isTelling ∈ Tt := inT1 (i := 169) rfl rfl
theorem w1_170 : Cond.selects "Bookgrafter$Walk" yX2_isTelling yX2_isTelling ∈ Tt := inT1 (i := 170) rfl rfl
theorem w1_171 : Cond.code yX2_isTelling cX2_isTelling 1 (some .boolean) ∈ Tt := inT1 (i := 171) rfl rfl
theorem mlX3_213 : Cond.methodLink "Bookgrafter" 213 yX2_removeTold ∈ Tt := inT1 (i := 172) rfl rfl
theorem w1_173 : Cond.instanceMethod yX2_removeTold ∈ Tt := inT1 (i := 173) rfl rfl
theorem w1_174 : Cond.selects "Bookgrafter$Walk" yX2_removeTold yX2_removeTold ∈ Tt := inT1 (i := 174) rfl rfl
theorem w1_175 : Cond.code yX2_removeTold cX2_removeTold 2 (some .int) ∈ Tt := inT1 (i := 175) rfl rfl
theorem mlX2_42 : Cond.methodLink "Bookgrafter$Walk" 42 yX0_go ∈ Tt := inT1 (i := 176) rfl rfl
theorem w1_177 : Cond.instanceMethod yX0_go ∈ Tt := inT1 (i := 177) rfl rfl
theorem w1_178 : Cond.selects "Bookgrafter$Row" yX0_go yX0_go ∈ Tt := inT1 (i := 178) rfl rfl
theorem w1_179 : Cond.code yX0_go cX0_go 3 (some .int) ∈ Tt := inT1 (i := 179) rfl rfl
theorem mlL_295 : Cond.methodLink "BookgrafterLaw" 295 yX3_knock ∈ Tt := inT1 (i := 180) rfl rfl
theorem w1_181 : Cond.instanceMethod yX3_knock ∈ Tt := inT1 (i := 181) rfl rfl
theorem w1_182 : Cond.selects "Bookgrafter" yX3_knock yX3_knock ∈ Tt := inT1 (i := 182) rfl rfl
theorem w1_183 : Cond.code yX3_knock cX3_knock 1 (some .int) ∈ Tt := inT1 (i := 183) rfl rfl
theorem mlL_299 : Cond.methodLink "BookgrafterLaw" 299 yX3_isSound ∈ Tt := inT1 (i := 184) rfl rfl
theorem w1_185 : Cond.instanceMethod yX3_isSound ∈ Tt := inT1 (i := 185) rfl rfl
theorem w1_186 : Cond.selects "Bookgrafter" yX3_isSound yX3_isSound ∈ Tt := inT1 (i := 186) rfl rfl
theorem w1_187 : Cond.code yX3_isSound cX3_isSound 2 (some .boolean) ∈ Tt := inT1 (i := 187) rfl rfl
theorem mlX3_244 : Cond.methodLink "Bookgrafter" 244 yX3_isRowSound ∈ Tt := inT1 (i := 188) rfl rfl
theorem w1_189 : Cond.static yX3_isRowSound ∈ Tt := inT1 (i := 189) rfl rfl
theorem w1_190 : Cond.code yX3_isRowSound cX3_isRowSound 1 (some .boolean) ∈ Tt := inT1 (i := 190) rfl rfl
theorem mlX3_306 : Cond.methodLink "Bookgrafter" 306 yX3_isToldInOrder ∈ Tt := inT1 (i := 191) rfl rfl
theorem w1_192 : Cond.static yX3_isToldInOrder ∈ Tt := inT1 (i := 192) rfl rfl
theorem w1_193 : Cond.code yX3_isToldInOrder cX3_isToldInOrder 7 (some .boolean) ∈ Tt := inT1 (i := 193) rfl rfl
theorem mlX3_135 : Cond.methodLink "Bookgrafter" 135 yX0_endOfPart ∈ Tt := inT1 (i := 194) rfl rfl
theorem w1_195 : Cond.instanceMethod yX0_endOfPart ∈ Tt := inT1 (i := 195) rfl rfl
theorem w1_196 : Cond.selects "Bookgrafter$Row" yX0_endOfPart yX0_endOfPart ∈ Tt := inT1 (i := 196) rfl rfl
theorem w1_197 : Cond.code yX0_endOfPart cX0_endOfPart 4 (some .int) ∈ Tt := inT1 (i := 197) rfl rfl
theorem mlX0_48 : Cond.methodLink "Bookgrafter$Row" 48 yX0_lastInPart ∈ Tt := inT1 (i := 198) rfl rfl
theorem w1_199 : Cond.instanceMethod yX0_lastInPart ∈ Tt := inT1 (i := 199) rfl rfl
theorem w1_200 : Cond.selects "Bookgrafter$Row" yX0_lastInPart yX0_lastInPart ∈ Tt := inT1 (i := 200) rfl rfl
theorem w1_201 : Cond.code yX0_lastInPart cX0_lastInPart 4 (some .int) ∈ Tt := inT1 (i := 201) rfl rfl
theorem mlX0_52 : Cond.methodLink "Bookgrafter$Row" 52 yX0_firstInPart ∈ Tt := inT1 (i := 202) rfl rfl
theorem mlX3_132 : Cond.methodLink "Bookgrafter" 132 yX0_keyOf ∈ Tt := inT1 (i := 203) rfl rfl
