theorem w2_172 : Cond.superclass "java/lang/IllegalArgumentException" "java/lang/RuntimeException" ∈ Tt := inT2 (i := 172) rfl rfl
theorem mlL_166 : Cond.methodLink "BookgrafterLaw" 166 yL_buildBook ∈ Tt := inT2 (i := 173) rfl rfl
theorem w2_174 : Cond.static yL_buildBook ∈ Tt := inT2 (i := 174) rfl rfl
theorem w2_175 : Cond.codeWith yL_buildBook cL_buildBook 6 (some .int) [(0, 13, 16, 19), (0, 13, 20, 21)] ∈ Tt := inT2 (i := 175) rfl rfl
theorem mlL_23 : Cond.methodLink "BookgrafterLaw" 23 yX3_buildBook ∈ Tt := inT2 (i := 176) rfl rfl
theorem w2_177 : Cond.instanceMethod yX3_buildBook ∈ Tt := inT2 (i := 177) rfl rfl
theorem w2_178 : Cond.selects "Bookgrafter" yX3_buildBook yX3_buildBook ∈ Tt := inT2 (i := 178) rfl rfl
theorem w2_179 : Cond.code yX3_buildBook cX3_buildBook 5 (some .int) ∈ Tt := inT2 (i := 179) rfl rfl
theorem mlX3_52 : Cond.methodLink "Bookgrafter" 52 yX3_builtOrder ∈ Tt := inT2 (i := 180) rfl rfl
theorem w2_181 : Cond.static yX3_builtOrder ∈ Tt := inT2 (i := 181) rfl rfl
theorem w2_182 : Cond.code yX3_builtOrder cX3_builtOrder 2 (some .int) ∈ Tt := inT2 (i := 182) rfl rfl
theorem mlL_170 : Cond.methodLink "BookgrafterLaw" 170 yL_splitBook ∈ Tt := inT2 (i := 183) rfl rfl
theorem w2_184 : Cond.static yL_splitBook ∈ Tt := inT2 (i := 184) rfl rfl
theorem w2_185 : Cond.codeWith yL_splitBook cL_splitBook 6 (some .int) [(0, 13, 16, 19), (0, 13, 20, 21)] ∈ Tt := inT2 (i := 185) rfl rfl
theorem mlL_27 : Cond.methodLink "BookgrafterLaw" 27 yX3_splitBook ∈ Tt := inT2 (i := 186) rfl rfl
theorem w2_187 : Cond.instanceMethod yX3_splitBook ∈ Tt := inT2 (i := 187) rfl rfl
theorem w2_188 : Cond.selects "Bookgrafter" yX3_splitBook yX3_splitBook ∈ Tt := inT2 (i := 188) rfl rfl
theorem w2_189 : Cond.code yX3_splitBook cX3_splitBook 6 (some .int) ∈ Tt := inT2 (i := 189) rfl rfl
theorem mlX3_60 : Cond.methodLink "Bookgrafter" 60 yX3_checkKey ∈ Tt := inT2 (i := 190) rfl rfl
theorem w2_191 : Cond.static yX3_checkKey ∈ Tt := inT2 (i := 191) rfl rfl
theorem w2_192 : Cond.code yX3_checkKey cX3_checkKey 1 none ∈ Tt := inT2 (i := 192) rfl rfl
theorem mlX3_67 : Cond.methodLink "Bookgrafter" 67 yX3_write ∈ Tt := inT2 (i := 194) rfl rfl
theorem w2_196 : Cond.instanceMethod yX3_write ∈ Tt := inT2 (i := 196) rfl rfl
theorem w2_197 : Cond.code yX3_write cX3_write 2 none ∈ Tt := inT2 (i := 197) rfl rfl
theorem mlX3_297 : Cond.methodLink "Bookgrafter" 297 yX2_forgetIfOn ∈ Tt := inT2 (i := 198) rfl rfl
theorem w2_199 : Cond.instanceMethod yX2_forgetIfOn ∈ Tt := inT2 (i := 199) rfl rfl
theorem w2_200 : Cond.selects "Bookgrafter$Walk" yX2_forgetIfOn yX2_forgetIfOn ∈ Tt := inT2 (i := 200) rfl rfl
theorem w2_201 : Cond.code yX2_forgetIfOn cX2_forgetIfOn 2 none ∈ Tt := inT2 (i := 201) rfl rfl
theorem mlX3_70 : Cond.methodLink "Bookgrafter" 70 yX0_rankOf ∈ Tt := inT2 (i := 202) rfl rfl
theorem mlX3_77 : Cond.methodLink "Bookgrafter" 77 yX0_clearPart ∈ Tt := inT2 (i := 203) rfl rfl
theorem w2_204 : Cond.instanceMethod yX0_clearPart ∈ Tt := inT2 (i := 204) rfl rfl
theorem w2_205 : Cond.selects "Bookgrafter$Row" yX0_clearPart yX0_clearPart ∈ Tt := inT2 (i := 205) rfl rfl
theorem w2_206 : Cond.code yX0_clearPart cX0_clearPart 5 (some .int) ∈ Tt := inT2 (i := 206) rfl rfl
theorem mlX0_73 : Cond.methodLink "Bookgrafter$Row" 73 yX0_go ∈ Tt := inT2 (i := 207) rfl rfl
theorem mlL_173 : Cond.methodLink "BookgrafterLaw" 173 yL_fill ∈ Tt := inT2 (i := 208) rfl rfl
theorem w2_209 : Cond.static yL_fill ∈ Tt := inT2 (i := 209) rfl rfl
theorem w2_210 : Cond.codeWith yL_fill cL_fill 8 (some .int) [(0, 17, 20, 19), (0, 17, 24, 21)] ∈ Tt := inT2 (i := 210) rfl rfl
theorem mlL_30 : Cond.methodLink "BookgrafterLaw" 30 yX3_fill ∈ Tt := inT2 (i := 211) rfl rfl
theorem w2_212 : Cond.instanceMethod yX3_fill ∈ Tt := inT2 (i := 212) rfl rfl
theorem w2_213 : Cond.selects "Bookgrafter" yX3_fill yX3_fill ∈ Tt := inT2 (i := 213) rfl rfl
theorem w2_214 : Cond.code yX3_fill cX3_fill 7 (some .int) ∈ Tt := inT2 (i := 214) rfl rfl
theorem mlX3_81 : Cond.methodLink "Bookgrafter" 81 yX3_checkSteps ∈ Tt := inT2 (i := 215) rfl rfl
theorem w2_216 : Cond.static yX3_checkSteps ∈ Tt := inT2 (i := 216) rfl rfl
theorem w2_217 : Cond.code yX3_checkSteps cX3_checkSteps 3 none ∈ Tt := inT2 (i := 217) rfl rfl
theorem mlX3_85 : Cond.methodLink "Bookgrafter" 85 yX3_checkWorthOrNone ∈ Tt := inT2 (i := 218) rfl rfl
theorem w2_219 : Cond.static yX3_checkWorthOrNone ∈ Tt := inT2 (i := 219) rfl rfl
theorem w2_220 : Cond.code yX3_checkWorthOrNone cX3_checkWorthOrNone 1 none ∈ Tt := inT2 (i := 220) rfl rfl
theorem mlX3_104 : Cond.methodLink "Bookgrafter" 104 yX3_checkWorth ∈ Tt := inT2 (i := 221) rfl rfl
theorem w2_222 : Cond.static yX3_checkWorth ∈ Tt := inT2 (i := 222) rfl rfl
theorem w2_223 : Cond.code yX3_checkWorth cX3_checkWorth 1 none ∈ Tt := inT2 (i := 223) rfl rfl
theorem mlX3_88 : Cond.methodLink "Bookgrafter" 88 yX0_removeSteps ∈ Tt := inT2 (i := 225) rfl rfl
theorem w2_226 : Cond.instanceMethod yX0_removeSteps ∈ Tt := inT2 (i := 226) rfl rfl
theorem w2_227 : Cond.selects "Bookgrafter$Row" yX0_removeSteps yX0_removeSteps ∈ Tt := inT2 (i := 227) rfl rfl
theorem w2_228 : Cond.code yX0_removeSteps cX0_removeSteps 6 (some .int) ∈ Tt := inT2 (i := 228) rfl rfl
theorem mlX3_92 : Cond.methodLink "Bookgrafter" 92 yX0_addSteps ∈ Tt := inT2 (i := 229) rfl rfl
theorem w2_230 : Cond.instanceMethod yX0_addSteps ∈ Tt := inT2 (i := 230) rfl rfl
theorem w2_231 : Cond.selects "Bookgrafter$Row" yX0_addSteps yX0_addSteps ∈ Tt := inT2 (i := 231) rfl rfl
theorem w2_232 : Cond.code yX0_addSteps cX0_addSteps 7 (some .int) ∈ Tt := inT2 (i := 232) rfl rfl
theorem mlL_177 : Cond.methodLink "BookgrafterLaw" 177 yL_pour ∈ Tt := inT2 (i := 233) rfl rfl
theorem w2_234 : Cond.static yL_pour ∈ Tt := inT2 (i := 234) rfl rfl
