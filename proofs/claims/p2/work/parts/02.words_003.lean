theorem mlX3_126 : Cond.methodLink "Bookgrafter" 126 yX0_nearInPart ∈ Tt := inT1 (i := 204) rfl rfl
theorem w1_205 : Cond.instanceMethod yX0_nearInPart ∈ Tt := inT1 (i := 205) rfl rfl
theorem w1_206 : Cond.selects "Bookgrafter$Row" yX0_nearInPart yX0_nearInPart ∈ Tt := inT1 (i := 206) rfl rfl
theorem w1_207 : Cond.code yX0_nearInPart cX0_nearInPart 6 (some .int) ∈ Tt := inT1 (i := 207) rfl rfl
theorem mlX0_29 : Cond.methodLink "Bookgrafter$Row" 29 yX0_rankOf ∈ Tt := inT1 (i := 208) rfl rfl
theorem w1_209 : Cond.instanceMethod yX0_rankOf ∈ Tt := inT1 (i := 209) rfl rfl
theorem w1_210 : Cond.selects "Bookgrafter$Row" yX0_rankOf yX0_rankOf ∈ Tt := inT1 (i := 210) rfl rfl
theorem w1_211 : Cond.code yX0_rankOf cX0_rankOf 2 (some .int) ∈ Tt := inT1 (i := 211) rfl rfl
theorem mlX0_55 : Cond.methodLink "Bookgrafter$Row" 55 yJ9_min_7cf53 ∈ Tt := inT1 (i := 212) rfl rfl
theorem stMin : Cond.static yJ9_min_7cf53 ∈ Tt := inT1 (i := 213) rfl rfl
theorem cdMin : Cond.code yJ9_min_7cf53 cJ9_min_7cf53 2 (some .int) ∈ Tt := inT1 (i := 214) rfl rfl
theorem mlX0_60 : Cond.methodLink "Bookgrafter$Row" 60 yJ9_max_7cf53 ∈ Tt := inT1 (i := 215) rfl rfl
theorem stMax : Cond.static yJ9_max_7cf53 ∈ Tt := inT1 (i := 216) rfl rfl
theorem cdMax : Cond.code yJ9_max_7cf53 cJ9_max_7cf53 2 (some .int) ∈ Tt := inT1 (i := 217) rfl rfl
theorem mlX3_119 : Cond.methodLink "Bookgrafter" 119 yX0_isThere ∈ Tt := inT1 (i := 218) rfl rfl
theorem mlX3_316 : Cond.methodLink "Bookgrafter" 316 yX0_isAhead ∈ Tt := inT1 (i := 219) rfl rfl
theorem w1_220 : Cond.instanceMethod yX0_isAhead ∈ Tt := inT1 (i := 220) rfl rfl
theorem w1_221 : Cond.selects "Bookgrafter$Row" yX0_isAhead yX0_isAhead ∈ Tt := inT1 (i := 221) rfl rfl
theorem w1_222 : Cond.code yX0_isAhead cX0_isAhead 3 (some .boolean) ∈ Tt := inT1 (i := 222) rfl rfl
theorem mlX3_310 : Cond.methodLink "Bookgrafter" 310 yX3_isToldBackwards ∈ Tt := inT1 (i := 223) rfl rfl
theorem w1_224 : Cond.static yX3_isToldBackwards ∈ Tt := inT1 (i := 224) rfl rfl
theorem w1_225 : Cond.code yX3_isToldBackwards cX3_isToldBackwards 4 (some .boolean) ∈ Tt := inT1 (i := 225) rfl rfl
theorem mlX3_313 : Cond.methodLink "Bookgrafter" 313 yX3_areNeighboursFound ∈ Tt := inT1 (i := 226) rfl rfl
theorem w1_227 : Cond.static yX3_areNeighboursFound ∈ Tt := inT1 (i := 227) rfl rfl
theorem w1_228 : Cond.code yX3_areNeighboursFound cX3_areNeighboursFound 7 (some .boolean) ∈ Tt := inT1 (i := 228) rfl rfl
theorem mlX3_56 : Cond.methodLink "Bookgrafter" 56 yX0_copyOfPart ∈ Tt := inT1 (i := 229) rfl rfl
theorem w1_230 : Cond.instanceMethod yX0_copyOfPart ∈ Tt := inT1 (i := 230) rfl rfl
theorem w1_231 : Cond.selects "Bookgrafter$Row" yX0_copyOfPart yX0_copyOfPart ∈ Tt := inT1 (i := 231) rfl rfl
theorem w1_232 : Cond.code yX0_copyOfPart cX0_copyOfPart 5 (some (.object "Bookgrafter$Row")) ∈ Tt := inT1 (i := 232) rfl rfl
theorem klX0_10 : Cond.classLink "Bookgrafter$Row" 10 "Bookgrafter$Row" ∈ Tt := inT1 (i := 233) rfl rfl
theorem mlX0_63 : Cond.methodLink "Bookgrafter$Row" 63 yX0_init ∈ Tt := inT1 (i := 234) rfl rfl
theorem mlX0_66 : Cond.methodLink "Bookgrafter$Row" 66 yX0_addPart ∈ Tt := inT1 (i := 235) rfl rfl
theorem w1_236 : Cond.instanceMethod yX0_addPart ∈ Tt := inT1 (i := 236) rfl rfl
theorem w1_237 : Cond.selects "Bookgrafter$Row" yX0_addPart yX0_addPart ∈ Tt := inT1 (i := 237) rfl rfl
theorem w1_238 : Cond.code yX0_addPart cX0_addPart 6 (some .int) ∈ Tt := inT1 (i := 238) rfl rfl
theorem mlX0_70 : Cond.methodLink "Bookgrafter$Row" 70 yX0_come ∈ Tt := inT1 (i := 239) rfl rfl
theorem w2_0 : Cond.instanceMethod yX0_come ∈ Tt := inT2 (i := 0) rfl rfl
theorem w2_1 : Cond.selects "Bookgrafter$Row" yX0_come yX0_come ∈ Tt := inT2 (i := 1) rfl rfl
theorem w2_2 : Cond.code yX0_come cX0_come 4 (some .int) ∈ Tt := inT2 (i := 2) rfl rfl
theorem mlX3_167 : Cond.methodLink "Bookgrafter" 167 yX0_isSameAs ∈ Tt := inT2 (i := 3) rfl rfl
theorem w2_4 : Cond.instanceMethod yX0_isSameAs ∈ Tt := inT2 (i := 4) rfl rfl
theorem w2_5 : Cond.selects "Bookgrafter$Row" yX0_isSameAs yX0_isSameAs ∈ Tt := inT2 (i := 5) rfl rfl
theorem w2_6 : Cond.code yX0_isSameAs cX0_isSameAs 3 (some .boolean) ∈ Tt := inT2 (i := 6) rfl rfl
theorem mlX3_247 : Cond.methodLink "Bookgrafter" 247 yX3_isViewSound ∈ Tt := inT2 (i := 7) rfl rfl
theorem w2_8 : Cond.static yX3_isViewSound ∈ Tt := inT2 (i := 8) rfl rfl
theorem w2_9 : Cond.code yX3_isViewSound cX3_isViewSound 2 (some .boolean) ∈ Tt := inT2 (i := 9) rfl rfl
theorem mlX3_188 : Cond.methodLink "Bookgrafter" 188 yX0_countOfPart ∈ Tt := inT2 (i := 10) rfl rfl
theorem w2_11 : Cond.instanceMethod yX0_countOfPart ∈ Tt := inT2 (i := 11) rfl rfl
theorem w2_12 : Cond.selects "Bookgrafter$Row" yX0_countOfPart yX0_countOfPart ∈ Tt := inT2 (i := 12) rfl rfl
theorem w2_13 : Cond.code yX0_countOfPart cX0_countOfPart 5 (some .int) ∈ Tt := inT2 (i := 13) rfl rfl
theorem mlL_304 : Cond.methodLink "BookgrafterLaw" 304 yX3_digest ∈ Tt := inT2 (i := 14) rfl rfl
theorem w2_15 : Cond.instanceMethod yX3_digest ∈ Tt := inT2 (i := 15) rfl rfl
theorem w2_16 : Cond.selects "Bookgrafter" yX3_digest yX3_digest ∈ Tt := inT2 (i := 16) rfl rfl
theorem w2_17 : Cond.code yX3_digest cX3_digest 4 (some .long) ∈ Tt := inT2 (i := 17) rfl rfl
theorem cLX3_251 : Cond.constantLong "Bookgrafter" 251 17706 ∈ Tt := inT2 (i := 18) rfl rfl
theorem mlX3_253 : Cond.methodLink "Bookgrafter" 253 yX3_digestBook ∈ Tt := inT2 (i := 19) rfl rfl
theorem w2_20 : Cond.static yX3_digestBook ∈ Tt := inT2 (i := 20) rfl rfl
theorem w2_21 : Cond.code yX3_digestBook cX3_digestBook 6 (some .long) ∈ Tt := inT2 (i := 21) rfl rfl
theorem mlX3_145 : Cond.methodLink "Bookgrafter" 145 yX3_bookFact ∈ Tt := inT2 (i := 22) rfl rfl
theorem w2_23 : Cond.static yX3_bookFact ∈ Tt := inT2 (i := 23) rfl rfl
