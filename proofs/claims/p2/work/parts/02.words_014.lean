theorem mlL_247 : Cond.methodLink "BookgrafterLaw" 247 yL_startWalk ∈ Tt := inT4 (i := 202) rfl rfl
theorem w4_203 : Cond.static yL_startWalk ∈ Tt := inT4 (i := 203) rfl rfl
theorem w4_204 : Cond.codeWith yL_startWalk cL_startWalk 4 (some .int) [(0, 10, 13, 19)] ∈ Tt := inT4 (i := 204) rfl rfl
theorem mlL_109 : Cond.methodLink "BookgrafterLaw" 109 yX3_startWalk ∈ Tt := inT4 (i := 205) rfl rfl
theorem w4_206 : Cond.instanceMethod yX3_startWalk ∈ Tt := inT4 (i := 206) rfl rfl
theorem w4_207 : Cond.selects "Bookgrafter" yX3_startWalk yX3_startWalk ∈ Tt := inT4 (i := 207) rfl rfl
theorem w4_208 : Cond.code yX3_startWalk cX3_startWalk 3 (some .int) ∈ Tt := inT4 (i := 208) rfl rfl
theorem mlX3_197 : Cond.methodLink "Bookgrafter" 197 yX2_begin ∈ Tt := inT4 (i := 209) rfl rfl
theorem w4_210 : Cond.instanceMethod yX2_begin ∈ Tt := inT4 (i := 210) rfl rfl
theorem w4_211 : Cond.selects "Bookgrafter$Walk" yX2_begin yX2_begin ∈ Tt := inT4 (i := 211) rfl rfl
theorem w4_212 : Cond.code yX2_begin cX2_begin 2 none ∈ Tt := inT4 (i := 212) rfl rfl
theorem mlL_254 : Cond.methodLink "BookgrafterLaw" 254 yL_walkSet ∈ Tt := inT4 (i := 213) rfl rfl
theorem w4_214 : Cond.static yL_walkSet ∈ Tt := inT4 (i := 214) rfl rfl
theorem w4_215 : Cond.codeWith yL_walkSet cL_walkSet 4 (some .int) [(0, 10, 13, 21)] ∈ Tt := inT4 (i := 215) rfl rfl
theorem mlL_113 : Cond.methodLink "BookgrafterLaw" 113 yX3_walkSet ∈ Tt := inT4 (i := 216) rfl rfl
theorem w4_217 : Cond.instanceMethod yX3_walkSet ∈ Tt := inT4 (i := 217) rfl rfl
theorem w4_218 : Cond.selects "Bookgrafter" yX3_walkSet yX3_walkSet ∈ Tt := inT4 (i := 218) rfl rfl
theorem w4_219 : Cond.code yX3_walkSet cX3_walkSet 2 (some .int) ∈ Tt := inT4 (i := 219) rfl rfl
theorem mlX3_210 : Cond.methodLink "Bookgrafter" 210 yX2_setTold ∈ Tt := inT4 (i := 220) rfl rfl
theorem w4_221 : Cond.instanceMethod yX2_setTold ∈ Tt := inT4 (i := 221) rfl rfl
theorem w4_222 : Cond.selects "Bookgrafter$Walk" yX2_setTold yX2_setTold ∈ Tt := inT4 (i := 222) rfl rfl
theorem w4_223 : Cond.code yX2_setTold cX2_setTold 2 (some .int) ∈ Tt := inT4 (i := 223) rfl rfl
theorem mlX2_39 : Cond.methodLink "Bookgrafter$Walk" 39 yX0_come ∈ Tt := inT4 (i := 224) rfl rfl
theorem mlL_261 : Cond.methodLink "BookgrafterLaw" 261 yL_freshShelf ∈ Tt := inT4 (i := 225) rfl rfl
theorem w4_226 : Cond.static yL_freshShelf ∈ Tt := inT4 (i := 226) rfl rfl
theorem w4_227 : Cond.codeWith yL_freshShelf cL_freshShelf 5 (some .int) [(0, 11, 14, 19), (0, 11, 18, 21)] ∈ Tt := inT4 (i := 227) rfl rfl
theorem mlL_116 : Cond.methodLink "BookgrafterLaw" 116 yX3_freshShelf ∈ Tt := inT4 (i := 228) rfl rfl
theorem w4_229 : Cond.instanceMethod yX3_freshShelf ∈ Tt := inT4 (i := 229) rfl rfl
theorem w4_230 : Cond.selects "Bookgrafter" yX3_freshShelf yX3_freshShelf ∈ Tt := inT4 (i := 230) rfl rfl
theorem w4_231 : Cond.code yX3_freshShelf cX3_freshShelf 4 (some .int) ∈ Tt := inT4 (i := 231) rfl rfl
theorem mlX3_216 : Cond.methodLink "Bookgrafter" 216 yX3_shelfAt ∈ Tt := inT4 (i := 232) rfl rfl
theorem w4_234 : Cond.instanceMethod yX3_shelfAt ∈ Tt := inT4 (i := 234) rfl rfl
theorem w4_235 : Cond.code yX3_shelfAt cX3_shelfAt 2 (some (.object "Bookgrafter$Row")) ∈ Tt := inT4 (i := 235) rfl rfl
theorem mlL_264 : Cond.methodLink "BookgrafterLaw" 264 yL_buildShelf ∈ Tt := inT4 (i := 237) rfl rfl
theorem w4_238 : Cond.static yL_buildShelf ∈ Tt := inT4 (i := 238) rfl rfl
theorem w4_239 : Cond.codeWith yL_buildShelf cL_buildShelf 6 (some .int) [(0, 13, 16, 19), (0, 13, 20, 21)] ∈ Tt := inT4 (i := 239) rfl rfl
theorem mlL_119 : Cond.methodLink "BookgrafterLaw" 119 yX3_buildShelf ∈ Tt := inT5 (i := 0) rfl rfl
theorem w5_1 : Cond.instanceMethod yX3_buildShelf ∈ Tt := inT5 (i := 1) rfl rfl
theorem w5_2 : Cond.selects "Bookgrafter" yX3_buildShelf yX3_buildShelf ∈ Tt := inT5 (i := 2) rfl rfl
theorem w5_3 : Cond.code yX3_buildShelf cX3_buildShelf 5 (some .int) ∈ Tt := inT5 (i := 3) rfl rfl
theorem mlL_267 : Cond.methodLink "BookgrafterLaw" 267 yL_keysOf ∈ Tt := inT5 (i := 4) rfl rfl
theorem w5_5 : Cond.static yL_keysOf ∈ Tt := inT5 (i := 5) rfl rfl
theorem w5_6 : Cond.codeWith yL_keysOf cL_keysOf 5 (some .int) [(0, 11, 14, 19)] ∈ Tt := inT5 (i := 6) rfl rfl
theorem mlL_122 : Cond.methodLink "BookgrafterLaw" 122 yX3_keysOf ∈ Tt := inT5 (i := 7) rfl rfl
theorem w5_8 : Cond.instanceMethod yX3_keysOf ∈ Tt := inT5 (i := 8) rfl rfl
theorem w5_9 : Cond.selects "Bookgrafter" yX3_keysOf yX3_keysOf ∈ Tt := inT5 (i := 9) rfl rfl
theorem w5_10 : Cond.code yX3_keysOf cX3_keysOf 4 (some .int) ∈ Tt := inT5 (i := 10) rfl rfl
theorem mlX3_222 : Cond.methodLink "Bookgrafter" 222 yX0_copyOfKeys ∈ Tt := inT5 (i := 11) rfl rfl
theorem w5_12 : Cond.instanceMethod yX0_copyOfKeys ∈ Tt := inT5 (i := 12) rfl rfl
theorem w5_13 : Cond.selects "Bookgrafter$Row" yX0_copyOfKeys yX0_copyOfKeys ∈ Tt := inT5 (i := 13) rfl rfl
theorem w5_14 : Cond.code yX0_copyOfKeys cX0_copyOfKeys 3 (some (.object "Bookgrafter$Row")) ∈ Tt := inT5 (i := 14) rfl rfl
theorem mlL_270 : Cond.methodLink "BookgrafterLaw" 270 yL_lay ∈ Tt := inT5 (i := 15) rfl rfl
theorem w5_16 : Cond.static yL_lay ∈ Tt := inT5 (i := 16) rfl rfl
theorem w5_17 : Cond.codeWith yL_lay cL_lay 8 (some .int) [(0, 17, 20, 19), (0, 17, 24, 21)] ∈ Tt := inT5 (i := 17) rfl rfl
theorem mlL_125 : Cond.methodLink "BookgrafterLaw" 125 yX3_lay ∈ Tt := inT5 (i := 18) rfl rfl
theorem w5_19 : Cond.instanceMethod yX3_lay ∈ Tt := inT5 (i := 19) rfl rfl
theorem w5_20 : Cond.selects "Bookgrafter" yX3_lay yX3_lay ∈ Tt := inT5 (i := 20) rfl rfl
theorem w5_21 : Cond.code yX3_lay cX3_lay 7 (some .int) ∈ Tt := inT5 (i := 21) rfl rfl
theorem mlX3_226 : Cond.methodLink "Bookgrafter" 226 yX0_addKeySteps ∈ Tt := inT5 (i := 22) rfl rfl
theorem w5_23 : Cond.instanceMethod yX0_addKeySteps ∈ Tt := inT5 (i := 23) rfl rfl
