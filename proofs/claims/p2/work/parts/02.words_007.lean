theorem w2_235 : Cond.codeWith yL_pour cL_pour 5 (some .int) [(0, 11, 14, 19)] ∈ Tt := inT2 (i := 235) rfl rfl
theorem mlL_34 : Cond.methodLink "BookgrafterLaw" 34 yX3_pour ∈ Tt := inT2 (i := 236) rfl rfl
theorem w2_237 : Cond.instanceMethod yX3_pour ∈ Tt := inT2 (i := 237) rfl rfl
theorem w2_238 : Cond.selects "Bookgrafter" yX3_pour yX3_pour ∈ Tt := inT2 (i := 238) rfl rfl
theorem w2_239 : Cond.code yX3_pour cX3_pour 5 (some .int) ∈ Tt := inT2 (i := 239) rfl rfl
theorem mlX3_96 : Cond.methodLink "Bookgrafter" 96 yX0_addPart ∈ Tt := inT3 (i := 0) rfl rfl
theorem mlL_180 : Cond.methodLink "BookgrafterLaw" 180 yL_keep ∈ Tt := inT3 (i := 1) rfl rfl
theorem w3_2 : Cond.static yL_keep ∈ Tt := inT3 (i := 2) rfl rfl
theorem w3_3 : Cond.codeWith yL_keep cL_keep 6 (some .int) [(0, 13, 16, 19)] ∈ Tt := inT3 (i := 3) rfl rfl
theorem mlL_37 : Cond.methodLink "BookgrafterLaw" 37 yX3_keep ∈ Tt := inT3 (i := 4) rfl rfl
theorem w3_5 : Cond.instanceMethod yX3_keep ∈ Tt := inT3 (i := 5) rfl rfl
theorem w3_6 : Cond.selects "Bookgrafter" yX3_keep yX3_keep ∈ Tt := inT3 (i := 6) rfl rfl
theorem w3_7 : Cond.code yX3_keep cX3_keep 6 (some .int) ∈ Tt := inT3 (i := 7) rfl rfl
theorem mlX3_100 : Cond.methodLink "Bookgrafter" 100 yX0_retain ∈ Tt := inT3 (i := 8) rfl rfl
theorem w3_9 : Cond.instanceMethod yX0_retain ∈ Tt := inT3 (i := 9) rfl rfl
theorem w3_10 : Cond.selects "Bookgrafter$Row" yX0_retain yX0_retain ∈ Tt := inT3 (i := 10) rfl rfl
theorem w3_11 : Cond.code yX0_retain cX0_retain 5 (some .int) ∈ Tt := inT3 (i := 11) rfl rfl
theorem mlL_184 : Cond.methodLink "BookgrafterLaw" 184 yL_put ∈ Tt := inT3 (i := 12) rfl rfl
theorem w3_13 : Cond.static yL_put ∈ Tt := inT3 (i := 13) rfl rfl
theorem w3_14 : Cond.codeWith yL_put cL_put 7 (some .int) [(0, 15, 18, 19), (0, 15, 22, 21)] ∈ Tt := inT3 (i := 14) rfl rfl
theorem mlL_41 : Cond.methodLink "BookgrafterLaw" 41 yX3_put ∈ Tt := inT3 (i := 15) rfl rfl
theorem w3_16 : Cond.instanceMethod yX3_put ∈ Tt := inT3 (i := 16) rfl rfl
theorem w3_17 : Cond.selects "Bookgrafter" yX3_put yX3_put ∈ Tt := inT3 (i := 17) rfl rfl
theorem w3_18 : Cond.code yX3_put cX3_put 9 (some .int) ∈ Tt := inT3 (i := 18) rfl rfl
theorem mlX3_107 : Cond.methodLink "Bookgrafter" 107 yX0_worthAt ∈ Tt := inT3 (i := 19) rfl rfl
theorem mlX3_110 : Cond.methodLink "Bookgrafter" 110 yX0_come ∈ Tt := inT3 (i := 20) rfl rfl
theorem mlL_188 : Cond.methodLink "BookgrafterLaw" 188 yL_exchange ∈ Tt := inT3 (i := 21) rfl rfl
theorem w3_22 : Cond.static yL_exchange ∈ Tt := inT3 (i := 22) rfl rfl
theorem w3_23 : Cond.codeWith yL_exchange cL_exchange 7 (some .int) [(0, 15, 18, 19), (0, 15, 22, 21)] ∈ Tt := inT3 (i := 23) rfl rfl
theorem mlL_45 : Cond.methodLink "BookgrafterLaw" 45 yX3_exchange ∈ Tt := inT3 (i := 24) rfl rfl
theorem w3_25 : Cond.instanceMethod yX3_exchange ∈ Tt := inT3 (i := 25) rfl rfl
theorem w3_26 : Cond.selects "Bookgrafter" yX3_exchange yX3_exchange ∈ Tt := inT3 (i := 26) rfl rfl
theorem w3_27 : Cond.code yX3_exchange cX3_exchange 7 (some .int) ∈ Tt := inT3 (i := 27) rfl rfl
theorem mlX3_113 : Cond.methodLink "Bookgrafter" 113 yX0_go ∈ Tt := inT3 (i := 28) rfl rfl
theorem mlL_191 : Cond.methodLink "BookgrafterLaw" 191 yL_take ∈ Tt := inT3 (i := 29) rfl rfl
theorem w3_30 : Cond.static yL_take ∈ Tt := inT3 (i := 30) rfl rfl
theorem w3_31 : Cond.codeWith yL_take cL_take 5 (some .int) [(0, 11, 14, 19), (0, 11, 18, 21)] ∈ Tt := inT3 (i := 31) rfl rfl
theorem mlL_48 : Cond.methodLink "BookgrafterLaw" 48 yX3_take ∈ Tt := inT3 (i := 32) rfl rfl
theorem w3_33 : Cond.instanceMethod yX3_take ∈ Tt := inT3 (i := 33) rfl rfl
theorem w3_34 : Cond.selects "Bookgrafter" yX3_take yX3_take ∈ Tt := inT3 (i := 34) rfl rfl
theorem w3_35 : Cond.code yX3_take cX3_take 4 (some .int) ∈ Tt := inT3 (i := 35) rfl rfl
theorem mlL_194 : Cond.methodLink "BookgrafterLaw" 194 yL_drop ∈ Tt := inT3 (i := 36) rfl rfl
theorem w3_37 : Cond.static yL_drop ∈ Tt := inT3 (i := 37) rfl rfl
theorem w3_38 : Cond.codeWith yL_drop cL_drop 5 (some .int) [(0, 11, 14, 19), (0, 11, 18, 21)] ∈ Tt := inT3 (i := 38) rfl rfl
theorem mlL_51 : Cond.methodLink "BookgrafterLaw" 51 yX3_drop ∈ Tt := inT3 (i := 39) rfl rfl
theorem w3_40 : Cond.instanceMethod yX3_drop ∈ Tt := inT3 (i := 40) rfl rfl
theorem w3_41 : Cond.selects "Bookgrafter" yX3_drop yX3_drop ∈ Tt := inT3 (i := 41) rfl rfl
theorem w3_42 : Cond.code yX3_drop cX3_drop 4 (some .int) ∈ Tt := inT3 (i := 42) rfl rfl
theorem mlX3_116 : Cond.methodLink "Bookgrafter" 116 yX0_dropOfPart ∈ Tt := inT3 (i := 43) rfl rfl
theorem w3_44 : Cond.instanceMethod yX0_dropOfPart ∈ Tt := inT3 (i := 44) rfl rfl
theorem w3_45 : Cond.selects "Bookgrafter$Row" yX0_dropOfPart yX0_dropOfPart ∈ Tt := inT3 (i := 45) rfl rfl
theorem w3_46 : Cond.code yX0_dropOfPart cX0_dropOfPart 6 (some .int) ∈ Tt := inT3 (i := 46) rfl rfl
theorem mlX0_76 : Cond.methodLink "Bookgrafter$Row" 76 yX0_clearPart ∈ Tt := inT3 (i := 47) rfl rfl
theorem mlX0_79 : Cond.methodLink "Bookgrafter$Row" 79 yX0_endOfPart ∈ Tt := inT3 (i := 48) rfl rfl
theorem mlX0_83 : Cond.methodLink "Bookgrafter$Row" 83 yX0_pairAt ∈ Tt := inT3 (i := 49) rfl rfl
theorem mlL_197 : Cond.methodLink "BookgrafterLaw" 197 yL_has ∈ Tt := inT3 (i := 50) rfl rfl
theorem w3_51 : Cond.static yL_has ∈ Tt := inT3 (i := 51) rfl rfl
theorem w3_52 : Cond.codeWith yL_has cL_has 6 (some .int) [(0, 20, 23, 19), (0, 20, 27, 21)] ∈ Tt := inT3 (i := 52) rfl rfl
theorem mlL_54 : Cond.methodLink "BookgrafterLaw" 54 yX3_has ∈ Tt := inT3 (i := 53) rfl rfl
theorem w3_54 : Cond.instanceMethod yX3_has ∈ Tt := inT3 (i := 54) rfl rfl
