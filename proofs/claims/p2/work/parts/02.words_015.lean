theorem w5_24 : Cond.selects "Bookgrafter$Row" yX0_addKeySteps yX0_addKeySteps ∈ Tt := inT5 (i := 24) rfl rfl
theorem w5_25 : Cond.code yX0_addKeySteps cX0_addKeySteps 6 (some .int) ∈ Tt := inT5 (i := 25) rfl rfl
theorem mlL_274 : Cond.methodLink "BookgrafterLaw" 274 yL_shelfBoth ∈ Tt := inT5 (i := 26) rfl rfl
theorem w5_27 : Cond.static yL_shelfBoth ∈ Tt := inT5 (i := 27) rfl rfl
theorem w5_28 : Cond.codeWith yL_shelfBoth cL_shelfBoth 6 (some .int) [(0, 13, 16, 19), (0, 13, 20, 21)] ∈ Tt := inT5 (i := 28) rfl rfl
theorem mlL_129 : Cond.methodLink "BookgrafterLaw" 129 yX3_shelfBoth ∈ Tt := inT5 (i := 29) rfl rfl
theorem w5_30 : Cond.instanceMethod yX3_shelfBoth ∈ Tt := inT5 (i := 30) rfl rfl
theorem w5_31 : Cond.selects "Bookgrafter" yX3_shelfBoth yX3_shelfBoth ∈ Tt := inT5 (i := 31) rfl rfl
theorem w5_32 : Cond.code yX3_shelfBoth cX3_shelfBoth 6 (some .int) ∈ Tt := inT5 (i := 32) rfl rfl
theorem mlL_277 : Cond.methodLink "BookgrafterLaw" 277 yL_shelfDrop ∈ Tt := inT5 (i := 33) rfl rfl
theorem w5_34 : Cond.static yL_shelfDrop ∈ Tt := inT5 (i := 34) rfl rfl
theorem w5_35 : Cond.codeWith yL_shelfDrop cL_shelfDrop 5 (some .int) [(0, 11, 14, 19), (0, 11, 18, 21)] ∈ Tt := inT5 (i := 35) rfl rfl
theorem mlL_132 : Cond.methodLink "BookgrafterLaw" 132 yX3_shelfDrop ∈ Tt := inT5 (i := 36) rfl rfl
theorem w5_37 : Cond.instanceMethod yX3_shelfDrop ∈ Tt := inT5 (i := 37) rfl rfl
theorem w5_38 : Cond.selects "Bookgrafter" yX3_shelfDrop yX3_shelfDrop ∈ Tt := inT5 (i := 38) rfl rfl
theorem w5_39 : Cond.code yX3_shelfDrop cX3_shelfDrop 4 (some .int) ∈ Tt := inT5 (i := 39) rfl rfl
theorem mlX3_229 : Cond.methodLink "Bookgrafter" 229 yX0_dropKeyOfPart ∈ Tt := inT5 (i := 40) rfl rfl
theorem w5_41 : Cond.instanceMethod yX0_dropKeyOfPart ∈ Tt := inT5 (i := 41) rfl rfl
theorem w5_42 : Cond.selects "Bookgrafter$Row" yX0_dropKeyOfPart yX0_dropKeyOfPart ∈ Tt := inT5 (i := 42) rfl rfl
theorem w5_43 : Cond.code yX0_dropKeyOfPart cX0_dropKeyOfPart 5 (some .int) ∈ Tt := inT5 (i := 43) rfl rfl
theorem mlL_280 : Cond.methodLink "BookgrafterLaw" 280 yL_shelfCut ∈ Tt := inT5 (i := 44) rfl rfl
theorem w5_45 : Cond.static yL_shelfCut ∈ Tt := inT5 (i := 45) rfl rfl
theorem w5_46 : Cond.codeWith yL_shelfCut cL_shelfCut 8 (some .int) [(0, 17, 20, 19), (0, 17, 24, 21)] ∈ Tt := inT5 (i := 46) rfl rfl
theorem mlL_135 : Cond.methodLink "BookgrafterLaw" 135 yX3_shelfCut ∈ Tt := inT5 (i := 47) rfl rfl
theorem w5_48 : Cond.instanceMethod yX3_shelfCut ∈ Tt := inT5 (i := 48) rfl rfl
theorem w5_49 : Cond.selects "Bookgrafter" yX3_shelfCut yX3_shelfCut ∈ Tt := inT5 (i := 49) rfl rfl
theorem w5_50 : Cond.code yX3_shelfCut cX3_shelfCut 9 (some .int) ∈ Tt := inT5 (i := 50) rfl rfl
theorem mlL_283 : Cond.methodLink "BookgrafterLaw" 283 yL_shelfNear ∈ Tt := inT5 (i := 51) rfl rfl
theorem w5_52 : Cond.static yL_shelfNear ∈ Tt := inT5 (i := 52) rfl rfl
theorem w5_53 : Cond.codeWith yL_shelfNear cL_shelfNear 6 (some .int) [(0, 13, 16, 19), (0, 13, 20, 21)] ∈ Tt := inT5 (i := 53) rfl rfl
theorem mlL_138 : Cond.methodLink "BookgrafterLaw" 138 yX3_shelfNear ∈ Tt := inT5 (i := 54) rfl rfl
theorem w5_55 : Cond.instanceMethod yX3_shelfNear ∈ Tt := inT5 (i := 55) rfl rfl
theorem w5_56 : Cond.selects "Bookgrafter" yX3_shelfNear yX3_shelfNear ∈ Tt := inT5 (i := 56) rfl rfl
theorem w5_57 : Cond.code yX3_shelfNear cX3_shelfNear 5 (some .int) ∈ Tt := inT5 (i := 57) rfl rfl
theorem mlL_286 : Cond.methodLink "BookgrafterLaw" 286 yL_shelfTell ∈ Tt := inT5 (i := 58) rfl rfl
theorem w5_59 : Cond.static yL_shelfTell ∈ Tt := inT5 (i := 59) rfl rfl
theorem w5_60 : Cond.codeWith yL_shelfTell cL_shelfTell 5 (some .int) [(0, 11, 14, 19), (0, 11, 18, 21)] ∈ Tt := inT5 (i := 60) rfl rfl
theorem mlL_141 : Cond.methodLink "BookgrafterLaw" 141 yX3_shelfTell ∈ Tt := inT5 (i := 61) rfl rfl
theorem w5_62 : Cond.instanceMethod yX3_shelfTell ∈ Tt := inT5 (i := 62) rfl rfl
theorem w5_63 : Cond.selects "Bookgrafter" yX3_shelfTell yX3_shelfTell ∈ Tt := inT5 (i := 63) rfl rfl
theorem w5_64 : Cond.code yX3_shelfTell cX3_shelfTell 4 (some .int) ∈ Tt := inT5 (i := 64) rfl rfl
theorem mlL_289 : Cond.methodLink "BookgrafterLaw" 289 yL_sameShelves ∈ Tt := inT5 (i := 65) rfl rfl
theorem w5_66 : Cond.static yL_sameShelves ∈ Tt := inT5 (i := 66) rfl rfl
theorem w5_67 : Cond.codeWith yL_sameShelves cL_sameShelves 6 (some .int) [(0, 20, 23, 19), (0, 20, 27, 21)] ∈ Tt := inT5 (i := 67) rfl rfl
theorem mlL_144 : Cond.methodLink "BookgrafterLaw" 144 yX3_sameShelves ∈ Tt := inT5 (i := 68) rfl rfl
theorem w5_69 : Cond.instanceMethod yX3_sameShelves ∈ Tt := inT5 (i := 69) rfl rfl
theorem w5_70 : Cond.selects "Bookgrafter" yX3_sameShelves yX3_sameShelves ∈ Tt := inT5 (i := 70) rfl rfl
theorem w5_71 : Cond.code yX3_sameShelves cX3_sameShelves 6 (some .boolean) ∈ Tt := inT5 (i := 71) rfl rfl
theorem mlX3_235 : Cond.methodLink "Bookgrafter" 235 yX0_hasKeysOf ∈ Tt := inT5 (i := 72) rfl rfl
theorem w5_73 : Cond.instanceMethod yX0_hasKeysOf ∈ Tt := inT5 (i := 73) rfl rfl
theorem w5_74 : Cond.selects "Bookgrafter$Row" yX0_hasKeysOf yX0_hasKeysOf ∈ Tt := inT5 (i := 74) rfl rfl
theorem w5_75 : Cond.code yX0_hasKeysOf cX0_hasKeysOf 3 (some .boolean) ∈ Tt := inT5 (i := 75) rfl rfl
theorem mlL_292 : Cond.methodLink "BookgrafterLaw" 292 yL_house ∈ Tt := inT5 (i := 76) rfl rfl
theorem w5_77 : Cond.static yL_house ∈ Tt := inT5 (i := 77) rfl rfl
theorem w5_78 : Cond.codeWith yL_house cL_house 4 (some .int) [(0, 10, 13, 21)] ∈ Tt := inT5 (i := 78) rfl rfl
theorem mlL_148 : Cond.methodLink "BookgrafterLaw" 148 yX3_house ∈ Tt := inT5 (i := 79) rfl rfl
theorem w5_80 : Cond.instanceMethod yX3_house ∈ Tt := inT5 (i := 80) rfl rfl
theorem w5_81 : Cond.selects "Bookgrafter" yX3_house yX3_house ∈ Tt := inT5 (i := 81) rfl rfl
theorem w5_82 : Cond.code yX3_house cX3_house 2 (some .int) ∈ Tt := inT5 (i := 82) rfl rfl
theorem klL_152 : Cond.classLink "BookgrafterLaw" 152 "BookgrafterModel" ∈ Tt := inT5 (i := 83) rfl rfl
