theorem w2_24 : Cond.code yX3_bookFact cX3_bookFact 2 (some .int) ∈ Tt := inT2 (i := 24) rfl rfl
theorem mlX3_300 : Cond.methodLink "Bookgrafter" 300 yX0_hash ∈ Tt := inT2 (i := 25) rfl rfl
theorem w2_26 : Cond.instanceMethod yX0_hash ∈ Tt := inT2 (i := 26) rfl rfl
theorem w2_27 : Cond.selects "Bookgrafter$Row" yX0_hash yX0_hash ∈ Tt := inT2 (i := 27) rfl rfl
theorem w2_28 : Cond.code yX0_hash cX0_hash 3 (some .int) ∈ Tt := inT2 (i := 28) rfl rfl
theorem mlX3_261 : Cond.methodLink "Bookgrafter" 261 yX3_mixed ∈ Tt := inT2 (i := 29) rfl rfl
theorem w2_30 : Cond.static yX3_mixed ∈ Tt := inT2 (i := 30) rfl rfl
theorem w2_31 : Cond.code yX3_mixed cX3_mixed 3 (some .long) ∈ Tt := inT2 (i := 31) rfl rfl
theorem cLX3_320 : Cond.constantLong "Bookgrafter" 320 31 ∈ Tt := inT2 (i := 32) rfl rfl
theorem mlX3_129 : Cond.methodLink "Bookgrafter" 129 yX0_pairAt ∈ Tt := inT2 (i := 33) rfl rfl
theorem mlX3_257 : Cond.methodLink "Bookgrafter" 257 yX3_digestView ∈ Tt := inT2 (i := 34) rfl rfl
theorem w2_35 : Cond.static yX3_digestView ∈ Tt := inT2 (i := 35) rfl rfl
theorem w2_36 : Cond.code yX3_digestView cX3_digestView 6 (some .long) ∈ Tt := inT2 (i := 36) rfl rfl
theorem mlX3_194 : Cond.methodLink "Bookgrafter" 194 yX0_worthsOfPart ∈ Tt := inT2 (i := 37) rfl rfl
theorem w2_38 : Cond.instanceMethod yX0_worthsOfPart ∈ Tt := inT2 (i := 38) rfl rfl
theorem w2_39 : Cond.selects "Bookgrafter$Row" yX0_worthsOfPart yX0_worthsOfPart ∈ Tt := inT2 (i := 39) rfl rfl
theorem w2_40 : Cond.code yX0_worthsOfPart cX0_worthsOfPart 5 (some .int) ∈ Tt := inT2 (i := 40) rfl rfl
theorem mlX3_265 : Cond.methodLink "Bookgrafter" 265 yX2_toldKey ∈ Tt := inT2 (i := 41) rfl rfl
theorem w2_42 : Cond.instanceMethod yX2_toldKey ∈ Tt := inT2 (i := 42) rfl rfl
theorem w2_43 : Cond.selects "Bookgrafter$Walk" yX2_toldKey yX2_toldKey ∈ Tt := inT2 (i := 43) rfl rfl
theorem w2_44 : Cond.code yX2_toldKey cX2_toldKey 1 (some .int) ∈ Tt := inT2 (i := 44) rfl rfl
theorem mlX2_45 : Cond.methodLink "Bookgrafter$Walk" 45 yX0_keyOf ∈ Tt := inT2 (i := 45) rfl rfl
theorem mlX3_268 : Cond.methodLink "Bookgrafter" 268 yX3_digestShelf ∈ Tt := inT2 (i := 46) rfl rfl
theorem w2_47 : Cond.static yX3_digestShelf ∈ Tt := inT2 (i := 47) rfl rfl
theorem w2_48 : Cond.code yX3_digestShelf cX3_digestShelf 6 (some .long) ∈ Tt := inT2 (i := 48) rfl rfl
theorem mlX3_232 : Cond.methodLink "Bookgrafter" 232 yX3_shelfFact ∈ Tt := inT2 (i := 49) rfl rfl
theorem w2_50 : Cond.static yX3_shelfFact ∈ Tt := inT2 (i := 50) rfl rfl
theorem w2_51 : Cond.code yX3_shelfFact cX3_shelfFact 2 (some .int) ∈ Tt := inT2 (i := 51) rfl rfl
theorem mlX3_303 : Cond.methodLink "Bookgrafter" 303 yX0_sumOfKeys ∈ Tt := inT2 (i := 52) rfl rfl
theorem w2_53 : Cond.instanceMethod yX0_sumOfKeys ∈ Tt := inT2 (i := 53) rfl rfl
theorem w2_54 : Cond.selects "Bookgrafter$Row" yX0_sumOfKeys yX0_sumOfKeys ∈ Tt := inT2 (i := 54) rfl rfl
theorem w2_55 : Cond.code yX0_sumOfKeys cX0_sumOfKeys 3 (some .int) ∈ Tt := inT2 (i := 55) rfl rfl
theorem mlX3_238 : Cond.methodLink "Bookgrafter" 238 yX3_houseFact ∈ Tt := inT2 (i := 56) rfl rfl
theorem w2_58 : Cond.instanceMethod yX3_houseFact ∈ Tt := inT2 (i := 58) rfl rfl
theorem w2_59 : Cond.code yX3_houseFact cX3_houseFact 2 (some .int) ∈ Tt := inT2 (i := 59) rfl rfl
theorem mlX3_271 : Cond.methodLink "Bookgrafter" 271 yX3_isSound ∈ Tt := inT2 (i := 60) rfl rfl
theorem klL_14 : Cond.classLink "BookgrafterLaw" 14 "BookgrafterLaw$Out" ∈ Tt := inT2 (i := 61) rfl rfl
theorem insX4 : Cond.instantiable "BookgrafterLaw$Out" 2 ∈ Tt := inT2 (i := 62) rfl rfl
theorem w2_64 : Cond.instanceMethod yX4_init ∈ Tt := inT2 (i := 64) rfl rfl
theorem w2_65 : Cond.code yX4_init cX4_init 1 none ∈ Tt := inT2 (i := 65) rfl rfl
theorem mlX4_1 : Cond.methodLink "BookgrafterLaw$Out" 1 objectInit ∈ Tt := inT2 (i := 66) rfl rfl
theorem w2_69 : Cond.lays "BookgrafterLaw$Out" "BookgrafterLaw$Out" "n" "J" ∈ Tt := inT2 (i := 69) rfl rfl
theorem w2_71 : Cond.lays "BookgrafterLaw$Out" "BookgrafterLaw$Out" "s" "Ljava/lang/String;" ∈ Tt := inT2 (i := 71) rfl rfl
theorem w2_73 : Cond.superclass "BookgrafterLaw$Out" "java/lang/Object" ∈ Tt := inT2 (i := 73) rfl rfl
theorem mlL_156 : Cond.methodLink "BookgrafterLaw" 156 yL_freshBook ∈ Tt := inT2 (i := 74) rfl rfl
theorem w2_75 : Cond.static yL_freshBook ∈ Tt := inT2 (i := 75) rfl rfl
theorem w2_76 : Cond.codeWith yL_freshBook cL_freshBook 5 (some .int) [(0, 11, 14, 19), (0, 11, 18, 21)] ∈ Tt := inT2 (i := 76) rfl rfl
theorem klL_19 : Cond.classLink "BookgrafterLaw" 19 "java/lang/IndexOutOfBoundsException" ∈ Tt := inT2 (i := 77) rfl rfl
theorem klL_21 : Cond.classLink "BookgrafterLaw" 21 "java/lang/IllegalArgumentException" ∈ Tt := inT2 (i := 78) rfl rfl
theorem mlL_7 : Cond.methodLink "BookgrafterLaw" 7 yX3_freshBook ∈ Tt := inT2 (i := 79) rfl rfl
theorem w2_80 : Cond.instanceMethod yX3_freshBook ∈ Tt := inT2 (i := 80) rfl rfl
theorem w2_81 : Cond.selects "Bookgrafter" yX3_freshBook yX3_freshBook ∈ Tt := inT2 (i := 81) rfl rfl
theorem w2_82 : Cond.code yX3_freshBook cX3_freshBook 4 (some .int) ∈ Tt := inT2 (i := 82) rfl rfl
theorem mlX3_37 : Cond.methodLink "Bookgrafter" 37 yX3_bookAt ∈ Tt := inT2 (i := 83) rfl rfl
theorem w2_85 : Cond.instanceMethod yX3_bookAt ∈ Tt := inT2 (i := 85) rfl rfl
theorem w2_86 : Cond.code yX3_bookAt cX3_bookAt 2 (some (.object "Bookgrafter$Row")) ∈ Tt := inT2 (i := 86) rfl rfl
theorem klX3_274 : Cond.classLink "Bookgrafter" 274 "java/lang/IndexOutOfBoundsException" ∈ Tt := inT2 (i := 87) rfl rfl
theorem w2_88 : Cond.instantiable "java/lang/IndexOutOfBoundsException" 6 ∈ Tt := inT2 (i := 88) rfl rfl
theorem w2_96 : Cond.selects "java/lang/IndexOutOfBoundsException" ⟨"java/lang/Throwable", "fillInStackTrace", "(I)Ljava/lang/Throwable;"⟩ ⟨"java/lang/Throwable", "fillInStackTrace", "(I)Ljava/lang/Throwable;"⟩ ∈ Tt := inT2 (i := 96) rfl rfl
theorem w2_97 : Cond.selects "java/lang/IndexOutOfBoundsException" ⟨"java/lang/Throwable", "fillInStackTrace", "()Ljava/lang/Throwable;"⟩ ⟨"java/lang/Throwable", "fillInStackTrace", "()Ljava/lang/Throwable;"⟩ ∈ Tt := inT2 (i := 97) rfl rfl
