theorem w4_11 : Cond.instanceMethod yJ0_length_8abf5 ∈ Tt := inT4 (i := 11) rfl rfl
theorem w4_12 : Cond.selects "java/lang/String" yJ0_length_8abf5 yJ0_length_8abf5 ∈ Tt := inT4 (i := 12) rfl rfl
theorem w4_13 : Cond.code yJ0_length_8abf5 cJ0_length_8abf5 1 (some .int) ∈ Tt := inT4 (i := 13) rfl rfl
theorem mlJ0_335 : Cond.methodLink "java/lang/String" 335 yJ0_coder_7d493 ∈ Tt := inT4 (i := 14) rfl rfl
theorem w4_15 : Cond.instanceMethod yJ0_coder_7d493 ∈ Tt := inT4 (i := 15) rfl rfl
theorem w4_16 : Cond.selects "java/lang/String" yJ0_coder_7d493 yJ0_coder_7d493 ∈ Tt := inT4 (i := 16) rfl rfl
theorem w4_17 : Cond.code yJ0_coder_7d493 cJ0_coder_7d493 1 (some .byte) ∈ Tt := inT4 (i := 17) rfl rfl
theorem flJ0_38 : Cond.fieldLink "java/lang/String" 38 "java/lang/String" "COMPACT_STRINGS" "Z" ∈ Tt := inT4 (i := 18) rfl rfl
theorem mlJ5_208 : Cond.methodLink "java/lang/AbstractStringBuilder" 208 yJ5_putStringAt_47b60 ∈ Tt := inT4 (i := 19) rfl rfl
theorem w4_21 : Cond.instanceMethod yJ5_putStringAt_47b60 ∈ Tt := inT4 (i := 21) rfl rfl
theorem w4_22 : Cond.code yJ5_putStringAt_47b60 cJ5_putStringAt_47b60 3 none ∈ Tt := inT4 (i := 22) rfl rfl
theorem mlJ5_397 : Cond.methodLink "java/lang/AbstractStringBuilder" 397 yJ5_inflateIfNeededFor_a7421 ∈ Tt := inT4 (i := 23) rfl rfl
theorem w4_25 : Cond.instanceMethod yJ5_inflateIfNeededFor_a7421 ∈ Tt := inT4 (i := 25) rfl rfl
theorem w4_26 : Cond.code yJ5_inflateIfNeededFor_a7421 cJ5_inflateIfNeededFor_a7421 2 none ∈ Tt := inT4 (i := 26) rfl rfl
theorem mlJ5_40 : Cond.methodLink "java/lang/AbstractStringBuilder" 40 yJ0_coder_7d493 ∈ Tt := inT4 (i := 27) rfl rfl
theorem mlJ5_399 : Cond.methodLink "java/lang/AbstractStringBuilder" 399 yJ0_getBytes_840e7 ∈ Tt := inT4 (i := 28) rfl rfl
theorem w4_29 : Cond.instanceMethod yJ0_getBytes_840e7 ∈ Tt := inT4 (i := 29) rfl rfl
theorem w4_30 : Cond.selects "java/lang/String" yJ0_getBytes_840e7 yJ0_getBytes_840e7 ∈ Tt := inT4 (i := 30) rfl rfl
theorem w4_31 : Cond.code yJ0_getBytes_840e7 cJ0_getBytes_840e7 4 none ∈ Tt := inT4 (i := 31) rfl rfl
theorem mlJ0_212 : Cond.methodLink "java/lang/String" 212 ⟨"java/lang/System", "arraycopy", "(Ljava/lang/Object;ILjava/lang/Object;II)V"⟩ ∈ Tt := inT4 (i := 32) rfl rfl
theorem mlJ0_106 : Cond.methodLink "java/lang/String" 106 yJ1_inflate_0e8fd ∈ Tt := inT4 (i := 33) rfl rfl
theorem mlX3_160 : Cond.methodLink "Bookgrafter" 160 yJ4_append_bf812 ∈ Tt := inT4 (i := 34) rfl rfl
theorem w4_35 : Cond.instanceMethod yJ4_append_bf812 ∈ Tt := inT4 (i := 35) rfl rfl
theorem w4_36 : Cond.selects "java/lang/StringBuilder" yJ4_append_bf812 yJ4_append_bf812 ∈ Tt := inT4 (i := 36) rfl rfl
theorem w4_37 : Cond.code yJ4_append_bf812 cJ4_append_bf812 2 (some (.object "java/lang/StringBuilder")) ∈ Tt := inT4 (i := 37) rfl rfl
theorem mlJ4_53 : Cond.methodLink "java/lang/StringBuilder" 53 yJ5_append_c97b9 ∈ Tt := inT4 (i := 38) rfl rfl
theorem w4_39 : Cond.instanceMethod yJ5_append_c97b9 ∈ Tt := inT4 (i := 39) rfl rfl
theorem w4_40 : Cond.code yJ5_append_c97b9 cJ5_append_c97b9 4 (some (.object "java/lang/AbstractStringBuilder")) ∈ Tt := inT4 (i := 40) rfl rfl
theorem mlJ5_245 : Cond.methodLink "java/lang/AbstractStringBuilder" 245 yJ6_stringSize_0f7a4 ∈ Tt := inT4 (i := 41) rfl rfl
theorem w4_42 : Cond.static yJ6_stringSize_0f7a4 ∈ Tt := inT4 (i := 42) rfl rfl
theorem w4_43 : Cond.code yJ6_stringSize_0f7a4 cJ6_stringSize_0f7a4 4 (some .int) ∈ Tt := inT4 (i := 43) rfl rfl
theorem mlJ5_248 : Cond.methodLink "java/lang/AbstractStringBuilder" 248 yJ6_getChars_ba4f3 ∈ Tt := inT4 (i := 44) rfl rfl
theorem w4_45 : Cond.static yJ6_getChars_ba4f3 ∈ Tt := inT4 (i := 45) rfl rfl
theorem w4_46 : Cond.code yJ6_getChars_ba4f3 cJ6_getChars_ba4f3 7 (some .int) ∈ Tt := inT4 (i := 46) rfl rfl
theorem flJ6_83 : Cond.fieldLink "java/lang/Integer" 83 "java/lang/Integer" "DigitOnes" "[B" ∈ Tt := inT4 (i := 47) rfl rfl
theorem flJ6_87 : Cond.fieldLink "java/lang/Integer" 87 "java/lang/Integer" "DigitTens" "[B" ∈ Tt := inT4 (i := 49) rfl rfl
theorem mlJ5_251 : Cond.methodLink "java/lang/AbstractStringBuilder" 251 yJ2_getChars_46870 ∈ Tt := inT4 (i := 51) rfl rfl
theorem w4_52 : Cond.static yJ2_getChars_46870 ∈ Tt := inT4 (i := 52) rfl rfl
theorem w4_53 : Cond.code yJ2_getChars_46870 cJ2_getChars_46870 5 (some .int) ∈ Tt := inT4 (i := 53) rfl rfl
theorem mlJ2_393 : Cond.methodLink "java/lang/StringUTF16" 393 yJ2_getChars_ba4f3 ∈ Tt := inT4 (i := 54) rfl rfl
theorem w4_55 : Cond.static yJ2_getChars_ba4f3 ∈ Tt := inT4 (i := 55) rfl rfl
theorem w4_56 : Cond.code yJ2_getChars_ba4f3 cJ2_getChars_ba4f3 7 (some .int) ∈ Tt := inT4 (i := 56) rfl rfl
theorem flJ2_403 : Cond.fieldLink "java/lang/StringUTF16" 403 "java/lang/Integer" "DigitOnes" "[B" ∈ Tt := inT4 (i := 57) rfl rfl
theorem flJ2_407 : Cond.fieldLink "java/lang/StringUTF16" 407 "java/lang/Integer" "DigitTens" "[B" ∈ Tt := inT4 (i := 58) rfl rfl
theorem mlX3_163 : Cond.methodLink "Bookgrafter" 163 yJ4_toString_0e30d ∈ Tt := inT4 (i := 59) rfl rfl
theorem w4_60 : Cond.instanceMethod yJ4_toString_0e30d ∈ Tt := inT4 (i := 60) rfl rfl
theorem w4_61 : Cond.selects "java/lang/StringBuilder" yJ4_toString_0e30d yJ4_toString_0e30d ∈ Tt := inT4 (i := 61) rfl rfl
theorem w4_62 : Cond.code yJ4_toString_0e30d cJ4_toString_0e30d 1 (some (.object "java/lang/String")) ∈ Tt := inT4 (i := 62) rfl rfl
theorem klJ4_18 : Cond.classLink "java/lang/StringBuilder" 18 "java/lang/String" ∈ Tt := inT4 (i := 63) rfl rfl
theorem insJ0 : Cond.instantiable "java/lang/String" 4 ∈ Tt := inT4 (i := 64) rfl rfl
theorem mlJ4_137 : Cond.methodLink "java/lang/StringBuilder" 137 yJ0_init_81219 ∈ Tt := inT4 (i := 65) rfl rfl
theorem w4_66 : Cond.instanceMethod yJ0_init_81219 ∈ Tt := inT4 (i := 66) rfl rfl
theorem w4_67 : Cond.code yJ0_init_81219 cJ0_init_81219 2 none ∈ Tt := inT4 (i := 67) rfl rfl
theorem mlJ0_489 : Cond.methodLink "java/lang/String" 489 yJ0_init_db425 ∈ Tt := inT4 (i := 68) rfl rfl
theorem w4_69 : Cond.instanceMethod yJ0_init_db425 ∈ Tt := inT4 (i := 69) rfl rfl
theorem w4_70 : Cond.code yJ0_init_db425 cJ0_init_db425 5 none ∈ Tt := inT4 (i := 70) rfl rfl
theorem mlJ0_1 : Cond.methodLink "java/lang/String" 1 objectInit ∈ Tt := inT4 (i := 71) rfl rfl
theorem mlJ0_552 : Cond.methodLink "java/lang/String" 552 yJ5_getValue_6d5f1 ∈ Tt := inT4 (i := 72) rfl rfl
theorem w4_73 : Cond.instanceMethod yJ5_getValue_6d5f1 ∈ Tt := inT4 (i := 73) rfl rfl
theorem w4_74 : Cond.sameMethod "java/lang/AbstractStringBuilder" "java/lang/AbstractStringBuilder" "getValue" "()[B" ∈ Tt := inT4 (i := 74) rfl rfl
