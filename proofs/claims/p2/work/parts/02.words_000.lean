theorem iniL : Cond.initialized "BookgrafterLaw" ∈ Tt := inT1 (i := 0) rfl rfl
theorem iniX3 : Cond.initialized "Bookgrafter" ∈ Tt := inT1 (i := 1) rfl rfl
theorem iniX0 : Cond.initialized "Bookgrafter$Row" ∈ Tt := inT1 (i := 2) rfl rfl
theorem iniJ7 : Cond.initialized "java/util/Arrays" ∈ Tt := inT1 (i := 3) rfl rfl
theorem iniX1 : Cond.initialized "Bookgrafter$View" ∈ Tt := inT1 (i := 4) rfl rfl
theorem iniX2 : Cond.initialized "Bookgrafter$Walk" ∈ Tt := inT1 (i := 5) rfl rfl
theorem iniX6 : Cond.initialized "BookgrafterModel" ∈ Tt := inT1 (i := 6) rfl rfl
theorem iniX5 : Cond.initialized "BookgrafterModel$Book" ∈ Tt := inT1 (i := 7) rfl rfl
theorem iniX4 : Cond.initialized "BookgrafterLaw$Out" ∈ Tt := inT1 (i := 8) rfl rfl
theorem w1_9 : Cond.initialized "java/lang/Throwable" ∈ Tt := inT1 (i := 9) rfl rfl
theorem w1_10 : Cond.initialized "java/lang/Exception" ∈ Tt := inT1 (i := 10) rfl rfl
theorem w1_11 : Cond.initialized "java/lang/RuntimeException" ∈ Tt := inT1 (i := 11) rfl rfl
theorem iniIO : Cond.initialized "java/lang/IndexOutOfBoundsException" ∈ Tt := inT1 (i := 12) rfl rfl
theorem iniIA : Cond.initialized "java/lang/IllegalArgumentException" ∈ Tt := inT1 (i := 13) rfl rfl
theorem iniMath : Cond.initialized "java/lang/Math" ∈ Tt := inT1 (i := 14) rfl rfl
theorem iniJ5 : Cond.initialized "java/lang/AbstractStringBuilder" ∈ Tt := inT1 (i := 15) rfl rfl
theorem iniJ4 : Cond.initialized "java/lang/StringBuilder" ∈ Tt := inT1 (i := 16) rfl rfl
theorem iniJ0 : Cond.initialized "java/lang/String" ∈ Tt := inT1 (i := 17) rfl rfl
theorem iniJ2 : Cond.initialized "java/lang/StringUTF16" ∈ Tt := inT1 (i := 18) rfl rfl
theorem iniJ8 : Cond.initialized "jdk/internal/util/ArraysSupport" ∈ Tt := inT1 (i := 19) rfl rfl
theorem iniJ10 : Cond.initialized "java/lang/System" ∈ Tt := inT1 (i := 20) rfl rfl
theorem iniJ1 : Cond.initialized "java/lang/StringLatin1" ∈ Tt := inT1 (i := 21) rfl rfl
theorem iniJ3 : Cond.initialized "jdk/internal/util/Preconditions" ∈ Tt := inT1 (i := 22) rfl rfl
theorem iniJxd2413 : Cond.initialized "java/lang/Number" ∈ Tt := inT1 (i := 23) rfl rfl
theorem iniJ6 : Cond.initialized "java/lang/Integer" ∈ Tt := inT1 (i := 24) rfl rfl
theorem klL_8 : Cond.classLink "BookgrafterLaw" 8 "Bookgrafter" ∈ Tt := inT1 (i := 25) rfl rfl
theorem insX3 : Cond.instantiable "Bookgrafter" 8 ∈ Tt := inT1 (i := 26) rfl rfl
theorem mlL_151 : Cond.methodLink "BookgrafterLaw" 151 yX3_init ∈ Tt := inT1 (i := 27) rfl rfl
theorem w1_28 : Cond.instanceMethod yX3_init ∈ Tt := inT1 (i := 28) rfl rfl
theorem w1_29 : Cond.code yX3_init cX3_init 2 none ∈ Tt := inT1 (i := 29) rfl rfl
theorem mlX3_1 : Cond.methodLink "Bookgrafter" 1 objectInit ∈ Tt := inT1 (i := 30) rfl rfl
theorem imObj : Cond.instanceMethod objectInit ∈ Tt := inT1 (i := 31) rfl rfl
theorem cdObj : Cond.code objectInit object_method_1_code 1 none ∈ Tt := inT1 (i := 32) rfl rfl
theorem klX3_9 : Cond.classLink "Bookgrafter" 9 "Bookgrafter$Row" ∈ Tt := inT1 (i := 33) rfl rfl
theorem insX0 : Cond.instantiable "Bookgrafter$Row" 4 ∈ Tt := inT1 (i := 35) rfl rfl
theorem mlX3_15 : Cond.methodLink "Bookgrafter" 15 yX0_init ∈ Tt := inT1 (i := 36) rfl rfl
theorem w1_37 : Cond.instanceMethod yX0_init ∈ Tt := inT1 (i := 37) rfl rfl
theorem w1_38 : Cond.code yX0_init cX0_init 2 none ∈ Tt := inT1 (i := 38) rfl rfl
theorem mlX0_3 : Cond.methodLink "Bookgrafter$Row" 3 objectInit ∈ Tt := inT1 (i := 39) rfl rfl
theorem mlX0_19 : Cond.methodLink "Bookgrafter$Row" 19 yJ7_fill_53178 ∈ Tt := inT1 (i := 40) rfl rfl
theorem w1_41 : Cond.static yJ7_fill_53178 ∈ Tt := inT1 (i := 41) rfl rfl
theorem w1_42 : Cond.code yJ7_fill_53178 cJ7_fill_53178 4 none ∈ Tt := inT1 (i := 42) rfl rfl
theorem flX0_9 : Cond.fieldLink "Bookgrafter$Row" 9 "Bookgrafter$Row" "order" "I" ∈ Tt := inT1 (i := 43) rfl rfl
theorem flX3_74 : Cond.fieldLink "Bookgrafter" 74 "Bookgrafter$Row" "order" "I" ∈ Tt := inT1 (i := 44) rfl rfl
theorem flX0_15 : Cond.fieldLink "Bookgrafter$Row" 15 "Bookgrafter$Row" "worths" "[I" ∈ Tt := inT1 (i := 45) rfl rfl
theorem flX3_49 : Cond.fieldLink "Bookgrafter" 49 "Bookgrafter$Row" "count" "I" ∈ Tt := inT1 (i := 46) rfl rfl
theorem flX0_42 : Cond.fieldLink "Bookgrafter$Row" 42 "Bookgrafter$Row" "count" "I" ∈ Tt := inT1 (i := 47) rfl rfl
theorem flX2_15 : Cond.fieldLink "Bookgrafter$Walk" 15 "Bookgrafter$Row" "changes" "I" ∈ Tt := inT1 (i := 48) rfl rfl
theorem flX0_45 : Cond.fieldLink "Bookgrafter$Row" 45 "Bookgrafter$Row" "changes" "I" ∈ Tt := inT1 (i := 49) rfl rfl
theorem w1_50 : Cond.laysFinal "Bookgrafter$Row" "Bookgrafter$Row" "order" "I" ∈ Tt := inT1 (i := 50) rfl rfl
theorem w1_52 : Cond.laysFinal "Bookgrafter$Row" "Bookgrafter$Row" "worths" "[I" ∈ Tt := inT1 (i := 52) rfl rfl
theorem w1_54 : Cond.lays "Bookgrafter$Row" "Bookgrafter$Row" "count" "I" ∈ Tt := inT1 (i := 54) rfl rfl
theorem w1_56 : Cond.lays "Bookgrafter$Row" "Bookgrafter$Row" "changes" "I" ∈ Tt := inT1 (i := 56) rfl rfl
theorem w1_58 : Cond.superclass "Bookgrafter$Row" "java/lang/Object" ∈ Tt := inT1 (i := 58) rfl rfl
theorem aCint : Cond.arrayClass .int ∈ Tt := inT1 (i := 59) rfl rfl
theorem klX3_21 : Cond.classLink "Bookgrafter" 21 "Bookgrafter$View" ∈ Tt := inT1 (i := 60) rfl rfl
theorem insX1 : Cond.instantiable "Bookgrafter$View" 3 ∈ Tt := inT1 (i := 62) rfl rfl
theorem mlX3_27 : Cond.methodLink "Bookgrafter" 27 yX1_init ∈ Tt := inT1 (i := 63) rfl rfl
theorem w1_64 : Cond.instanceMethod yX1_init ∈ Tt := inT1 (i := 64) rfl rfl
theorem w1_65 : Cond.code yX1_init cX1_init 2 none ∈ Tt := inT1 (i := 65) rfl rfl
