theorem mlL_214 : Cond.methodLink "BookgrafterLaw" 214 yX6_tellBook ∈ Tt := inT6 (i := 47) rfl rfl
theorem w6_48 : Cond.instanceMethod yX6_tellBook ∈ Tt := inT6 (i := 48) rfl rfl
theorem w6_49 : Cond.selects "BookgrafterModel" yX6_tellBook yX6_tellBook ∈ Tt := inT6 (i := 49) rfl rfl
theorem w6_50 : Cond.code yX6_tellBook cX6_tellBook 4 (some .int) ∈ Tt := inT6 (i := 50) rfl rfl
theorem mlX6_131 : Cond.methodLink "BookgrafterModel" 131 yX6_hash ∈ Tt := inT6 (i := 51) rfl rfl
theorem w6_52 : Cond.static yX6_hash ∈ Tt := inT6 (i := 52) rfl rfl
theorem w6_53 : Cond.code yX6_hash cX6_hash 3 (some .int) ∈ Tt := inT6 (i := 53) rfl rfl
theorem mlL_218 : Cond.methodLink "BookgrafterLaw" 218 yX6_bookText ∈ Tt := inT6 (i := 54) rfl rfl
theorem w6_55 : Cond.instanceMethod yX6_bookText ∈ Tt := inT6 (i := 55) rfl rfl
theorem w6_56 : Cond.selects "BookgrafterModel" yX6_bookText yX6_bookText ∈ Tt := inT6 (i := 56) rfl rfl
theorem w6_57 : Cond.code yX6_bookText cX6_bookText 5 (some (.object "java/lang/String")) ∈ Tt := inT6 (i := 57) rfl rfl
theorem klX6_137 : Cond.classLink "BookgrafterModel" 137 "java/lang/StringBuilder" ∈ Tt := inT6 (i := 59) rfl rfl
theorem mlX6_141 : Cond.methodLink "BookgrafterModel" 141 yJ4_init_a7421 ∈ Tt := inT6 (i := 61) rfl rfl
theorem w6_62 : Cond.instanceMethod yJ4_init_a7421 ∈ Tt := inT6 (i := 62) rfl rfl
theorem w6_63 : Cond.code yJ4_init_a7421 cJ4_init_a7421 2 none ∈ Tt := inT6 (i := 63) rfl rfl
theorem mlJ4_7 : Cond.methodLink "java/lang/StringBuilder" 7 yJ5_init_a7421 ∈ Tt := inT6 (i := 64) rfl rfl
theorem w6_65 : Cond.instanceMethod yJ5_init_a7421 ∈ Tt := inT6 (i := 65) rfl rfl
theorem w6_66 : Cond.code yJ5_init_a7421 cJ5_init_a7421 5 none ∈ Tt := inT6 (i := 66) rfl rfl
theorem cIJ5_38 : Cond.constant "java/lang/AbstractStringBuilder" 38 2147483631 ∈ Tt := inT6 (i := 67) rfl rfl
theorem mlJ5_43 : Cond.methodLink "java/lang/AbstractStringBuilder" 43 yJ5_append_cf1ce ∈ Tt := inT6 (i := 68) rfl rfl
theorem w6_69 : Cond.instanceMethod yJ4_append_cf1ce ∈ Tt := inT6 (i := 69) rfl rfl
theorem w6_70 : Cond.code yJ4_append_cf1ce cJ4_append_cf1ce 2 (some (.object "java/lang/AbstractStringBuilder")) ∈ Tt := inT6 (i := 70) rfl rfl
theorem mlJ4_23 : Cond.methodLink "java/lang/StringBuilder" 23 yJ4_append_15ec4 ∈ Tt := inT6 (i := 71) rfl rfl
theorem mlX6_144 : Cond.methodLink "BookgrafterModel" 144 yJ4_length_8abf5 ∈ Tt := inT6 (i := 72) rfl rfl
theorem mlX6_149 : Cond.methodLink "BookgrafterModel" 149 yJ4_append_15ec4 ∈ Tt := inT6 (i := 74) rfl rfl
theorem mlX6_153 : Cond.methodLink "BookgrafterModel" 153 yJ4_append_bf812 ∈ Tt := inT6 (i := 75) rfl rfl
theorem mlX6_160 : Cond.methodLink "BookgrafterModel" 160 yJ4_toString_0e30d ∈ Tt := inT6 (i := 78) rfl rfl
theorem mlL_221 : Cond.methodLink "BookgrafterLaw" 221 yX6_sameBooks ∈ Tt := inT6 (i := 79) rfl rfl
theorem w6_80 : Cond.instanceMethod yX6_sameBooks ∈ Tt := inT6 (i := 80) rfl rfl
theorem w6_81 : Cond.selects "BookgrafterModel" yX6_sameBooks yX6_sameBooks ∈ Tt := inT6 (i := 81) rfl rfl
theorem w6_82 : Cond.code yX6_sameBooks cX6_sameBooks 3 (some .boolean) ∈ Tt := inT6 (i := 82) rfl rfl
theorem mlX6_164 : Cond.methodLink "BookgrafterModel" 164 yX6_same ∈ Tt := inT6 (i := 83) rfl rfl
theorem w6_84 : Cond.static yX6_same ∈ Tt := inT6 (i := 84) rfl rfl
theorem w6_85 : Cond.code yX6_same cX6_same 3 (some .boolean) ∈ Tt := inT6 (i := 85) rfl rfl
theorem mlL_225 : Cond.methodLink "BookgrafterLaw" 225 yX6_openView ∈ Tt := inT6 (i := 86) rfl rfl
theorem w6_87 : Cond.instanceMethod yX6_openView ∈ Tt := inT6 (i := 87) rfl rfl
theorem w6_88 : Cond.selects "BookgrafterModel" yX6_openView yX6_openView ∈ Tt := inT6 (i := 88) rfl rfl
theorem w6_89 : Cond.code yX6_openView cX6_openView 8 (some .int) ∈ Tt := inT6 (i := 89) rfl rfl
theorem mlX6_168 : Cond.methodLink "BookgrafterModel" 168 yX6_isView ∈ Tt := inT6 (i := 90) rfl rfl
theorem w6_91 : Cond.static yX6_isView ∈ Tt := inT6 (i := 91) rfl rfl
theorem w6_92 : Cond.code yX6_isView cX6_isView 1 (some .boolean) ∈ Tt := inT6 (i := 92) rfl rfl
theorem mlX6_171 : Cond.methodLink "BookgrafterModel" 171 yX6_seen ∈ Tt := inT6 (i := 93) rfl rfl
theorem w6_95 : Cond.instanceMethod yX6_seen ∈ Tt := inT6 (i := 95) rfl rfl
theorem w6_96 : Cond.code yX6_seen cX6_seen 2 (some .int) ∈ Tt := inT6 (i := 96) rfl rfl
theorem mlL_228 : Cond.methodLink "BookgrafterLaw" 228 yX6_narrowView ∈ Tt := inT6 (i := 97) rfl rfl
theorem w6_98 : Cond.instanceMethod yX6_narrowView ∈ Tt := inT6 (i := 98) rfl rfl
theorem w6_99 : Cond.selects "BookgrafterModel" yX6_narrowView yX6_narrowView ∈ Tt := inT6 (i := 99) rfl rfl
theorem w6_100 : Cond.code yX6_narrowView cX6_narrowView 6 (some .int) ∈ Tt := inT6 (i := 100) rfl rfl
theorem mlX6_174 : Cond.methodLink "BookgrafterModel" 174 yX6_isWithin ∈ Tt := inT6 (i := 101) rfl rfl
theorem w6_103 : Cond.instanceMethod yX6_isWithin ∈ Tt := inT6 (i := 103) rfl rfl
theorem w6_104 : Cond.code yX6_isWithin cX6_isWithin 3 (some .boolean) ∈ Tt := inT6 (i := 104) rfl rfl
theorem mlL_231 : Cond.methodLink "BookgrafterLaw" 231 yX6_buildFromView ∈ Tt := inT6 (i := 105) rfl rfl
theorem w6_106 : Cond.instanceMethod yX6_buildFromView ∈ Tt := inT6 (i := 106) rfl rfl
theorem w6_107 : Cond.selects "BookgrafterModel" yX6_buildFromView yX6_buildFromView ∈ Tt := inT6 (i := 107) rfl rfl
theorem w6_108 : Cond.code yX6_buildFromView cX6_buildFromView 4 (some .int) ∈ Tt := inT6 (i := 108) rfl rfl
theorem mlL_234 : Cond.methodLink "BookgrafterLaw" 234 yX6_viewPut ∈ Tt := inT6 (i := 109) rfl rfl
theorem w6_110 : Cond.instanceMethod yX6_viewPut ∈ Tt := inT6 (i := 110) rfl rfl
theorem w6_111 : Cond.selects "BookgrafterModel" yX6_viewPut yX6_viewPut ∈ Tt := inT6 (i := 111) rfl rfl
theorem w6_112 : Cond.code yX6_viewPut cX6_viewPut 4 (some .int) ∈ Tt := inT6 (i := 112) rfl rfl
theorem mlL_237 : Cond.methodLink "BookgrafterLaw" 237 yX6_viewTake ∈ Tt := inT6 (i := 113) rfl rfl
