theorem w5_225 : Cond.selects "BookgrafterModel" yX6_put yX6_put ∈ Tt := inT5 (i := 225) rfl rfl
theorem w5_226 : Cond.code yX6_put cX6_put 5 (some .int) ∈ Tt := inT5 (i := 226) rfl rfl
theorem mlX6_107 : Cond.methodLink "BookgrafterModel" 107 yX6_change ∈ Tt := inT5 (i := 227) rfl rfl
theorem w5_229 : Cond.instanceMethod yX6_change ∈ Tt := inT5 (i := 229) rfl rfl
theorem w5_230 : Cond.code yX6_change cX6_change 6 (some .int) ∈ Tt := inT5 (i := 230) rfl rfl
theorem mlL_190 : Cond.methodLink "BookgrafterLaw" 190 yX6_exchange ∈ Tt := inT5 (i := 231) rfl rfl
theorem w5_232 : Cond.instanceMethod yX6_exchange ∈ Tt := inT5 (i := 232) rfl rfl
theorem w5_233 : Cond.selects "BookgrafterModel" yX6_exchange yX6_exchange ∈ Tt := inT5 (i := 233) rfl rfl
theorem w5_234 : Cond.code yX6_exchange cX6_exchange 5 (some .int) ∈ Tt := inT5 (i := 234) rfl rfl
theorem mlL_193 : Cond.methodLink "BookgrafterLaw" 193 yX6_take ∈ Tt := inT5 (i := 235) rfl rfl
theorem w5_236 : Cond.instanceMethod yX6_take ∈ Tt := inT5 (i := 236) rfl rfl
theorem w5_237 : Cond.selects "BookgrafterModel" yX6_take yX6_take ∈ Tt := inT5 (i := 237) rfl rfl
theorem w5_238 : Cond.code yX6_take cX6_take 3 (some .int) ∈ Tt := inT5 (i := 238) rfl rfl
theorem mlL_196 : Cond.methodLink "BookgrafterLaw" 196 yX6_drop ∈ Tt := inT5 (i := 239) rfl rfl
theorem w6_0 : Cond.instanceMethod yX6_drop ∈ Tt := inT6 (i := 0) rfl rfl
theorem w6_1 : Cond.selects "BookgrafterModel" yX6_drop yX6_drop ∈ Tt := inT6 (i := 1) rfl rfl
theorem w6_2 : Cond.code yX6_drop cX6_drop 3 (some .int) ∈ Tt := inT6 (i := 2) rfl rfl
theorem mlX6_120 : Cond.methodLink "BookgrafterModel" 120 yX6_dropped ∈ Tt := inT6 (i := 3) rfl rfl
theorem w6_5 : Cond.instanceMethod yX6_dropped ∈ Tt := inT6 (i := 5) rfl rfl
theorem w6_6 : Cond.code yX6_dropped cX6_dropped 7 (some .int) ∈ Tt := inT6 (i := 6) rfl rfl
theorem mlX6_111 : Cond.methodLink "BookgrafterModel" 111 yX5_first ∈ Tt := inT6 (i := 7) rfl rfl
theorem w6_8 : Cond.instanceMethod yX5_first ∈ Tt := inT6 (i := 8) rfl rfl
theorem w6_9 : Cond.selects "BookgrafterModel$Book" yX5_first yX5_first ∈ Tt := inT6 (i := 9) rfl rfl
theorem w6_10 : Cond.code yX5_first cX5_first 4 (some .int) ∈ Tt := inT6 (i := 10) rfl rfl
theorem mlX6_114 : Cond.methodLink "BookgrafterModel" 114 yX5_last ∈ Tt := inT6 (i := 11) rfl rfl
theorem w6_12 : Cond.instanceMethod yX5_last ∈ Tt := inT6 (i := 12) rfl rfl
theorem w6_13 : Cond.selects "BookgrafterModel$Book" yX5_last yX5_last ∈ Tt := inT6 (i := 13) rfl rfl
theorem w6_14 : Cond.code yX5_last cX5_last 4 (some .int) ∈ Tt := inT6 (i := 14) rfl rfl
theorem mlX6_117 : Cond.methodLink "BookgrafterModel" 117 yX5_pair ∈ Tt := inT6 (i := 15) rfl rfl
theorem w6_16 : Cond.instanceMethod yX5_pair ∈ Tt := inT6 (i := 16) rfl rfl
theorem w6_17 : Cond.selects "BookgrafterModel$Book" yX5_pair yX5_pair ∈ Tt := inT6 (i := 17) rfl rfl
theorem w6_18 : Cond.code yX5_pair cX5_pair 2 (some .int) ∈ Tt := inT6 (i := 18) rfl rfl
theorem mlL_200 : Cond.methodLink "BookgrafterLaw" 200 yX6_has ∈ Tt := inT6 (i := 19) rfl rfl
theorem w6_20 : Cond.instanceMethod yX6_has ∈ Tt := inT6 (i := 20) rfl rfl
theorem w6_21 : Cond.selects "BookgrafterModel" yX6_has yX6_has ∈ Tt := inT6 (i := 21) rfl rfl
theorem w6_22 : Cond.code yX6_has cX6_has 6 (some .boolean) ∈ Tt := inT6 (i := 22) rfl rfl
theorem mlL_204 : Cond.methodLink "BookgrafterLaw" 204 yX6_near ∈ Tt := inT6 (i := 23) rfl rfl
theorem w6_24 : Cond.instanceMethod yX6_near ∈ Tt := inT6 (i := 24) rfl rfl
theorem w6_25 : Cond.selects "BookgrafterModel" yX6_near yX6_near ∈ Tt := inT6 (i := 25) rfl rfl
theorem w6_26 : Cond.code yX6_near cX6_near 5 (some .int) ∈ Tt := inT6 (i := 26) rfl rfl
theorem mlX6_124 : Cond.methodLink "BookgrafterModel" 124 yX5_near ∈ Tt := inT6 (i := 27) rfl rfl
theorem w6_28 : Cond.instanceMethod yX5_near ∈ Tt := inT6 (i := 28) rfl rfl
theorem w6_29 : Cond.selects "BookgrafterModel$Book" yX5_near yX5_near ∈ Tt := inT6 (i := 29) rfl rfl
theorem w6_30 : Cond.code yX5_near cX5_near 6 (some .int) ∈ Tt := inT6 (i := 30) rfl rfl
theorem mlX5_27 : Cond.methodLink "BookgrafterModel$Book" 27 yX5_rank ∈ Tt := inT6 (i := 31) rfl rfl
theorem mlX5_30 : Cond.methodLink "BookgrafterModel$Book" 30 yJ9_min_7cf53 ∈ Tt := inT6 (i := 32) rfl rfl
theorem mlX5_36 : Cond.methodLink "BookgrafterModel$Book" 36 yX5_last ∈ Tt := inT6 (i := 33) rfl rfl
theorem mlX5_39 : Cond.methodLink "BookgrafterModel$Book" 39 yJ9_max_7cf53 ∈ Tt := inT6 (i := 34) rfl rfl
theorem mlX5_42 : Cond.methodLink "BookgrafterModel$Book" 42 yX5_first ∈ Tt := inT6 (i := 35) rfl rfl
theorem mlX6_128 : Cond.methodLink "BookgrafterModel" 128 yX6_told ∈ Tt := inT6 (i := 36) rfl rfl
theorem w6_37 : Cond.static yX6_told ∈ Tt := inT6 (i := 37) rfl rfl
theorem w6_38 : Cond.code yX6_told cX6_told 3 (some .int) ∈ Tt := inT6 (i := 38) rfl rfl
theorem mlL_208 : Cond.methodLink "BookgrafterLaw" 208 yX6_end ∈ Tt := inT6 (i := 39) rfl rfl
theorem w6_40 : Cond.instanceMethod yX6_end ∈ Tt := inT6 (i := 40) rfl rfl
theorem w6_41 : Cond.selects "BookgrafterModel" yX6_end yX6_end ∈ Tt := inT6 (i := 41) rfl rfl
theorem w6_42 : Cond.code yX6_end cX6_end 5 (some .int) ∈ Tt := inT6 (i := 42) rfl rfl
theorem mlL_211 : Cond.methodLink "BookgrafterLaw" 211 yX6_keyAt ∈ Tt := inT6 (i := 43) rfl rfl
theorem w6_44 : Cond.instanceMethod yX6_keyAt ∈ Tt := inT6 (i := 44) rfl rfl
theorem w6_45 : Cond.selects "BookgrafterModel" yX6_keyAt yX6_keyAt ∈ Tt := inT6 (i := 45) rfl rfl
theorem w6_46 : Cond.code yX6_keyAt cX6_keyAt 7 (some .int) ∈ Tt := inT6 (i := 46) rfl rfl
