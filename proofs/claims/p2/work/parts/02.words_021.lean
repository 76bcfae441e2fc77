theorem mlL_276 : Cond.methodLink "BookgrafterLaw" 276 yX6_shelfBoth ∈ Tt := inT6 (i := 177) rfl rfl
theorem w6_178 : Cond.instanceMethod yX6_shelfBoth ∈ Tt := inT6 (i := 178) rfl rfl
theorem w6_179 : Cond.selects "BookgrafterModel" yX6_shelfBoth yX6_shelfBoth ∈ Tt := inT6 (i := 179) rfl rfl
theorem w6_180 : Cond.code yX6_shelfBoth cX6_shelfBoth 6 (some .int) ∈ Tt := inT6 (i := 180) rfl rfl
theorem mlL_279 : Cond.methodLink "BookgrafterLaw" 279 yX6_shelfDrop ∈ Tt := inT6 (i := 181) rfl rfl
theorem w6_182 : Cond.instanceMethod yX6_shelfDrop ∈ Tt := inT6 (i := 182) rfl rfl
theorem w6_183 : Cond.selects "BookgrafterModel" yX6_shelfDrop yX6_shelfDrop ∈ Tt := inT6 (i := 183) rfl rfl
theorem w6_184 : Cond.code yX6_shelfDrop cX6_shelfDrop 4 (some .int) ∈ Tt := inT6 (i := 184) rfl rfl
theorem mlX6_199 : Cond.methodLink "BookgrafterModel" 199 yX6_key ∈ Tt := inT6 (i := 185) rfl rfl
theorem w6_186 : Cond.static yX6_key ∈ Tt := inT6 (i := 186) rfl rfl
theorem w6_187 : Cond.code yX6_key cX6_key 1 (some .int) ∈ Tt := inT6 (i := 187) rfl rfl
theorem mlL_282 : Cond.methodLink "BookgrafterLaw" 282 yX6_shelfCut ∈ Tt := inT6 (i := 188) rfl rfl
theorem w6_189 : Cond.instanceMethod yX6_shelfCut ∈ Tt := inT6 (i := 189) rfl rfl
theorem w6_190 : Cond.selects "BookgrafterModel" yX6_shelfCut yX6_shelfCut ∈ Tt := inT6 (i := 190) rfl rfl
theorem w6_191 : Cond.code yX6_shelfCut cX6_shelfCut 11 (some .int) ∈ Tt := inT6 (i := 191) rfl rfl
theorem mlL_285 : Cond.methodLink "BookgrafterLaw" 285 yX6_shelfNear ∈ Tt := inT6 (i := 192) rfl rfl
theorem w6_193 : Cond.instanceMethod yX6_shelfNear ∈ Tt := inT6 (i := 193) rfl rfl
theorem w6_194 : Cond.selects "BookgrafterModel" yX6_shelfNear yX6_shelfNear ∈ Tt := inT6 (i := 194) rfl rfl
theorem w6_195 : Cond.code yX6_shelfNear cX6_shelfNear 4 (some .int) ∈ Tt := inT6 (i := 195) rfl rfl
theorem mlL_288 : Cond.methodLink "BookgrafterLaw" 288 yX6_shelfTell ∈ Tt := inT6 (i := 196) rfl rfl
theorem w6_197 : Cond.instanceMethod yX6_shelfTell ∈ Tt := inT6 (i := 197) rfl rfl
theorem w6_198 : Cond.selects "BookgrafterModel" yX6_shelfTell yX6_shelfTell ∈ Tt := inT6 (i := 198) rfl rfl
theorem w6_199 : Cond.code yX6_shelfTell cX6_shelfTell 5 (some .int) ∈ Tt := inT6 (i := 199) rfl rfl
theorem mlX6_200 : Cond.methodLink "BookgrafterModel" 200 yX6_sum_ ∈ Tt := inT6 (i := 200) rfl rfl
theorem w6_201 : Cond.static yX6_sum_ ∈ Tt := inT6 (i := 201) rfl rfl
theorem w6_202 : Cond.code yX6_sum_ cX6_sum_ 3 (some .int) ∈ Tt := inT6 (i := 202) rfl rfl
theorem mlL_291 : Cond.methodLink "BookgrafterLaw" 291 yX6_sameShelves ∈ Tt := inT6 (i := 203) rfl rfl
theorem w6_204 : Cond.instanceMethod yX6_sameShelves ∈ Tt := inT6 (i := 204) rfl rfl
theorem w6_205 : Cond.selects "BookgrafterModel" yX6_sameShelves yX6_sameShelves ∈ Tt := inT6 (i := 205) rfl rfl
theorem w6_206 : Cond.code yX6_sameShelves cX6_sameShelves 6 (some .boolean) ∈ Tt := inT6 (i := 206) rfl rfl
theorem mlL_294 : Cond.methodLink "BookgrafterLaw" 294 yX6_house ∈ Tt := inT6 (i := 207) rfl rfl
theorem w6_208 : Cond.instanceMethod yX6_house ∈ Tt := inT6 (i := 208) rfl rfl
theorem w6_209 : Cond.selects "BookgrafterModel" yX6_house yX6_house ∈ Tt := inT6 (i := 209) rfl rfl
theorem w6_210 : Cond.code yX6_house cX6_house 2 (some .int) ∈ Tt := inT6 (i := 210) rfl rfl
theorem mlL_298 : Cond.methodLink "BookgrafterLaw" 298 yX6_knock ∈ Tt := inT6 (i := 211) rfl rfl
theorem w6_212 : Cond.instanceMethod yX6_knock ∈ Tt := inT6 (i := 212) rfl rfl
theorem w6_213 : Cond.selects "BookgrafterModel" yX6_knock yX6_knock ∈ Tt := inT6 (i := 213) rfl rfl
theorem w6_214 : Cond.code yX6_knock cX6_knock 1 (some .int) ∈ Tt := inT6 (i := 214) rfl rfl
theorem mlL_303 : Cond.methodLink "BookgrafterLaw" 303 yX6_isSound ∈ Tt := inT6 (i := 215) rfl rfl
theorem w6_216 : Cond.instanceMethod yX6_isSound ∈ Tt := inT6 (i := 216) rfl rfl
theorem w6_217 : Cond.selects "BookgrafterModel" yX6_isSound yX6_isSound ∈ Tt := inT6 (i := 217) rfl rfl
theorem w6_218 : Cond.code yX6_isSound cX6_isSound 1 (some .boolean) ∈ Tt := inT6 (i := 218) rfl rfl
theorem mlL_308 : Cond.methodLink "BookgrafterLaw" 308 yX6_digest ∈ Tt := inT6 (i := 219) rfl rfl
theorem w6_220 : Cond.instanceMethod yX6_digest ∈ Tt := inT6 (i := 220) rfl rfl
theorem w6_221 : Cond.selects "BookgrafterModel" yX6_digest yX6_digest ∈ Tt := inT6 (i := 221) rfl rfl
theorem w6_222 : Cond.code yX6_digest cX6_digest 8 (some .long) ∈ Tt := inT6 (i := 222) rfl rfl
theorem cLX6_204 : Cond.constantLong "BookgrafterModel" 204 17706 ∈ Tt := inT6 (i := 223) rfl rfl
theorem mlX6_206 : Cond.methodLink "BookgrafterModel" 206 yX6_add ∈ Tt := inT6 (i := 224) rfl rfl
theorem w6_225 : Cond.static yX6_add ∈ Tt := inT6 (i := 225) rfl rfl
theorem w6_226 : Cond.code yX6_add cX6_add 4 (some .long) ∈ Tt := inT6 (i := 226) rfl rfl
theorem cLX6_202 : Cond.constantLong "BookgrafterModel" 202 31 ∈ Tt := inT6 (i := 227) rfl rfl
theorem w6_228 : Cond.sameMethod "java/lang/Throwable" "java/lang/Throwable" "fillInStackTrace" "(I)Ljava/lang/Throwable;" ∈ Tt := inT6 (i := 228) rfl rfl
theorem w6_229 : Cond.sameMethod "java/lang/AbstractStringBuilder" "java/lang/AbstractStringBuilder" "append" "(C)Ljava/lang/AbstractStringBuilder;" ∈ Tt := inT6 (i := 229) rfl rfl
theorem w6_230 : Cond.sameMethod "java/lang/AbstractStringBuilder" "java/lang/AbstractStringBuilder" "ensureCapacityInternal" "(I)V" ∈ Tt := inT6 (i := 230) rfl rfl
theorem w6_231 : Cond.sameMethod "java/lang/AbstractStringBuilder" "java/lang/AbstractStringBuilder" "newCapacity" "(I)I" ∈ Tt := inT6 (i := 231) rfl rfl
theorem w6_232 : Cond.sameMethod "java/lang/AbstractStringBuilder" "java/lang/AbstractStringBuilder" "inflate" "()V" ∈ Tt := inT6 (i := 232) rfl rfl
theorem w6_233 : Cond.sameMethod "java/lang/AbstractStringBuilder" "java/lang/AbstractStringBuilder" "append" "(Ljava/lang/String;)Ljava/lang/AbstractStringBuilder;" ∈ Tt := inT6 (i := 233) rfl rfl
theorem w6_234 : Cond.sameMethod "java/lang/AbstractStringBuilder" "java/lang/AbstractStringBuilder" "appendNull" "()Ljava/lang/AbstractStringBuilder;" ∈ Tt := inT6 (i := 234) rfl rfl
theorem w6_235 : Cond.sameMethod "java/lang/AbstractStringBuilder" "java/lang/AbstractStringBuilder" "putStringAt" "(ILjava/lang/String;)V" ∈ Tt := inT6 (i := 235) rfl rfl
theorem w6_236 : Cond.sameMethod "java/lang/AbstractStringBuilder" "java/lang/AbstractStringBuilder" "inflateIfNeededFor" "(Ljava/lang/String;)V" ∈ Tt := inT6 (i := 236) rfl rfl
