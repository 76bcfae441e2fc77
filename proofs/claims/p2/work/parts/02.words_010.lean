theorem mlJ5_125 : Cond.methodLink "java/lang/AbstractStringBuilder" 125 yJ1_inflate_0e8fd ∈ Tt := inT3 (i := 185) rfl rfl
theorem w3_186 : Cond.static yJ1_inflate_0e8fd ∈ Tt := inT3 (i := 186) rfl rfl
theorem w3_187 : Cond.code yJ1_inflate_0e8fd cJ1_inflate_0e8fd 5 none ∈ Tt := inT3 (i := 187) rfl rfl
theorem mlJ1_240 : Cond.methodLink "java/lang/StringLatin1" 240 yJ2_inflate_0e8fd ∈ Tt := inT3 (i := 188) rfl rfl
theorem w3_189 : Cond.static yJ2_inflate_0e8fd ∈ Tt := inT3 (i := 189) rfl rfl
theorem w3_190 : Cond.code yJ2_inflate_0e8fd cJ2_inflate_0e8fd 6 none ∈ Tt := inT3 (i := 190) rfl rfl
theorem mlJ2_173 : Cond.methodLink "java/lang/StringUTF16" 173 yJ2_checkBoundsOffCount_d044e ∈ Tt := inT3 (i := 191) rfl rfl
theorem w3_192 : Cond.static yJ2_checkBoundsOffCount_d044e ∈ Tt := inT3 (i := 192) rfl rfl
theorem w3_193 : Cond.code yJ2_checkBoundsOffCount_d044e cJ2_checkBoundsOffCount_d044e 3 none ∈ Tt := inT3 (i := 193) rfl rfl
theorem mlJ2_48 : Cond.methodLink "java/lang/StringUTF16" 48 yJ2_length_9d52b ∈ Tt := inT3 (i := 194) rfl rfl
theorem w3_195 : Cond.static yJ2_length_9d52b ∈ Tt := inT3 (i := 195) rfl rfl
theorem w3_196 : Cond.code yJ2_length_9d52b cJ2_length_9d52b 1 (some .int) ∈ Tt := inT3 (i := 196) rfl rfl
theorem mlJ2_419 : Cond.methodLink "java/lang/StringUTF16" 419 yJ0_checkBoundsOffCount_cabcc ∈ Tt := inT3 (i := 197) rfl rfl
theorem w3_198 : Cond.static yJ0_checkBoundsOffCount_cabcc ∈ Tt := inT3 (i := 198) rfl rfl
theorem w3_199 : Cond.code yJ0_checkBoundsOffCount_cabcc cJ0_checkBoundsOffCount_cabcc 3 (some .int) ∈ Tt := inT3 (i := 199) rfl rfl
theorem flJ0_1053 : Cond.fieldLink "java/lang/String" 1053 "jdk/internal/util/Preconditions" "SIOOBE_FORMATTER" "Ljava/util/function/BiFunction;" ∈ Tt := inT3 (i := 200) rfl rfl
theorem mlJ0_1065 : Cond.methodLink "java/lang/String" 1065 yJ3_checkFromIndexSize_8c36e ∈ Tt := inT3 (i := 202) rfl rfl
theorem w3_203 : Cond.static yJ3_checkFromIndexSize_8c36e ∈ Tt := inT3 (i := 203) rfl rfl
theorem w3_204 : Cond.code yJ3_checkFromIndexSize_8c36e cJ3_checkFromIndexSize_8c36e 4 (some .int) ∈ Tt := inT3 (i := 204) rfl rfl
theorem mlJ2_111 : Cond.methodLink "java/lang/StringUTF16" 111 yJ2_putChar_b72d1 ∈ Tt := inT3 (i := 205) rfl rfl
theorem w3_206 : Cond.static yJ2_putChar_b72d1 ∈ Tt := inT3 (i := 206) rfl rfl
theorem w3_207 : Cond.code yJ2_putChar_b72d1 cJ2_putChar_b72d1 3 none ∈ Tt := inT3 (i := 207) rfl rfl
theorem flJ2_44 : Cond.fieldLink "java/lang/StringUTF16" 44 "java/lang/StringUTF16" "$assertionsDisabled" "Z" ∈ Tt := inT3 (i := 208) rfl rfl
theorem flJ2_59 : Cond.fieldLink "java/lang/StringUTF16" 59 "java/lang/StringUTF16" "HI_BYTE_SHIFT" "I" ∈ Tt := inT3 (i := 210) rfl rfl
theorem flJ2_63 : Cond.fieldLink "java/lang/StringUTF16" 63 "java/lang/StringUTF16" "LO_BYTE_SHIFT" "I" ∈ Tt := inT3 (i := 212) rfl rfl
theorem mlJ5_197 : Cond.methodLink "java/lang/AbstractStringBuilder" 197 yJ2_putCharSB_b72d1 ∈ Tt := inT3 (i := 214) rfl rfl
theorem w3_215 : Cond.static yJ2_putCharSB_b72d1 ∈ Tt := inT3 (i := 215) rfl rfl
theorem w3_216 : Cond.code yJ2_putCharSB_b72d1 cJ2_putCharSB_b72d1 3 none ∈ Tt := inT3 (i := 216) rfl rfl
theorem mlJ2_67 : Cond.methodLink "java/lang/StringUTF16" 67 yJ2_checkIndex_2214a ∈ Tt := inT3 (i := 217) rfl rfl
theorem w3_218 : Cond.static yJ2_checkIndex_2214a ∈ Tt := inT3 (i := 218) rfl rfl
theorem w3_219 : Cond.code yJ2_checkIndex_2214a cJ2_checkIndex_2214a 2 none ∈ Tt := inT3 (i := 219) rfl rfl
theorem mlJ2_414 : Cond.methodLink "java/lang/StringUTF16" 414 yJ0_checkIndex_df160 ∈ Tt := inT3 (i := 220) rfl rfl
theorem w3_221 : Cond.static yJ0_checkIndex_df160 ∈ Tt := inT3 (i := 221) rfl rfl
theorem w3_222 : Cond.code yJ0_checkIndex_df160 cJ0_checkIndex_df160 2 none ∈ Tt := inT3 (i := 222) rfl rfl
theorem mlJ0_1059 : Cond.methodLink "java/lang/String" 1059 yJ3_checkIndex_8e157 ∈ Tt := inT3 (i := 223) rfl rfl
theorem w3_224 : Cond.static yJ3_checkIndex_8e157 ∈ Tt := inT3 (i := 224) rfl rfl
theorem w3_225 : Cond.code yJ3_checkIndex_8e157 cJ3_checkIndex_8e157 3 (some .int) ∈ Tt := inT3 (i := 225) rfl rfl
theorem mlX3_157 : Cond.methodLink "Bookgrafter" 157 yJ4_append_15ec4 ∈ Tt := inT3 (i := 227) rfl rfl
theorem w3_228 : Cond.instanceMethod yJ4_append_15ec4 ∈ Tt := inT3 (i := 228) rfl rfl
theorem w3_229 : Cond.selects "java/lang/StringBuilder" yJ4_append_15ec4 yJ4_append_15ec4 ∈ Tt := inT3 (i := 229) rfl rfl
theorem w3_230 : Cond.code yJ4_append_15ec4 cJ4_append_15ec4 2 (some (.object "java/lang/StringBuilder")) ∈ Tt := inT3 (i := 230) rfl rfl
theorem mlJ4_29 : Cond.methodLink "java/lang/StringBuilder" 29 yJ5_append_cf1ce ∈ Tt := inT3 (i := 231) rfl rfl
theorem w3_232 : Cond.instanceMethod yJ5_append_cf1ce ∈ Tt := inT3 (i := 232) rfl rfl
theorem w3_233 : Cond.code yJ5_append_cf1ce cJ5_append_cf1ce 3 (some (.object "java/lang/AbstractStringBuilder")) ∈ Tt := inT3 (i := 233) rfl rfl
theorem mlJ5_204 : Cond.methodLink "java/lang/AbstractStringBuilder" 204 yJ5_appendNull_278bc ∈ Tt := inT3 (i := 234) rfl rfl
theorem w3_236 : Cond.instanceMethod yJ5_appendNull_278bc ∈ Tt := inT3 (i := 236) rfl rfl
theorem w3_237 : Cond.code yJ5_appendNull_278bc cJ5_appendNull_278bc 3 (some (.object "java/lang/AbstractStringBuilder")) ∈ Tt := inT3 (i := 237) rfl rfl
theorem mlJ5_226 : Cond.methodLink "java/lang/AbstractStringBuilder" 226 yJ2_putCharsAt_cd4e5 ∈ Tt := inT3 (i := 238) rfl rfl
theorem w3_239 : Cond.static yJ2_putCharsAt_cd4e5 ∈ Tt := inT3 (i := 239) rfl rfl
theorem w4_0 : Cond.code yJ2_putCharsAt_cd4e5 cJ2_putCharsAt_cd4e5 7 (some .int) ∈ Tt := inT4 (i := 0) rfl rfl
theorem mlJ2_96 : Cond.methodLink "java/lang/StringUTF16" 96 yJ2_checkBoundsBeginEnd_d044e ∈ Tt := inT4 (i := 1) rfl rfl
theorem w4_2 : Cond.static yJ2_checkBoundsBeginEnd_d044e ∈ Tt := inT4 (i := 2) rfl rfl
theorem w4_3 : Cond.code yJ2_checkBoundsBeginEnd_d044e cJ2_checkBoundsBeginEnd_d044e 3 none ∈ Tt := inT4 (i := 3) rfl rfl
theorem mlJ2_241 : Cond.methodLink "java/lang/StringUTF16" 241 yJ0_checkBoundsBeginEnd_23922 ∈ Tt := inT4 (i := 4) rfl rfl
theorem w4_5 : Cond.static yJ0_checkBoundsBeginEnd_23922 ∈ Tt := inT4 (i := 5) rfl rfl
theorem w4_6 : Cond.code yJ0_checkBoundsBeginEnd_23922 cJ0_checkBoundsBeginEnd_23922 3 none ∈ Tt := inT4 (i := 6) rfl rfl
theorem mlJ0_1062 : Cond.methodLink "java/lang/String" 1062 yJ3_checkFromToIndex_8c36e ∈ Tt := inT4 (i := 7) rfl rfl
theorem w4_8 : Cond.static yJ3_checkFromToIndex_8c36e ∈ Tt := inT4 (i := 8) rfl rfl
theorem w4_9 : Cond.code yJ3_checkFromToIndex_8c36e cJ3_checkFromToIndex_8c36e 4 (some .int) ∈ Tt := inT4 (i := 9) rfl rfl
theorem mlJ5_32 : Cond.methodLink "java/lang/AbstractStringBuilder" 32 yJ0_length_8abf5 ∈ Tt := inT4 (i := 10) rfl rfl
