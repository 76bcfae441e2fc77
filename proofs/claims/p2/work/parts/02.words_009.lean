theorem w3_117 : Cond.code yJ2_newBytesFor_77867 cJ2_newBytesFor_77867 1 (some (.array .byte)) ∈ Tt := inT3 (i := 117) rfl rfl
theorem mlJ2_11 : Cond.methodLink "java/lang/StringUTF16" 11 yJ2_newBytesLength_0f7a4 ∈ Tt := inT3 (i := 118) rfl rfl
theorem w3_119 : Cond.static yJ2_newBytesLength_0f7a4 ∈ Tt := inT3 (i := 119) rfl rfl
theorem w3_120 : Cond.code yJ2_newBytesLength_0f7a4 cJ2_newBytesLength_0f7a4 1 (some .int) ∈ Tt := inT3 (i := 120) rfl rfl
theorem cIJ2_20 : Cond.constant "java/lang/StringUTF16" 20 1073741823 ∈ Tt := inT3 (i := 121) rfl rfl
theorem flJ5_15 : Cond.fieldLink "java/lang/AbstractStringBuilder" 15 "java/lang/AbstractStringBuilder" "value" "[B" ∈ Tt := inT3 (i := 122) rfl rfl
theorem flJ5_22 : Cond.fieldLink "java/lang/AbstractStringBuilder" 22 "java/lang/AbstractStringBuilder" "coder" "B" ∈ Tt := inT3 (i := 123) rfl rfl
theorem flJ0_1048 : Cond.fieldLink "java/lang/String" 1048 "java/lang/AbstractStringBuilder" "maybeLatin1" "Z" ∈ Tt := inT3 (i := 124) rfl rfl
theorem flJ5_79 : Cond.fieldLink "java/lang/AbstractStringBuilder" 79 "java/lang/AbstractStringBuilder" "count" "I" ∈ Tt := inT3 (i := 125) rfl rfl
theorem w3_126 : Cond.lays "java/lang/StringBuilder" "java/lang/AbstractStringBuilder" "value" "[B" ∈ Tt := inT3 (i := 126) rfl rfl
theorem w3_128 : Cond.lays "java/lang/StringBuilder" "java/lang/AbstractStringBuilder" "coder" "B" ∈ Tt := inT3 (i := 128) rfl rfl
theorem w3_130 : Cond.lays "java/lang/StringBuilder" "java/lang/AbstractStringBuilder" "maybeLatin1" "Z" ∈ Tt := inT3 (i := 130) rfl rfl
theorem w3_132 : Cond.lays "java/lang/StringBuilder" "java/lang/AbstractStringBuilder" "count" "I" ∈ Tt := inT3 (i := 132) rfl rfl
theorem w3_134 : Cond.superclass "java/lang/StringBuilder" "java/lang/AbstractStringBuilder" ∈ Tt := inT3 (i := 134) rfl rfl
theorem mlX3_151 : Cond.methodLink "Bookgrafter" 151 yJ4_append_cf468 ∈ Tt := inT3 (i := 135) rfl rfl
theorem w3_136 : Cond.instanceMethod yJ4_append_cf468 ∈ Tt := inT3 (i := 136) rfl rfl
theorem w3_137 : Cond.selects "java/lang/StringBuilder" yJ4_append_cf468 yJ4_append_cf468 ∈ Tt := inT3 (i := 137) rfl rfl
theorem w3_138 : Cond.code yJ4_append_cf468 cJ4_append_cf468 2 (some (.object "java/lang/StringBuilder")) ∈ Tt := inT3 (i := 138) rfl rfl
theorem mlJ4_50 : Cond.methodLink "java/lang/StringBuilder" 50 yJ5_append_3fe6f ∈ Tt := inT3 (i := 139) rfl rfl
theorem w3_140 : Cond.instanceMethod yJ5_append_3fe6f ∈ Tt := inT3 (i := 140) rfl rfl
theorem w3_141 : Cond.code yJ5_append_3fe6f cJ5_append_3fe6f 2 (some (.object "java/lang/AbstractStringBuilder")) ∈ Tt := inT3 (i := 141) rfl rfl
theorem mlJ5_100 : Cond.methodLink "java/lang/AbstractStringBuilder" 100 yJ5_ensureCapacityInternal_d00df ∈ Tt := inT3 (i := 142) rfl rfl
theorem w3_144 : Cond.instanceMethod yJ5_ensureCapacityInternal_d00df ∈ Tt := inT3 (i := 144) rfl rfl
theorem w3_145 : Cond.code yJ5_ensureCapacityInternal_d00df cJ5_ensureCapacityInternal_d00df 3 none ∈ Tt := inT3 (i := 145) rfl rfl
theorem mlJ5_104 : Cond.methodLink "java/lang/AbstractStringBuilder" 104 yJ5_newCapacity_0f7a4 ∈ Tt := inT3 (i := 146) rfl rfl
theorem w3_148 : Cond.instanceMethod yJ5_newCapacity_0f7a4 ∈ Tt := inT3 (i := 148) rfl rfl
theorem w3_149 : Cond.code yJ5_newCapacity_0f7a4 cJ5_newCapacity_0f7a4 6 (some .int) ∈ Tt := inT3 (i := 149) rfl rfl
theorem mlJ5_114 : Cond.methodLink "java/lang/AbstractStringBuilder" 114 yJ8_newLength_cabcc ∈ Tt := inT3 (i := 150) rfl rfl
theorem w3_151 : Cond.static yJ8_newLength_cabcc ∈ Tt := inT3 (i := 151) rfl rfl
theorem w3_152 : Cond.code yJ8_newLength_cabcc cJ8_newLength_cabcc 4 (some .int) ∈ Tt := inT3 (i := 152) rfl rfl
theorem mlJ8_194 : Cond.methodLink "jdk/internal/util/ArraysSupport" 194 yJ9_max_7cf53 ∈ Tt := inT3 (i := 153) rfl rfl
theorem cIJ8_200 : Cond.constant "jdk/internal/util/ArraysSupport" 200 2147483639 ∈ Tt := inT3 (i := 154) rfl rfl
theorem mlJ8_201 : Cond.methodLink "jdk/internal/util/ArraysSupport" 201 yJ8_hugeLength_7cf53 ∈ Tt := inT3 (i := 155) rfl rfl
theorem w3_156 : Cond.static yJ8_hugeLength_7cf53 ∈ Tt := inT3 (i := 156) rfl rfl
theorem w3_157 : Cond.code yJ8_hugeLength_7cf53 cJ8_hugeLength_7cf53 3 (some .int) ∈ Tt := inT3 (i := 157) rfl rfl
theorem cIJ5_39 : Cond.constant "java/lang/AbstractStringBuilder" 39 2147483647 ∈ Tt := inT3 (i := 158) rfl rfl
theorem mlJ5_108 : Cond.methodLink "java/lang/AbstractStringBuilder" 108 yJ7_copyOf_9075b ∈ Tt := inT3 (i := 159) rfl rfl
theorem w3_160 : Cond.static yJ7_copyOf_9075b ∈ Tt := inT3 (i := 160) rfl rfl
theorem w3_161 : Cond.code yJ7_copyOf_9075b cJ7_copyOf_9075b 3 (some (.array .byte)) ∈ Tt := inT3 (i := 161) rfl rfl
theorem mlJ7_310 : Cond.methodLink "java/util/Arrays" 310 ⟨"[B", "clone", "()Ljava/lang/Object;"⟩ ∈ Tt := inT3 (i := 162) rfl rfl
theorem w3_163 : Cond.sameMethod "[B" "java/lang/Object" "clone" "()Ljava/lang/Object;" ∈ Tt := inT3 (i := 163) rfl rfl
theorem w3_164 : Cond.native ⟨"java/lang/Object", "clone", "()Ljava/lang/Object;"⟩ ∈ Tt := inT3 (i := 164) rfl rfl
theorem w3_165 : Cond.instanceMethod ⟨"java/lang/Object", "clone", "()Ljava/lang/Object;"⟩ ∈ Tt := inT3 (i := 165) rfl rfl
theorem w3_166 : Cond.selects "[B" ⟨"[B", "clone", "()Ljava/lang/Object;"⟩ ⟨"java/lang/Object", "clone", "()Ljava/lang/Object;"⟩ ∈ Tt := inT3 (i := 166) rfl rfl
theorem klJ7_311 : Cond.classLink "java/util/Arrays" 311 "[B" ∈ Tt := inT3 (i := 168) rfl rfl
theorem mlJ7_304 : Cond.methodLink "java/util/Arrays" 304 yJ9_min_7cf53 ∈ Tt := inT3 (i := 169) rfl rfl
theorem mlJ7_150 : Cond.methodLink "java/util/Arrays" 150 ⟨"java/lang/System", "arraycopy", "(Ljava/lang/Object;ILjava/lang/Object;II)V"⟩ ∈ Tt := inT3 (i := 170) rfl rfl
theorem w3_171 : Cond.static ⟨"java/lang/System", "arraycopy", "(Ljava/lang/Object;ILjava/lang/Object;II)V"⟩ ∈ Tt := inT3 (i := 171) rfl rfl
theorem w3_172 : Cond.native ⟨"java/lang/System", "arraycopy", "(Ljava/lang/Object;ILjava/lang/Object;II)V"⟩ ∈ Tt := inT3 (i := 172) rfl rfl
theorem mlJ5_83 : Cond.methodLink "java/lang/AbstractStringBuilder" 83 yJ5_isLatin1_aae02 ∈ Tt := inT3 (i := 173) rfl rfl
theorem w3_174 : Cond.instanceMethod yJ5_isLatin1_aae02 ∈ Tt := inT3 (i := 174) rfl rfl
theorem w3_175 : Cond.sameMethod "java/lang/AbstractStringBuilder" "java/lang/AbstractStringBuilder" "isLatin1" "()Z" ∈ Tt := inT3 (i := 175) rfl rfl
theorem w3_176 : Cond.selects "java/lang/StringBuilder" yJ5_isLatin1_aae02 yJ5_isLatin1_aae02 ∈ Tt := inT3 (i := 176) rfl rfl
theorem w3_177 : Cond.code yJ5_isLatin1_aae02 cJ5_isLatin1_aae02 1 (some .boolean) ∈ Tt := inT3 (i := 177) rfl rfl
theorem mlJ5_191 : Cond.methodLink "java/lang/AbstractStringBuilder" 191 yJ1_canEncode_fc78d ∈ Tt := inT3 (i := 178) rfl rfl
theorem w3_179 : Cond.static yJ1_canEncode_fc78d ∈ Tt := inT3 (i := 179) rfl rfl
theorem w3_180 : Cond.code yJ1_canEncode_fc78d cJ1_canEncode_fc78d 1 (some .boolean) ∈ Tt := inT3 (i := 180) rfl rfl
theorem mlJ5_195 : Cond.methodLink "java/lang/AbstractStringBuilder" 195 yJ5_inflate_da8c8 ∈ Tt := inT3 (i := 181) rfl rfl
theorem w3_183 : Cond.instanceMethod yJ5_inflate_da8c8 ∈ Tt := inT3 (i := 183) rfl rfl
theorem w3_184 : Cond.code yJ5_inflate_da8c8 cJ5_inflate_da8c8 2 none ∈ Tt := inT3 (i := 184) rfl rfl
