theorem lL_48 : CLV RL 48 yX3_take cX3_take 4 (some .int) 2 := ⟨⟨mlL_48, iniX3, w3_35, ⟨by decide +kernel, by decide +kernel, by decide +kernel⟩⟩, w3_33, w3_34⟩
theorem lL_51 : CLV RL 51 yX3_drop cX3_drop 4 (some .int) 2 := ⟨⟨mlL_51, iniX3, w3_42, ⟨by decide +kernel, by decide +kernel, by decide +kernel⟩⟩, w3_40, w3_41⟩
theorem lX3_116 : CLV RX3 116 yX0_dropOfPart cX0_dropOfPart 6 (some .int) 3 := ⟨⟨mlX3_116, iniX0, w3_46, ⟨by decide +kernel, by decide +kernel, by decide +kernel⟩⟩, w3_44, w3_45⟩
theorem lX0_76 : CLV RX0 76 yX0_clearPart cX0_clearPart 5 (some .int) 2 := ⟨⟨mlX0_76, iniX0, w2_206, ⟨by decide +kernel, by decide +kernel, by decide +kernel⟩⟩, w2_204, w2_205⟩
theorem lX0_79 : CLV RX0 79 yX0_endOfPart cX0_endOfPart 4 (some .int) 3 := ⟨⟨mlX0_79, iniX0, w1_197, ⟨by decide +kernel, by decide +kernel, by decide +kernel⟩⟩, w1_195, w1_196⟩
theorem lX0_83 : CLV RX0 83 yX0_pairAt cX0_pairAt 2 (some .int) 1 := ⟨⟨mlX0_83, iniX0, w1_151, ⟨by decide +kernel, by decide +kernel, by decide +kernel⟩⟩, w1_149, w1_150⟩
theorem lL_54 : CLV RL 54 yX3_has cX3_has 5 (some .boolean) 3 := ⟨⟨mlL_54, iniX3, w3_56, ⟨by decide +kernel, by decide +kernel, by decide +kernel⟩⟩, w3_54, w3_55⟩
theorem lX3_123 : CLV RX3 123 yX0_hasWorth cX0_hasWorth 3 (some .boolean) 1 := ⟨⟨mlX3_123, iniX0, w3_60, ⟨by decide +kernel, by decide +kernel, by decide +kernel⟩⟩, w3_58, w3_59⟩
theorem lL_58 : CLV RL 58 yX3_near cX3_near 7 (some .int) 4 := ⟨⟨mlL_58, iniX3, w3_67, ⟨by decide +kernel, by decide +kernel, by decide +kernel⟩⟩, w3_65, w3_66⟩
theorem lL_62 : CLV RL 62 yX3_end cX3_end 6 (some .int) 3 := ⟨⟨mlL_62, iniX3, w3_74, ⟨by decide +kernel, by decide +kernel, by decide +kernel⟩⟩, w3_72, w3_73⟩
theorem lX3_139 : CLV RX3 139 yX3_keyOrRefuse cX3_keyOrRefuse 3 (some .int) 2 := ⟨⟨mlX3_139, iniX3, w3_78, ⟨by decide +kernel, by decide +kernel, by decide +kernel⟩⟩, w3_77, w0_6⟩
theorem lL_66 : CLV RL 66 yX3_keyAt cX3_keyAt 6 (some .int) 3 := ⟨⟨mlL_66, iniX3, w3_85, ⟨by decide +kernel, by decide +kernel, by decide +kernel⟩⟩, w3_83, w3_84⟩
theorem lX3_142 : CLV RX3 142 yX0_rankBehind cX0_rankBehind 4 (some .int) 1 := ⟨⟨mlX3_142, iniX0, w3_89, ⟨by decide +kernel, by decide +kernel, by decide +kernel⟩⟩, w3_87, w3_88⟩
theorem lL_69 : CLV RL 69 yX3_tellBook cX3_tellBook 4 (some .int) 2 := ⟨⟨mlL_69, iniX3, w3_96, ⟨by decide +kernel, by decide +kernel, by decide +kernel⟩⟩, w3_94, w3_95⟩
theorem lL_72 : CLV RL 72 yX3_bookText cX3_bookText 6 (some (.object "java/lang/String")) 1 := ⟨⟨mlL_72, iniX3, w3_103, ⟨by decide +kernel, by decide +kernel, by decide +kernel⟩⟩, w3_101, w3_102⟩
theorem lX3_150 : CLI RX3 150 yJ4_init_da8c8 cJ4_init_da8c8 1 0 := ⟨⟨mlX3_150, iniJ4, w3_108, ⟨by decide +kernel, by decide +kernel, by decide +kernel⟩⟩, w3_107, by decide⟩
theorem lJ4_1 : CLI RJ4 1 yJ5_init_d00df cJ5_init_d00df 2 1 := ⟨⟨mlJ4_1, iniJ5, w3_111, ⟨by decide +kernel, by decide +kernel, by decide +kernel⟩⟩, w3_110, by decide⟩
theorem lJ5_26 : CLS RJ5 26 yJ2_newBytesFor_77867 cJ2_newBytesFor_77867 1 (some (.array .byte)) 1 := ⟨⟨mlJ5_26, iniJ2, w3_117, ⟨by decide +kernel, by decide +kernel, by decide +kernel⟩⟩, w3_116⟩
theorem lJ2_11 : CLS RJ2 11 yJ2_newBytesLength_0f7a4 cJ2_newBytesLength_0f7a4 1 (some .int) 1 := ⟨⟨mlJ2_11, iniJ2, w3_120, ⟨by decide +kernel, by decide +kernel, by decide +kernel⟩⟩, w3_119⟩
theorem lX3_151 : CLV RX3 151 yJ4_append_cf468 cJ4_append_cf468 2 (some (.object "java/lang/StringBuilder")) 1 := ⟨⟨mlX3_151, iniJ4, w3_138, ⟨by decide +kernel, by decide +kernel, by decide +kernel⟩⟩, w3_136, w3_137⟩
-- no link for Cond.methodLink "java/lang/StringBuilder" 50 <java/lang/AbstractStringBuilder|append|(C)Ljava/lang/AbstractStringBuilder;>
-- no link for Cond.methodLink "java/lang/AbstractStringBuilder" 100 <java/lang/AbstractStringBuilder|ensureCapacityInternal|(I)V>
-- no link for Cond.methodLink "java/lang/AbstractStringBuilder" 104 <java/lang/AbstractStringBuilder|newCapacity|(I)I>
theorem lJ5_114 : CLS RJ5 114 yJ8_newLength_cabcc cJ8_newLength_cabcc 4 (some .int) 3 := ⟨⟨mlJ5_114, iniJ8, w3_152, ⟨by decide +kernel, by decide +kernel, by decide +kernel⟩⟩, w3_151⟩
theorem lJ8_194 : CLS RJ8 194 yJ9_max_7cf53 cJ9_max_7cf53 2 (some .int) 2 := ⟨⟨mlJ8_194, iniMath, cdMax, ⟨by decide +kernel, by decide +kernel, by decide +kernel⟩⟩, stMax⟩
theorem lJ8_201 : CLS RJ8 201 yJ8_hugeLength_7cf53 cJ8_hugeLength_7cf53 3 (some .int) 2 := ⟨⟨mlJ8_201, iniJ8, w3_157, ⟨by decide +kernel, by decide +kernel, by decide +kernel⟩⟩, w3_156⟩
theorem lJ5_108 : CLS RJ5 108 yJ7_copyOf_9075b cJ7_copyOf_9075b 3 (some (.array .byte)) 2 := ⟨⟨mlJ5_108, iniJ7, w3_161, ⟨by decide +kernel, by decide +kernel, by decide +kernel⟩⟩, w3_160⟩
theorem lJ7_304 : CLS RJ7 304 yJ9_min_7cf53 cJ9_min_7cf53 2 (some .int) 2 := ⟨⟨mlJ7_304, iniMath, cdMin, ⟨by decide +kernel, by decide +kernel, by decide +kernel⟩⟩, stMin⟩
-- no link for Cond.methodLink "java/lang/AbstractStringBuilder" 83 <java/lang/AbstractStringBuilder|isLatin1|()Z>
theorem lJ5_191 : CLS RJ5 191 yJ1_canEncode_fc78d cJ1_canEncode_fc78d 1 (some .boolean) 1 := ⟨⟨mlJ5_191, iniJ1, w3_180, ⟨by decide +kernel, by decide +kernel, by decide +kernel⟩⟩, w3_179⟩
-- no link for Cond.methodLink "java/lang/AbstractStringBuilder" 195 <java/lang/AbstractStringBuilder|inflate|()V>
theorem lJ5_125 : CLS RJ5 125 yJ1_inflate_0e8fd cJ1_inflate_0e8fd 5 none 5 := ⟨⟨mlJ5_125, iniJ1, w3_187, ⟨by decide +kernel, by decide +kernel, by decide +kernel⟩⟩, w3_186⟩
theorem lJ1_240 : CLS RJ1 240 yJ2_inflate_0e8fd cJ2_inflate_0e8fd 6 none 5 := ⟨⟨mlJ1_240, iniJ2, w3_190, ⟨by decide +kernel, by decide +kernel, by decide +kernel⟩⟩, w3_189⟩
theorem lJ2_173 : CLS RJ2 173 yJ2_checkBoundsOffCount_d044e cJ2_checkBoundsOffCount_d044e 3 none 3 := ⟨⟨mlJ2_173, iniJ2, w3_193, ⟨by decide +kernel, by decide +kernel, by decide +kernel⟩⟩, w3_192⟩
theorem lJ2_48 : CLS RJ2 48 yJ2_length_9d52b cJ2_length_9d52b 1 (some .int) 1 := ⟨⟨mlJ2_48, iniJ2, w3_196, ⟨by decide +kernel, by decide +kernel, by decide +kernel⟩⟩, w3_195⟩
theorem lJ2_419 : CLS RJ2 419 yJ0_checkBoundsOffCount_cabcc cJ0_checkBoundsOffCount_cabcc 3 (some .int) 3 := ⟨⟨mlJ2_419, iniJ0, w3_199, ⟨by decide +kernel, by decide +kernel, by decide +kernel⟩⟩, w3_198⟩
theorem lJ0_1065 : CLS RJ0 1065 yJ3_checkFromIndexSize_8c36e cJ3_checkFromIndexSize_8c36e 4 (some .int) 4 := ⟨⟨mlJ0_1065, iniJ3, w3_204, ⟨by decide +kernel, by decide +kernel, by decide +kernel⟩⟩, w3_203⟩
theorem lJ2_111 : CLS RJ2 111 yJ2_putChar_b72d1 cJ2_putChar_b72d1 3 none 3 := ⟨⟨mlJ2_111, iniJ2, w3_207, ⟨by decide +kernel, by decide +kernel, by decide +kernel⟩⟩, w3_206⟩
theorem lJ5_197 : CLS RJ5 197 yJ2_putCharSB_b72d1 cJ2_putCharSB_b72d1 3 none 3 := ⟨⟨mlJ5_197, iniJ2, w3_216, ⟨by decide +kernel, by decide +kernel, by decide +kernel⟩⟩, w3_215⟩
theorem lJ2_67 : CLS RJ2 67 yJ2_checkIndex_2214a cJ2_checkIndex_2214a 2 none 2 := ⟨⟨mlJ2_67, iniJ2, w3_219, ⟨by decide +kernel, by decide +kernel, by decide +kernel⟩⟩, w3_218⟩
theorem lJ2_414 : CLS RJ2 414 yJ0_checkIndex_df160 cJ0_checkIndex_df160 2 none 2 := ⟨⟨mlJ2_414, iniJ0, w3_222, ⟨by decide +kernel, by decide +kernel, by decide +kernel⟩⟩, w3_221⟩
theorem lJ0_1059 : CLS RJ0 1059 yJ3_checkIndex_8e157 cJ3_checkIndex_8e157 3 (some .int) 3 := ⟨⟨mlJ0_1059, iniJ3, w3_225, ⟨by decide +kernel, by decide +kernel, by decide +kernel⟩⟩, w3_224⟩
theorem lX3_157 : CLV RX3 157 yJ4_append_15ec4 cJ4_append_15ec4 2 (some (.object "java/lang/StringBuilder")) 1 := ⟨⟨mlX3_157, iniJ4, w3_230, ⟨by decide +kernel, by decide +kernel, by decide +kernel⟩⟩, w3_228, w3_229⟩
-- no link for Cond.methodLink "java/lang/StringBuilder" 29 <java/lang/AbstractStringBuilder|append|(Ljava/lang/String;)Ljava/lang/AbstractStringBuilder;>
-- no link for Cond.methodLink "java/lang/AbstractStringBuilder" 204 <java/lang/AbstractStringBuilder|appendNull|()Ljava/lang/AbstractStringBuilder;>
theorem lJ5_226 : CLS RJ5 226 yJ2_putCharsAt_cd4e5 cJ2_putCharsAt_cd4e5 7 (some .int) 6 := ⟨⟨mlJ5_226, iniJ2, w4_0, ⟨by decide +kernel, by decide +kernel, by decide +kernel⟩⟩, w3_239⟩
theorem lJ2_96 : CLS RJ2 96 yJ2_checkBoundsBeginEnd_d044e cJ2_checkBoundsBeginEnd_d044e 3 none 3 := ⟨⟨mlJ2_96, iniJ2, w4_3, ⟨by decide +kernel, by decide +kernel, by decide +kernel⟩⟩, w4_2⟩
theorem lJ2_241 : CLS RJ2 241 yJ0_checkBoundsBeginEnd_23922 cJ0_checkBoundsBeginEnd_23922 3 none 3 := ⟨⟨mlJ2_241, iniJ0, w4_6, ⟨by decide +kernel, by decide +kernel, by decide +kernel⟩⟩, w4_5⟩
theorem lJ0_1062 : CLS RJ0 1062 yJ3_checkFromToIndex_8c36e cJ3_checkFromToIndex_8c36e 4 (some .int) 4 := ⟨⟨mlJ0_1062, iniJ3, w4_9, ⟨by decide +kernel, by decide +kernel, by decide +kernel⟩⟩, w4_8⟩
theorem lJ5_32 : CLV RJ5 32 yJ0_length_8abf5 cJ0_length_8abf5 1 (some .int) 0 := ⟨⟨mlJ5_32, iniJ0, w4_13, ⟨by decide +kernel, by decide +kernel, by decide +kernel⟩⟩, w4_11, w4_12⟩
theorem lJ0_335 : CLV RJ0 335 yJ0_coder_7d493 cJ0_coder_7d493 1 (some .byte) 0 := ⟨⟨mlJ0_335, iniJ0, w4_17, ⟨by decide +kernel, by decide +kernel, by decide +kernel⟩⟩, w4_15, w4_16⟩
-- no link for Cond.methodLink "java/lang/AbstractStringBuilder" 208 <java/lang/AbstractStringBuilder|putStringAt|(ILjava/lang/String;)V>
-- no link for Cond.methodLink "java/lang/AbstractStringBuilder" 397 <java/lang/AbstractStringBuilder|inflateIfNeededFor|(Ljava/lang/String;)V>
theorem lJ5_40 : CLV RJ5 40 yJ0_coder_7d493 cJ0_coder_7d493 1 (some .byte) 0 := ⟨⟨mlJ5_40, iniJ0, w4_17, ⟨by decide +kernel, by decide +kernel, by decide +kernel⟩⟩, w4_15, w4_16⟩
theorem lJ5_399 : CLV RJ5 399 yJ0_getBytes_840e7 cJ0_getBytes_840e7 4 none 3 := ⟨⟨mlJ5_399, iniJ0, w4_31, ⟨by decide +kernel, by decide +kernel, by decide +kernel⟩⟩, w4_29, w4_30⟩
theorem lJ0_106 : CLS RJ0 106 yJ1_inflate_0e8fd cJ1_inflate_0e8fd 5 none 5 := ⟨⟨mlJ0_106, iniJ1, w3_187, ⟨by decide +kernel, by decide +kernel, by decide +kernel⟩⟩, w3_186⟩
theorem lX3_160 : CLV RX3 160 yJ4_append_bf812 cJ4_append_bf812 2 (some (.object "java/lang/StringBuilder")) 1 := ⟨⟨mlX3_160, iniJ4, w4_37, ⟨by decide +kernel, by decide +kernel, by decide +kernel⟩⟩, w4_35, w4_36⟩
-- no link for Cond.methodLink "java/lang/StringBuilder" 53 <java/lang/AbstractStringBuilder|append|(I)Ljava/lang/AbstractStringBuilder;>
theorem lJ5_245 : CLS RJ5 245 yJ6_stringSize_0f7a4 cJ6_stringSize_0f7a4 4 (some .int) 1 := ⟨⟨mlJ5_245, iniJ6, w4_43, ⟨by decide +kernel, by decide +kernel, by decide +kernel⟩⟩, w4_42⟩
theorem lJ5_248 : CLS RJ5 248 yJ6_getChars_ba4f3 cJ6_getChars_ba4f3 7 (some .int) 3 := ⟨⟨mlJ5_248, iniJ6, w4_46, ⟨by decide +kernel, by decide +kernel, by decide +kernel⟩⟩, w4_45⟩
