theorem w6_237 : Cond.sameMethod "java/lang/AbstractStringBuilder" "java/lang/AbstractStringBuilder" "append" "(I)Ljava/lang/AbstractStringBuilder;" ∈ Tt := inT6 (i := 237) rfl rfl
theorem w6_238 : Cond.selects "java/lang/StringBuilder" yJ5_append_cf1ce yJ4_append_cf1ce ∈ Tt := inT6 (i := 238) rfl rfl
theorem w6_239 : Cond.selects "java/lang/StringBuilder" yJ4_length_8abf5 yJ4_length_8abf5 ∈ Tt := inT6 (i := 239) rfl rfl
theorem w0_0 : Cond.selects "Bookgrafter" yX3_refuse yX3_refuse ∈ Tt := inT0 (i := 0) rfl rfl
theorem w0_1 : Cond.selects "Bookgrafter$Row" yX0_turned yX0_turned ∈ Tt := inT0 (i := 1) rfl rfl
theorem w0_2 : Cond.selects "Bookgrafter" yX3_houseFact yX3_houseFact ∈ Tt := inT0 (i := 2) rfl rfl
theorem w0_3 : Cond.selects "Bookgrafter" yX3_bookAt yX3_bookAt ∈ Tt := inT0 (i := 3) rfl rfl
theorem w0_4 : Cond.selects "java/lang/Throwable" ⟨"java/lang/Throwable", "fillInStackTrace", "(I)Ljava/lang/Throwable;"⟩ ⟨"java/lang/Throwable", "fillInStackTrace", "(I)Ljava/lang/Throwable;"⟩ ∈ Tt := inT0 (i := 4) rfl rfl
theorem w0_5 : Cond.selects "Bookgrafter" yX3_write yX3_write ∈ Tt := inT0 (i := 5) rfl rfl
theorem w0_6 : Cond.selects "Bookgrafter" yX3_keyOrRefuse yX3_keyOrRefuse ∈ Tt := inT0 (i := 6) rfl rfl
theorem w0_7 : Cond.selects "Bookgrafter" yX3_viewAt yX3_viewAt ∈ Tt := inT0 (i := 7) rfl rfl
theorem w0_8 : Cond.selects "Bookgrafter" yX3_shelfAt yX3_shelfAt ∈ Tt := inT0 (i := 8) rfl rfl
theorem w0_9 : Cond.selects "BookgrafterModel" yX6_isLet yX6_isLet ∈ Tt := inT0 (i := 9) rfl rfl
theorem w0_10 : Cond.selects "BookgrafterModel" yX6_did yX6_did ∈ Tt := inT0 (i := 10) rfl rfl
theorem w0_11 : Cond.selects "BookgrafterModel" yX6_refuse yX6_refuse ∈ Tt := inT0 (i := 11) rfl rfl
theorem w0_12 : Cond.selects "BookgrafterModel" yX6_write yX6_write ∈ Tt := inT0 (i := 12) rfl rfl
theorem w0_13 : Cond.selects "BookgrafterModel" yX6_set yX6_set ∈ Tt := inT0 (i := 13) rfl rfl
theorem w0_14 : Cond.selects "BookgrafterModel" yX6_change yX6_change ∈ Tt := inT0 (i := 14) rfl rfl
theorem w0_15 : Cond.selects "BookgrafterModel" yX6_dropped yX6_dropped ∈ Tt := inT0 (i := 15) rfl rfl
theorem w0_16 : Cond.selects "BookgrafterModel" yX6_seen yX6_seen ∈ Tt := inT0 (i := 16) rfl rfl
theorem w0_17 : Cond.selects "BookgrafterModel" yX6_isWithin yX6_isWithin ∈ Tt := inT0 (i := 17) rfl rfl
theorem w0_18 : Cond.selects "BookgrafterModel" yX6_sum yX6_sum ∈ Tt := inT0 (i := 18) rfl rfl
theorem w0_19 : Cond.selects "BookgrafterModel" yX6_isGoing yX6_isGoing ∈ Tt := inT0 (i := 19) rfl rfl
theorem w0_20 : Cond.selects "BookgrafterModel" yX6_laid yX6_laid ∈ Tt := inT0 (i := 20) rfl rfl
theorem iX0 : ∀ w ∈ wsX00, w ∈ Tt := (List.forall_mem_cons.mpr ⟨w1_50, (List.forall_mem_cons.mpr ⟨w1_52, (List.forall_mem_cons.mpr ⟨w1_54, (List.forall_mem_cons.mpr ⟨w1_56, (fun _ h => absurd h List.not_mem_nil)⟩)⟩)⟩)⟩)
theorem iX1 : ∀ w ∈ wsX10, w ∈ Tt := (List.forall_mem_cons.mpr ⟨w1_73, (List.forall_mem_cons.mpr ⟨w1_75, (List.forall_mem_cons.mpr ⟨w1_77, (fun _ h => absurd h List.not_mem_nil)⟩)⟩)⟩)
theorem iX2 : ∀ w ∈ wsX20, w ∈ Tt := (List.forall_mem_cons.mpr ⟨w1_90, (List.forall_mem_cons.mpr ⟨w1_92, (List.forall_mem_cons.mpr ⟨w1_94, (List.forall_mem_cons.mpr ⟨w1_96, (fun _ h => absurd h List.not_mem_nil)⟩)⟩)⟩)⟩)
theorem iX3 : ∀ w ∈ wsX30, w ∈ Tt := (List.forall_mem_cons.mpr ⟨w1_107, (List.forall_mem_cons.mpr ⟨w1_109, (List.forall_mem_cons.mpr ⟨w1_111, (List.forall_mem_cons.mpr ⟨w1_113, (List.forall_mem_cons.mpr ⟨w1_115, (List.forall_mem_cons.mpr ⟨w1_117, (List.forall_mem_cons.mpr ⟨w1_119, (List.forall_mem_cons.mpr ⟨w1_121, (fun _ h => absurd h List.not_mem_nil)⟩)⟩)⟩)⟩)⟩)⟩)⟩)⟩)
theorem iX4 : ∀ w ∈ wsX40, w ∈ Tt := (List.forall_mem_cons.mpr ⟨w2_69, (List.forall_mem_cons.mpr ⟨w2_71, (fun _ h => absurd h List.not_mem_nil)⟩)⟩)
theorem iX5 : ∀ w ∈ wsX50, w ∈ Tt := (List.forall_mem_cons.mpr ⟨w5_100, (List.forall_mem_cons.mpr ⟨w5_102, (fun _ h => absurd h List.not_mem_nil)⟩)⟩)
theorem iX6 : ∀ w ∈ wsX60, w ∈ Tt := (List.forall_mem_cons.mpr ⟨w5_116, (List.forall_mem_cons.mpr ⟨w5_118, (List.forall_mem_cons.mpr ⟨w5_120, (List.forall_mem_cons.mpr ⟨w5_122, (List.forall_mem_cons.mpr ⟨w5_124, (List.forall_mem_cons.mpr ⟨w5_126, (List.forall_mem_cons.mpr ⟨w5_128, (List.forall_mem_cons.mpr ⟨w5_130, (List.forall_mem_cons.mpr ⟨w5_132, (List.forall_mem_cons.mpr ⟨w5_134, (List.forall_mem_cons.mpr ⟨w5_136, (fun _ h => absurd h List.not_mem_nil)⟩)⟩)⟩)⟩)⟩)⟩)⟩)⟩)⟩)⟩)⟩)
theorem iJ0 : ∀ w ∈ wsJ00, w ∈ Tt := (List.forall_mem_cons.mpr ⟨w4_118, (List.forall_mem_cons.mpr ⟨w4_120, (List.forall_mem_cons.mpr ⟨w4_122, (List.forall_mem_cons.mpr ⟨w4_124, (fun _ h => absurd h List.not_mem_nil)⟩)⟩)⟩)⟩)
theorem iJ4 : ∀ w ∈ wsJ40, w ∈ Tt := (List.forall_mem_cons.mpr ⟨w3_126, (List.forall_mem_cons.mpr ⟨w3_128, (List.forall_mem_cons.mpr ⟨w3_130, (List.forall_mem_cons.mpr ⟨w3_132, (fun _ h => absurd h List.not_mem_nil)⟩)⟩)⟩)⟩)
def CLB (own : String) (idx : Nat) (y : MethodName) (b : ByteArray) (n : Nat) (r : Option FieldType) (k : Nat) : Prop := Cond.methodLink own idx y ∈ Tt ∧ Cond.initialized y.cls ∈ Tt ∧ Cond.code y b n r ∈ Tt ∧ (y.cls ≠ "java/lang/invoke/MethodHandle" ∧ y.cls ≠ "java/lang/invoke/VarHandle" ∧ (parseMethodDescriptor y.desc).map (fun d => d.parameters.length) = some k)
def CLV (own : String) (idx : Nat) (y : MethodName) (b : ByteArray) (n : Nat) (r : Option FieldType) (k : Nat) : Prop := CLB own idx y b n r k ∧ Cond.instanceMethod y ∈ Tt ∧ Cond.selects y.cls y y ∈ Tt
def CLS (own : String) (idx : Nat) (y : MethodName) (b : ByteArray) (n : Nat) (r : Option FieldType) (k : Nat) : Prop := CLB own idx y b n r k ∧ Cond.static y ∈ Tt
def CLI (own : String) (idx : Nat) (y : MethodName) (b : ByteArray) (n : Nat) (k : Nat) : Prop := CLB own idx y b n none k ∧ Cond.instanceMethod y ∈ Tt ∧ y.name = "<init>"
theorem lL_151 : CLI RL 151 yX3_init cX3_init 2 0 := ⟨⟨mlL_151, iniX3, w1_29, ⟨by decide +kernel, by decide +kernel, by decide +kernel⟩⟩, w1_28, by decide⟩
theorem lX3_15 : CLI RX3 15 yX0_init cX0_init 2 1 := ⟨⟨mlX3_15, iniX0, w1_38, ⟨by decide +kernel, by decide +kernel, by decide +kernel⟩⟩, w1_37, by decide⟩
theorem lX0_19 : CLS RX0 19 yJ7_fill_53178 cJ7_fill_53178 4 none 2 := ⟨⟨mlX0_19, iniJ7, w1_42, ⟨by decide +kernel, by decide +kernel, by decide +kernel⟩⟩, w1_41⟩
theorem lX3_27 : CLI RX3 27 yX1_init cX1_init 2 1 := ⟨⟨mlX3_27, iniX1, w1_65, ⟨by decide +kernel, by decide +kernel, by decide +kernel⟩⟩, w1_64, by decide⟩
theorem lL_250 : CLV RL 250 yX3_walkNext cX3_walkNext 1 (some .int) 0 := ⟨⟨mlL_250, iniX3, w1_127, ⟨by decide +kernel, by decide +kernel, by decide +kernel⟩⟩, w1_125, w1_126⟩
theorem lX3_200 : CLV RX3 200 yX2_isGoing cX2_isGoing 1 (some .boolean) 0 := ⟨⟨mlX3_200, iniX2, w1_131, ⟨by decide +kernel, by decide +kernel, by decide +kernel⟩⟩, w1_129, w1_130⟩
theorem lX3_63 : CLV RX3 63 yX3_refuse cX3_refuse 1 (some .int) 0 := ⟨⟨mlX3_63, iniX3, w1_135, ⟨by decide +kernel, by decide +kernel, by decide +kernel⟩⟩, w1_134, w0_0⟩
theorem lX3_204 : CLV RX3 204 yX2_tellNext cX2_tellNext 2 (some .int) 0 := ⟨⟨mlX3_204, iniX2, w1_139, ⟨by decide +kernel, by decide +kernel, by decide +kernel⟩⟩, w1_137, w1_138⟩
theorem lX2_31 : CLV RX2 31 yX0_firstInPart cX0_firstInPart 4 (some .int) 2 := ⟨⟨mlX2_31, iniX0, w1_143, ⟨by decide +kernel, by decide +kernel, by decide +kernel⟩⟩, w1_141, w1_142⟩
theorem lX0_32 : CLV RX0 32 yX0_isThere cX0_isThere 2 (some .boolean) 1 := ⟨⟨mlX0_32, iniX0, w1_147, ⟨by decide +kernel, by decide +kernel, by decide +kernel⟩⟩, w1_145, w1_146⟩
theorem lX2_35 : CLV RX2 35 yX0_pairAt cX0_pairAt 2 (some .int) 1 := ⟨⟨mlX2_35, iniX0, w1_151, ⟨by decide +kernel, by decide +kernel, by decide +kernel⟩⟩, w1_149, w1_150⟩
theorem lX0_36 : CLV RX0 36 yX0_keyOf cX0_keyOf 2 (some .int) 1 := ⟨⟨mlX0_36, iniX0, w1_155, ⟨by decide +kernel, by decide +kernel, by decide +kernel⟩⟩, w1_153, w1_154⟩
theorem lX0_25 : CLV RX0 25 yX0_turned cX0_turned 2 (some .int) 1 := ⟨⟨mlX0_25, iniX0, w1_159, ⟨by decide +kernel, by decide +kernel, by decide +kernel⟩⟩, w1_158, w0_1⟩
theorem lX0_39 : CLV RX0 39 yX0_worthAt cX0_worthAt 2 (some .int) 1 := ⟨⟨mlX0_39, iniX0, w1_163, ⟨by decide +kernel, by decide +kernel, by decide +kernel⟩⟩, w1_161, w1_162⟩
theorem lL_257 : CLV RL 257 yX3_walkTake cX3_walkTake 1 (some .int) 0 := ⟨⟨mlL_257, iniX3, w1_167, ⟨by decide +kernel, by decide +kernel, by decide +kernel⟩⟩, w1_165, w1_166⟩
theorem lX3_207 : CLV RX3 207 yX2_isTelling cX2_isTelling 1 (some .boolean) 0 := ⟨⟨mlX3_207, iniX2, w1_171, ⟨by decide +kernel, by decide +kernel, by decide +kernel⟩⟩, w1_169, w1_170⟩
theorem lX3_213 : CLV RX3 213 yX2_removeTold cX2_removeTold 2 (some .int) 0 := ⟨⟨mlX3_213, iniX2, w1_175, ⟨by decide +kernel, by decide +kernel, by decide +kernel⟩⟩, w1_173, w1_174⟩
theorem lX2_42 : CLV RX2 42 yX0_go cX0_go 3 (some .int) 1 := ⟨⟨mlX2_42, iniX0, w1_179, ⟨by decide +kernel, by decide +kernel, by decide +kernel⟩⟩, w1_177, w1_178⟩
theorem lL_295 : CLV RL 295 yX3_knock cX3_knock 1 (some .int) 0 := ⟨⟨mlL_295, iniX3, w1_183, ⟨by decide +kernel, by decide +kernel, by decide +kernel⟩⟩, w1_181, w1_182⟩
theorem lL_299 : CLV RL 299 yX3_isSound cX3_isSound 2 (some .boolean) 0 := ⟨⟨mlL_299, iniX3, w1_187, ⟨by decide +kernel, by decide +kernel, by decide +kernel⟩⟩, w1_185, w1_186⟩
theorem lX3_244 : CLS RX3 244 yX3_isRowSound cX3_isRowSound 1 (some .boolean) 1 := ⟨⟨mlX3_244, iniX3, w1_190, ⟨by decide +kernel, by decide +kernel, by decide +kernel⟩⟩, w1_189⟩
theorem lX3_306 : CLS RX3 306 yX3_isToldInOrder cX3_isToldInOrder 7 (some .boolean) 4 := ⟨⟨mlX3_306, iniX3, w1_193, ⟨by decide +kernel, by decide +kernel, by decide +kernel⟩⟩, w1_192⟩
theorem lX3_135 : CLV RX3 135 yX0_endOfPart cX0_endOfPart 4 (some .int) 3 := ⟨⟨mlX3_135, iniX0, w1_197, ⟨by decide +kernel, by decide +kernel, by decide +kernel⟩⟩, w1_195, w1_196⟩
