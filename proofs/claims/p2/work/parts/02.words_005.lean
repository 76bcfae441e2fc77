theorem w2_98 : Cond.lays "java/lang/IndexOutOfBoundsException" "java/lang/Throwable" "cause" "Ljava/lang/Throwable;" ∈ Tt := inT2 (i := 98) rfl rfl
theorem w2_99 : Cond.lays "java/lang/Throwable" "java/lang/Throwable" "cause" "Ljava/lang/Throwable;" ∈ Tt := inT2 (i := 99) rfl rfl
theorem w2_100 : Cond.lays "java/lang/IndexOutOfBoundsException" "java/lang/Throwable" "stackTrace" "[Ljava/lang/StackTraceElement;" ∈ Tt := inT2 (i := 100) rfl rfl
theorem w2_101 : Cond.lays "java/lang/Throwable" "java/lang/Throwable" "stackTrace" "[Ljava/lang/StackTraceElement;" ∈ Tt := inT2 (i := 101) rfl rfl
theorem w2_102 : Cond.lays "java/lang/IndexOutOfBoundsException" "java/lang/Throwable" "suppressedExceptions" "Ljava/util/List;" ∈ Tt := inT2 (i := 102) rfl rfl
theorem w2_103 : Cond.lays "java/lang/Throwable" "java/lang/Throwable" "suppressedExceptions" "Ljava/util/List;" ∈ Tt := inT2 (i := 103) rfl rfl
theorem w2_104 : Cond.lays "java/lang/IndexOutOfBoundsException" "java/lang/Throwable" "detailMessage" "Ljava/lang/String;" ∈ Tt := inT2 (i := 104) rfl rfl
theorem w2_105 : Cond.lays "java/lang/Throwable" "java/lang/Throwable" "detailMessage" "Ljava/lang/String;" ∈ Tt := inT2 (i := 105) rfl rfl
theorem w2_106 : Cond.lays "java/lang/IndexOutOfBoundsException" "java/lang/Throwable" "backtrace" "Ljava/lang/Object;" ∈ Tt := inT2 (i := 106) rfl rfl
theorem w2_107 : Cond.lays "java/lang/Throwable" "java/lang/Throwable" "backtrace" "Ljava/lang/Object;" ∈ Tt := inT2 (i := 107) rfl rfl
theorem w2_108 : Cond.fieldLink "java/lang/Throwable" 198 "java/lang/Throwable" "backtrace" "Ljava/lang/Object;" ∈ Tt := inT2 (i := 108) rfl rfl
theorem w2_109 : Cond.superclass "java/lang/Throwable" "java/lang/Object" ∈ Tt := inT2 (i := 109) rfl rfl
theorem w2_110 : Cond.instanceMethod ⟨"java/lang/Throwable", "<init>", "()V"⟩ ∈ Tt := inT2 (i := 110) rfl rfl
theorem w2_111 : Cond.code ⟨"java/lang/Throwable", "<init>", "()V"⟩ prog_23_method_1_code 1 none ∈ Tt := inT2 (i := 111) rfl rfl
theorem w2_112 : Cond.methodLink "java/lang/Throwable" 1 objectInit ∈ Tt := inT2 (i := 112) rfl rfl
theorem w2_113 : Cond.fieldLink "java/lang/Throwable" 13 "java/lang/Throwable" "UNASSIGNED_STACK" "[Ljava/lang/StackTraceElement;" ∈ Tt := inT2 (i := 113) rfl rfl
theorem w2_115 : Cond.fieldLink "java/lang/Throwable" 20 "java/lang/Throwable" "SUPPRESSED_SENTINEL" "Ljava/util/List;" ∈ Tt := inT2 (i := 115) rfl rfl
theorem w2_117 : Cond.methodLink "java/lang/Throwable" 27 ⟨"java/lang/Throwable", "fillInStackTrace", "()Ljava/lang/Throwable;"⟩ ∈ Tt := inT2 (i := 117) rfl rfl
theorem w2_118 : Cond.instanceMethod ⟨"java/lang/Throwable", "fillInStackTrace", "()Ljava/lang/Throwable;"⟩ ∈ Tt := inT2 (i := 118) rfl rfl
theorem w2_119 : Cond.sameMethod "java/lang/Throwable" "java/lang/Throwable" "fillInStackTrace" "()Ljava/lang/Throwable;" ∈ Tt := inT2 (i := 119) rfl rfl
theorem w2_120 : Cond.selects "java/lang/IllegalArgumentException" ⟨"java/lang/Throwable", "fillInStackTrace", "()Ljava/lang/Throwable;"⟩ ⟨"java/lang/Throwable", "fillInStackTrace", "()Ljava/lang/Throwable;"⟩ ∈ Tt := inT2 (i := 120) rfl rfl
theorem w2_122 : Cond.methodLink "java/lang/Throwable" 202 ⟨"java/lang/Throwable", "fillInStackTrace", "(I)Ljava/lang/Throwable;"⟩ ∈ Tt := inT2 (i := 122) rfl rfl
theorem w2_124 : Cond.instanceMethod ⟨"java/lang/Throwable", "fillInStackTrace", "(I)Ljava/lang/Throwable;"⟩ ∈ Tt := inT2 (i := 124) rfl rfl
theorem w2_125 : Cond.instantiable "java/lang/Throwable" 6 ∈ Tt := inT2 (i := 125) rfl rfl
theorem w2_126 : Cond.native ⟨"java/lang/Throwable", "fillInStackTrace", "(I)Ljava/lang/Throwable;"⟩ ∈ Tt := inT2 (i := 126) rfl rfl
theorem mlX3_278 : Cond.methodLink "Bookgrafter" 278 ⟨"java/lang/IndexOutOfBoundsException", "<init>", "(Ljava/lang/String;)V"⟩ ∈ Tt := inT2 (i := 128) rfl rfl
theorem w2_129 : Cond.instanceMethod ⟨"java/lang/IndexOutOfBoundsException", "<init>", "(Ljava/lang/String;)V"⟩ ∈ Tt := inT2 (i := 129) rfl rfl
theorem w2_130 : Cond.code ⟨"java/lang/IndexOutOfBoundsException", "<init>", "(Ljava/lang/String;)V"⟩ prog_13_method_2_code 2 none ∈ Tt := inT2 (i := 130) rfl rfl
theorem w2_131 : Cond.methodLink "java/lang/IndexOutOfBoundsException" 7 ⟨"java/lang/RuntimeException", "<init>", "(Ljava/lang/String;)V"⟩ ∈ Tt := inT2 (i := 131) rfl rfl
theorem w2_132 : Cond.instanceMethod ⟨"java/lang/RuntimeException", "<init>", "(Ljava/lang/String;)V"⟩ ∈ Tt := inT2 (i := 132) rfl rfl
theorem w2_133 : Cond.code ⟨"java/lang/RuntimeException", "<init>", "(Ljava/lang/String;)V"⟩ prog_17_method_2_code 2 none ∈ Tt := inT2 (i := 133) rfl rfl
theorem w2_134 : Cond.methodLink "java/lang/RuntimeException" 7 ⟨"java/lang/Exception", "<init>", "(Ljava/lang/String;)V"⟩ ∈ Tt := inT2 (i := 134) rfl rfl
theorem w2_135 : Cond.instanceMethod ⟨"java/lang/Exception", "<init>", "(Ljava/lang/String;)V"⟩ ∈ Tt := inT2 (i := 135) rfl rfl
theorem w2_136 : Cond.code ⟨"java/lang/Exception", "<init>", "(Ljava/lang/String;)V"⟩ prog_11_method_2_code 2 none ∈ Tt := inT2 (i := 136) rfl rfl
theorem w2_137 : Cond.methodLink "java/lang/Exception" 7 ⟨"java/lang/Throwable", "<init>", "(Ljava/lang/String;)V"⟩ ∈ Tt := inT2 (i := 137) rfl rfl
theorem w2_138 : Cond.instanceMethod ⟨"java/lang/Throwable", "<init>", "(Ljava/lang/String;)V"⟩ ∈ Tt := inT2 (i := 138) rfl rfl
theorem w2_139 : Cond.code ⟨"java/lang/Throwable", "<init>", "(Ljava/lang/String;)V"⟩ prog_23_method_2_code 2 none ∈ Tt := inT2 (i := 139) rfl rfl
theorem w2_141 : Cond.fieldLink "java/lang/Throwable" 31 "java/lang/Throwable" "detailMessage" "Ljava/lang/String;" ∈ Tt := inT2 (i := 141) rfl rfl
theorem w2_142 : Cond.fieldLink "java/lang/Throwable" 7 "java/lang/Throwable" "cause" "Ljava/lang/Throwable;" ∈ Tt := inT2 (i := 142) rfl rfl
theorem w2_143 : Cond.fieldLink "java/lang/Throwable" 17 "java/lang/Throwable" "stackTrace" "[Ljava/lang/StackTraceElement;" ∈ Tt := inT2 (i := 143) rfl rfl
theorem w2_144 : Cond.fieldLink "java/lang/Throwable" 24 "java/lang/Throwable" "suppressedExceptions" "Ljava/util/List;" ∈ Tt := inT2 (i := 144) rfl rfl
theorem w2_149 : Cond.lays "java/lang/IndexOutOfBoundsException" "java/lang/Throwable" "depth" "I" ∈ Tt := inT2 (i := 149) rfl rfl
theorem w2_152 : Cond.superclass "java/lang/IndexOutOfBoundsException" "java/lang/RuntimeException" ∈ Tt := inT2 (i := 152) rfl rfl
theorem aCbyte : Cond.arrayClass .byte ∈ Tt := inT2 (i := 153) rfl rfl
theorem mlX3_41 : Cond.methodLink "Bookgrafter" 41 yX3_checkUpTo ∈ Tt := inT2 (i := 154) rfl rfl
theorem w2_155 : Cond.static yX3_checkUpTo ∈ Tt := inT2 (i := 155) rfl rfl
theorem w2_156 : Cond.code yX3_checkUpTo cX3_checkUpTo 2 none ∈ Tt := inT2 (i := 156) rfl rfl
theorem klX3_285 : Cond.classLink "Bookgrafter" 285 "java/lang/IllegalArgumentException" ∈ Tt := inT2 (i := 157) rfl rfl
theorem w2_158 : Cond.instantiable "java/lang/IllegalArgumentException" 6 ∈ Tt := inT2 (i := 158) rfl rfl
theorem w2_160 : Cond.selects "java/lang/IllegalArgumentException" ⟨"java/lang/Throwable", "fillInStackTrace", "(I)Ljava/lang/Throwable;"⟩ ⟨"java/lang/Throwable", "fillInStackTrace", "(I)Ljava/lang/Throwable;"⟩ ∈ Tt := inT2 (i := 160) rfl rfl
theorem w2_161 : Cond.lays "java/lang/IllegalArgumentException" "java/lang/Throwable" "cause" "Ljava/lang/Throwable;" ∈ Tt := inT2 (i := 161) rfl rfl
theorem w2_162 : Cond.lays "java/lang/IllegalArgumentException" "java/lang/Throwable" "stackTrace" "[Ljava/lang/StackTraceElement;" ∈ Tt := inT2 (i := 162) rfl rfl
theorem w2_163 : Cond.lays "java/lang/IllegalArgumentException" "java/lang/Throwable" "suppressedExceptions" "Ljava/util/List;" ∈ Tt := inT2 (i := 163) rfl rfl
theorem w2_164 : Cond.lays "java/lang/IllegalArgumentException" "java/lang/Throwable" "detailMessage" "Ljava/lang/String;" ∈ Tt := inT2 (i := 164) rfl rfl
theorem w2_165 : Cond.lays "java/lang/IllegalArgumentException" "java/lang/Throwable" "backtrace" "Ljava/lang/Object;" ∈ Tt := inT2 (i := 165) rfl rfl
theorem mlX3_289 : Cond.methodLink "Bookgrafter" 289 ⟨"java/lang/IllegalArgumentException", "<init>", "(Ljava/lang/String;)V"⟩ ∈ Tt := inT2 (i := 167) rfl rfl
theorem w2_168 : Cond.instanceMethod ⟨"java/lang/IllegalArgumentException", "<init>", "(Ljava/lang/String;)V"⟩ ∈ Tt := inT2 (i := 168) rfl rfl
theorem w2_169 : Cond.code ⟨"java/lang/IllegalArgumentException", "<init>", "(Ljava/lang/String;)V"⟩ prog_12_method_2_code 2 none ∈ Tt := inT2 (i := 169) rfl rfl
theorem w2_170 : Cond.methodLink "java/lang/IllegalArgumentException" 7 ⟨"java/lang/RuntimeException", "<init>", "(Ljava/lang/String;)V"⟩ ∈ Tt := inT2 (i := 170) rfl rfl
theorem w2_171 : Cond.lays "java/lang/IllegalArgumentException" "java/lang/Throwable" "depth" "I" ∈ Tt := inT2 (i := 171) rfl rfl
