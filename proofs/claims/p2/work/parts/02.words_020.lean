theorem w6_114 : Cond.instanceMethod yX6_viewTake ∈ Tt := inT6 (i := 114) rfl rfl
theorem w6_115 : Cond.selects "BookgrafterModel" yX6_viewTake yX6_viewTake ∈ Tt := inT6 (i := 115) rfl rfl
theorem w6_116 : Cond.code yX6_viewTake cX6_viewTake 5 (some .int) ∈ Tt := inT6 (i := 116) rfl rfl
theorem mlL_240 : Cond.methodLink "BookgrafterLaw" 240 yX6_viewDrop ∈ Tt := inT6 (i := 117) rfl rfl
theorem w6_118 : Cond.instanceMethod yX6_viewDrop ∈ Tt := inT6 (i := 118) rfl rfl
theorem w6_119 : Cond.selects "BookgrafterModel" yX6_viewDrop yX6_viewDrop ∈ Tt := inT6 (i := 119) rfl rfl
theorem w6_120 : Cond.code yX6_viewDrop cX6_viewDrop 3 (some .int) ∈ Tt := inT6 (i := 120) rfl rfl
theorem mlL_243 : Cond.methodLink "BookgrafterLaw" 243 yX6_viewNear ∈ Tt := inT6 (i := 121) rfl rfl
theorem w6_122 : Cond.instanceMethod yX6_viewNear ∈ Tt := inT6 (i := 122) rfl rfl
theorem w6_123 : Cond.selects "BookgrafterModel" yX6_viewNear yX6_viewNear ∈ Tt := inT6 (i := 123) rfl rfl
theorem w6_124 : Cond.code yX6_viewNear cX6_viewNear 4 (some .int) ∈ Tt := inT6 (i := 124) rfl rfl
theorem mlL_246 : Cond.methodLink "BookgrafterLaw" 246 yX6_viewTell ∈ Tt := inT6 (i := 125) rfl rfl
theorem w6_126 : Cond.instanceMethod yX6_viewTell ∈ Tt := inT6 (i := 126) rfl rfl
theorem w6_127 : Cond.selects "BookgrafterModel" yX6_viewTell yX6_viewTell ∈ Tt := inT6 (i := 127) rfl rfl
theorem w6_128 : Cond.code yX6_viewTell cX6_viewTell 4 (some .int) ∈ Tt := inT6 (i := 128) rfl rfl
theorem mlX6_183 : Cond.methodLink "BookgrafterModel" 183 yX6_sum ∈ Tt := inT6 (i := 129) rfl rfl
theorem w6_131 : Cond.instanceMethod yX6_sum ∈ Tt := inT6 (i := 131) rfl rfl
theorem w6_132 : Cond.code yX6_sum cX6_sum 4 (some .int) ∈ Tt := inT6 (i := 132) rfl rfl
theorem mlX6_178 : Cond.methodLink "BookgrafterModel" 178 yJ9_max_7cf53 ∈ Tt := inT6 (i := 133) rfl rfl
theorem mlL_249 : Cond.methodLink "BookgrafterLaw" 249 yX6_startWalk ∈ Tt := inT6 (i := 134) rfl rfl
theorem w6_135 : Cond.instanceMethod yX6_startWalk ∈ Tt := inT6 (i := 135) rfl rfl
theorem w6_136 : Cond.selects "BookgrafterModel" yX6_startWalk yX6_startWalk ∈ Tt := inT6 (i := 136) rfl rfl
theorem w6_137 : Cond.code yX6_startWalk cX6_startWalk 2 (some .int) ∈ Tt := inT6 (i := 137) rfl rfl
theorem mlL_253 : Cond.methodLink "BookgrafterLaw" 253 yX6_walkNext ∈ Tt := inT6 (i := 138) rfl rfl
theorem w6_139 : Cond.instanceMethod yX6_walkNext ∈ Tt := inT6 (i := 139) rfl rfl
theorem w6_140 : Cond.selects "BookgrafterModel" yX6_walkNext yX6_walkNext ∈ Tt := inT6 (i := 140) rfl rfl
theorem w6_141 : Cond.code yX6_walkNext cX6_walkNext 2 (some .int) ∈ Tt := inT6 (i := 141) rfl rfl
theorem mlX6_189 : Cond.methodLink "BookgrafterModel" 189 yX6_isGoing ∈ Tt := inT6 (i := 142) rfl rfl
theorem w6_144 : Cond.instanceMethod yX6_isGoing ∈ Tt := inT6 (i := 144) rfl rfl
theorem w6_145 : Cond.code yX6_isGoing cX6_isGoing 1 (some .boolean) ∈ Tt := inT6 (i := 145) rfl rfl
theorem mlL_256 : Cond.methodLink "BookgrafterLaw" 256 yX6_walkSet ∈ Tt := inT6 (i := 146) rfl rfl
theorem w6_147 : Cond.instanceMethod yX6_walkSet ∈ Tt := inT6 (i := 147) rfl rfl
theorem w6_148 : Cond.selects "BookgrafterModel" yX6_walkSet yX6_walkSet ∈ Tt := inT6 (i := 148) rfl rfl
theorem w6_149 : Cond.code yX6_walkSet cX6_walkSet 3 (some .int) ∈ Tt := inT6 (i := 149) rfl rfl
theorem mlL_260 : Cond.methodLink "BookgrafterLaw" 260 yX6_walkTake ∈ Tt := inT6 (i := 150) rfl rfl
theorem w6_151 : Cond.instanceMethod yX6_walkTake ∈ Tt := inT6 (i := 151) rfl rfl
theorem w6_152 : Cond.selects "BookgrafterModel" yX6_walkTake yX6_walkTake ∈ Tt := inT6 (i := 152) rfl rfl
theorem w6_153 : Cond.code yX6_walkTake cX6_walkTake 2 (some .int) ∈ Tt := inT6 (i := 153) rfl rfl
theorem mlL_263 : Cond.methodLink "BookgrafterLaw" 263 yX6_freshShelf ∈ Tt := inT6 (i := 154) rfl rfl
theorem w6_155 : Cond.instanceMethod yX6_freshShelf ∈ Tt := inT6 (i := 155) rfl rfl
theorem w6_156 : Cond.selects "BookgrafterModel" yX6_freshShelf yX6_freshShelf ∈ Tt := inT6 (i := 156) rfl rfl
theorem w6_157 : Cond.code yX6_freshShelf cX6_freshShelf 4 (some .int) ∈ Tt := inT6 (i := 157) rfl rfl
theorem mlX6_193 : Cond.methodLink "BookgrafterModel" 193 yX6_isShelf ∈ Tt := inT6 (i := 158) rfl rfl
theorem w6_159 : Cond.static yX6_isShelf ∈ Tt := inT6 (i := 159) rfl rfl
theorem w6_160 : Cond.code yX6_isShelf cX6_isShelf 1 (some .boolean) ∈ Tt := inT6 (i := 160) rfl rfl
theorem mlX6_196 : Cond.methodLink "BookgrafterModel" 196 yX6_laid ∈ Tt := inT6 (i := 161) rfl rfl
theorem w6_163 : Cond.instanceMethod yX6_laid ∈ Tt := inT6 (i := 163) rfl rfl
theorem w6_164 : Cond.code yX6_laid cX6_laid 2 (some .int) ∈ Tt := inT6 (i := 164) rfl rfl
theorem mlL_266 : Cond.methodLink "BookgrafterLaw" 266 yX6_buildShelf ∈ Tt := inT6 (i := 165) rfl rfl
theorem w6_166 : Cond.instanceMethod yX6_buildShelf ∈ Tt := inT6 (i := 166) rfl rfl
theorem w6_167 : Cond.selects "BookgrafterModel" yX6_buildShelf yX6_buildShelf ∈ Tt := inT6 (i := 167) rfl rfl
theorem w6_168 : Cond.code yX6_buildShelf cX6_buildShelf 4 (some .int) ∈ Tt := inT6 (i := 168) rfl rfl
theorem mlL_269 : Cond.methodLink "BookgrafterLaw" 269 yX6_keysOf ∈ Tt := inT6 (i := 169) rfl rfl
theorem w6_170 : Cond.instanceMethod yX6_keysOf ∈ Tt := inT6 (i := 170) rfl rfl
theorem w6_171 : Cond.selects "BookgrafterModel" yX6_keysOf yX6_keysOf ∈ Tt := inT6 (i := 171) rfl rfl
theorem w6_172 : Cond.code yX6_keysOf cX6_keysOf 4 (some .int) ∈ Tt := inT6 (i := 172) rfl rfl
theorem mlL_273 : Cond.methodLink "BookgrafterLaw" 273 yX6_lay ∈ Tt := inT6 (i := 173) rfl rfl
theorem w6_174 : Cond.instanceMethod yX6_lay ∈ Tt := inT6 (i := 174) rfl rfl
theorem w6_175 : Cond.selects "BookgrafterModel" yX6_lay yX6_lay ∈ Tt := inT6 (i := 175) rfl rfl
theorem w6_176 : Cond.code yX6_lay cX6_lay 8 (some .int) ∈ Tt := inT6 (i := 176) rfl rfl
