theorem w4_140 : Cond.code yX3_openView cX3_openView 15 (some .int) ∈ Tt := inT4 (i := 140) rfl rfl
theorem mlX3_171 : Cond.methodLink "Bookgrafter" 171 yX3_viewAt ∈ Tt := inT4 (i := 141) rfl rfl
theorem w4_143 : Cond.instanceMethod yX3_viewAt ∈ Tt := inT4 (i := 143) rfl rfl
theorem w4_144 : Cond.code yX3_viewAt cX3_viewAt 2 (some (.object "Bookgrafter$View")) ∈ Tt := inT4 (i := 144) rfl rfl
theorem mlX3_175 : Cond.methodLink "Bookgrafter" 175 yX3_checkKindAndBounds ∈ Tt := inT4 (i := 146) rfl rfl
theorem w4_147 : Cond.static yX3_checkKindAndBounds ∈ Tt := inT4 (i := 147) rfl rfl
theorem w4_148 : Cond.code yX3_checkKindAndBounds cX3_checkKindAndBounds 3 none ∈ Tt := inT4 (i := 148) rfl rfl
theorem mlL_226 : Cond.methodLink "BookgrafterLaw" 226 yL_narrowView ∈ Tt := inT4 (i := 149) rfl rfl
theorem w4_150 : Cond.static yL_narrowView ∈ Tt := inT4 (i := 150) rfl rfl
theorem w4_151 : Cond.codeWith yL_narrowView cL_narrowView 7 (some .int) [(0, 15, 18, 19), (0, 15, 22, 21)] ∈ Tt := inT4 (i := 151) rfl rfl
theorem mlL_88 : Cond.methodLink "BookgrafterLaw" 88 yX3_narrowView ∈ Tt := inT4 (i := 152) rfl rfl
theorem w4_153 : Cond.instanceMethod yX3_narrowView ∈ Tt := inT4 (i := 153) rfl rfl
theorem w4_154 : Cond.selects "Bookgrafter" yX3_narrowView yX3_narrowView ∈ Tt := inT4 (i := 154) rfl rfl
theorem w4_155 : Cond.code yX3_narrowView cX3_narrowView 10 (some .int) ∈ Tt := inT4 (i := 155) rfl rfl
theorem mlX3_191 : Cond.methodLink "Bookgrafter" 191 yX1_isWithin ∈ Tt := inT4 (i := 156) rfl rfl
theorem w4_157 : Cond.instanceMethod yX1_isWithin ∈ Tt := inT4 (i := 157) rfl rfl
theorem w4_158 : Cond.selects "Bookgrafter$View" yX1_isWithin yX1_isWithin ∈ Tt := inT4 (i := 158) rfl rfl
theorem w4_159 : Cond.code yX1_isWithin cX1_isWithin 2 (some .boolean) ∈ Tt := inT4 (i := 159) rfl rfl
theorem mlL_229 : Cond.methodLink "BookgrafterLaw" 229 yL_buildFromView ∈ Tt := inT4 (i := 160) rfl rfl
theorem w4_161 : Cond.static yL_buildFromView ∈ Tt := inT4 (i := 161) rfl rfl
theorem w4_162 : Cond.codeWith yL_buildFromView cL_buildFromView 6 (some .int) [(0, 13, 16, 19), (0, 13, 20, 21)] ∈ Tt := inT4 (i := 162) rfl rfl
theorem mlL_91 : Cond.methodLink "BookgrafterLaw" 91 yX3_buildFromView ∈ Tt := inT4 (i := 163) rfl rfl
theorem w4_164 : Cond.instanceMethod yX3_buildFromView ∈ Tt := inT4 (i := 164) rfl rfl
theorem w4_165 : Cond.selects "Bookgrafter" yX3_buildFromView yX3_buildFromView ∈ Tt := inT4 (i := 165) rfl rfl
theorem w4_166 : Cond.code yX3_buildFromView cX3_buildFromView 5 (some .int) ∈ Tt := inT4 (i := 166) rfl rfl
theorem mlL_232 : Cond.methodLink "BookgrafterLaw" 232 yL_viewPut ∈ Tt := inT4 (i := 167) rfl rfl
theorem w4_168 : Cond.static yL_viewPut ∈ Tt := inT4 (i := 168) rfl rfl
theorem w4_169 : Cond.codeWith yL_viewPut cL_viewPut 6 (some .int) [(0, 13, 16, 19), (0, 13, 20, 21)] ∈ Tt := inT4 (i := 169) rfl rfl
theorem mlL_94 : Cond.methodLink "BookgrafterLaw" 94 yX3_viewPut ∈ Tt := inT4 (i := 170) rfl rfl
theorem w4_171 : Cond.instanceMethod yX3_viewPut ∈ Tt := inT4 (i := 171) rfl rfl
theorem w4_172 : Cond.selects "Bookgrafter" yX3_viewPut yX3_viewPut ∈ Tt := inT4 (i := 172) rfl rfl
theorem w4_173 : Cond.code yX3_viewPut cX3_viewPut 6 (some .int) ∈ Tt := inT4 (i := 173) rfl rfl
theorem mlL_235 : Cond.methodLink "BookgrafterLaw" 235 yL_viewTake ∈ Tt := inT4 (i := 174) rfl rfl
theorem w4_175 : Cond.static yL_viewTake ∈ Tt := inT4 (i := 175) rfl rfl
theorem w4_176 : Cond.codeWith yL_viewTake cL_viewTake 5 (some .int) [(0, 11, 14, 19), (0, 11, 18, 21)] ∈ Tt := inT4 (i := 176) rfl rfl
theorem mlL_97 : Cond.methodLink "BookgrafterLaw" 97 yX3_viewTake ∈ Tt := inT4 (i := 177) rfl rfl
theorem w4_178 : Cond.instanceMethod yX3_viewTake ∈ Tt := inT4 (i := 178) rfl rfl
theorem w4_179 : Cond.selects "Bookgrafter" yX3_viewTake yX3_viewTake ∈ Tt := inT4 (i := 179) rfl rfl
theorem w4_180 : Cond.code yX3_viewTake cX3_viewTake 5 (some .int) ∈ Tt := inT4 (i := 180) rfl rfl
theorem mlL_238 : Cond.methodLink "BookgrafterLaw" 238 yL_viewDrop ∈ Tt := inT4 (i := 181) rfl rfl
theorem w4_182 : Cond.static yL_viewDrop ∈ Tt := inT4 (i := 182) rfl rfl
theorem w4_183 : Cond.codeWith yL_viewDrop cL_viewDrop 5 (some .int) [(0, 11, 14, 19), (0, 11, 18, 21)] ∈ Tt := inT4 (i := 183) rfl rfl
theorem mlL_100 : Cond.methodLink "BookgrafterLaw" 100 yX3_viewDrop ∈ Tt := inT4 (i := 184) rfl rfl
theorem w4_185 : Cond.instanceMethod yX3_viewDrop ∈ Tt := inT4 (i := 185) rfl rfl
theorem w4_186 : Cond.selects "Bookgrafter" yX3_viewDrop yX3_viewDrop ∈ Tt := inT4 (i := 186) rfl rfl
theorem w4_187 : Cond.code yX3_viewDrop cX3_viewDrop 4 (some .int) ∈ Tt := inT4 (i := 187) rfl rfl
theorem mlL_241 : Cond.methodLink "BookgrafterLaw" 241 yL_viewNear ∈ Tt := inT4 (i := 188) rfl rfl
theorem w4_189 : Cond.static yL_viewNear ∈ Tt := inT4 (i := 189) rfl rfl
theorem w4_190 : Cond.codeWith yL_viewNear cL_viewNear 6 (some .int) [(0, 13, 16, 19), (0, 13, 20, 21)] ∈ Tt := inT4 (i := 190) rfl rfl
theorem mlL_103 : Cond.methodLink "BookgrafterLaw" 103 yX3_viewNear ∈ Tt := inT4 (i := 191) rfl rfl
theorem w4_192 : Cond.instanceMethod yX3_viewNear ∈ Tt := inT4 (i := 192) rfl rfl
theorem w4_193 : Cond.selects "Bookgrafter" yX3_viewNear yX3_viewNear ∈ Tt := inT4 (i := 193) rfl rfl
theorem w4_194 : Cond.code yX3_viewNear cX3_viewNear 5 (some .int) ∈ Tt := inT4 (i := 194) rfl rfl
theorem mlL_244 : Cond.methodLink "BookgrafterLaw" 244 yL_viewTell ∈ Tt := inT4 (i := 195) rfl rfl
theorem w4_196 : Cond.static yL_viewTell ∈ Tt := inT4 (i := 196) rfl rfl
theorem w4_197 : Cond.codeWith yL_viewTell cL_viewTell 5 (some .int) [(0, 11, 14, 19), (0, 11, 18, 21)] ∈ Tt := inT4 (i := 197) rfl rfl
theorem mlL_106 : Cond.methodLink "BookgrafterLaw" 106 yX3_viewTell ∈ Tt := inT4 (i := 198) rfl rfl
theorem w4_199 : Cond.instanceMethod yX3_viewTell ∈ Tt := inT4 (i := 199) rfl rfl
theorem w4_200 : Cond.selects "Bookgrafter" yX3_viewTell yX3_viewTell ∈ Tt := inT4 (i := 200) rfl rfl
theorem w4_201 : Cond.code yX3_viewTell cX3_viewTell 4 (some .int) ∈ Tt := inT4 (i := 201) rfl rfl
