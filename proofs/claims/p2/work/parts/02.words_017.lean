theorem mlX5_19 : Cond.methodLink "BookgrafterModel$Book" 19 yX5_key ∈ Tt := inT5 (i := 161) rfl rfl
theorem w5_162 : Cond.instanceMethod yX5_key ∈ Tt := inT5 (i := 162) rfl rfl
theorem w5_163 : Cond.selects "BookgrafterModel$Book" yX5_key yX5_key ∈ Tt := inT5 (i := 163) rfl rfl
theorem w5_164 : Cond.code yX5_key cX5_key 2 (some .int) ∈ Tt := inT5 (i := 164) rfl rfl
theorem mlX5_23 : Cond.methodLink "BookgrafterModel$Book" 23 yX5_has ∈ Tt := inT5 (i := 165) rfl rfl
theorem w5_166 : Cond.instanceMethod yX5_has ∈ Tt := inT5 (i := 166) rfl rfl
theorem w5_167 : Cond.selects "BookgrafterModel$Book" yX5_has yX5_has ∈ Tt := inT5 (i := 167) rfl rfl
theorem w5_168 : Cond.code yX5_has cX5_has 2 (some .boolean) ∈ Tt := inT5 (i := 168) rfl rfl
theorem mlX6_71 : Cond.methodLink "BookgrafterModel" 71 yX6_did ∈ Tt := inT5 (i := 169) rfl rfl
theorem w5_171 : Cond.instanceMethod yX6_did ∈ Tt := inT5 (i := 171) rfl rfl
theorem w5_172 : Cond.code yX6_did cX6_did 2 (some .int) ∈ Tt := inT5 (i := 172) rfl rfl
theorem mlL_169 : Cond.methodLink "BookgrafterLaw" 169 yX6_buildBook ∈ Tt := inT5 (i := 173) rfl rfl
theorem w5_174 : Cond.instanceMethod yX6_buildBook ∈ Tt := inT5 (i := 174) rfl rfl
theorem w5_175 : Cond.selects "BookgrafterModel" yX6_buildBook yX6_buildBook ∈ Tt := inT5 (i := 175) rfl rfl
theorem w5_176 : Cond.code yX6_buildBook cX6_buildBook 4 (some .int) ∈ Tt := inT5 (i := 176) rfl rfl
theorem mlX6_82 : Cond.methodLink "BookgrafterModel" 82 yX6_built ∈ Tt := inT5 (i := 177) rfl rfl
theorem w5_178 : Cond.static yX6_built ∈ Tt := inT5 (i := 178) rfl rfl
theorem w5_179 : Cond.code yX6_built cX6_built 2 (some (.object "BookgrafterModel$Book")) ∈ Tt := inT5 (i := 179) rfl rfl
theorem mlX6_78 : Cond.methodLink "BookgrafterModel" 78 yX5_like ∈ Tt := inT5 (i := 180) rfl rfl
theorem w5_181 : Cond.instanceMethod yX5_like ∈ Tt := inT5 (i := 181) rfl rfl
theorem w5_182 : Cond.selects "BookgrafterModel$Book" yX5_like yX5_like ∈ Tt := inT5 (i := 182) rfl rfl
theorem w5_183 : Cond.code yX5_like cX5_like 6 (some (.object "BookgrafterModel$Book")) ∈ Tt := inT5 (i := 183) rfl rfl
theorem klX5_10 : Cond.classLink "BookgrafterModel$Book" 10 "BookgrafterModel$Book" ∈ Tt := inT5 (i := 184) rfl rfl
theorem mlX5_45 : Cond.methodLink "BookgrafterModel$Book" 45 yX5_init ∈ Tt := inT5 (i := 185) rfl rfl
theorem mlL_172 : Cond.methodLink "BookgrafterLaw" 172 yX6_splitBook ∈ Tt := inT5 (i := 186) rfl rfl
theorem w5_187 : Cond.instanceMethod yX6_splitBook ∈ Tt := inT5 (i := 187) rfl rfl
theorem w5_188 : Cond.selects "BookgrafterModel" yX6_splitBook yX6_splitBook ∈ Tt := inT5 (i := 188) rfl rfl
theorem w5_189 : Cond.code yX6_splitBook cX6_splitBook 8 (some .int) ∈ Tt := inT5 (i := 189) rfl rfl
theorem mlX6_86 : Cond.methodLink "BookgrafterModel" 86 yX6_isKey ∈ Tt := inT5 (i := 190) rfl rfl
theorem w5_191 : Cond.static yX6_isKey ∈ Tt := inT5 (i := 191) rfl rfl
theorem w5_192 : Cond.code yX6_isKey cX6_isKey 1 (some .boolean) ∈ Tt := inT5 (i := 192) rfl rfl
theorem mlX6_89 : Cond.methodLink "BookgrafterModel" 89 yX6_refuse ∈ Tt := inT5 (i := 193) rfl rfl
theorem w5_195 : Cond.instanceMethod yX6_refuse ∈ Tt := inT5 (i := 195) rfl rfl
theorem w5_196 : Cond.code yX6_refuse cX6_refuse 1 (some .int) ∈ Tt := inT5 (i := 196) rfl rfl
theorem mlX6_93 : Cond.methodLink "BookgrafterModel" 93 yX5_rank ∈ Tt := inT5 (i := 197) rfl rfl
theorem w5_198 : Cond.instanceMethod yX5_rank ∈ Tt := inT5 (i := 198) rfl rfl
theorem w5_199 : Cond.selects "BookgrafterModel$Book" yX5_rank yX5_rank ∈ Tt := inT5 (i := 199) rfl rfl
theorem w5_200 : Cond.code yX5_rank cX5_rank 2 (some .int) ∈ Tt := inT5 (i := 200) rfl rfl
theorem mlX6_96 : Cond.methodLink "BookgrafterModel" 96 yX6_write ∈ Tt := inT5 (i := 201) rfl rfl
theorem w5_203 : Cond.instanceMethod yX6_write ∈ Tt := inT5 (i := 203) rfl rfl
theorem w5_204 : Cond.code yX6_write cX6_write 2 none ∈ Tt := inT5 (i := 204) rfl rfl
theorem mlX6_100 : Cond.methodLink "BookgrafterModel" 100 yX5_key ∈ Tt := inT5 (i := 205) rfl rfl
theorem mlX6_103 : Cond.methodLink "BookgrafterModel" 103 yX6_set ∈ Tt := inT5 (i := 206) rfl rfl
theorem w5_208 : Cond.instanceMethod yX6_set ∈ Tt := inT5 (i := 208) rfl rfl
theorem w5_209 : Cond.code yX6_set cX6_set 5 (some .int) ∈ Tt := inT5 (i := 209) rfl rfl
theorem mlX6_49 : Cond.methodLink "BookgrafterModel" 49 yX5_has ∈ Tt := inT5 (i := 210) rfl rfl
theorem mlL_176 : Cond.methodLink "BookgrafterLaw" 176 yX6_fill ∈ Tt := inT5 (i := 211) rfl rfl
theorem w5_212 : Cond.instanceMethod yX6_fill ∈ Tt := inT5 (i := 212) rfl rfl
theorem w5_213 : Cond.selects "BookgrafterModel" yX6_fill yX6_fill ∈ Tt := inT5 (i := 213) rfl rfl
theorem w5_214 : Cond.code yX6_fill cX6_fill 8 (some .int) ∈ Tt := inT5 (i := 214) rfl rfl
theorem mlL_179 : Cond.methodLink "BookgrafterLaw" 179 yX6_pour ∈ Tt := inT5 (i := 215) rfl rfl
theorem w5_216 : Cond.instanceMethod yX6_pour ∈ Tt := inT5 (i := 216) rfl rfl
theorem w5_217 : Cond.selects "BookgrafterModel" yX6_pour yX6_pour ∈ Tt := inT5 (i := 217) rfl rfl
theorem w5_218 : Cond.code yX6_pour cX6_pour 5 (some .int) ∈ Tt := inT5 (i := 218) rfl rfl
theorem mlL_183 : Cond.methodLink "BookgrafterLaw" 183 yX6_keep ∈ Tt := inT5 (i := 219) rfl rfl
theorem w5_220 : Cond.instanceMethod yX6_keep ∈ Tt := inT5 (i := 220) rfl rfl
theorem w5_221 : Cond.selects "BookgrafterModel" yX6_keep yX6_keep ∈ Tt := inT5 (i := 221) rfl rfl
theorem w5_222 : Cond.code yX6_keep cX6_keep 6 (some .int) ∈ Tt := inT5 (i := 222) rfl rfl
theorem mlL_187 : Cond.methodLink "BookgrafterLaw" 187 yX6_put ∈ Tt := inT5 (i := 223) rfl rfl
theorem w5_224 : Cond.instanceMethod yX6_put ∈ Tt := inT5 (i := 224) rfl rfl
