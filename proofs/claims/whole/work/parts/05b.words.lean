theorem wm_BurntHallLaw_90 : Jvm.Cond.methodLink "BurntHallLaw" 90 ⟨"BurntHallModel", "error", "(I)I"⟩ ∈ b_T := b_m10 (i := 58) rfl rfl
theorem wm_BurntHallLaw_91 : Jvm.Cond.methodLink "BurntHallLaw" 91 ⟨"BurntHall", "mend", "(I)I"⟩ ∈ b_T := b_m5 (i := 22) rfl rfl
theorem wm_BurntHallLaw_94 : Jvm.Cond.methodLink "BurntHallLaw" 94 ⟨"BurntHallModel", "mend", "(I)I"⟩ ∈ b_T := b_m10 (i := 70) rfl rfl
theorem wm_BurntHallLaw_95 : Jvm.Cond.methodLink "BurntHallLaw" 95 ⟨"BurntHall", "area", "(I)I"⟩ ∈ b_T := b_m5 (i := 40) rfl rfl
theorem wm_BurntHallLaw_98 : Jvm.Cond.methodLink "BurntHallLaw" 98 ⟨"BurntHallModel", "area", "(I)I"⟩ ∈ b_T := b_m10 (i := 79) rfl rfl
theorem wm_BurntHallLaw_99 : Jvm.Cond.methodLink "BurntHallLaw" 99 ⟨"BurntHall", "strip", "(II)I"⟩ ∈ b_T := b_m5 (i := 65) rfl rfl
theorem wm_BurntHallLaw_102 : Jvm.Cond.methodLink "BurntHallLaw" 102 ⟨"BurntHallModel", "strip", "(II)I"⟩ ∈ b_T := b_m10 (i := 105) rfl rfl
theorem wm_BurntHallLaw_103 : Jvm.Cond.methodLink "BurntHallLaw" 103 ⟨"BurntHall", "act", "()I"⟩ ∈ b_T := b_m5 (i := 69) rfl rfl
theorem wm_BurntHallLaw_107 : Jvm.Cond.methodLink "BurntHallLaw" 107 ⟨"BurntHallModel", "act", "()I"⟩ ∈ b_T := b_m10 (i := 118) rfl rfl
theorem wm_BurntHallLaw_108 : Jvm.Cond.methodLink "BurntHallLaw" 108 ⟨"BurntHall", "fault", "(I)I"⟩ ∈ b_T := b_m5 (i := 204) rfl rfl
theorem wm_BurntHallLaw_111 : Jvm.Cond.methodLink "BurntHallLaw" 111 ⟨"BurntHallModel", "fault", "(I)I"⟩ ∈ b_T := b_m9 (i := 160) rfl rfl
theorem wm_BurntHallLaw_112 : Jvm.Cond.methodLink "BurntHallLaw" 112 ⟨"BurntHall", "rule", "(II)I"⟩ ∈ b_T := b_m5 (i := 208) rfl rfl
theorem wm_BurntHallLaw_115 : Jvm.Cond.methodLink "BurntHallLaw" 115 ⟨"BurntHallModel", "rule", "(II)I"⟩ ∈ b_T := b_m10 (i := 165) rfl rfl
theorem wm_BurntHallLaw_116 : Jvm.Cond.methodLink "BurntHallLaw" 116 ⟨"BurntHall", "burnt", "()I"⟩ ∈ b_T := b_m5 (i := 224) rfl rfl
theorem wm_BurntHallLaw_119 : Jvm.Cond.methodLink "BurntHallLaw" 119 ⟨"BurntHallModel", "burnt", "()I"⟩ ∈ b_T := b_m10 (i := 177) rfl rfl
theorem wm_BurntHallLaw_120 : Jvm.Cond.methodLink "BurntHallLaw" 120 ⟨"BurntHall", "paper", "(IIIIIII)I"⟩ ∈ b_T := b_m5 (i := 232) rfl rfl
theorem wm_BurntHallLaw_123 : Jvm.Cond.methodLink "BurntHallLaw" 123 ⟨"BurntHallModel", "paper", "(IIIIIII)I"⟩ ∈ b_T := b_m10 (i := 181) rfl rfl
theorem wm_BurntHallLaw_124 : Jvm.Cond.methodLink "BurntHallLaw" 124 ⟨"BurntHall", "written", "(IIIII)I"⟩ ∈ b_T := b_m6 (i := 24) rfl rfl
theorem wm_BurntHallLaw_127 : Jvm.Cond.methodLink "BurntHallLaw" 127 ⟨"BurntHallModel", "written", "(IIIII)I"⟩ ∈ b_T := b_m10 (i := 189) rfl rfl
theorem wm_BurntHallLaw_128 : Jvm.Cond.methodLink "BurntHallLaw" 128 ⟨"BurntHall", "pages", "(I)I"⟩ ∈ b_T := b_m6 (i := 33) rfl rfl
theorem wm_BurntHallLaw_131 : Jvm.Cond.methodLink "BurntHallLaw" 131 ⟨"BurntHallModel", "pages", "(I)I"⟩ ∈ b_T := b_m10 (i := 197) rfl rfl
theorem wm_BurntHallLaw_132 : Jvm.Cond.methodLink "BurntHallLaw" 132 ⟨"BurntHall", "weight", "(II)I"⟩ ∈ b_T := b_m6 (i := 37) rfl rfl
theorem wm_BurntHallLaw_135 : Jvm.Cond.methodLink "BurntHallLaw" 135 ⟨"BurntHallModel", "weight", "(II)I"⟩ ∈ b_T := b_m10 (i := 201) rfl rfl
theorem wm_BurntHallLaw_136 : Jvm.Cond.methodLink "BurntHallLaw" 136 ⟨"BurntHall", "cant", "(II)I"⟩ ∈ b_T := b_m6 (i := 46) rfl rfl
theorem wm_BurntHallLaw_139 : Jvm.Cond.methodLink "BurntHallLaw" 139 ⟨"BurntHallModel", "cant", "(II)I"⟩ ∈ b_T := b_m10 (i := 217) rfl rfl
theorem wm_BurntHallLaw_140 : Jvm.Cond.methodLink "BurntHallLaw" 140 ⟨"BurntHall", "shown", "(III)I"⟩ ∈ b_T := b_m6 (i := 75) rfl rfl
theorem wm_BurntHallLaw_143 : Jvm.Cond.methodLink "BurntHallLaw" 143 ⟨"BurntHallModel", "shown", "(III)I"⟩ ∈ b_T := b_m10 (i := 229) rfl rfl
theorem wm_BurntHallLaw_144 : Jvm.Cond.methodLink "BurntHallLaw" 144 ⟨"BurntHall", "root", "(III)I"⟩ ∈ b_T := b_m6 (i := 132) rfl rfl
theorem wm_BurntHallLaw_147 : Jvm.Cond.methodLink "BurntHallLaw" 147 ⟨"BurntHallModel", "root", "(III)I"⟩ ∈ b_T := b_m11 (i := 13) rfl rfl
theorem wm_BurntHallLaw_148 : Jvm.Cond.methodLink "BurntHallLaw" 148 ⟨"BurntHall", "chain", "(III)I"⟩ ∈ b_T := b_m6 (i := 136) rfl rfl
theorem wm_BurntHallLaw_151 : Jvm.Cond.methodLink "BurntHallLaw" 151 ⟨"BurntHallModel", "chain", "(III)I"⟩ ∈ b_T := b_m11 (i := 17) rfl rfl
theorem wm_BurntHallLaw_152 : Jvm.Cond.methodLink "BurntHallLaw" 152 ⟨"BurntHall", "linked", "(I)I"⟩ ∈ b_T := b_m6 (i := 238) rfl rfl
theorem wm_BurntHallLaw_155 : Jvm.Cond.methodLink "BurntHallLaw" 155 ⟨"BurntHallModel", "linked", "(I)I"⟩ ∈ b_T := b_m11 (i := 73) rfl rfl
theorem wm_BurntHallLaw_156 : Jvm.Cond.methodLink "BurntHallLaw" 156 ⟨"BurntHall", "judge", "(III)I"⟩ ∈ b_T := b_m7 (i := 6) rfl rfl
theorem wm_BurntHallLaw_159 : Jvm.Cond.methodLink "BurntHallLaw" 159 ⟨"BurntHallModel", "judge", "(III)I"⟩ ∈ b_T := b_m11 (i := 77) rfl rfl
theorem wm_BurntHallLaw_160 : Jvm.Cond.methodLink "BurntHallLaw" 160 ⟨"BurntHall", "held", "(IIII)I"⟩ ∈ b_T := b_m7 (i := 27) rfl rfl
theorem wm_BurntHallLaw_164 : Jvm.Cond.methodLink "BurntHallLaw" 164 ⟨"BurntHallModel", "held", "(IIII)I"⟩ ∈ b_T := b_m11 (i := 81) rfl rfl
theorem wm_BurntHallLaw_165 : Jvm.Cond.methodLink "BurntHallLaw" 165 ⟨"BurntHall", "mortgage", "(IIIII)I"⟩ ∈ b_T := b_m7 (i := 43) rfl rfl
theorem wm_BurntHallLaw_168 : Jvm.Cond.methodLink "BurntHallLaw" 168 ⟨"BurntHallModel", "mortgage", "(IIIII)I"⟩ ∈ b_T := b_m11 (i := 89) rfl rfl
theorem wm_BurntHallLaw_169 : Jvm.Cond.methodLink "BurntHallLaw" 169 ⟨"BurntHall", "paid", "(II)I"⟩ ∈ b_T := b_m7 (i := 52) rfl rfl
theorem wm_BurntHallLaw_172 : Jvm.Cond.methodLink "BurntHallLaw" 172 ⟨"BurntHallModel", "paid", "(II)I"⟩ ∈ b_T := b_m11 (i := 94) rfl rfl
theorem wm_BurntHallLaw_173 : Jvm.Cond.methodLink "BurntHallLaw" 173 ⟨"BurntHall", "stands", "(III)I"⟩ ∈ b_T := b_m7 (i := 64) rfl rfl
theorem wm_BurntHallLaw_176 : Jvm.Cond.methodLink "BurntHallLaw" 176 ⟨"BurntHallModel", "stands", "(III)I"⟩ ∈ b_T := b_m11 (i := 102) rfl rfl
theorem wm_BurntHallLaw_177 : Jvm.Cond.methodLink "BurntHallLaw" 177 ⟨"BurntHall", "rank", "(III)I"⟩ ∈ b_T := b_m7 (i := 74) rfl rfl
theorem wm_BurntHallLaw_180 : Jvm.Cond.methodLink "BurntHallLaw" 180 ⟨"BurntHallModel", "rank", "(III)I"⟩ ∈ b_T := b_m11 (i := 110) rfl rfl
theorem wm_BurntHallLaw_181 : Jvm.Cond.methodLink "BurntHallLaw" 181 ⟨"BurntHall", "claim", "(II)I"⟩ ∈ b_T := b_m7 (i := 84) rfl rfl
theorem wm_BurntHallLaw_184 : Jvm.Cond.methodLink "BurntHallLaw" 184 ⟨"BurntHallModel", "claim", "(II)I"⟩ ∈ b_T := b_m11 (i := 114) rfl rfl
theorem wm_BurntHallLaw_185 : Jvm.Cond.methodLink "BurntHallLaw" 185 ⟨"BurntHall", "sit", "(I)I"⟩ ∈ b_T := b_m7 (i := 97) rfl rfl
theorem wm_BurntHallLaw_188 : Jvm.Cond.methodLink "BurntHallLaw" 188 ⟨"BurntHallModel", "sit", "(I)I"⟩ ∈ b_T := b_m11 (i := 130) rfl rfl
theorem wm_BurntHallLaw_189 : Jvm.Cond.methodLink "BurntHallLaw" 189 ⟨"BurntHall", "worth", "(I)I"⟩ ∈ b_T := b_m7 (i := 121) rfl rfl
theorem wm_BurntHallLaw_192 : Jvm.Cond.methodLink "BurntHallLaw" 192 ⟨"BurntHallModel", "worth", "(I)I"⟩ ∈ b_T := b_m11 (i := 122) rfl rfl
theorem wm_BurntHallLaw_193 : Jvm.Cond.methodLink "BurntHallLaw" 193 ⟨"BurntHall", "claimed", "(II)I"⟩ ∈ b_T := b_m7 (i := 130) rfl rfl
theorem wm_BurntHallLaw_196 : Jvm.Cond.methodLink "BurntHallLaw" 196 ⟨"BurntHallModel", "claimed", "(II)I"⟩ ∈ b_T := b_m11 (i := 134) rfl rfl
theorem wm_BurntHallLaw_197 : Jvm.Cond.methodLink "BurntHallLaw" 197 ⟨"BurntHall", "ruled", "(II)I"⟩ ∈ b_T := b_m7 (i := 151) rfl rfl
theorem wm_BurntHallLaw_200 : Jvm.Cond.methodLink "BurntHallLaw" 200 ⟨"BurntHallModel", "ruled", "(II)I"⟩ ∈ b_T := b_m11 (i := 146) rfl rfl
theorem wm_BurntHallLaw_201 : Jvm.Cond.methodLink "BurntHallLaw" 201 ⟨"BurntHall", "open", "(I)I"⟩ ∈ b_T := b_m7 (i := 159) rfl rfl
theorem wm_BurntHallLaw_204 : Jvm.Cond.methodLink "BurntHallLaw" 204 ⟨"BurntHallModel", "open", "(I)I"⟩ ∈ b_T := b_m11 (i := 150) rfl rfl
theorem wm_BurntHallLaw_205 : Jvm.Cond.methodLink "BurntHallLaw" 205 ⟨"BurntHall", "fund", "(I)I"⟩ ∈ b_T := b_m7 (i := 173) rfl rfl
theorem wm_BurntHallLaw_208 : Jvm.Cond.methodLink "BurntHallLaw" 208 ⟨"BurntHallModel", "fund", "(I)I"⟩ ∈ b_T := b_m11 (i := 154) rfl rfl
theorem wm_BurntHallLaw_209 : Jvm.Cond.methodLink "BurntHallLaw" 209 ⟨"BurntHall", "place", "(III)I"⟩ ∈ b_T := b_m7 (i := 182) rfl rfl
theorem wm_BurntHallLaw_212 : Jvm.Cond.methodLink "BurntHallLaw" 212 ⟨"BurntHallModel", "place", "(III)I"⟩ ∈ b_T := b_m11 (i := 159) rfl rfl
theorem wm_BurntHallLaw_213 : Jvm.Cond.methodLink "BurntHallLaw" 213 ⟨"BurntHall", "settles", "(I)I"⟩ ∈ b_T := b_m7 (i := 190) rfl rfl
theorem wm_BurntHallLaw_216 : Jvm.Cond.methodLink "BurntHallLaw" 216 ⟨"BurntHallModel", "settles", "(I)I"⟩ ∈ b_T := b_m11 (i := 163) rfl rfl
theorem wm_BurntHallLaw_217 : Jvm.Cond.methodLink "BurntHallLaw" 217 ⟨"BurntHall", "next", "(I)I"⟩ ∈ b_T := b_m7 (i := 219) rfl rfl
theorem wm_BurntHallLaw_220 : Jvm.Cond.methodLink "BurntHallLaw" 220 ⟨"BurntHallModel", "next", "(I)I"⟩ ∈ b_T := b_m11 (i := 175) rfl rfl
theorem wm_BurntHallLaw_221 : Jvm.Cond.methodLink "BurntHallLaw" 221 ⟨"BurntHall", "looked", "(I)I"⟩ ∈ b_T := b_m7 (i := 231) rfl rfl
theorem wm_BurntHallLaw_224 : Jvm.Cond.methodLink "BurntHallLaw" 224 ⟨"BurntHallModel", "looked", "(I)I"⟩ ∈ b_T := b_m11 (i := 183) rfl rfl
theorem wm_BurntHallLaw_225 : Jvm.Cond.methodLink "BurntHallLaw" 225 ⟨"BurntHall", "count", "(I)I"⟩ ∈ b_T := b_m7 (i := 239) rfl rfl
theorem wm_BurntHallLaw_228 : Jvm.Cond.methodLink "BurntHallLaw" 228 ⟨"BurntHallModel", "count", "(I)I"⟩ ∈ b_T := b_m11 (i := 187) rfl rfl
theorem wm_12_1 : Jvm.Cond.methodLink "BurntHallModel" 1 ⟨"java/lang/Object", "<init>", "()V"⟩ ∈ b_T := b_m8 (i := 12) rfl rfl
theorem wm_12_275 : Jvm.Cond.methodLink "BurntHallModel" 275 ⟨"BurntHallModel", "plain", "(I)I"⟩ ∈ b_T := b_m8 (i := 13) rfl rfl
theorem wm_12_279 : Jvm.Cond.methodLink "BurntHallModel" 279 ⟨"BurntHallModel", "in", "(III)Z"⟩ ∈ b_T := b_m9 (i := 168) rfl rfl
theorem wm_12_292 : Jvm.Cond.methodLink "BurntHallModel" 292 ⟨"BurntHallModel", "scan", "()V"⟩ ∈ b_T := b_m10 (i := 27) rfl rfl
theorem wm_12_297 : Jvm.Cond.methodLink "BurntHallModel" 297 ⟨"java/lang/String", "length", "()I"⟩ ∈ b_T := b_m10 (i := 45) rfl rfl
theorem wm_12_303 : Jvm.Cond.methodLink "BurntHallModel" 303 ⟨"java/lang/String", "charAt", "(I)C"⟩ ∈ b_T := b_m10 (i := 46) rfl rfl
theorem wm_12_307 : Jvm.Cond.methodLink "BurntHallModel" 307 ⟨"BurntHallModel", "see", "(I)I"⟩ ∈ b_T := b_m10 (i := 31) rfl rfl
theorem wm_12_319 : Jvm.Cond.methodLink "BurntHallModel" 319 ⟨"BurntHallModel", "isSmall", "(I)Z"⟩ ∈ b_T := b_m10 (i := 35) rfl rfl
theorem wm_12_331 : Jvm.Cond.methodLink "BurntHallModel" 331 ⟨"BurntHallModel", "keyAt", "(II)I"⟩ ∈ b_T := b_m10 (i := 40) rfl rfl
theorem wm_12_335 : Jvm.Cond.methodLink "BurntHallModel" 335 ⟨"BurntHallModel", "isDigit", "(I)Z"⟩ ∈ b_T := b_m10 (i := 47) rfl rfl
theorem wm_12_347 : Jvm.Cond.methodLink "BurntHallModel" 347 ⟨"BurntHallModel", "isDay", "(I)Z"⟩ ∈ b_T := b_m9 (i := 175) rfl rfl
theorem wm_12_356 : Jvm.Cond.methodLink "BurntHallModel" 356 ⟨"BurntHallModel", "isPerson", "(I)Z"⟩ ∈ b_T := b_m9 (i := 182) rfl rfl
theorem wm_12_359 : Jvm.Cond.methodLink "BurntHallModel" 359 ⟨"BurntHallModel", "tell", "(III)I"⟩ ∈ b_T := b_m9 (i := 186) rfl rfl
theorem wm_12_363 : Jvm.Cond.methodLink "BurntHallModel" 363 ⟨"BurntHallModel", "isPair", "(II)Z"⟩ ∈ b_T := b_m9 (i := 194) rfl rfl
theorem wm_12_367 : Jvm.Cond.methodLink "BurntHallModel" 367 ⟨"BurntHallModel", "makeOnes", "(I)V"⟩ ∈ b_T := b_m9 (i := 210) rfl rfl
theorem wm_12_371 : Jvm.Cond.methodLink "BurntHallModel" 371 ⟨"BurntHallModel", "deadOf", "(II)I"⟩ ∈ b_T := b_m9 (i := 214) rfl rfl
theorem wm_12_378 : Jvm.Cond.methodLink "BurntHallModel" 378 ⟨"BurntHallModel", "isFeet", "(I)Z"⟩ ∈ b_T := b_m9 (i := 230) rfl rfl
theorem wm_12_381 : Jvm.Cond.methodLink "BurntHallModel" 381 ⟨"BurntHallModel", "add", "(IIJ)I"⟩ ∈ b_T := b_m9 (i := 234) rfl rfl
theorem wm_12_385 : Jvm.Cond.methodLink "BurntHallModel" 385 ⟨"BurntHallModel", "isLot", "(I)Z"⟩ ∈ b_T := b_m10 (i := 2) rfl rfl
theorem wm_12_389 : Jvm.Cond.methodLink "BurntHallModel" 389 ⟨"BurntHallModel", "wrong", "(I)Z"⟩ ∈ b_T := b_m10 (i := 54) rfl rfl
theorem wm_12_395 : Jvm.Cond.methodLink "BurntHallModel" 395 ⟨"BurntHallModel", "take", "()V"⟩ ∈ b_T := b_m10 (i := 23) rfl rfl
theorem wm_12_398 : Jvm.Cond.methodLink "BurntHallModel" 398 ⟨"BurntHallModel", "readBounds", "()Z"⟩ ∈ b_T := b_m10 (i := 50) rfl rfl
theorem wm_12_402 : Jvm.Cond.methodLink "BurntHallModel" 402 ⟨"BurntHallModel", "bad", "(I)I"⟩ ∈ b_T := b_m10 (i := 62) rfl rfl
theorem wm_12_405 : Jvm.Cond.methodLink "BurntHallModel" 405 ⟨"BurntHallModel", "leads", "(II)I"⟩ ∈ b_T := b_m10 (i := 66) rfl rfl
theorem wm_12_408 : Jvm.Cond.methodLink "BurntHallModel" 408 ⟨"BurntHallModel", "error", "(I)I"⟩ ∈ b_T := b_m10 (i := 74) rfl rfl
theorem wm_12_411 : Jvm.Cond.methodLink "BurntHallModel" 411 ⟨"BurntHallModel", "mends", "(II)I"⟩ ∈ b_T := b_m10 (i := 75) rfl rfl
theorem wm_12_414 : Jvm.Cond.methodLink "BurntHallModel" 414 ⟨"BurntHallModel", "lesser", "(II)I"⟩ ∈ b_T := b_m10 (i := 95) rfl rfl
theorem wm_12_417 : Jvm.Cond.methodLink "BurntHallModel" 417 ⟨"BurntHallModel", "greater", "(II)I"⟩ ∈ b_T := b_m10 (i := 98) rfl rfl
theorem wm_12_420 : Jvm.Cond.methodLink "BurntHallModel" 420 ⟨"BurntHallModel", "walk", "(II)V"⟩ ∈ b_T := b_m10 (i := 87) rfl rfl
theorem wm_12_424 : Jvm.Cond.methodLink "BurntHallModel" 424 ⟨"BurntHallModel", "isMeeting", "(II)Z"⟩ ∈ b_T := b_m10 (i := 91) rfl rfl
theorem wm_12_427 : Jvm.Cond.methodLink "BurntHallModel" 427 ⟨"BurntHallModel", "isArea", "(II)Z"⟩ ∈ b_T := b_m10 (i := 83) rfl rfl
theorem wm_12_430 : Jvm.Cond.methodLink "BurntHallModel" 430 ⟨"BurntHallModel", "areaOf", "(II)I"⟩ ∈ b_T := b_m10 (i := 101) rfl rfl
theorem wm_12_434 : Jvm.Cond.methodLink "BurntHallModel" 434 ⟨"BurntHallModel", "nextOf", "(ZIII)I"⟩ ∈ b_T := b_m10 (i := 109) rfl rfl
theorem wm_12_438 : Jvm.Cond.methodLink "BurntHallModel" 438 ⟨"BurntHallModel", "isWithin", "(IIII)Z"⟩ ∈ b_T := b_m10 (i := 114) rfl rfl
theorem wm_12_445 : Jvm.Cond.methodLink "BurntHallModel" 445 ⟨"BurntHallModel", "isTerm", "()Z"⟩ ∈ b_T := b_m10 (i := 150) rfl rfl
theorem wm_12_448 : Jvm.Cond.methodLink "BurntHallModel" 448 ⟨"BurntHallModel", "addStep", "(I)V"⟩ ∈ b_T := b_m10 (i := 154) rfl rfl
theorem wm_12_451 : Jvm.Cond.methodLink "BurntHallModel" 451 ⟨"BurntHallModel", "readSum", "(I)Z"⟩ ∈ b_T := b_m10 (i := 158) rfl rfl
theorem wm_12_457 : Jvm.Cond.methodLink "BurntHallModel" 457 ⟨"BurntHallModel", "readCond", "()Z"⟩ ∈ b_T := b_m10 (i := 134) rfl rfl
theorem wm_12_460 : Jvm.Cond.methodLink "BurntHallModel" 460 ⟨"BurntHallModel", "readTest", "()Z"⟩ ∈ b_T := b_m10 (i := 146) rfl rfl
theorem wm_12_463 : Jvm.Cond.methodLink "BurntHallModel" 463 ⟨"BurntHallModel", "readOne", "()Z"⟩ ∈ b_T := b_m10 (i := 142) rfl rfl
theorem wm_12_466 : Jvm.Cond.methodLink "BurntHallModel" 466 ⟨"BurntHallModel", "readAll", "()Z"⟩ ∈ b_T := b_m10 (i := 138) rfl rfl
theorem wm_12_469 : Jvm.Cond.methodLink "BurntHallModel" 469 ⟨"BurntHallModel", "readNumber", "(II)Z"⟩ ∈ b_T := b_m10 (i := 130) rfl rfl
theorem wm_12_472 : Jvm.Cond.methodLink "BurntHallModel" 472 ⟨"BurntHallModel", "readProof", "()Z"⟩ ∈ b_T := b_m10 (i := 126) rfl rfl
theorem wm_12_478 : Jvm.Cond.methodLink "BurntHallModel" 478 ⟨"BurntHallModel", "high", "(I)I"⟩ ∈ b_T := b_m10 (i := 162) rfl rfl
theorem wm_12_484 : Jvm.Cond.methodLink "BurntHallModel" 484 ⟨"BurntHallModel", "readClause", "()Z"⟩ ∈ b_T := b_m10 (i := 122) rfl rfl
theorem wm_12_490 : Jvm.Cond.methodLink "BurntHallModel" 490 ⟨"BurntHallModel", "actOn", "(I)I"⟩ ∈ b_T := b_m10 (i := 173) rfl rfl
theorem wm_12_493 : Jvm.Cond.methodLink "BurntHallModel" 493 ⟨"BurntHallModel", "ruleOn", "(II)I"⟩ ∈ b_T := b_m10 (i := 169) rfl rfl
theorem wm_12_499 : Jvm.Cond.methodLink "BurntHallModel" 499 ⟨"BurntHallModel", "readMarks", "()Z"⟩ ∈ b_T := b_m10 (i := 185) rfl rfl
theorem wm_12_505 : Jvm.Cond.methodLink "BurntHallModel" 505 ⟨"BurntHallModel", "isPaper", "(I)Z"⟩ ∈ b_T := b_m10 (i := 193) rfl rfl
theorem wm_12_508 : Jvm.Cond.methodLink "BurntHallModel" 508 ⟨"BurntHallModel", "sumOf", "(III)I"⟩ ∈ b_T := b_m10 (i := 213) rfl rfl
theorem wm_12_511 : Jvm.Cond.methodLink "BurntHallModel" 511 ⟨"BurntHallModel", "holds", "(II)Z"⟩ ∈ b_T := b_m10 (i := 209) rfl rfl
theorem wm_12_514 : Jvm.Cond.methodLink "BurntHallModel" 514 ⟨"BurntHallModel", "weightOf", "(II)I"⟩ ∈ b_T := b_m10 (i := 205) rfl rfl
theorem wm_12_517 : Jvm.Cond.methodLink "BurntHallModel" 517 ⟨"BurntHallModel", "isOutside", "(IIII)Z"⟩ ∈ b_T := b_m10 (i := 225) rfl rfl
theorem wm_12_520 : Jvm.Cond.methodLink "BurntHallModel" 520 ⟨"BurntHallModel", "cantOf", "(II)I"⟩ ∈ b_T := b_m10 (i := 221) rfl rfl
theorem wm_12_523 : Jvm.Cond.methodLink "BurntHallModel" 523 ⟨"BurntHallModel", "classOf", "(II)I"⟩ ∈ b_T := b_m11 (i := 1) rfl rfl
theorem wm_12_526 : Jvm.Cond.methodLink "BurntHallModel" 526 ⟨"BurntHallModel", "sumFor", "(IIII)I"⟩ ∈ b_T := b_m11 (i := 5) rfl rfl
theorem wm_12_530 : Jvm.Cond.methodLink "BurntHallModel" 530 ⟨"BurntHallModel", "show", "(III)V"⟩ ∈ b_T := b_m10 (i := 237) rfl rfl
theorem wm_12_534 : Jvm.Cond.methodLink "BurntHallModel" 534 ⟨"BurntHallModel", "makeShown", "(I)V"⟩ ∈ b_T := b_m10 (i := 233) rfl rfl
theorem wm_12_537 : Jvm.Cond.methodLink "BurntHallModel" 537 ⟨"BurntHallModel", "pointsOf", "(I)I"⟩ ∈ b_T := b_m11 (i := 9) rfl rfl
theorem wm_12_550 : Jvm.Cond.methodLink "BurntHallModel" 550 ⟨"BurntHallModel", "isChild", "(III)Z"⟩ ∈ b_T := b_m11 (i := 33) rfl rfl
theorem wm_12_553 : Jvm.Cond.methodLink "BurntHallModel" 553 ⟨"BurntHallModel", "isLink", "(I)Z"⟩ ∈ b_T := b_m11 (i := 41) rfl rfl
theorem wm_12_556 : Jvm.Cond.methodLink "BurntHallModel" 556 ⟨"BurntHallModel", "isEnd", "(I)Z"⟩ ∈ b_T := b_m11 (i := 29) rfl rfl
theorem wm_12_559 : Jvm.Cond.methodLink "BurntHallModel" 559 ⟨"BurntHallModel", "isNext", "(II)Z"⟩ ∈ b_T := b_m11 (i := 45) rfl rfl
theorem wm_12_562 : Jvm.Cond.methodLink "BurntHallModel" 562 ⟨"BurntHallModel", "isRoot", "(I)Z"⟩ ∈ b_T := b_m11 (i := 25) rfl rfl
theorem wm_12_568 : Jvm.Cond.methodLink "BurntHallModel" 568 ⟨"BurntHallModel", "canBegin", "(III)Z"⟩ ∈ b_T := b_m11 (i := 61) rfl rfl
theorem wm_12_574 : Jvm.Cond.methodLink "BurntHallModel" 574 ⟨"BurntHallModel", "makeLatest", "(I)V"⟩ ∈ b_T := b_m11 (i := 53) rfl rfl
theorem wm_12_577 : Jvm.Cond.methodLink "BurntHallModel" 577 ⟨"BurntHallModel", "rootFor", "(I)I"⟩ ∈ b_T := b_m11 (i := 57) rfl rfl
theorem wm_12_586 : Jvm.Cond.methodLink "BurntHallModel" 586 ⟨"BurntHallModel", "makeWays", "()V"⟩ ∈ b_T := b_m11 (i := 37) rfl rfl
theorem wm_12_589 : Jvm.Cond.methodLink "BurntHallModel" 589 ⟨"BurntHallModel", "fewest", "(I)I"⟩ ∈ b_T := b_m11 (i := 49) rfl rfl
theorem wm_12_595 : Jvm.Cond.methodLink "BurntHallModel" 595 ⟨"BurntHallModel", "takeLinks", "(II)V"⟩ ∈ b_T := b_m11 (i := 65) rfl rfl
theorem wm_12_598 : Jvm.Cond.methodLink "BurntHallModel" 598 ⟨"BurntHallModel", "weakestOf", "()I"⟩ ∈ b_T := b_m11 (i := 69) rfl rfl
theorem wm_12_601 : Jvm.Cond.methodLink "BurntHallModel" 601 ⟨"BurntHallModel", "makeChain", "(III)Z"⟩ ∈ b_T := b_m11 (i := 21) rfl rfl
theorem wm_12_619 : Jvm.Cond.methodLink "BurntHallModel" 619 ⟨"BurntHallModel", "heldOf", "(IIII)I"⟩ ∈ b_T := b_m11 (i := 85) rfl rfl
theorem wm_12_626 : Jvm.Cond.methodLink "BurntHallModel" 626 ⟨"BurntHallModel", "isMortgage", "(I)Z"⟩ ∈ b_T := b_m11 (i := 98) rfl rfl
theorem wm_12_629 : Jvm.Cond.methodLink "BurntHallModel" 629 ⟨"BurntHallModel", "isStanding", "(III)Z"⟩ ∈ b_T := b_m11 (i := 106) rfl rfl
theorem wm_12_632 : Jvm.Cond.methodLink "BurntHallModel" 632 ⟨"BurntHallModel", "isThere", "(II)Z"⟩ ∈ b_T := b_m11 (i := 118) rfl rfl
theorem wm_12_638 : Jvm.Cond.methodLink "BurntHallModel" 638 ⟨"BurntHallModel", "worthOf", "(I)I"⟩ ∈ b_T := b_m11 (i := 126) rfl rfl
theorem wm_12_641 : Jvm.Cond.methodLink "BurntHallModel" 641 ⟨"BurntHallModel", "isDoubt", "(I)Z"⟩ ∈ b_T := b_m11 (i := 142) rfl rfl
theorem wm_12_644 : Jvm.Cond.methodLink "BurntHallModel" 644 ⟨"BurntHallModel", "ruledAs", "(I)I"⟩ ∈ b_T := b_m11 (i := 138) rfl rfl
theorem wm_12_654 : Jvm.Cond.methodLink "BurntHallModel" 654 ⟨"BurntHallModel", "isSureWith", "(I)Z"⟩ ∈ b_T := b_m11 (i := 171) rfl rfl
theorem wm_12_657 : Jvm.Cond.methodLink "BurntHallModel" 657 ⟨"BurntHallModel", "makeSettled", "(II)V"⟩ ∈ b_T := b_m11 (i := 167) rfl rfl
theorem wm_12_660 : Jvm.Cond.methodLink "BurntHallModel" 660 ⟨"BurntHallModel", "costOf", "(I)I"⟩ ∈ b_T := b_m11 (i := 179) rfl rfl
theorem wm_java_lang_String_335 : Jvm.Cond.methodLink "java/lang/String" 335 ⟨"java/lang/String", "coder", "()B"⟩ ∈ b_T := b_m1 (i := 138) rfl rfl
theorem wm_java_lang_String_492 : Jvm.Cond.methodLink "java/lang/String" 492 ⟨"java/lang/String", "isLatin1", "()Z"⟩ ∈ b_T := b_m1 (i := 148) rfl rfl
theorem wm_java_lang_String_495 : Jvm.Cond.methodLink "java/lang/String" 495 ⟨"java/lang/StringLatin1", "charAt", "([BI)C"⟩ ∈ b_T := b_m1 (i := 152) rfl rfl
theorem wm_java_lang_String_498 : Jvm.Cond.methodLink "java/lang/String" 498 ⟨"java/lang/StringUTF16", "charAt", "([BI)C"⟩ ∈ b_T := b_m1 (i := 163) rfl rfl
theorem wm_java_lang_String_1059 : Jvm.Cond.methodLink "java/lang/String" 1059 ⟨"jdk/internal/util/Preconditions", "checkIndex", "(IILjava/util/function/BiFunction;)I"⟩ ∈ b_T := b_m1 (i := 160) rfl rfl
theorem wm_java_lang_StringLatin1_9 : Jvm.Cond.methodLink "java/lang/StringLatin1" 9 ⟨"java/lang/String", "checkIndex", "(II)V"⟩ ∈ b_T := b_m1 (i := 155) rfl rfl
theorem wm_java_lang_StringUTF16_48 : Jvm.Cond.methodLink "java/lang/StringUTF16" 48 ⟨"java/lang/StringUTF16", "length", "([B)I"⟩ ∈ b_T := b_m1 (i := 169) rfl rfl
theorem wm_java_lang_StringUTF16_67 : Jvm.Cond.methodLink "java/lang/StringUTF16" 67 ⟨"java/lang/StringUTF16", "checkIndex", "(I[B)V"⟩ ∈ b_T := b_m1 (i := 166) rfl rfl
theorem wm_java_lang_StringUTF16_71 : Jvm.Cond.methodLink "java/lang/StringUTF16" 71 ⟨"java/lang/StringUTF16", "getChar", "([BI)C"⟩ ∈ b_T := b_m1 (i := 173) rfl rfl
theorem wm_java_lang_StringUTF16_414 : Jvm.Cond.methodLink "java/lang/StringUTF16" 414 ⟨"java/lang/String", "checkIndex", "(II)V"⟩ ∈ b_T := b_m1 (i := 172) rfl rfl
theorem wm_java_util_Arrays_150 : Jvm.Cond.methodLink "java/util/Arrays" 150 ⟨"java/lang/System", "arraycopy", "(Ljava/lang/Object;ILjava/lang/Object;II)V"⟩ ∈ b_T := b_m5 (i := 174) rfl rfl
theorem wm_java_util_Arrays_304 : Jvm.Cond.methodLink "java/util/Arrays" 304 ⟨"java/lang/Math", "min", "(II)I"⟩ ∈ b_T := b_m5 (i := 173) rfl rfl
theorem wm_java_util_Arrays_319 : Jvm.Cond.methodLink "java/util/Arrays" 319 ⟨"[J", "clone", "()Ljava/lang/Object;"⟩ ∈ b_T := b_m5 (i := 166) rfl rfl
theorem wk_11_310 : Jvm.Cond.constant "BurntHall" 310 (Int32.ofInt (99999)) ∈ b_T := b_m7 (i := 47) rfl rfl
theorem wk_3_57 : Jvm.Cond.constant "BurntHall$Claims" 57 (Int32.ofInt (9999999)) ∈ b_T := b_m7 (i := 181) rfl rfl
theorem wk_5_78 : Jvm.Cond.constant "BurntHall$Lots" 78 (Int32.ofInt (999999)) ∈ b_T := b_m4 (i := 101) rfl rfl
theorem wk_5_142 : Jvm.Cond.constant "BurntHall$Lots" 142 (Int32.ofInt (100000)) ∈ b_T := b_m4 (i := 225) rfl rfl
theorem wk_12_377 : Jvm.Cond.constant "BurntHallModel" 377 (Int32.ofInt (999999)) ∈ b_T := b_m9 (i := 233) rfl rfl
theorem wk_12_388 : Jvm.Cond.constant "BurntHallModel" 388 (Int32.ofInt (100000)) ∈ b_T := b_m10 (i := 14) rfl rfl
theorem wk_12_433 : Jvm.Cond.constant "BurntHallModel" 433 (Int32.ofInt (99980001)) ∈ b_T := b_m10 (i := 113) rfl rfl
theorem wk_12_622 : Jvm.Cond.constant "BurntHallModel" 622 (Int32.ofInt (99999)) ∈ b_T := b_m11 (i := 93) rfl rfl
theorem wk_12_650 : Jvm.Cond.constant "BurntHallModel" 650 (Int32.ofInt (9999999)) ∈ b_T := b_m11 (i := 158) rfl rfl
theorem wl_0_51 : Jvm.Cond.constantLong "BurntHall$Act" 51 (Int64.ofInt (15)) ∈ b_T := b_m5 (i := 196) rfl rfl
theorem wl_10_59 : Jvm.Cond.constantLong "BurntHall$Tape" 59 (Int64.ofInt (10)) ∈ b_T := b_m4 (i := 203) rfl rfl
theorem wl_10_61 : Jvm.Cond.constantLong "BurntHall$Tape" 61 (Int64.ofInt (48)) ∈ b_T := b_m4 (i := 204) rfl rfl
theorem wl_12_327 : Jvm.Cond.constantLong "BurntHallModel" 327 (Int64.ofInt (32)) ∈ b_T := b_m10 (i := 38) rfl rfl
theorem wl_12_329 : Jvm.Cond.constantLong "BurntHallModel" 329 (Int64.ofInt (97)) ∈ b_T := b_m10 (i := 39) rfl rfl
theorem wc_X0_init : Jvm.Cond.code ⟨"BurntHall$Act", "<init>", "()V"⟩ prog_2_method_1_code 1 (Option.none : Option Jvm.ClassFile.FieldType) ∈ b_T := b_m2 (i := 32) rfl rfl
theorem wi_X0_init : Jvm.Cond.instanceMethod ⟨"BurntHall$Act", "<init>", "()V"⟩ ∈ b_T := b_m2 (i := 31) rfl rfl
theorem wn_0 : Jvm.Cond.initialized "BurntHall$Act" ∈ b_T := b_m1 (i := 10) rfl rfl
theorem wc_X0_reset : Jvm.Cond.code ⟨"BurntHall$Act", "reset", "()V"⟩ prog_2_method_2_code 1 (Option.none : Option Jvm.ClassFile.FieldType) ∈ b_T := b_m5 (i := 85) rfl rfl
theorem wi_X0_reset : Jvm.Cond.instanceMethod ⟨"BurntHall$Act", "reset", "()V"⟩ ∈ b_T := b_m5 (i := 83) rfl rfl
theorem ws_X0_reset : Jvm.Cond.selects "BurntHall$Act" ⟨"BurntHall$Act", "reset", "()V"⟩ ⟨"BurntHall$Act", "reset", "()V"⟩ ∈ b_T := b_m5 (i := 84) rfl rfl
theorem wc_X0_told : Jvm.Cond.code ⟨"BurntHall$Act", "told", "(I)I"⟩ prog_2_method_3_code 2 (Option.some Jvm.ClassFile.FieldType.int) ∈ b_T := b_m5 (i := 223) rfl rfl
theorem wi_X0_told : Jvm.Cond.instanceMethod ⟨"BurntHall$Act", "told", "(I)I"⟩ ∈ b_T := b_m5 (i := 221) rfl rfl
theorem ws_X0_told : Jvm.Cond.selects "BurntHall$Act" ⟨"BurntHall$Act", "told", "(I)I"⟩ ⟨"BurntHall$Act", "told", "(I)I"⟩ ∈ b_T := b_m5 (i := 222) rfl rfl
theorem wc_X0_tell : Jvm.Cond.code ⟨"BurntHall$Act", "tell", "(II)V"⟩ prog_2_method_4_code 3 (Option.none : Option Jvm.ClassFile.FieldType) ∈ b_T := b_m5 (i := 150) rfl rfl
theorem wi_X0_tell : Jvm.Cond.instanceMethod ⟨"BurntHall$Act", "tell", "(II)V"⟩ ∈ b_T := b_m5 (i := 148) rfl rfl
theorem ws_X0_tell : Jvm.Cond.selects "BurntHall$Act" ⟨"BurntHall$Act", "tell", "(II)V"⟩ ⟨"BurntHall$Act", "tell", "(II)V"⟩ ∈ b_T := b_m5 (i := 149) rfl rfl
theorem wc_X0_addProof : Jvm.Cond.code ⟨"BurntHall$Act", "addProof", "(III)V"⟩ prog_2_method_5_code 4 (Option.none : Option Jvm.ClassFile.FieldType) ∈ b_T := b_m5 (i := 142) rfl rfl
theorem wi_X0_addProof : Jvm.Cond.instanceMethod ⟨"BurntHall$Act", "addProof", "(III)V"⟩ ∈ b_T := b_m5 (i := 140) rfl rfl
theorem ws_X0_addProof : Jvm.Cond.selects "BurntHall$Act" ⟨"BurntHall$Act", "addProof", "(III)V"⟩ ⟨"BurntHall$Act", "addProof", "(III)V"⟩ ∈ b_T := b_m5 (i := 141) rfl rfl
theorem wc_X0_keepSteps : Jvm.Cond.code ⟨"BurntHall$Act", "keepSteps", "([JI)V"⟩ prog_2_method_6_code 3 (Option.none : Option Jvm.ClassFile.FieldType) ∈ b_T := b_m5 (i := 162) rfl rfl
theorem wi_X0_keepSteps : Jvm.Cond.instanceMethod ⟨"BurntHall$Act", "keepSteps", "([JI)V"⟩ ∈ b_T := b_m5 (i := 160) rfl rfl
theorem ws_X0_keepSteps : Jvm.Cond.selects "BurntHall$Act" ⟨"BurntHall$Act", "keepSteps", "([JI)V"⟩ ⟨"BurntHall$Act", "keepSteps", "([JI)V"⟩ ∈ b_T := b_m5 (i := 161) rfl rfl
theorem wc_X0_weightOf : Jvm.Cond.code ⟨"BurntHall$Act", "weightOf", "(LBurntHall$Papers;I[I)I"⟩ prog_2_method_7_code 5 (Option.some Jvm.ClassFile.FieldType.int) ∈ b_T := b_m5 (i := 191) rfl rfl
theorem wi_X0_weightOf : Jvm.Cond.instanceMethod ⟨"BurntHall$Act", "weightOf", "(LBurntHall$Papers;I[I)I"⟩ ∈ b_T := b_m5 (i := 189) rfl rfl
theorem ws_X0_weightOf : Jvm.Cond.selects "BurntHall$Act" ⟨"BurntHall$Act", "weightOf", "(LBurntHall$Papers;I[I)I"⟩ ⟨"BurntHall$Act", "weightOf", "(LBurntHall$Papers;I[I)I"⟩ ∈ b_T := b_m5 (i := 190) rfl rfl
theorem wc_X0_holds : Jvm.Cond.code ⟨"BurntHall$Act", "holds", "(ILBurntHall$Papers;I[I)Z"⟩ prog_2_method_8_code 11 (Option.some Jvm.ClassFile.FieldType.boolean) ∈ b_T := b_m5 (i := 195) rfl rfl
theorem wi_X0_holds : Jvm.Cond.instanceMethod ⟨"BurntHall$Act", "holds", "(ILBurntHall$Papers;I[I)Z"⟩ ∈ b_T := b_m5 (i := 194) rfl rfl
theorem ws_X0_holds : Jvm.Cond.selects "BurntHall$Act" ⟨"BurntHall$Act", "holds", "(ILBurntHall$Papers;I[I)Z"⟩ ⟨"BurntHall$Act", "holds", "(ILBurntHall$Papers;I[I)Z"⟩ ∈ b_T := b_memS (i := 27) (q := (⟨"BurntHall$Act", "holds", "(ILBurntHall$Papers;I[I)Z"⟩, 6)) rfl
theorem wc_X0_ofTwo : Jvm.Cond.code ⟨"BurntHall$Act", "ofTwo", "(III)I"⟩ prog_2_method_9_code 3 (Option.some Jvm.ClassFile.FieldType.int) ∈ b_T := b_m5 (i := 203) rfl rfl
theorem wi_X0_ofTwo : Jvm.Cond.static ⟨"BurntHall$Act", "ofTwo", "(III)I"⟩ ∈ b_T := b_m5 (i := 202) rfl rfl
theorem wc_X1_init : Jvm.Cond.code ⟨"BurntHall$Acts", "<init>", "(LBurntHall$Tape;)V"⟩ prog_3_method_1_code 3 (Option.none : Option Jvm.ClassFile.FieldType) ∈ b_T := b_m2 (i := 21) rfl rfl
theorem wi_X1_init : Jvm.Cond.instanceMethod ⟨"BurntHall$Acts", "<init>", "(LBurntHall$Tape;)V"⟩ ∈ b_T := b_m2 (i := 20) rfl rfl
theorem wn_1 : Jvm.Cond.initialized "BurntHall$Acts" ∈ b_T := b_m1 (i := 9) rfl rfl
theorem wc_X1_numberInForce : Jvm.Cond.code ⟨"BurntHall$Acts", "numberInForce", "(I)I"⟩ prog_3_method_2_code 3 (Option.some Jvm.ClassFile.FieldType.int) ∈ b_T := b_m5 (i := 219) rfl rfl
theorem wi_X1_numberInForce : Jvm.Cond.instanceMethod ⟨"BurntHall$Acts", "numberInForce", "(I)I"⟩ ∈ b_T := b_m5 (i := 217) rfl rfl
theorem ws_X1_numberInForce : Jvm.Cond.selects "BurntHall$Acts" ⟨"BurntHall$Acts", "numberInForce", "(I)I"⟩ ⟨"BurntHall$Acts", "numberInForce", "(I)I"⟩ ∈ b_T := b_m5 (i := 218) rfl rfl
theorem wc_X1_inForce : Jvm.Cond.code ⟨"BurntHall$Acts", "inForce", "(I)LBurntHall$Act;"⟩ prog_3_method_3_code 2 (Option.some (Jvm.ClassFile.FieldType.object "BurntHall$Act")) ∈ b_T := b_m5 (i := 215) rfl rfl
theorem wi_X1_inForce : Jvm.Cond.instanceMethod ⟨"BurntHall$Acts", "inForce", "(I)LBurntHall$Act;"⟩ ∈ b_T := b_m5 (i := 213) rfl rfl
theorem ws_X1_inForce : Jvm.Cond.selects "BurntHall$Acts" ⟨"BurntHall$Acts", "inForce", "(I)LBurntHall$Act;"⟩ ⟨"BurntHall$Acts", "inForce", "(I)LBurntHall$Act;"⟩ ∈ b_T := b_m5 (i := 214) rfl rfl
theorem wc_X1_slot : Jvm.Cond.code ⟨"BurntHall$Acts", "slot", "(I)LBurntHall$Act;"⟩ prog_3_method_4_code 2 (Option.some (Jvm.ClassFile.FieldType.object "BurntHall$Act")) ∈ b_T := b_m5 (i := 81) rfl rfl
theorem wi_X1_slot : Jvm.Cond.instanceMethod ⟨"BurntHall$Acts", "slot", "(I)LBurntHall$Act;"⟩ ∈ b_T := b_m5 (i := 79) rfl rfl
theorem ws_X1_slot : Jvm.Cond.selects "BurntHall$Acts" ⟨"BurntHall$Acts", "slot", "(I)LBurntHall$Act;"⟩ ⟨"BurntHall$Acts", "slot", "(I)LBurntHall$Act;"⟩ ∈ b_T := b_m5 (i := 80) rfl rfl
theorem wc_X1_enact : Jvm.Cond.code ⟨"BurntHall$Acts", "enact", "(I)V"⟩ prog_3_method_5_code 2 (Option.none : Option Jvm.ClassFile.FieldType) ∈ b_T := b_m5 (i := 158) rfl rfl
theorem wi_X1_enact : Jvm.Cond.instanceMethod ⟨"BurntHall$Acts", "enact", "(I)V"⟩ ∈ b_T := b_m5 (i := 156) rfl rfl
theorem ws_X1_enact : Jvm.Cond.selects "BurntHall$Acts" ⟨"BurntHall$Acts", "enact", "(I)V"⟩ ⟨"BurntHall$Acts", "enact", "(I)V"⟩ ∈ b_T := b_m5 (i := 157) rfl rfl
theorem wc_X1_read : Jvm.Cond.code ⟨"BurntHall$Acts", "read", "()I"⟩ prog_3_method_6_code 3 (Option.some Jvm.ClassFile.FieldType.int) ∈ b_T := b_m5 (i := 76) rfl rfl
theorem wi_X1_read : Jvm.Cond.instanceMethod ⟨"BurntHall$Acts", "read", "()I"⟩ ∈ b_T := b_m5 (i := 74) rfl rfl
theorem ws_X1_read : Jvm.Cond.selects "BurntHall$Acts" ⟨"BurntHall$Acts", "read", "()I"⟩ ⟨"BurntHall$Acts", "read", "()I"⟩ ∈ b_T := b_m5 (i := 75) rfl rfl
theorem wc_X1_readRule : Jvm.Cond.code ⟨"BurntHall$Acts", "readRule", "(I)Z"⟩ prog_3_method_7_code 2 (Option.some Jvm.ClassFile.FieldType.boolean) ∈ b_T := b_m5 (i := 146) rfl rfl
theorem wi_X1_readRule : Jvm.Cond.instanceMethod ⟨"BurntHall$Acts", "readRule", "(I)Z"⟩ ∈ b_T := b_m5 (i := 145) rfl rfl
theorem ws_X1_readRule : Jvm.Cond.selects "BurntHall$Acts" ⟨"BurntHall$Acts", "readRule", "(I)Z"⟩ ⟨"BurntHall$Acts", "readRule", "(I)Z"⟩ ∈ b_T := b_memS (i := 25) (q := (⟨"BurntHall$Acts", "readRule", "(I)Z"⟩, 12)) rfl
theorem wc_X1_readProof : Jvm.Cond.code ⟨"BurntHall$Acts", "readProof", "()Z"⟩ prog_3_method_8_code 3 (Option.some Jvm.ClassFile.FieldType.boolean) ∈ b_T := b_m5 (i := 93) rfl rfl
theorem wi_X1_readProof : Jvm.Cond.instanceMethod ⟨"BurntHall$Acts", "readProof", "()Z"⟩ ∈ b_T := b_m5 (i := 92) rfl rfl
theorem ws_X1_readProof : Jvm.Cond.selects "BurntHall$Acts" ⟨"BurntHall$Acts", "readProof", "()Z"⟩ ⟨"BurntHall$Acts", "readProof", "()Z"⟩ ∈ b_T := b_memS (i := 14) (q := (⟨"BurntHall$Acts", "readProof", "()Z"⟩, 12)) rfl
theorem wc_X1_readCond : Jvm.Cond.code ⟨"BurntHall$Acts", "readCond", "()Z"⟩ prog_3_method_9_code 3 (Option.some Jvm.ClassFile.FieldType.boolean) ∈ b_T := b_m5 (i := 105) rfl rfl
theorem wi_X1_readCond : Jvm.Cond.instanceMethod ⟨"BurntHall$Acts", "readCond", "()Z"⟩ ∈ b_T := b_m5 (i := 104) rfl rfl
theorem ws_X1_readCond : Jvm.Cond.selects "BurntHall$Acts" ⟨"BurntHall$Acts", "readCond", "()Z"⟩ ⟨"BurntHall$Acts", "readCond", "()Z"⟩ ∈ b_T := b_memS (i := 16) (q := (⟨"BurntHall$Acts", "readCond", "()Z"⟩, 12)) rfl
theorem wc_X1_closeLevels : Jvm.Cond.code ⟨"BurntHall$Acts", "closeLevels", "(I)I"⟩ prog_3_method_10_code 4 (Option.some Jvm.ClassFile.FieldType.int) ∈ b_T := b_m5 (i := 126) rfl rfl
theorem wi_X1_closeLevels : Jvm.Cond.instanceMethod ⟨"BurntHall$Acts", "closeLevels", "(I)I"⟩ ∈ b_T := b_m5 (i := 125) rfl rfl
theorem ws_X1_closeLevels : Jvm.Cond.selects "BurntHall$Acts" ⟨"BurntHall$Acts", "closeLevels", "(I)I"⟩ ⟨"BurntHall$Acts", "closeLevels", "(I)I"⟩ ∈ b_T := b_memS (i := 21) (q := (⟨"BurntHall$Acts", "closeLevels", "(I)I"⟩, 12)) rfl
theorem wc_X1_goesOn : Jvm.Cond.code ⟨"BurntHall$Acts", "goesOn", "(I)Z"⟩ prog_3_method_11_code 2 (Option.some Jvm.ClassFile.FieldType.boolean) ∈ b_T := b_m5 (i := 138) rfl rfl
theorem wi_X1_goesOn : Jvm.Cond.instanceMethod ⟨"BurntHall$Acts", "goesOn", "(I)Z"⟩ ∈ b_T := b_m5 (i := 137) rfl rfl
theorem ws_X1_goesOn : Jvm.Cond.selects "BurntHall$Acts" ⟨"BurntHall$Acts", "goesOn", "(I)Z"⟩ ⟨"BurntHall$Acts", "goesOn", "(I)Z"⟩ ∈ b_T := b_memS (i := 24) (q := (⟨"BurntHall$Acts", "goesOn", "(I)Z"⟩, 12)) rfl
theorem wc_X1_settleOne : Jvm.Cond.code ⟨"BurntHall$Acts", "settleOne", "(I)V"⟩ prog_3_method_12_code 2 (Option.none : Option Jvm.ClassFile.FieldType) ∈ b_T := b_m5 (i := 130) rfl rfl
theorem wi_X1_settleOne : Jvm.Cond.instanceMethod ⟨"BurntHall$Acts", "settleOne", "(I)V"⟩ ∈ b_T := b_m5 (i := 129) rfl rfl
theorem ws_X1_settleOne : Jvm.Cond.selects "BurntHall$Acts" ⟨"BurntHall$Acts", "settleOne", "(I)V"⟩ ⟨"BurntHall$Acts", "settleOne", "(I)V"⟩ ∈ b_T := b_memS (i := 22) (q := (⟨"BurntHall$Acts", "settleOne", "(I)V"⟩, 12)) rfl
theorem wc_X1_settleAll : Jvm.Cond.code ⟨"BurntHall$Acts", "settleAll", "(I)V"⟩ prog_3_method_13_code 2 (Option.none : Option Jvm.ClassFile.FieldType) ∈ b_T := b_m5 (i := 134) rfl rfl
theorem wi_X1_settleAll : Jvm.Cond.instanceMethod ⟨"BurntHall$Acts", "settleAll", "(I)V"⟩ ∈ b_T := b_m5 (i := 133) rfl rfl
theorem ws_X1_settleAll : Jvm.Cond.selects "BurntHall$Acts" ⟨"BurntHall$Acts", "settleAll", "(I)V"⟩ ⟨"BurntHall$Acts", "settleAll", "(I)V"⟩ ∈ b_T := b_memS (i := 23) (q := (⟨"BurntHall$Acts", "settleAll", "(I)V"⟩, 12)) rfl
theorem wc_X1_readTest : Jvm.Cond.code ⟨"BurntHall$Acts", "readTest", "()Z"⟩ prog_3_method_14_code 2 (Option.some Jvm.ClassFile.FieldType.boolean) ∈ b_T := b_m5 (i := 110) rfl rfl
theorem wi_X1_readTest : Jvm.Cond.instanceMethod ⟨"BurntHall$Acts", "readTest", "()Z"⟩ ∈ b_T := b_m5 (i := 109) rfl rfl
theorem ws_X1_readTest : Jvm.Cond.selects "BurntHall$Acts" ⟨"BurntHall$Acts", "readTest", "()Z"⟩ ⟨"BurntHall$Acts", "readTest", "()Z"⟩ ∈ b_T := b_memS (i := 17) (q := (⟨"BurntHall$Acts", "readTest", "()Z"⟩, 12)) rfl
theorem wc_X1_readSum : Jvm.Cond.code ⟨"BurntHall$Acts", "readSum", "()Z"⟩ prog_3_method_15_code 2 (Option.some Jvm.ClassFile.FieldType.boolean) ∈ b_T := b_m5 (i := 118) rfl rfl
theorem wi_X1_readSum : Jvm.Cond.instanceMethod ⟨"BurntHall$Acts", "readSum", "()Z"⟩ ∈ b_T := b_m5 (i := 117) rfl rfl
theorem ws_X1_readSum : Jvm.Cond.selects "BurntHall$Acts" ⟨"BurntHall$Acts", "readSum", "()Z"⟩ ⟨"BurntHall$Acts", "readSum", "()Z"⟩ ∈ b_T := b_memS (i := 19) (q := (⟨"BurntHall$Acts", "readSum", "()Z"⟩, 12)) rfl
theorem wc_X1_isTerm : Jvm.Cond.code ⟨"BurntHall$Acts", "isTerm", "()Z"⟩ prog_3_method_16_code 1 (Option.some Jvm.ClassFile.FieldType.boolean) ∈ b_T := b_m5 (i := 114) rfl rfl
theorem wi_X1_isTerm : Jvm.Cond.instanceMethod ⟨"BurntHall$Acts", "isTerm", "()Z"⟩ ∈ b_T := b_m5 (i := 113) rfl rfl
theorem ws_X1_isTerm : Jvm.Cond.selects "BurntHall$Acts" ⟨"BurntHall$Acts", "isTerm", "()Z"⟩ ⟨"BurntHall$Acts", "isTerm", "()Z"⟩ ∈ b_T := b_memS (i := 18) (q := (⟨"BurntHall$Acts", "isTerm", "()Z"⟩, 12)) rfl
theorem wc_X1_emit : Jvm.Cond.code ⟨"BurntHall$Acts", "emit", "(IJ)V"⟩ prog_3_method_17_code 4 (Option.none : Option Jvm.ClassFile.FieldType) ∈ b_T := b_m5 (i := 122) rfl rfl
theorem wi_X1_emit : Jvm.Cond.instanceMethod ⟨"BurntHall$Acts", "emit", "(IJ)V"⟩ ∈ b_T := b_m5 (i := 121) rfl rfl
theorem ws_X1_emit : Jvm.Cond.selects "BurntHall$Acts" ⟨"BurntHall$Acts", "emit", "(IJ)V"⟩ ⟨"BurntHall$Acts", "emit", "(IJ)V"⟩ ∈ b_T := b_memS (i := 20) (q := (⟨"BurntHall$Acts", "emit", "(IJ)V"⟩, 12)) rfl
theorem wc_X1_isNumber : Jvm.Cond.code ⟨"BurntHall$Acts", "isNumber", "(II)Z"⟩ prog_3_method_18_code 4 (Option.some Jvm.ClassFile.FieldType.boolean) ∈ b_T := b_m5 (i := 99) rfl rfl
theorem wi_X1_isNumber : Jvm.Cond.instanceMethod ⟨"BurntHall$Acts", "isNumber", "(II)Z"⟩ ∈ b_T := b_m5 (i := 98) rfl rfl
theorem ws_X1_isNumber : Jvm.Cond.selects "BurntHall$Acts" ⟨"BurntHall$Acts", "isNumber", "(II)Z"⟩ ⟨"BurntHall$Acts", "isNumber", "(II)Z"⟩ ∈ b_T := b_memS (i := 15) (q := (⟨"BurntHall$Acts", "isNumber", "(II)Z"⟩, 12)) rfl
theorem wc_X1_placeOf : Jvm.Cond.code ⟨"BurntHall$Acts", "placeOf", "([J)I"⟩ prog_3_method_19_code 3 (Option.some Jvm.ClassFile.FieldType.int) ∈ b_T := b_m5 (i := 89) rfl rfl
theorem wi_X1_placeOf : Jvm.Cond.instanceMethod ⟨"BurntHall$Acts", "placeOf", "([J)I"⟩ ∈ b_T := b_m5 (i := 88) rfl rfl
theorem ws_X1_placeOf : Jvm.Cond.selects "BurntHall$Acts" ⟨"BurntHall$Acts", "placeOf", "([J)I"⟩ ⟨"BurntHall$Acts", "placeOf", "([J)I"⟩ ∈ b_T := b_memS (i := 13) (q := (⟨"BurntHall$Acts", "placeOf", "([J)I"⟩, 12)) rfl
theorem wc_X2_init : Jvm.Cond.code ⟨"BurntHall$Chains", "<init>", "(LBurntHall$People;LBurntHall$Lots;LBurntHall$Evidence;)V"⟩ prog_4_method_1_code 4 (Option.none : Option Jvm.ClassFile.FieldType) ∈ b_T := b_m2 (i := 230) rfl rfl
theorem wi_X2_init : Jvm.Cond.instanceMethod ⟨"BurntHall$Chains", "<init>", "(LBurntHall$People;LBurntHall$Lots;LBurntHall$Evidence;)V"⟩ ∈ b_T := b_m2 (i := 229) rfl rfl
theorem wn_2 : Jvm.Cond.initialized "BurntHall$Chains" ∈ b_T := b_m1 (i := 14) rfl rfl
theorem wc_X2_remember : Jvm.Cond.code ⟨"BurntHall$Chains", "remember", "()V"⟩ prog_4_method_2_code 1 (Option.none : Option Jvm.ClassFile.FieldType) ∈ b_T := b_m6 (i := 236) rfl rfl
theorem wi_X2_remember : Jvm.Cond.instanceMethod ⟨"BurntHall$Chains", "remember", "()V"⟩ ∈ b_T := b_m6 (i := 234) rfl rfl
theorem ws_X2_remember : Jvm.Cond.selects "BurntHall$Chains" ⟨"BurntHall$Chains", "remember", "()V"⟩ ⟨"BurntHall$Chains", "remember", "()V"⟩ ∈ b_T := b_m6 (i := 235) rfl rfl
theorem wc_X2_recall : Jvm.Cond.code ⟨"BurntHall$Chains", "recall", "(I)I"⟩ prog_4_method_3_code 3 (Option.some Jvm.ClassFile.FieldType.int) ∈ b_T := b_m7 (i := 5) rfl rfl
theorem wi_X2_recall : Jvm.Cond.instanceMethod ⟨"BurntHall$Chains", "recall", "(I)I"⟩ ∈ b_T := b_m7 (i := 3) rfl rfl
theorem ws_X2_recall : Jvm.Cond.selects "BurntHall$Chains" ⟨"BurntHall$Chains", "recall", "(I)I"⟩ ⟨"BurntHall$Chains", "recall", "(I)I"⟩ ∈ b_T := b_m7 (i := 4) rfl rfl
theorem wc_X2_search : Jvm.Cond.code ⟨"BurntHall$Chains", "search", "(II)I"⟩ prog_4_method_4_code 6 (Option.some Jvm.ClassFile.FieldType.int) ∈ b_T := b_m6 (i := 143) rfl rfl
theorem wi_X2_search : Jvm.Cond.instanceMethod ⟨"BurntHall$Chains", "search", "(II)I"⟩ ∈ b_T := b_m6 (i := 141) rfl rfl
theorem ws_X2_search : Jvm.Cond.selects "BurntHall$Chains" ⟨"BurntHall$Chains", "search", "(II)I"⟩ ⟨"BurntHall$Chains", "search", "(II)I"⟩ ∈ b_T := b_m6 (i := 142) rfl rfl
theorem wc_X2_tell : Jvm.Cond.code ⟨"BurntHall$Chains", "tell", "(IIII)V"⟩ prog_4_method_5_code 5 (Option.none : Option Jvm.ClassFile.FieldType) ∈ b_T := b_m6 (i := 223) rfl rfl
theorem wi_X2_tell : Jvm.Cond.instanceMethod ⟨"BurntHall$Chains", "tell", "(IIII)V"⟩ ∈ b_T := b_m6 (i := 222) rfl rfl
theorem ws_X2_tell : Jvm.Cond.selects "BurntHall$Chains" ⟨"BurntHall$Chains", "tell", "(IIII)V"⟩ ⟨"BurntHall$Chains", "tell", "(IIII)V"⟩ ∈ b_T := b_memS (i := 54) (q := (⟨"BurntHall$Chains", "tell", "(IIII)V"⟩, 20)) rfl
theorem wc_X2_gather : Jvm.Cond.code ⟨"BurntHall$Chains", "gather", "(II)V"⟩ prog_4_method_6_code 6 (Option.none : Option Jvm.ClassFile.FieldType) ∈ b_T := b_m6 (i := 147) rfl rfl
theorem wi_X2_gather : Jvm.Cond.instanceMethod ⟨"BurntHall$Chains", "gather", "(II)V"⟩ ∈ b_T := b_m6 (i := 146) rfl rfl
theorem ws_X2_gather : Jvm.Cond.selects "BurntHall$Chains" ⟨"BurntHall$Chains", "gather", "(II)V"⟩ ⟨"BurntHall$Chains", "gather", "(II)V"⟩ ∈ b_T := b_memS (i := 39) (q := (⟨"BurntHall$Chains", "gather", "(II)V"⟩, 20)) rfl
theorem wc_X2_addLink : Jvm.Cond.code ⟨"BurntHall$Chains", "addLink", "(I)V"⟩ prog_4_method_7_code 2 (Option.none : Option Jvm.ClassFile.FieldType) ∈ b_T := b_m6 (i := 159) rfl rfl
theorem wi_X2_addLink : Jvm.Cond.instanceMethod ⟨"BurntHall$Chains", "addLink", "(I)V"⟩ ∈ b_T := b_m6 (i := 158) rfl rfl
theorem ws_X2_addLink : Jvm.Cond.selects "BurntHall$Chains" ⟨"BurntHall$Chains", "addLink", "(I)V"⟩ ⟨"BurntHall$Chains", "addLink", "(I)V"⟩ ∈ b_T := b_memS (i := 40) (q := (⟨"BurntHall$Chains", "addLink", "(I)V"⟩, 20)) rfl
theorem wc_X2_linksAfter : Jvm.Cond.code ⟨"BurntHall$Chains", "linksAfter", "(I)I"⟩ prog_4_method_8_code 6 (Option.some Jvm.ClassFile.FieldType.int) ∈ b_T := b_m6 (i := 163) rfl rfl
theorem wi_X2_linksAfter : Jvm.Cond.instanceMethod ⟨"BurntHall$Chains", "linksAfter", "(I)I"⟩ ∈ b_T := b_m6 (i := 162) rfl rfl
theorem ws_X2_linksAfter : Jvm.Cond.selects "BurntHall$Chains" ⟨"BurntHall$Chains", "linksAfter", "(I)I"⟩ ⟨"BurntHall$Chains", "linksAfter", "(I)I"⟩ ∈ b_T := b_memS (i := 41) (q := (⟨"BurntHall$Chains", "linksAfter", "(I)I"⟩, 20)) rfl
theorem wc_X2_endsWith : Jvm.Cond.code ⟨"BurntHall$Chains", "endsWith", "(I)Z"⟩ prog_4_method_9_code 2 (Option.some Jvm.ClassFile.FieldType.boolean) ∈ b_T := b_m6 (i := 172) rfl rfl
theorem wi_X2_endsWith : Jvm.Cond.instanceMethod ⟨"BurntHall$Chains", "endsWith", "(I)Z"⟩ ∈ b_T := b_m6 (i := 171) rfl rfl
theorem ws_X2_endsWith : Jvm.Cond.selects "BurntHall$Chains" ⟨"BurntHall$Chains", "endsWith", "(I)Z"⟩ ⟨"BurntHall$Chains", "endsWith", "(I)Z"⟩ ∈ b_T := b_memS (i := 42) (q := (⟨"BurntHall$Chains", "endsWith", "(I)Z"⟩, 20)) rfl
theorem wc_X2_isRoot : Jvm.Cond.code ⟨"BurntHall$Chains", "isRoot", "(I)Z"⟩ prog_4_method_10_code 2 (Option.some Jvm.ClassFile.FieldType.boolean) ∈ b_T := b_m6 (i := 181) rfl rfl
theorem wi_X2_isRoot : Jvm.Cond.instanceMethod ⟨"BurntHall$Chains", "isRoot", "(I)Z"⟩ ∈ b_T := b_m6 (i := 180) rfl rfl
theorem ws_X2_isRoot : Jvm.Cond.selects "BurntHall$Chains" ⟨"BurntHall$Chains", "isRoot", "(I)Z"⟩ ⟨"BurntHall$Chains", "isRoot", "(I)Z"⟩ ∈ b_T := b_memS (i := 44) (q := (⟨"BurntHall$Chains", "isRoot", "(I)Z"⟩, 20)) rfl
theorem wc_X2_isEnder : Jvm.Cond.code ⟨"BurntHall$Chains", "isEnder", "(I)Z"⟩ prog_4_method_11_code 2 (Option.some Jvm.ClassFile.FieldType.boolean) ∈ b_T := b_m6 (i := 203) rfl rfl
theorem wi_X2_isEnder : Jvm.Cond.instanceMethod ⟨"BurntHall$Chains", "isEnder", "(I)Z"⟩ ∈ b_T := b_m6 (i := 202) rfl rfl
theorem ws_X2_isEnder : Jvm.Cond.selects "BurntHall$Chains" ⟨"BurntHall$Chains", "isEnder", "(I)Z"⟩ ⟨"BurntHall$Chains", "isEnder", "(I)Z"⟩ ∈ b_T := b_memS (i := 49) (q := (⟨"BurntHall$Chains", "isEnder", "(I)Z"⟩, 20)) rfl
theorem wc_X2_lotOfBareChain : Jvm.Cond.code ⟨"BurntHall$Chains", "lotOfBareChain", "()I"⟩ prog_4_method_12_code 2 (Option.some Jvm.ClassFile.FieldType.int) ∈ b_T := b_m6 (i := 177) rfl rfl
theorem wi_X2_lotOfBareChain : Jvm.Cond.instanceMethod ⟨"BurntHall$Chains", "lotOfBareChain", "()I"⟩ ∈ b_T := b_m6 (i := 176) rfl rfl
theorem ws_X2_lotOfBareChain : Jvm.Cond.selects "BurntHall$Chains" ⟨"BurntHall$Chains", "lotOfBareChain", "()I"⟩ ⟨"BurntHall$Chains", "lotOfBareChain", "()I"⟩ ∈ b_T := b_memS (i := 43) (q := (⟨"BurntHall$Chains", "lotOfBareChain", "()I"⟩, 20)) rfl
theorem wc_X2_takeLinkWithGap : Jvm.Cond.code ⟨"BurntHall$Chains", "takeLinkWithGap", "()Z"⟩ prog_4_method_13_code 4 (Option.some Jvm.ClassFile.FieldType.boolean) ∈ b_T := b_m6 (i := 232) rfl rfl
theorem wi_X2_takeLinkWithGap : Jvm.Cond.instanceMethod ⟨"BurntHall$Chains", "takeLinkWithGap", "()Z"⟩ ∈ b_T := b_m6 (i := 231) rfl rfl
theorem ws_X2_takeLinkWithGap : Jvm.Cond.selects "BurntHall$Chains" ⟨"BurntHall$Chains", "takeLinkWithGap", "()Z"⟩ ⟨"BurntHall$Chains", "takeLinkWithGap", "()Z"⟩ ∈ b_T := b_memS (i := 56) (q := (⟨"BurntHall$Chains", "takeLinkWithGap", "()Z"⟩, 20)) rfl
theorem wc_X2_greatestWeakest : Jvm.Cond.code ⟨"BurntHall$Chains", "greatestWeakest", "(I)I"⟩ prog_4_method_14_code 6 (Option.some Jvm.ClassFile.FieldType.int) ∈ b_T := b_m6 (i := 185) rfl rfl
theorem wi_X2_greatestWeakest : Jvm.Cond.instanceMethod ⟨"BurntHall$Chains", "greatestWeakest", "(I)I"⟩ ∈ b_T := b_m6 (i := 184) rfl rfl
theorem ws_X2_greatestWeakest : Jvm.Cond.selects "BurntHall$Chains" ⟨"BurntHall$Chains", "greatestWeakest", "(I)I"⟩ ⟨"BurntHall$Chains", "greatestWeakest", "(I)I"⟩ ∈ b_T := b_memS (i := 45) (q := (⟨"BurntHall$Chains", "greatestWeakest", "(I)I"⟩, 20)) rfl
theorem wc_X2_sortPoints : Jvm.Cond.code ⟨"BurntHall$Chains", "sortPoints", "(I)I"⟩ prog_4_method_15_code 5 (Option.some Jvm.ClassFile.FieldType.int) ∈ b_T := b_m6 (i := 219) rfl rfl
theorem wi_X2_sortPoints : Jvm.Cond.instanceMethod ⟨"BurntHall$Chains", "sortPoints", "(I)I"⟩ ∈ b_T := b_m6 (i := 218) rfl rfl
theorem ws_X2_sortPoints : Jvm.Cond.selects "BurntHall$Chains" ⟨"BurntHall$Chains", "sortPoints", "(I)I"⟩ ⟨"BurntHall$Chains", "sortPoints", "(I)I"⟩ ∈ b_T := b_memS (i := 53) (q := (⟨"BurntHall$Chains", "sortPoints", "(I)I"⟩, 20)) rfl
theorem wc_X2_mostLinks : Jvm.Cond.code ⟨"BurntHall$Chains", "mostLinks", "()I"⟩ prog_4_method_16_code 1 (Option.some Jvm.ClassFile.FieldType.int) ∈ b_T := b_m6 (i := 193) rfl rfl
theorem wi_X2_mostLinks : Jvm.Cond.instanceMethod ⟨"BurntHall$Chains", "mostLinks", "()I"⟩ ∈ b_T := b_m6 (i := 192) rfl rfl
theorem ws_X2_mostLinks : Jvm.Cond.selects "BurntHall$Chains" ⟨"BurntHall$Chains", "mostLinks", "()I"⟩ ⟨"BurntHall$Chains", "mostLinks", "()I"⟩ ∈ b_T := b_memS (i := 47) (q := (⟨"BurntHall$Chains", "mostLinks", "()I"⟩, 20)) rfl
theorem wc_X2_fill : Jvm.Cond.code ⟨"BurntHall$Chains", "fill", "(I)V"⟩ prog_4_method_17_code 5 (Option.none : Option Jvm.ClassFile.FieldType) ∈ b_T := b_m6 (i := 189) rfl rfl
theorem wi_X2_fill : Jvm.Cond.instanceMethod ⟨"BurntHall$Chains", "fill", "(I)V"⟩ ∈ b_T := b_m6 (i := 188) rfl rfl
theorem ws_X2_fill : Jvm.Cond.selects "BurntHall$Chains" ⟨"BurntHall$Chains", "fill", "(I)V"⟩ ⟨"BurntHall$Chains", "fill", "(I)V"⟩ ∈ b_T := b_memS (i := 46) (q := (⟨"BurntHall$Chains", "fill", "(I)V"⟩, 20)) rfl
theorem wc_X2_latestOf : Jvm.Cond.code ⟨"BurntHall$Chains", "latestOf", "(II)I"⟩ prog_4_method_18_code 6 (Option.some Jvm.ClassFile.FieldType.int) ∈ b_T := b_m6 (i := 198) rfl rfl
theorem wi_X2_latestOf : Jvm.Cond.instanceMethod ⟨"BurntHall$Chains", "latestOf", "(II)I"⟩ ∈ b_T := b_m6 (i := 197) rfl rfl
theorem ws_X2_latestOf : Jvm.Cond.selects "BurntHall$Chains" ⟨"BurntHall$Chains", "latestOf", "(II)I"⟩ ⟨"BurntHall$Chains", "latestOf", "(II)I"⟩ ∈ b_T := b_memS (i := 48) (q := (⟨"BurntHall$Chains", "latestOf", "(II)I"⟩, 20)) rfl
theorem wc_X2_shortest : Jvm.Cond.code ⟨"BurntHall$Chains", "shortest", "()I"⟩ prog_4_method_19_code 2 (Option.some Jvm.ClassFile.FieldType.int) ∈ b_T := b_m6 (i := 207) rfl rfl
theorem wi_X2_shortest : Jvm.Cond.instanceMethod ⟨"BurntHall$Chains", "shortest", "()I"⟩ ∈ b_T := b_m6 (i := 206) rfl rfl
theorem ws_X2_shortest : Jvm.Cond.selects "BurntHall$Chains" ⟨"BurntHall$Chains", "shortest", "()I"⟩ ⟨"BurntHall$Chains", "shortest", "()I"⟩ ∈ b_T := b_memS (i := 50) (q := (⟨"BurntHall$Chains", "shortest", "()I"⟩, 20)) rfl
theorem wc_X2_firstRoot : Jvm.Cond.code ⟨"BurntHall$Chains", "firstRoot", "(I)I"⟩ prog_4_method_20_code 3 (Option.some Jvm.ClassFile.FieldType.int) ∈ b_T := b_m6 (i := 211) rfl rfl
theorem wi_X2_firstRoot : Jvm.Cond.instanceMethod ⟨"BurntHall$Chains", "firstRoot", "(I)I"⟩ ∈ b_T := b_m6 (i := 210) rfl rfl
theorem ws_X2_firstRoot : Jvm.Cond.selects "BurntHall$Chains" ⟨"BurntHall$Chains", "firstRoot", "(I)I"⟩ ⟨"BurntHall$Chains", "firstRoot", "(I)I"⟩ ∈ b_T := b_memS (i := 51) (q := (⟨"BurntHall$Chains", "firstRoot", "(I)I"⟩, 20)) rfl
theorem wc_X2_leastNext : Jvm.Cond.code ⟨"BurntHall$Chains", "leastNext", "(III)I"⟩ prog_4_method_21_code 6 (Option.some Jvm.ClassFile.FieldType.int) ∈ b_T := b_m6 (i := 215) rfl rfl
theorem wi_X2_leastNext : Jvm.Cond.instanceMethod ⟨"BurntHall$Chains", "leastNext", "(III)I"⟩ ∈ b_T := b_m6 (i := 214) rfl rfl
theorem ws_X2_leastNext : Jvm.Cond.selects "BurntHall$Chains" ⟨"BurntHall$Chains", "leastNext", "(III)I"⟩ ⟨"BurntHall$Chains", "leastNext", "(III)I"⟩ ∈ b_T := b_memS (i := 52) (q := (⟨"BurntHall$Chains", "leastNext", "(III)I"⟩, 20)) rfl
theorem wc_X2_layRow : Jvm.Cond.code ⟨"BurntHall$Chains", "layRow", "(I)V"⟩ prog_4_method_22_code 6 (Option.none : Option Jvm.ClassFile.FieldType) ∈ b_T := b_m6 (i := 227) rfl rfl
theorem wi_X2_layRow : Jvm.Cond.instanceMethod ⟨"BurntHall$Chains", "layRow", "(I)V"⟩ ∈ b_T := b_m6 (i := 226) rfl rfl
theorem ws_X2_layRow : Jvm.Cond.selects "BurntHall$Chains" ⟨"BurntHall$Chains", "layRow", "(I)V"⟩ ⟨"BurntHall$Chains", "layRow", "(I)V"⟩ ∈ b_T := b_memS (i := 55) (q := (⟨"BurntHall$Chains", "layRow", "(I)V"⟩, 20)) rfl
theorem wc_X2_judgeRow : Jvm.Cond.code ⟨"BurntHall$Chains", "judgeRow", "(IILBurntHall$Tape;)I"⟩ prog_4_method_23_code 8 (Option.some Jvm.ClassFile.FieldType.int) ∈ b_T := b_m7 (i := 13) rfl rfl
theorem wi_X2_judgeRow : Jvm.Cond.instanceMethod ⟨"BurntHall$Chains", "judgeRow", "(IILBurntHall$Tape;)I"⟩ ∈ b_T := b_m7 (i := 11) rfl rfl
theorem ws_X2_judgeRow : Jvm.Cond.selects "BurntHall$Chains" ⟨"BurntHall$Chains", "judgeRow", "(IILBurntHall$Tape;)I"⟩ ⟨"BurntHall$Chains", "judgeRow", "(IILBurntHall$Tape;)I"⟩ ∈ b_T := b_m7 (i := 12) rfl rfl
theorem wc_X2_linkOf : Jvm.Cond.code ⟨"BurntHall$Chains", "linkOf", "(I)I"⟩ prog_4_method_24_code 3 (Option.some Jvm.ClassFile.FieldType.int) ∈ b_T := b_m7 (i := 18) rfl rfl
theorem wi_X2_linkOf : Jvm.Cond.instanceMethod ⟨"BurntHall$Chains", "linkOf", "(I)I"⟩ ∈ b_T := b_m7 (i := 17) rfl rfl
theorem ws_X2_linkOf : Jvm.Cond.selects "BurntHall$Chains" ⟨"BurntHall$Chains", "linkOf", "(I)I"⟩ ⟨"BurntHall$Chains", "linkOf", "(I)I"⟩ ∈ b_T := b_memS (i := 57) (q := (⟨"BurntHall$Chains", "linkOf", "(I)I"⟩, 20)) rfl
theorem wc_X2_fewestOfRow : Jvm.Cond.code ⟨"BurntHall$Chains", "fewestOfRow", "(I)I"⟩ prog_4_method_25_code 5 (Option.some Jvm.ClassFile.FieldType.int) ∈ b_T := b_m7 (i := 22) rfl rfl
theorem wi_X2_fewestOfRow : Jvm.Cond.instanceMethod ⟨"BurntHall$Chains", "fewestOfRow", "(I)I"⟩ ∈ b_T := b_m7 (i := 21) rfl rfl
theorem ws_X2_fewestOfRow : Jvm.Cond.selects "BurntHall$Chains" ⟨"BurntHall$Chains", "fewestOfRow", "(I)I"⟩ ⟨"BurntHall$Chains", "fewestOfRow", "(I)I"⟩ ∈ b_T := b_memS (i := 58) (q := (⟨"BurntHall$Chains", "fewestOfRow", "(I)I"⟩, 20)) rfl
theorem wc_X2_gapsOfRow : Jvm.Cond.code ⟨"BurntHall$Chains", "gapsOfRow", "(II)I"⟩ prog_4_method_26_code 8 (Option.some Jvm.ClassFile.FieldType.int) ∈ b_T := b_m7 (i := 26) rfl rfl
theorem wi_X2_gapsOfRow : Jvm.Cond.instanceMethod ⟨"BurntHall$Chains", "gapsOfRow", "(II)I"⟩ ∈ b_T := b_m7 (i := 25) rfl rfl
theorem ws_X2_gapsOfRow : Jvm.Cond.selects "BurntHall$Chains" ⟨"BurntHall$Chains", "gapsOfRow", "(II)I"⟩ ⟨"BurntHall$Chains", "gapsOfRow", "(II)I"⟩ ∈ b_T := b_memS (i := 59) (q := (⟨"BurntHall$Chains", "gapsOfRow", "(II)I"⟩, 20)) rfl
theorem wc_X3_init : Jvm.Cond.code ⟨"BurntHall$Claims", "<init>", "(LBurntHall$Acts;LBurntHall$Evidence;LBurntHall$Chains;)V"⟩ prog_5_method_1_code 4 (Option.none : Option Jvm.ClassFile.FieldType) ∈ b_T := b_m3 (i := 91) rfl rfl
theorem wi_X3_init : Jvm.Cond.instanceMethod ⟨"BurntHall$Claims", "<init>", "(LBurntHall$Acts;LBurntHall$Evidence;LBurntHall$Chains;)V"⟩ ∈ b_T := b_m3 (i := 90) rfl rfl
theorem wn_3 : Jvm.Cond.initialized "BurntHall$Claims" ∈ b_T := b_m1 (i := 16) rfl rfl
theorem wc_X3_has : Jvm.Cond.code ⟨"BurntHall$Claims", "has", "(I)Z"⟩ prog_5_method_2_code 2 (Option.some Jvm.ClassFile.FieldType.boolean) ∈ b_T := b_m7 (i := 128) rfl rfl
theorem wi_X3_has : Jvm.Cond.instanceMethod ⟨"BurntHall$Claims", "has", "(I)Z"⟩ ∈ b_T := b_m7 (i := 126) rfl rfl
theorem ws_X3_has : Jvm.Cond.selects "BurntHall$Claims" ⟨"BurntHall$Claims", "has", "(I)Z"⟩ ⟨"BurntHall$Claims", "has", "(I)Z"⟩ ∈ b_T := b_m7 (i := 127) rfl rfl
theorem wc_X3_add : Jvm.Cond.code ⟨"BurntHall$Claims", "add", "(III)I"⟩ prog_5_method_3_code 4 (Option.some Jvm.ClassFile.FieldType.int) ∈ b_T := b_m7 (i := 96) rfl rfl
theorem wi_X3_add : Jvm.Cond.instanceMethod ⟨"BurntHall$Claims", "add", "(III)I"⟩ ∈ b_T := b_m7 (i := 94) rfl rfl
theorem ws_X3_add : Jvm.Cond.selects "BurntHall$Claims" ⟨"BurntHall$Claims", "add", "(III)I"⟩ ⟨"BurntHall$Claims", "add", "(III)I"⟩ ∈ b_T := b_m7 (i := 95) rfl rfl
theorem wc_X3_putCoin : Jvm.Cond.code ⟨"BurntHall$Claims", "putCoin", "(I)I"⟩ prog_5_method_4_code 2 (Option.some Jvm.ClassFile.FieldType.int) ∈ b_T := b_m7 (i := 180) rfl rfl
theorem wi_X3_putCoin : Jvm.Cond.instanceMethod ⟨"BurntHall$Claims", "putCoin", "(I)I"⟩ ∈ b_T := b_m7 (i := 178) rfl rfl
theorem ws_X3_putCoin : Jvm.Cond.selects "BurntHall$Claims" ⟨"BurntHall$Claims", "putCoin", "(I)I"⟩ ⟨"BurntHall$Claims", "putCoin", "(I)I"⟩ ∈ b_T := b_m7 (i := 179) rfl rfl
theorem wc_X3_isRuled : Jvm.Cond.code ⟨"BurntHall$Claims", "isRuled", "(I)Z"⟩ prog_5_method_5_code 2 (Option.some Jvm.ClassFile.FieldType.boolean) ∈ b_T := b_m7 (i := 104) rfl rfl
theorem wi_X3_isRuled : Jvm.Cond.instanceMethod ⟨"BurntHall$Claims", "isRuled", "(I)Z"⟩ ∈ b_T := b_m7 (i := 102) rfl rfl
theorem ws_X3_isRuled : Jvm.Cond.selects "BurntHall$Claims" ⟨"BurntHall$Claims", "isRuled", "(I)Z"⟩ ⟨"BurntHall$Claims", "isRuled", "(I)Z"⟩ ∈ b_T := b_m7 (i := 103) rfl rfl
theorem wc_X3_winnerOf : Jvm.Cond.code ⟨"BurntHall$Claims", "winnerOf", "(I)I"⟩ prog_5_method_6_code 2 (Option.some Jvm.ClassFile.FieldType.int) ∈ b_T := b_m7 (i := 149) rfl rfl
theorem wi_X3_winnerOf : Jvm.Cond.instanceMethod ⟨"BurntHall$Claims", "winnerOf", "(I)I"⟩ ∈ b_T := b_m7 (i := 147) rfl rfl
theorem ws_X3_winnerOf : Jvm.Cond.selects "BurntHall$Claims" ⟨"BurntHall$Claims", "winnerOf", "(I)I"⟩ ⟨"BurntHall$Claims", "winnerOf", "(I)I"⟩ ∈ b_T := b_m7 (i := 148) rfl rfl
theorem wc_X3_isDoubtful : Jvm.Cond.code ⟨"BurntHall$Claims", "isDoubtful", "(II)Z"⟩ prog_5_method_7_code 4 (Option.some Jvm.ClassFile.FieldType.boolean) ∈ b_T := b_m7 (i := 145) rfl rfl
theorem wi_X3_isDoubtful : Jvm.Cond.instanceMethod ⟨"BurntHall$Claims", "isDoubtful", "(II)Z"⟩ ∈ b_T := b_m7 (i := 143) rfl rfl
theorem ws_X3_isDoubtful : Jvm.Cond.selects "BurntHall$Claims" ⟨"BurntHall$Claims", "isDoubtful", "(II)Z"⟩ ⟨"BurntHall$Claims", "isDoubtful", "(II)Z"⟩ ∈ b_T := b_m7 (i := 144) rfl rfl
theorem wc_X3_stateOf : Jvm.Cond.code ⟨"BurntHall$Claims", "stateOf", "(II)I"⟩ prog_5_method_8_code 3 (Option.some Jvm.ClassFile.FieldType.int) ∈ b_T := b_m7 (i := 141) rfl rfl
theorem wi_X3_stateOf : Jvm.Cond.instanceMethod ⟨"BurntHall$Claims", "stateOf", "(II)I"⟩ ∈ b_T := b_m7 (i := 140) rfl rfl
theorem ws_X3_stateOf : Jvm.Cond.selects "BurntHall$Claims" ⟨"BurntHall$Claims", "stateOf", "(II)I"⟩ ⟨"BurntHall$Claims", "stateOf", "(II)I"⟩ ∈ b_T := b_memS (i := 62) (q := (⟨"BurntHall$Claims", "stateOf", "(II)I"⟩, 15)) rfl
theorem wc_X3_countThat : Jvm.Cond.code ⟨"BurntHall$Claims", "countThat", "(II)I"⟩ prog_5_method_9_code 5 (Option.some Jvm.ClassFile.FieldType.int) ∈ b_T := b_m8 (i := 6) rfl rfl
theorem wi_X3_countThat : Jvm.Cond.instanceMethod ⟨"BurntHall$Claims", "countThat", "(II)I"⟩ ∈ b_T := b_m8 (i := 4) rfl rfl
theorem ws_X3_countThat : Jvm.Cond.selects "BurntHall$Claims" ⟨"BurntHall$Claims", "countThat", "(II)I"⟩ ⟨"BurntHall$Claims", "countThat", "(II)I"⟩ ∈ b_T := b_m8 (i := 5) rfl rfl
theorem wc_X3_tellAbout : Jvm.Cond.code ⟨"BurntHall$Claims", "tellAbout", "(III)I"⟩ prog_5_method_10_code 4 (Option.some Jvm.ClassFile.FieldType.int) ∈ b_T := b_m7 (i := 137) rfl rfl
theorem wi_X3_tellAbout : Jvm.Cond.instanceMethod ⟨"BurntHall$Claims", "tellAbout", "(III)I"⟩ ∈ b_T := b_m7 (i := 135) rfl rfl
theorem ws_X3_tellAbout : Jvm.Cond.selects "BurntHall$Claims" ⟨"BurntHall$Claims", "tellAbout", "(III)I"⟩ ⟨"BurntHall$Claims", "tellAbout", "(III)I"⟩ ∈ b_T := b_m7 (i := 136) rfl rfl
theorem wc_X3_tellRuling : Jvm.Cond.code ⟨"BurntHall$Claims", "tellRuling", "(III)I"⟩ prog_5_method_11_code 5 (Option.some Jvm.ClassFile.FieldType.int) ∈ b_T := b_m7 (i := 158) rfl rfl
theorem wi_X3_tellRuling : Jvm.Cond.instanceMethod ⟨"BurntHall$Claims", "tellRuling", "(III)I"⟩ ∈ b_T := b_m7 (i := 156) rfl rfl
theorem ws_X3_tellRuling : Jvm.Cond.selects "BurntHall$Claims" ⟨"BurntHall$Claims", "tellRuling", "(III)I"⟩ ⟨"BurntHall$Claims", "tellRuling", "(III)I"⟩ ∈ b_T := b_m7 (i := 157) rfl rfl
theorem wc_X3_appraise : Jvm.Cond.code ⟨"BurntHall$Claims", "appraise", "(II)I"⟩ prog_5_method_12_code 7 (Option.some Jvm.ClassFile.FieldType.int) ∈ b_T := b_m7 (i := 114) rfl rfl
theorem wi_X3_appraise : Jvm.Cond.instanceMethod ⟨"BurntHall$Claims", "appraise", "(II)I"⟩ ∈ b_T := b_m7 (i := 112) rfl rfl
theorem ws_X3_appraise : Jvm.Cond.selects "BurntHall$Claims" ⟨"BurntHall$Claims", "appraise", "(II)I"⟩ ⟨"BurntHall$Claims", "appraise", "(II)I"⟩ ∈ b_T := b_m7 (i := 113) rfl rfl
theorem wc_X3_hear : Jvm.Cond.code ⟨"BurntHall$Claims", "hear", "(II)I"⟩ prog_5_method_13_code 12 (Option.some Jvm.ClassFile.FieldType.int) ∈ b_T := b_m7 (i := 108) rfl rfl
theorem wi_X3_hear : Jvm.Cond.instanceMethod ⟨"BurntHall$Claims", "hear", "(II)I"⟩ ∈ b_T := b_m7 (i := 106) rfl rfl
theorem ws_X3_hear : Jvm.Cond.selects "BurntHall$Claims" ⟨"BurntHall$Claims", "hear", "(II)I"⟩ ⟨"BurntHall$Claims", "hear", "(II)I"⟩ ∈ b_T := b_m7 (i := 107) rfl rfl
theorem wc_X3_award : Jvm.Cond.code ⟨"BurntHall$Claims", "award", "(IIII)V"⟩ prog_5_method_14_code 5 (Option.none : Option Jvm.ClassFile.FieldType) ∈ b_T := b_m7 (i := 120) rfl rfl
theorem wi_X3_award : Jvm.Cond.instanceMethod ⟨"BurntHall$Claims", "award", "(IIII)V"⟩ ∈ b_T := b_m7 (i := 119) rfl rfl
theorem ws_X3_award : Jvm.Cond.selects "BurntHall$Claims" ⟨"BurntHall$Claims", "award", "(IIII)V"⟩ ⟨"BurntHall$Claims", "award", "(IIII)V"⟩ ∈ b_T := b_memS (i := 61) (q := (⟨"BurntHall$Claims", "award", "(IIII)V"⟩, 15)) rfl
theorem wc_X3_reopen : Jvm.Cond.code ⟨"BurntHall$Claims", "reopen", "(II)I"⟩ prog_5_method_15_code 6 (Option.some Jvm.ClassFile.FieldType.int) ∈ b_T := b_m7 (i := 171) rfl rfl
theorem wi_X3_reopen : Jvm.Cond.instanceMethod ⟨"BurntHall$Claims", "reopen", "(II)I"⟩ ∈ b_T := b_m7 (i := 169) rfl rfl
theorem ws_X3_reopen : Jvm.Cond.selects "BurntHall$Claims" ⟨"BurntHall$Claims", "reopen", "(II)I"⟩ ⟨"BurntHall$Claims", "reopen", "(II)I"⟩ ∈ b_T := b_m7 (i := 170) rfl rfl
theorem wc_X3_mustReopen : Jvm.Cond.code ⟨"BurntHall$Claims", "mustReopen", "(II)Z"⟩ prog_5_method_16_code 5 (Option.some Jvm.ClassFile.FieldType.boolean) ∈ b_T := b_m7 (i := 167) rfl rfl
theorem wi_X3_mustReopen : Jvm.Cond.instanceMethod ⟨"BurntHall$Claims", "mustReopen", "(II)Z"⟩ ∈ b_T := b_m7 (i := 165) rfl rfl
theorem ws_X3_mustReopen : Jvm.Cond.selects "BurntHall$Claims" ⟨"BurntHall$Claims", "mustReopen", "(II)Z"⟩ ⟨"BurntHall$Claims", "mustReopen", "(II)Z"⟩ ∈ b_T := b_m7 (i := 166) rfl rfl
theorem wc_X4_init : Jvm.Cond.code ⟨"BurntHall$Evidence", "<init>", "(LBurntHall$People;LBurntHall$Lots;LBurntHall$Papers;LBurntHall$Acts;)V"⟩ prog_6_method_1_code 5 (Option.none : Option Jvm.ClassFile.FieldType) ∈ b_T := b_m2 (i := 181) rfl rfl
theorem wi_X4_init : Jvm.Cond.instanceMethod ⟨"BurntHall$Evidence", "<init>", "(LBurntHall$People;LBurntHall$Lots;LBurntHall$Papers;LBurntHall$Acts;)V"⟩ ∈ b_T := b_m2 (i := 180) rfl rfl
theorem wn_4 : Jvm.Cond.initialized "BurntHall$Evidence" ∈ b_T := b_m1 (i := 13) rfl rfl
theorem wc_X4_addBurnt : Jvm.Cond.code ⟨"BurntHall$Evidence", "addBurnt", "()I"⟩ prog_6_method_2_code 1 (Option.some Jvm.ClassFile.FieldType.int) ∈ b_T := b_m5 (i := 231) rfl rfl
theorem wi_X4_addBurnt : Jvm.Cond.instanceMethod ⟨"BurntHall$Evidence", "addBurnt", "()I"⟩ ∈ b_T := b_m5 (i := 229) rfl rfl
theorem ws_X4_addBurnt : Jvm.Cond.selects "BurntHall$Evidence" ⟨"BurntHall$Evidence", "addBurnt", "()I"⟩ ⟨"BurntHall$Evidence", "addBurnt", "()I"⟩ ∈ b_T := b_m5 (i := 230) rfl rfl
theorem wc_X4_fact : Jvm.Cond.code ⟨"BurntHall$Evidence", "fact", "(II)I"⟩ prog_6_method_3_code 3 (Option.some Jvm.ClassFile.FieldType.int) ∈ b_T := b_m6 (i := 131) rfl rfl
theorem wi_X4_fact : Jvm.Cond.instanceMethod ⟨"BurntHall$Evidence", "fact", "(II)I"⟩ ∈ b_T := b_m6 (i := 129) rfl rfl
theorem ws_X4_fact : Jvm.Cond.selects "BurntHall$Evidence" ⟨"BurntHall$Evidence", "fact", "(II)I"⟩ ⟨"BurntHall$Evidence", "fact", "(II)I"⟩ ∈ b_T := b_m6 (i := 130) rfl rfl
theorem wc_X4_forget : Jvm.Cond.code ⟨"BurntHall$Evidence", "forget", "()V"⟩ prog_6_method_4_code 1 (Option.none : Option Jvm.ClassFile.FieldType) ∈ b_T := b_m4 (i := 30) rfl rfl
theorem wi_X4_forget : Jvm.Cond.instanceMethod ⟨"BurntHall$Evidence", "forget", "()V"⟩ ∈ b_T := b_m4 (i := 28) rfl rfl
theorem ws_X4_forget : Jvm.Cond.selects "BurntHall$Evidence" ⟨"BurntHall$Evidence", "forget", "()V"⟩ ⟨"BurntHall$Evidence", "forget", "()V"⟩ ∈ b_T := b_m4 (i := 29) rfl rfl
theorem wc_X4_actThen : Jvm.Cond.code ⟨"BurntHall$Evidence", "actThen", "()LBurntHall$Act;"⟩ prog_6_method_5_code 1 (Option.some (Jvm.ClassFile.FieldType.object "BurntHall$Act")) ∈ b_T := b_m6 (i := 115) rfl rfl
theorem wi_X4_actThen : Jvm.Cond.instanceMethod ⟨"BurntHall$Evidence", "actThen", "()LBurntHall$Act;"⟩ ∈ b_T := b_m6 (i := 113) rfl rfl
theorem ws_X4_actThen : Jvm.Cond.selects "BurntHall$Evidence" ⟨"BurntHall$Evidence", "actThen", "()LBurntHall$Act;"⟩ ⟨"BurntHall$Evidence", "actThen", "()LBurntHall$Act;"⟩ ∈ b_T := b_m6 (i := 114) rfl rfl
theorem wc_X4_know : Jvm.Cond.code ⟨"BurntHall$Evidence", "know", "(I)V"⟩ prog_6_method_6_code 4 (Option.none : Option Jvm.ClassFile.FieldType) ∈ b_T := b_m6 (i := 82) rfl rfl
theorem wi_X4_know : Jvm.Cond.instanceMethod ⟨"BurntHall$Evidence", "know", "(I)V"⟩ ∈ b_T := b_m6 (i := 80) rfl rfl
theorem ws_X4_know : Jvm.Cond.selects "BurntHall$Evidence" ⟨"BurntHall$Evidence", "know", "(I)V"⟩ ⟨"BurntHall$Evidence", "know", "(I)V"⟩ ∈ b_T := b_m6 (i := 81) rfl rfl
theorem wc_X4_findWitnesses : Jvm.Cond.code ⟨"BurntHall$Evidence", "findWitnesses", "(I)V"⟩ prog_6_method_7_code 3 (Option.none : Option Jvm.ClassFile.FieldType) ∈ b_T := b_m6 (i := 89) rfl rfl
theorem wi_X4_findWitnesses : Jvm.Cond.instanceMethod ⟨"BurntHall$Evidence", "findWitnesses", "(I)V"⟩ ∈ b_T := b_m6 (i := 88) rfl rfl
theorem ws_X4_findWitnesses : Jvm.Cond.selects "BurntHall$Evidence" ⟨"BurntHall$Evidence", "findWitnesses", "(I)V"⟩ ⟨"BurntHall$Evidence", "findWitnesses", "(I)V"⟩ ∈ b_T := b_memS (i := 31) (q := (⟨"BurntHall$Evidence", "findWitnesses", "(I)V"⟩, 13)) rfl
theorem wc_X4_reason : Jvm.Cond.code ⟨"BurntHall$Evidence", "reason", "(II)I"⟩ prog_6_method_8_code 4 (Option.some Jvm.ClassFile.FieldType.int) ∈ b_T := b_m6 (i := 53) rfl rfl
theorem wi_X4_reason : Jvm.Cond.instanceMethod ⟨"BurntHall$Evidence", "reason", "(II)I"⟩ ∈ b_T := b_m6 (i := 51) rfl rfl
theorem ws_X4_reason : Jvm.Cond.selects "BurntHall$Evidence" ⟨"BurntHall$Evidence", "reason", "(II)I"⟩ ⟨"BurntHall$Evidence", "reason", "(II)I"⟩ ∈ b_T := b_m6 (i := 52) rfl rfl
theorem wc_X4_livesWithin : Jvm.Cond.code ⟨"BurntHall$Evidence", "livesWithin", "(III)Z"⟩ prog_6_method_9_code 4 (Option.some Jvm.ClassFile.FieldType.boolean) ∈ b_T := b_m6 (i := 57) rfl rfl
theorem wi_X4_livesWithin : Jvm.Cond.instanceMethod ⟨"BurntHall$Evidence", "livesWithin", "(III)Z"⟩ ∈ b_T := b_m6 (i := 56) rfl rfl
theorem ws_X4_livesWithin : Jvm.Cond.selects "BurntHall$Evidence" ⟨"BurntHall$Evidence", "livesWithin", "(III)Z"⟩ ⟨"BurntHall$Evidence", "livesWithin", "(III)Z"⟩ ∈ b_T := b_memS (i := 29) (q := (⟨"BurntHall$Evidence", "livesWithin", "(III)Z"⟩, 13)) rfl
theorem wc_X4_isPageFull : Jvm.Cond.code ⟨"BurntHall$Evidence", "isPageFull", "(II)Z"⟩ prog_6_method_10_code 5 (Option.some Jvm.ClassFile.FieldType.boolean) ∈ b_T := b_m6 (i := 74) rfl rfl
theorem wi_X4_isPageFull : Jvm.Cond.instanceMethod ⟨"BurntHall$Evidence", "isPageFull", "(II)Z"⟩ ∈ b_T := b_m6 (i := 73) rfl rfl
theorem ws_X4_isPageFull : Jvm.Cond.selects "BurntHall$Evidence" ⟨"BurntHall$Evidence", "isPageFull", "(II)Z"⟩ ⟨"BurntHall$Evidence", "isPageFull", "(II)Z"⟩ ∈ b_T := b_memS (i := 30) (q := (⟨"BurntHall$Evidence", "isPageFull", "(II)Z"⟩, 13)) rfl
theorem wc_X4_thing : Jvm.Cond.code ⟨"BurntHall$Evidence", "thing", "(II)I"⟩ prog_6_method_11_code 4 (Option.some Jvm.ClassFile.FieldType.int) ∈ b_T := b_m6 (i := 97) rfl rfl
theorem wi_X4_thing : Jvm.Cond.instanceMethod ⟨"BurntHall$Evidence", "thing", "(II)I"⟩ ∈ b_T := b_m6 (i := 96) rfl rfl
theorem ws_X4_thing : Jvm.Cond.selects "BurntHall$Evidence" ⟨"BurntHall$Evidence", "thing", "(II)I"⟩ ⟨"BurntHall$Evidence", "thing", "(II)I"⟩ ∈ b_T := b_memS (i := 33) (q := (⟨"BurntHall$Evidence", "thing", "(II)I"⟩, 13)) rfl
theorem wc_X4_decide : Jvm.Cond.code ⟨"BurntHall$Evidence", "decide", "(II)V"⟩ prog_6_method_12_code 9 (Option.none : Option Jvm.ClassFile.FieldType) ∈ b_T := b_m6 (i := 93) rfl rfl
theorem wi_X4_decide : Jvm.Cond.instanceMethod ⟨"BurntHall$Evidence", "decide", "(II)V"⟩ ∈ b_T := b_m6 (i := 92) rfl rfl
theorem ws_X4_decide : Jvm.Cond.selects "BurntHall$Evidence" ⟨"BurntHall$Evidence", "decide", "(II)V"⟩ ⟨"BurntHall$Evidence", "decide", "(II)V"⟩ ∈ b_T := b_memS (i := 32) (q := (⟨"BurntHall$Evidence", "decide", "(II)V"⟩, 13)) rfl
theorem wc_X4_wasSaid : Jvm.Cond.code ⟨"BurntHall$Evidence", "wasSaid", "(III)Z"⟩ prog_6_method_13_code 5 (Option.some Jvm.ClassFile.FieldType.boolean) ∈ b_T := b_m6 (i := 102) rfl rfl
theorem wi_X4_wasSaid : Jvm.Cond.instanceMethod ⟨"BurntHall$Evidence", "wasSaid", "(III)Z"⟩ ∈ b_T := b_m6 (i := 101) rfl rfl
theorem ws_X4_wasSaid : Jvm.Cond.selects "BurntHall$Evidence" ⟨"BurntHall$Evidence", "wasSaid", "(III)Z"⟩ ⟨"BurntHall$Evidence", "wasSaid", "(III)Z"⟩ ∈ b_T := b_memS (i := 34) (q := (⟨"BurntHall$Evidence", "wasSaid", "(III)Z"⟩, 13)) rfl
theorem wc_X4_sumOf : Jvm.Cond.code ⟨"BurntHall$Evidence", "sumOf", "(II)I"⟩ prog_6_method_14_code 8 (Option.some Jvm.ClassFile.FieldType.int) ∈ b_T := b_m6 (i := 106) rfl rfl
theorem wi_X4_sumOf : Jvm.Cond.instanceMethod ⟨"BurntHall$Evidence", "sumOf", "(II)I"⟩ ∈ b_T := b_m6 (i := 105) rfl rfl
theorem ws_X4_sumOf : Jvm.Cond.selects "BurntHall$Evidence" ⟨"BurntHall$Evidence", "sumOf", "(II)I"⟩ ⟨"BurntHall$Evidence", "sumOf", "(II)I"⟩ ∈ b_T := b_memS (i := 35) (q := (⟨"BurntHall$Evidence", "sumOf", "(II)I"⟩, 13)) rfl
theorem wc_X4_greatestOaths : Jvm.Cond.code ⟨"BurntHall$Evidence", "greatestOaths", "(I)I"⟩ prog_6_method_15_code 7 (Option.some Jvm.ClassFile.FieldType.int) ∈ b_T := b_m6 (i := 111) rfl rfl
theorem wi_X4_greatestOaths : Jvm.Cond.instanceMethod ⟨"BurntHall$Evidence", "greatestOaths", "(I)I"⟩ ∈ b_T := b_m6 (i := 110) rfl rfl
theorem ws_X4_greatestOaths : Jvm.Cond.selects "BurntHall$Evidence" ⟨"BurntHall$Evidence", "greatestOaths", "(I)I"⟩ ⟨"BurntHall$Evidence", "greatestOaths", "(I)I"⟩ ∈ b_T := b_memS (i := 36) (q := (⟨"BurntHall$Evidence", "greatestOaths", "(I)I"⟩, 13)) rfl
theorem wc_X4_leastNumber : Jvm.Cond.code ⟨"BurntHall$Evidence", "leastNumber", "(II)I"⟩ prog_6_method_16_code 5 (Option.some Jvm.ClassFile.FieldType.int) ∈ b_T := b_m6 (i := 122) rfl rfl
theorem wi_X4_leastNumber : Jvm.Cond.instanceMethod ⟨"BurntHall$Evidence", "leastNumber", "(II)I"⟩ ∈ b_T := b_m6 (i := 121) rfl rfl
theorem ws_X4_leastNumber : Jvm.Cond.selects "BurntHall$Evidence" ⟨"BurntHall$Evidence", "leastNumber", "(II)I"⟩ ⟨"BurntHall$Evidence", "leastNumber", "(II)I"⟩ ∈ b_T := b_memS (i := 37) (q := (⟨"BurntHall$Evidence", "leastNumber", "(II)I"⟩, 13)) rfl
theorem wc_X4_findSpan : Jvm.Cond.code ⟨"BurntHall$Evidence", "findSpan", "(I)V"⟩ prog_6_method_17_code 6 (Option.none : Option Jvm.ClassFile.FieldType) ∈ b_T := b_m6 (i := 126) rfl rfl
theorem wi_X4_findSpan : Jvm.Cond.instanceMethod ⟨"BurntHall$Evidence", "findSpan", "(I)V"⟩ ∈ b_T := b_m6 (i := 125) rfl rfl
theorem ws_X4_findSpan : Jvm.Cond.selects "BurntHall$Evidence" ⟨"BurntHall$Evidence", "findSpan", "(I)V"⟩ ⟨"BurntHall$Evidence", "findSpan", "(I)V"⟩ ∈ b_T := b_memS (i := 38) (q := (⟨"BurntHall$Evidence", "findSpan", "(I)V"⟩, 13)) rfl
theorem wc_X4_yearsHeld : Jvm.Cond.code ⟨"BurntHall$Evidence", "yearsHeld", "(III)I"⟩ prog_6_method_18_code 7 (Option.some Jvm.ClassFile.FieldType.int) ∈ b_T := b_m7 (i := 34) rfl rfl
theorem wi_X4_yearsHeld : Jvm.Cond.instanceMethod ⟨"BurntHall$Evidence", "yearsHeld", "(III)I"⟩ ∈ b_T := b_m7 (i := 32) rfl rfl
theorem ws_X4_yearsHeld : Jvm.Cond.selects "BurntHall$Evidence" ⟨"BurntHall$Evidence", "yearsHeld", "(III)I"⟩ ⟨"BurntHall$Evidence", "yearsHeld", "(III)I"⟩ ∈ b_T := b_m7 (i := 33) rfl rfl
theorem wc_X4_isTaxOf : Jvm.Cond.code ⟨"BurntHall$Evidence", "isTaxOf", "(III)Z"⟩ prog_6_method_19_code 5 (Option.some Jvm.ClassFile.FieldType.boolean) ∈ b_T := b_m7 (i := 38) rfl rfl
theorem wi_X4_isTaxOf : Jvm.Cond.instanceMethod ⟨"BurntHall$Evidence", "isTaxOf", "(III)Z"⟩ ∈ b_T := b_m7 (i := 37) rfl rfl
theorem ws_X4_isTaxOf : Jvm.Cond.selects "BurntHall$Evidence" ⟨"BurntHall$Evidence", "isTaxOf", "(III)Z"⟩ ⟨"BurntHall$Evidence", "isTaxOf", "(III)Z"⟩ ∈ b_T := b_memS (i := 60) (q := (⟨"BurntHall$Evidence", "isTaxOf", "(III)Z"⟩, 13)) rfl
theorem wc_X4_years : Jvm.Cond.code ⟨"BurntHall$Evidence", "years", "(II)I"⟩ prog_6_method_20_code 4 (Option.some Jvm.ClassFile.FieldType.int) ∈ b_T := b_m7 (i := 42) rfl rfl
theorem wi_X4_years : Jvm.Cond.static ⟨"BurntHall$Evidence", "years", "(II)I"⟩ ∈ b_T := b_m7 (i := 41) rfl rfl
theorem wc_X5_init : Jvm.Cond.code ⟨"BurntHall$Lots", "<init>", "()V"⟩ prog_7_method_1_code 1 (Option.none : Option Jvm.ClassFile.FieldType) ∈ b_T := b_m1 (i := 128) rfl rfl
theorem wi_X5_init : Jvm.Cond.instanceMethod ⟨"BurntHall$Lots", "<init>", "()V"⟩ ∈ b_T := b_m1 (i := 127) rfl rfl
theorem wn_5 : Jvm.Cond.initialized "BurntHall$Lots" ∈ b_T := b_m1 (i := 4) rfl rfl
theorem wc_X5_isFeet : Jvm.Cond.code ⟨"BurntHall$Lots", "isFeet", "(I)Z"⟩ prog_7_method_2_code 1 (Option.some Jvm.ClassFile.FieldType.boolean) ∈ b_T := b_m4 (i := 100) rfl rfl
theorem wi_X5_isFeet : Jvm.Cond.static ⟨"BurntHall$Lots", "isFeet", "(I)Z"⟩ ∈ b_T := b_m4 (i := 99) rfl rfl
theorem wc_X5_has : Jvm.Cond.code ⟨"BurntHall$Lots", "has", "(I)Z"⟩ prog_7_method_3_code 2 (Option.some Jvm.ClassFile.FieldType.boolean) ∈ b_T := b_m4 (i := 117) rfl rfl
theorem wi_X5_has : Jvm.Cond.instanceMethod ⟨"BurntHall$Lots", "has", "(I)Z"⟩ ∈ b_T := b_m4 (i := 115) rfl rfl
theorem ws_X5_has : Jvm.Cond.selects "BurntHall$Lots" ⟨"BurntHall$Lots", "has", "(I)Z"⟩ ⟨"BurntHall$Lots", "has", "(I)Z"⟩ ∈ b_T := b_m4 (i := 116) rfl rfl
theorem wc_X5_room : Jvm.Cond.code ⟨"BurntHall$Lots", "room", "()I"⟩ prog_7_method_4_code 1 (Option.some Jvm.ClassFile.FieldType.int) ∈ b_T := b_m4 (i := 105) rfl rfl
theorem wi_X5_room : Jvm.Cond.instanceMethod ⟨"BurntHall$Lots", "room", "()I"⟩ ∈ b_T := b_m4 (i := 103) rfl rfl
theorem ws_X5_room : Jvm.Cond.selects "BurntHall$Lots" ⟨"BurntHall$Lots", "room", "()I"⟩ ⟨"BurntHall$Lots", "room", "()I"⟩ ∈ b_T := b_m4 (i := 104) rfl rfl
theorem wc_X5_add : Jvm.Cond.code ⟨"BurntHall$Lots", "add", "(IIJ)I"⟩ prog_7_method_5_code 5 (Option.some Jvm.ClassFile.FieldType.int) ∈ b_T := b_m4 (i := 109) rfl rfl
theorem wi_X5_add : Jvm.Cond.instanceMethod ⟨"BurntHall$Lots", "add", "(IIJ)I"⟩ ∈ b_T := b_m4 (i := 107) rfl rfl
theorem ws_X5_add : Jvm.Cond.selects "BurntHall$Lots" ⟨"BurntHall$Lots", "add", "(IIJ)I"⟩ ⟨"BurntHall$Lots", "add", "(IIJ)I"⟩ ∈ b_T := b_m4 (i := 108) rfl rfl
theorem wc_X5_four : Jvm.Cond.code ⟨"BurntHall$Lots", "four", "(IIII)V"⟩ prog_7_method_6_code 5 (Option.none : Option Jvm.ClassFile.FieldType) ∈ b_T := b_m4 (i := 121) rfl rfl
theorem wi_X5_four : Jvm.Cond.instanceMethod ⟨"BurntHall$Lots", "four", "(IIII)V"⟩ ∈ b_T := b_m4 (i := 119) rfl rfl
theorem ws_X5_four : Jvm.Cond.selects "BurntHall$Lots" ⟨"BurntHall$Lots", "four", "(IIII)V"⟩ ⟨"BurntHall$Lots", "four", "(IIII)V"⟩ ∈ b_T := b_m4 (i := 120) rfl rfl
theorem wc_X5_fourAreFeet : Jvm.Cond.code ⟨"BurntHall$Lots", "fourAreFeet", "(I)Z"⟩ prog_7_method_7_code 3 (Option.some Jvm.ClassFile.FieldType.boolean) ∈ b_T := b_m4 (i := 125) rfl rfl
theorem wi_X5_fourAreFeet : Jvm.Cond.instanceMethod ⟨"BurntHall$Lots", "fourAreFeet", "(I)Z"⟩ ∈ b_T := b_m4 (i := 123) rfl rfl
theorem ws_X5_fourAreFeet : Jvm.Cond.selects "BurntHall$Lots" ⟨"BurntHall$Lots", "fourAreFeet", "(I)Z"⟩ ⟨"BurntHall$Lots", "fourAreFeet", "(I)Z"⟩ ∈ b_T := b_m4 (i := 124) rfl rfl
theorem wc_X5_fourAreLots : Jvm.Cond.code ⟨"BurntHall$Lots", "fourAreLots", "(I)Z"⟩ prog_7_method_8_code 4 (Option.some Jvm.ClassFile.FieldType.boolean) ∈ b_T := b_m4 (i := 144) rfl rfl
theorem wi_X5_fourAreLots : Jvm.Cond.instanceMethod ⟨"BurntHall$Lots", "fourAreLots", "(I)Z"⟩ ∈ b_T := b_m4 (i := 142) rfl rfl
theorem ws_X5_fourAreLots : Jvm.Cond.selects "BurntHall$Lots" ⟨"BurntHall$Lots", "fourAreLots", "(I)Z"⟩ ⟨"BurntHall$Lots", "fourAreLots", "(I)Z"⟩ ∈ b_T := b_m4 (i := 143) rfl rfl
theorem wc_X5_fourMayEnd : Jvm.Cond.code ⟨"BurntHall$Lots", "fourMayEnd", "(II)Z"⟩ prog_7_method_9_code 4 (Option.some Jvm.ClassFile.FieldType.boolean) ∈ b_T := b_m4 (i := 148) rfl rfl
theorem wi_X5_fourMayEnd : Jvm.Cond.instanceMethod ⟨"BurntHall$Lots", "fourMayEnd", "(II)Z"⟩ ∈ b_T := b_m4 (i := 146) rfl rfl
theorem ws_X5_fourMayEnd : Jvm.Cond.selects "BurntHall$Lots" ⟨"BurntHall$Lots", "fourMayEnd", "(II)Z"⟩ ⟨"BurntHall$Lots", "fourMayEnd", "(II)Z"⟩ ∈ b_T := b_m4 (i := 147) rfl rfl
theorem wc_X5_mayEnd : Jvm.Cond.code ⟨"BurntHall$Lots", "mayEnd", "(II)Z"⟩ prog_7_method_10_code 3 (Option.some Jvm.ClassFile.FieldType.boolean) ∈ b_T := b_m4 (i := 130) rfl rfl
theorem wi_X5_mayEnd : Jvm.Cond.instanceMethod ⟨"BurntHall$Lots", "mayEnd", "(II)Z"⟩ ∈ b_T := b_m4 (i := 128) rfl rfl
theorem ws_X5_mayEnd : Jvm.Cond.selects "BurntHall$Lots" ⟨"BurntHall$Lots", "mayEnd", "(II)Z"⟩ ⟨"BurntHall$Lots", "mayEnd", "(II)Z"⟩ ∈ b_T := b_m4 (i := 129) rfl rfl
theorem wc_X5_isThere : Jvm.Cond.code ⟨"BurntHall$Lots", "isThere", "(II)Z"⟩ prog_7_method_11_code 3 (Option.some Jvm.ClassFile.FieldType.boolean) ∈ b_T := b_m7 (i := 91) rfl rfl
theorem wi_X5_isThere : Jvm.Cond.instanceMethod ⟨"BurntHall$Lots", "isThere", "(II)Z"⟩ ∈ b_T := b_m7 (i := 89) rfl rfl
theorem ws_X5_isThere : Jvm.Cond.selects "BurntHall$Lots" ⟨"BurntHall$Lots", "isThere", "(II)Z"⟩ ⟨"BurntHall$Lots", "isThere", "(II)Z"⟩ ∈ b_T := b_m7 (i := 90) rfl rfl
theorem wc_X5_isThereWithin : Jvm.Cond.code ⟨"BurntHall$Lots", "isThereWithin", "(III)Z"⟩ prog_7_method_12_code 4 (Option.some Jvm.ClassFile.FieldType.boolean) ∈ b_T := b_m6 (i := 70) rfl rfl
theorem wi_X5_isThereWithin : Jvm.Cond.instanceMethod ⟨"BurntHall$Lots", "isThereWithin", "(III)Z"⟩ ∈ b_T := b_m6 (i := 68) rfl rfl
theorem ws_X5_isThereWithin : Jvm.Cond.selects "BurntHall$Lots" ⟨"BurntHall$Lots", "isThereWithin", "(III)Z"⟩ ⟨"BurntHall$Lots", "isThereWithin", "(III)Z"⟩ ∈ b_T := b_m6 (i := 69) rfl rfl
theorem wc_X5_isAmong : Jvm.Cond.code ⟨"BurntHall$Lots", "isAmong", "(IJ)Z"⟩ prog_7_method_13_code 4 (Option.some Jvm.ClassFile.FieldType.boolean) ∈ b_T := b_m6 (i := 155) rfl rfl
theorem wi_X5_isAmong : Jvm.Cond.instanceMethod ⟨"BurntHall$Lots", "isAmong", "(IJ)Z"⟩ ∈ b_T := b_m6 (i := 153) rfl rfl
theorem ws_X5_isAmong : Jvm.Cond.selects "BurntHall$Lots" ⟨"BurntHall$Lots", "isAmong", "(IJ)Z"⟩ ⟨"BurntHall$Lots", "isAmong", "(IJ)Z"⟩ ∈ b_T := b_m6 (i := 154) rfl rfl
theorem wc_X5_divide : Jvm.Cond.code ⟨"BurntHall$Lots", "divide", "(III)I"⟩ prog_7_method_14_code 7 (Option.some Jvm.ClassFile.FieldType.int) ∈ b_T := b_m4 (i := 135) rfl rfl
theorem wi_X5_divide : Jvm.Cond.instanceMethod ⟨"BurntHall$Lots", "divide", "(III)I"⟩ ∈ b_T := b_m4 (i := 133) rfl rfl
theorem ws_X5_divide : Jvm.Cond.selects "BurntHall$Lots" ⟨"BurntHall$Lots", "divide", "(III)I"⟩ ⟨"BurntHall$Lots", "divide", "(III)I"⟩ ∈ b_T := b_m4 (i := 134) rfl rfl
theorem wc_X5_unite : Jvm.Cond.code ⟨"BurntHall$Lots", "unite", "(III)I"⟩ prog_7_method_15_code 9 (Option.some Jvm.ClassFile.FieldType.int) ∈ b_T := b_m4 (i := 153) rfl rfl
theorem wi_X5_unite : Jvm.Cond.instanceMethod ⟨"BurntHall$Lots", "unite", "(III)I"⟩ ∈ b_T := b_m4 (i := 151) rfl rfl
theorem ws_X5_unite : Jvm.Cond.selects "BurntHall$Lots" ⟨"BurntHall$Lots", "unite", "(III)I"⟩ ⟨"BurntHall$Lots", "unite", "(III)I"⟩ ∈ b_T := b_m4 (i := 152) rfl rfl
theorem wc_X5_tellAbout : Jvm.Cond.code ⟨"BurntHall$Lots", "tellAbout", "(II)I"⟩ prog_7_method_16_code 3 (Option.some Jvm.ClassFile.FieldType.int) ∈ b_T := b_m4 (i := 161) rfl rfl
theorem wi_X5_tellAbout : Jvm.Cond.instanceMethod ⟨"BurntHall$Lots", "tellAbout", "(II)I"⟩ ∈ b_T := b_m4 (i := 159) rfl rfl
theorem ws_X5_tellAbout : Jvm.Cond.selects "BurntHall$Lots" ⟨"BurntHall$Lots", "tellAbout", "(II)I"⟩ ⟨"BurntHall$Lots", "tellAbout", "(II)I"⟩ ∈ b_T := b_m4 (i := 160) rfl rfl
theorem wc_X5_readBounds : Jvm.Cond.code ⟨"BurntHall$Lots", "readBounds", "(LBurntHall$Tape;III)I"⟩ prog_7_method_17_code 6 (Option.some Jvm.ClassFile.FieldType.int) ∈ b_T := b_m4 (i := 173) rfl rfl
theorem wi_X5_readBounds : Jvm.Cond.instanceMethod ⟨"BurntHall$Lots", "readBounds", "(LBurntHall$Tape;III)I"⟩ ∈ b_T := b_m4 (i := 171) rfl rfl
theorem ws_X5_readBounds : Jvm.Cond.selects "BurntHall$Lots" ⟨"BurntHall$Lots", "readBounds", "(LBurntHall$Tape;III)I"⟩ ⟨"BurntHall$Lots", "readBounds", "(LBurntHall$Tape;III)I"⟩ ∈ b_T := b_m4 (i := 172) rfl rfl
theorem wc_X5_readLines : Jvm.Cond.code ⟨"BurntHall$Lots", "readLines", "(LBurntHall$Tape;)I"⟩ prog_7_method_18_code 3 (Option.some Jvm.ClassFile.FieldType.int) ∈ b_T := b_m4 (i := 177) rfl rfl
theorem wi_X5_readLines : Jvm.Cond.instanceMethod ⟨"BurntHall$Lots", "readLines", "(LBurntHall$Tape;)I"⟩ ∈ b_T := b_m4 (i := 176) rfl rfl
theorem ws_X5_readLines : Jvm.Cond.selects "BurntHall$Lots" ⟨"BurntHall$Lots", "readLines", "(LBurntHall$Tape;)I"⟩ ⟨"BurntHall$Lots", "readLines", "(LBurntHall$Tape;)I"⟩ ∈ b_T := b_memS (i := 3) (q := (⟨"BurntHall$Lots", "readLines", "(LBurntHall$Tape;)I"⟩, 20)) rfl
theorem wc_X5_readLine : Jvm.Cond.code ⟨"BurntHall$Lots", "readLine", "(LBurntHall$Tape;I)Z"⟩ prog_7_method_19_code 4 (Option.some Jvm.ClassFile.FieldType.boolean) ∈ b_T := b_m4 (i := 211) rfl rfl
theorem wi_X5_readLine : Jvm.Cond.instanceMethod ⟨"BurntHall$Lots", "readLine", "(LBurntHall$Tape;I)Z"⟩ ∈ b_T := b_m4 (i := 210) rfl rfl
theorem ws_X5_readLine : Jvm.Cond.selects "BurntHall$Lots" ⟨"BurntHall$Lots", "readLine", "(LBurntHall$Tape;I)Z"⟩ ⟨"BurntHall$Lots", "readLine", "(LBurntHall$Tape;I)Z"⟩ ∈ b_T := b_memS (i := 4) (q := (⟨"BurntHall$Lots", "readLine", "(LBurntHall$Tape;I)Z"⟩, 20)) rfl
theorem wc_X5_wayOf : Jvm.Cond.code ⟨"BurntHall$Lots", "wayOf", "(II)I"⟩ prog_7_method_20_code 3 (Option.some Jvm.ClassFile.FieldType.int) ∈ b_T := b_m5 (i := 14) rfl rfl
theorem wi_X5_wayOf : Jvm.Cond.instanceMethod ⟨"BurntHall$Lots", "wayOf", "(II)I"⟩ ∈ b_T := b_m5 (i := 13) rfl rfl
theorem ws_X5_wayOf : Jvm.Cond.selects "BurntHall$Lots" ⟨"BurntHall$Lots", "wayOf", "(II)I"⟩ ⟨"BurntHall$Lots", "wayOf", "(II)I"⟩ ∈ b_T := b_memS (i := 7) (q := (⟨"BurntHall$Lots", "wayOf", "(II)I"⟩, 20)) rfl
theorem wc_X5_feetOf : Jvm.Cond.code ⟨"BurntHall$Lots", "feetOf", "(II)I"⟩ prog_7_method_21_code 3 (Option.some Jvm.ClassFile.FieldType.int) ∈ b_T := b_m5 (i := 18) rfl rfl
theorem wi_X5_feetOf : Jvm.Cond.instanceMethod ⟨"BurntHall$Lots", "feetOf", "(II)I"⟩ ∈ b_T := b_m5 (i := 17) rfl rfl
theorem ws_X5_feetOf : Jvm.Cond.selects "BurntHall$Lots" ⟨"BurntHall$Lots", "feetOf", "(II)I"⟩ ⟨"BurntHall$Lots", "feetOf", "(II)I"⟩ ∈ b_T := b_memS (i := 8) (q := (⟨"BurntHall$Lots", "feetOf", "(II)I"⟩, 20)) rfl
theorem wc_X5_sumOfWay : Jvm.Cond.code ⟨"BurntHall$Lots", "sumOfWay", "(II)I"⟩ prog_7_method_22_code 5 (Option.some Jvm.ClassFile.FieldType.int) ∈ b_T := b_m5 (i := 10) rfl rfl
theorem wi_X5_sumOfWay : Jvm.Cond.instanceMethod ⟨"BurntHall$Lots", "sumOfWay", "(II)I"⟩ ∈ b_T := b_m5 (i := 9) rfl rfl
theorem ws_X5_sumOfWay : Jvm.Cond.selects "BurntHall$Lots" ⟨"BurntHall$Lots", "sumOfWay", "(II)I"⟩ ⟨"BurntHall$Lots", "sumOfWay", "(II)I"⟩ ∈ b_T := b_memS (i := 6) (q := (⟨"BurntHall$Lots", "sumOfWay", "(II)I"⟩, 20)) rfl
theorem wc_X5_miss : Jvm.Cond.code ⟨"BurntHall$Lots", "miss", "(II)I"⟩ prog_7_method_23_code 3 (Option.some Jvm.ClassFile.FieldType.int) ∈ b_T := b_m5 (i := 6) rfl rfl
theorem wi_X5_miss : Jvm.Cond.instanceMethod ⟨"BurntHall$Lots", "miss", "(II)I"⟩ ∈ b_T := b_m5 (i := 4) rfl rfl
theorem ws_X5_miss : Jvm.Cond.selects "BurntHall$Lots" ⟨"BurntHall$Lots", "miss", "(II)I"⟩ ⟨"BurntHall$Lots", "miss", "(II)I"⟩ ∈ b_T := b_m5 (i := 5) rfl rfl
theorem wc_X5_closeBounds : Jvm.Cond.code ⟨"BurntHall$Lots", "closeBounds", "(I)I"⟩ prog_7_method_24_code 6 (Option.some Jvm.ClassFile.FieldType.int) ∈ b_T := b_m5 (i := 29) rfl rfl
theorem wi_X5_closeBounds : Jvm.Cond.instanceMethod ⟨"BurntHall$Lots", "closeBounds", "(I)I"⟩ ∈ b_T := b_m5 (i := 27) rfl rfl
theorem ws_X5_closeBounds : Jvm.Cond.selects "BurntHall$Lots" ⟨"BurntHall$Lots", "closeBounds", "(I)I"⟩ ⟨"BurntHall$Lots", "closeBounds", "(I)I"⟩ ∈ b_T := b_m5 (i := 28) rfl rfl
theorem wc_X5_lineToChange : Jvm.Cond.code ⟨"BurntHall$Lots", "lineToChange", "(III)I"⟩ prog_7_method_25_code 9 (Option.some Jvm.ClassFile.FieldType.int) ∈ b_T := b_m5 (i := 34) rfl rfl
theorem wi_X5_lineToChange : Jvm.Cond.instanceMethod ⟨"BurntHall$Lots", "lineToChange", "(III)I"⟩ ∈ b_T := b_m5 (i := 33) rfl rfl
theorem ws_X5_lineToChange : Jvm.Cond.selects "BurntHall$Lots" ⟨"BurntHall$Lots", "lineToChange", "(III)I"⟩ ⟨"BurntHall$Lots", "lineToChange", "(III)I"⟩ ∈ b_T := b_memS (i := 9) (q := (⟨"BurntHall$Lots", "lineToChange", "(III)I"⟩, 20)) rfl
theorem wc_X5_changeLine : Jvm.Cond.code ⟨"BurntHall$Lots", "changeLine", "(IIII)V"⟩ prog_7_method_26_code 5 (Option.none : Option Jvm.ClassFile.FieldType) ∈ b_T := b_m5 (i := 39) rfl rfl
theorem wi_X5_changeLine : Jvm.Cond.instanceMethod ⟨"BurntHall$Lots", "changeLine", "(IIII)V"⟩ ∈ b_T := b_m5 (i := 38) rfl rfl
theorem ws_X5_changeLine : Jvm.Cond.selects "BurntHall$Lots" ⟨"BurntHall$Lots", "changeLine", "(IIII)V"⟩ ⟨"BurntHall$Lots", "changeLine", "(IIII)V"⟩ ∈ b_T := b_memS (i := 10) (q := (⟨"BurntHall$Lots", "changeLine", "(IIII)V"⟩, 20)) rfl
theorem wc_X5_trace : Jvm.Cond.code ⟨"BurntHall$Lots", "trace", "(I[I[I)V"⟩ prog_7_method_27_code 7 (Option.none : Option Jvm.ClassFile.FieldType) ∈ b_T := b_m5 (i := 51) rfl rfl
theorem wi_X5_trace : Jvm.Cond.instanceMethod ⟨"BurntHall$Lots", "trace", "(I[I[I)V"⟩ ∈ b_T := b_m5 (i := 50) rfl rfl
theorem ws_X5_trace : Jvm.Cond.selects "BurntHall$Lots" ⟨"BurntHall$Lots", "trace", "(I[I[I)V"⟩ ⟨"BurntHall$Lots", "trace", "(I[I[I)V"⟩ ∈ b_T := b_memS (i := 11) (q := (⟨"BurntHall$Lots", "trace", "(I[I[I)V"⟩, 20)) rfl
theorem wc_X5_enclose : Jvm.Cond.code ⟨"BurntHall$Lots", "enclose", "(I)Z"⟩ prog_7_method_28_code 6 (Option.some Jvm.ClassFile.FieldType.boolean) ∈ b_T := b_m5 (i := 47) rfl rfl
theorem wi_X5_enclose : Jvm.Cond.instanceMethod ⟨"BurntHall$Lots", "enclose", "(I)Z"⟩ ∈ b_T := b_m5 (i := 45) rfl rfl
theorem ws_X5_enclose : Jvm.Cond.selects "BurntHall$Lots" ⟨"BurntHall$Lots", "enclose", "(I)Z"⟩ ⟨"BurntHall$Lots", "enclose", "(I)Z"⟩ ∈ b_T := b_m5 (i := 46) rfl rfl
theorem wc_X5_meet : Jvm.Cond.code ⟨"BurntHall$Lots", "meet", "(II)Z"⟩ prog_7_method_29_code 3 (Option.some Jvm.ClassFile.FieldType.boolean) ∈ b_T := b_m5 (i := 55) rfl rfl
theorem wi_X5_meet : Jvm.Cond.instanceMethod ⟨"BurntHall$Lots", "meet", "(II)Z"⟩ ∈ b_T := b_m5 (i := 54) rfl rfl
theorem ws_X5_meet : Jvm.Cond.selects "BurntHall$Lots" ⟨"BurntHall$Lots", "meet", "(II)Z"⟩ ⟨"BurntHall$Lots", "meet", "(II)Z"⟩ ∈ b_T := b_memS (i := 12) (q := (⟨"BurntHall$Lots", "meet", "(II)Z"⟩, 20)) rfl
theorem wc_X5_common : Jvm.Cond.code ⟨"BurntHall$Lots", "common", "(IIII)I"⟩ prog_7_method_30_code 4 (Option.some Jvm.ClassFile.FieldType.int) ∈ b_T := b_m5 (i := 58) rfl rfl
theorem wi_X5_common : Jvm.Cond.static ⟨"BurntHall$Lots", "common", "(IIII)I"⟩ ∈ b_T := b_m5 (i := 57) rfl rfl
theorem wc_X5_within : Jvm.Cond.code ⟨"BurntHall$Lots", "within", "(II)I"⟩ prog_7_method_31_code 8 (Option.some Jvm.ClassFile.FieldType.int) ∈ b_T := b_m5 (i := 64) rfl rfl
theorem wi_X5_within : Jvm.Cond.instanceMethod ⟨"BurntHall$Lots", "within", "(II)I"⟩ ∈ b_T := b_m5 (i := 62) rfl rfl
theorem ws_X5_within : Jvm.Cond.selects "BurntHall$Lots" ⟨"BurntHall$Lots", "within", "(II)I"⟩ ⟨"BurntHall$Lots", "within", "(II)I"⟩ ∈ b_T := b_m5 (i := 63) rfl rfl
theorem wc_X6_init : Jvm.Cond.code ⟨"BurntHall$Mortgages", "<init>", "(LBurntHall$Lots;LBurntHall$Acts;)V"⟩ prog_8_method_1_code 3 (Option.none : Option Jvm.ClassFile.FieldType) ∈ b_T := b_m3 (i := 59) rfl rfl
theorem wi_X6_init : Jvm.Cond.instanceMethod ⟨"BurntHall$Mortgages", "<init>", "(LBurntHall$Lots;LBurntHall$Acts;)V"⟩ ∈ b_T := b_m3 (i := 58) rfl rfl
theorem wn_6 : Jvm.Cond.initialized "BurntHall$Mortgages" ∈ b_T := b_m1 (i := 15) rfl rfl
theorem wc_X6_has : Jvm.Cond.code ⟨"BurntHall$Mortgages", "has", "(I)Z"⟩ prog_8_method_2_code 2 (Option.some Jvm.ClassFile.FieldType.boolean) ∈ b_T := b_m7 (i := 59) rfl rfl
theorem wi_X6_has : Jvm.Cond.instanceMethod ⟨"BurntHall$Mortgages", "has", "(I)Z"⟩ ∈ b_T := b_m7 (i := 57) rfl rfl
theorem ws_X6_has : Jvm.Cond.selects "BurntHall$Mortgages" ⟨"BurntHall$Mortgages", "has", "(I)Z"⟩ ⟨"BurntHall$Mortgages", "has", "(I)Z"⟩ ∈ b_T := b_m7 (i := 58) rfl rfl
theorem wc_X6_add : Jvm.Cond.code ⟨"BurntHall$Mortgages", "add", "(III)I"⟩ prog_8_method_3_code 4 (Option.some Jvm.ClassFile.FieldType.int) ∈ b_T := b_m7 (i := 51) rfl rfl
theorem wi_X6_add : Jvm.Cond.instanceMethod ⟨"BurntHall$Mortgages", "add", "(III)I"⟩ ∈ b_T := b_m7 (i := 49) rfl rfl
theorem ws_X6_add : Jvm.Cond.selects "BurntHall$Mortgages" ⟨"BurntHall$Mortgages", "add", "(III)I"⟩ ⟨"BurntHall$Mortgages", "add", "(III)I"⟩ ∈ b_T := b_m7 (i := 50) rfl rfl
theorem wc_X6_pay : Jvm.Cond.code ⟨"BurntHall$Mortgages", "pay", "(III)I"⟩ prog_8_method_4_code 4 (Option.some Jvm.ClassFile.FieldType.int) ∈ b_T := b_m7 (i := 63) rfl rfl
theorem wi_X6_pay : Jvm.Cond.instanceMethod ⟨"BurntHall$Mortgages", "pay", "(III)I"⟩ ∈ b_T := b_m7 (i := 61) rfl rfl
theorem ws_X6_pay : Jvm.Cond.selects "BurntHall$Mortgages" ⟨"BurntHall$Mortgages", "pay", "(III)I"⟩ ⟨"BurntHall$Mortgages", "pay", "(III)I"⟩ ∈ b_T := b_m7 (i := 62) rfl rfl
theorem wc_X6_isStanding : Jvm.Cond.code ⟨"BurntHall$Mortgages", "isStanding", "(III)Z"⟩ prog_8_method_5_code 6 (Option.some Jvm.ClassFile.FieldType.boolean) ∈ b_T := b_m7 (i := 71) rfl rfl
theorem wi_X6_isStanding : Jvm.Cond.instanceMethod ⟨"BurntHall$Mortgages", "isStanding", "(III)Z"⟩ ∈ b_T := b_m7 (i := 69) rfl rfl
theorem ws_X6_isStanding : Jvm.Cond.selects "BurntHall$Mortgages" ⟨"BurntHall$Mortgages", "isStanding", "(III)Z"⟩ ⟨"BurntHall$Mortgages", "isStanding", "(III)Z"⟩ ∈ b_T := b_m7 (i := 70) rfl rfl
theorem wc_X6_ahead : Jvm.Cond.code ⟨"BurntHall$Mortgages", "ahead", "(III)I"⟩ prog_8_method_6_code 9 (Option.some Jvm.ClassFile.FieldType.int) ∈ b_T := b_m7 (i := 81) rfl rfl
theorem wi_X6_ahead : Jvm.Cond.instanceMethod ⟨"BurntHall$Mortgages", "ahead", "(III)I"⟩ ∈ b_T := b_m7 (i := 79) rfl rfl
theorem ws_X6_ahead : Jvm.Cond.selects "BurntHall$Mortgages" ⟨"BurntHall$Mortgages", "ahead", "(III)I"⟩ ⟨"BurntHall$Mortgages", "ahead", "(III)I"⟩ ∈ b_T := b_m7 (i := 80) rfl rfl
theorem wc_X7_init : Jvm.Cond.code ⟨"BurntHall$Papers", "<init>", "()V"⟩ prog_9_method_1_code 1 (Option.none : Option Jvm.ClassFile.FieldType) ∈ b_T := b_m2 (i := 103) rfl rfl
theorem wi_X7_init : Jvm.Cond.instanceMethod ⟨"BurntHall$Papers", "<init>", "()V"⟩ ∈ b_T := b_m2 (i := 102) rfl rfl
theorem wn_7 : Jvm.Cond.initialized "BurntHall$Papers" ∈ b_T := b_m1 (i := 12) rfl rfl
theorem wc_X7_has : Jvm.Cond.code ⟨"BurntHall$Papers", "has", "(I)Z"⟩ prog_9_method_2_code 2 (Option.some Jvm.ClassFile.FieldType.boolean) ∈ b_T := b_m5 (i := 186) rfl rfl
theorem wi_X7_has : Jvm.Cond.instanceMethod ⟨"BurntHall$Papers", "has", "(I)Z"⟩ ∈ b_T := b_m5 (i := 184) rfl rfl
theorem ws_X7_has : Jvm.Cond.selects "BurntHall$Papers" ⟨"BurntHall$Papers", "has", "(I)Z"⟩ ⟨"BurntHall$Papers", "has", "(I)Z"⟩ ∈ b_T := b_m5 (i := 185) rfl rfl
theorem wc_X7_readMarks : Jvm.Cond.code ⟨"BurntHall$Papers", "readMarks", "(LBurntHall$Tape;)I"⟩ prog_9_method_3_code 3 (Option.some Jvm.ClassFile.FieldType.int) ∈ b_T := b_m6 (i := 2) rfl rfl
theorem wi_X7_readMarks : Jvm.Cond.instanceMethod ⟨"BurntHall$Papers", "readMarks", "(LBurntHall$Tape;)I"⟩ ∈ b_T := b_m6 (i := 0) rfl rfl
theorem ws_X7_readMarks : Jvm.Cond.selects "BurntHall$Papers" ⟨"BurntHall$Papers", "readMarks", "(LBurntHall$Tape;)I"⟩ ⟨"BurntHall$Papers", "readMarks", "(LBurntHall$Tape;)I"⟩ ∈ b_T := b_m6 (i := 1) rfl rfl
theorem wc_X7_readMark : Jvm.Cond.code ⟨"BurntHall$Papers", "readMark", "(LBurntHall$Tape;)Z"⟩ prog_9_method_4_code 3 (Option.some Jvm.ClassFile.FieldType.boolean) ∈ b_T := b_m6 (i := 7) rfl rfl
theorem wi_X7_readMark : Jvm.Cond.instanceMethod ⟨"BurntHall$Papers", "readMark", "(LBurntHall$Tape;)Z"⟩ ∈ b_T := b_m6 (i := 6) rfl rfl
theorem ws_X7_readMark : Jvm.Cond.selects "BurntHall$Papers" ⟨"BurntHall$Papers", "readMark", "(LBurntHall$Tape;)Z"⟩ ⟨"BurntHall$Papers", "readMark", "(LBurntHall$Tape;)Z"⟩ ∈ b_T := b_memS (i := 28) (q := (⟨"BurntHall$Papers", "readMark", "(LBurntHall$Tape;)Z"⟩, 19)) rfl
theorem wc_X7_add : Jvm.Cond.code ⟨"BurntHall$Papers", "add", "(III)I"⟩ prog_9_method_5_code 4 (Option.some Jvm.ClassFile.FieldType.int) ∈ b_T := b_m6 (i := 14) rfl rfl
theorem wi_X7_add : Jvm.Cond.instanceMethod ⟨"BurntHall$Papers", "add", "(III)I"⟩ ∈ b_T := b_m6 (i := 12) rfl rfl
theorem ws_X7_add : Jvm.Cond.selects "BurntHall$Papers" ⟨"BurntHall$Papers", "add", "(III)I"⟩ ⟨"BurntHall$Papers", "add", "(III)I"⟩ ∈ b_T := b_m6 (i := 13) rfl rfl
theorem wc_X7_say : Jvm.Cond.code ⟨"BurntHall$Papers", "say", "(IIIIII)V"⟩ prog_9_method_6_code 7 (Option.none : Option Jvm.ClassFile.FieldType) ∈ b_T := b_m6 (i := 19) rfl rfl
theorem wi_X7_say : Jvm.Cond.instanceMethod ⟨"BurntHall$Papers", "say", "(IIIIII)V"⟩ ∈ b_T := b_m6 (i := 17) rfl rfl
theorem ws_X7_say : Jvm.Cond.selects "BurntHall$Papers" ⟨"BurntHall$Papers", "say", "(IIIIII)V"⟩ ⟨"BurntHall$Papers", "say", "(IIIIII)V"⟩ ∈ b_T := b_m6 (i := 18) rfl rfl
theorem wc_X7_saying : Jvm.Cond.code ⟨"BurntHall$Papers", "saying", "(II)I"⟩ prog_9_method_7_code 3 (Option.some Jvm.ClassFile.FieldType.int) ∈ b_T := b_m6 (i := 66) rfl rfl
theorem wi_X7_saying : Jvm.Cond.instanceMethod ⟨"BurntHall$Papers", "saying", "(II)I"⟩ ∈ b_T := b_m6 (i := 64) rfl rfl
theorem ws_X7_saying : Jvm.Cond.selects "BurntHall$Papers" ⟨"BurntHall$Papers", "saying", "(II)I"⟩ ⟨"BurntHall$Papers", "saying", "(II)I"⟩ ∈ b_T := b_m6 (i := 65) rfl rfl
theorem wc_X7_sign : Jvm.Cond.code ⟨"BurntHall$Papers", "sign", "(IIII)V"⟩ prog_9_method_8_code 5 (Option.none : Option Jvm.ClassFile.FieldType) ∈ b_T := b_m6 (i := 32) rfl rfl
theorem wi_X7_sign : Jvm.Cond.instanceMethod ⟨"BurntHall$Papers", "sign", "(IIII)V"⟩ ∈ b_T := b_m6 (i := 30) rfl rfl
theorem ws_X7_sign : Jvm.Cond.selects "BurntHall$Papers" ⟨"BurntHall$Papers", "sign", "(IIII)V"⟩ ⟨"BurntHall$Papers", "sign", "(IIII)V"⟩ ∈ b_T := b_m6 (i := 31) rfl rfl
theorem wc_X7_mark : Jvm.Cond.code ⟨"BurntHall$Papers", "mark", "(IJ)I"⟩ prog_9_method_9_code 5 (Option.some Jvm.ClassFile.FieldType.int) ∈ b_T := b_m5 (i := 200) rfl rfl
theorem wi_X7_mark : Jvm.Cond.instanceMethod ⟨"BurntHall$Papers", "mark", "(IJ)I"⟩ ∈ b_T := b_m5 (i := 198) rfl rfl
theorem ws_X7_mark : Jvm.Cond.selects "BurntHall$Papers" ⟨"BurntHall$Papers", "mark", "(IJ)I"⟩ ⟨"BurntHall$Papers", "mark", "(IJ)I"⟩ ∈ b_T := b_m5 (i := 199) rfl rfl
theorem wc_X7_weigh : Jvm.Cond.code ⟨"BurntHall$Papers", "weigh", "(ILBurntHall$Acts;)V"⟩ prog_9_method_10_code 4 (Option.none : Option Jvm.ClassFile.FieldType) ∈ b_T := b_m6 (i := 23) rfl rfl
theorem wi_X7_weigh : Jvm.Cond.instanceMethod ⟨"BurntHall$Papers", "weigh", "(ILBurntHall$Acts;)V"⟩ ∈ b_T := b_m6 (i := 21) rfl rfl
theorem ws_X7_weigh : Jvm.Cond.selects "BurntHall$Papers" ⟨"BurntHall$Papers", "weigh", "(ILBurntHall$Acts;)V"⟩ ⟨"BurntHall$Papers", "weigh", "(ILBurntHall$Acts;)V"⟩ ∈ b_T := b_m6 (i := 22) rfl rfl
theorem wc_X7_weighAll : Jvm.Cond.code ⟨"BurntHall$Papers", "weighAll", "(LBurntHall$Acts;)V"⟩ prog_9_method_11_code 3 (Option.none : Option Jvm.ClassFile.FieldType) ∈ b_T := b_m5 (i := 178) rfl rfl
theorem wi_X7_weighAll : Jvm.Cond.instanceMethod ⟨"BurntHall$Papers", "weighAll", "(LBurntHall$Acts;)V"⟩ ∈ b_T := b_m5 (i := 176) rfl rfl
theorem ws_X7_weighAll : Jvm.Cond.selects "BurntHall$Papers" ⟨"BurntHall$Papers", "weighAll", "(LBurntHall$Acts;)V"⟩ ⟨"BurntHall$Papers", "weighAll", "(LBurntHall$Acts;)V"⟩ ∈ b_T := b_m5 (i := 177) rfl rfl
theorem wc_X7_weighBy : Jvm.Cond.code ⟨"BurntHall$Papers", "weighBy", "(IILBurntHall$Acts;)V"⟩ prog_9_method_12_code 4 (Option.none : Option Jvm.ClassFile.FieldType) ∈ b_T := b_m5 (i := 182) rfl rfl
theorem wi_X7_weighBy : Jvm.Cond.instanceMethod ⟨"BurntHall$Papers", "weighBy", "(IILBurntHall$Acts;)V"⟩ ∈ b_T := b_m5 (i := 181) rfl rfl
theorem ws_X7_weighBy : Jvm.Cond.selects "BurntHall$Papers" ⟨"BurntHall$Papers", "weighBy", "(IILBurntHall$Acts;)V"⟩ ⟨"BurntHall$Papers", "weighBy", "(IILBurntHall$Acts;)V"⟩ ∈ b_T := b_memS (i := 26) (q := (⟨"BurntHall$Papers", "weighBy", "(IILBurntHall$Acts;)V"⟩, 19)) rfl
theorem wc_X7_weightBy : Jvm.Cond.code ⟨"BurntHall$Papers", "weightBy", "(II)I"⟩ prog_9_method_13_code 3 (Option.some Jvm.ClassFile.FieldType.int) ∈ b_T := b_m6 (i := 45) rfl rfl
theorem wi_X7_weightBy : Jvm.Cond.instanceMethod ⟨"BurntHall$Papers", "weightBy", "(II)I"⟩ ∈ b_T := b_m6 (i := 43) rfl rfl
theorem ws_X7_weightBy : Jvm.Cond.selects "BurntHall$Papers" ⟨"BurntHall$Papers", "weightBy", "(II)I"⟩ ⟨"BurntHall$Papers", "weightBy", "(II)I"⟩ ∈ b_T := b_m6 (i := 44) rfl rfl
theorem wc_X8_init : Jvm.Cond.code ⟨"BurntHall$People", "<init>", "()V"⟩ prog_10_method_1_code 1 (Option.none : Option Jvm.ClassFile.FieldType) ∈ b_T := b_m1 (i := 74) rfl rfl
theorem wi_X8_init : Jvm.Cond.instanceMethod ⟨"BurntHall$People", "<init>", "()V"⟩ ∈ b_T := b_m1 (i := 73) rfl rfl
theorem wn_8 : Jvm.Cond.initialized "BurntHall$People" ∈ b_T := b_m1 (i := 3) rfl rfl
theorem wc_X8_has : Jvm.Cond.code ⟨"BurntHall$People", "has", "(I)Z"⟩ prog_10_method_2_code 2 (Option.some Jvm.ClassFile.FieldType.boolean) ∈ b_T := b_m4 (i := 26) rfl rfl
theorem wi_X8_has : Jvm.Cond.instanceMethod ⟨"BurntHall$People", "has", "(I)Z"⟩ ∈ b_T := b_m4 (i := 24) rfl rfl
theorem ws_X8_has : Jvm.Cond.selects "BurntHall$People" ⟨"BurntHall$People", "has", "(I)Z"⟩ ⟨"BurntHall$People", "has", "(I)Z"⟩ ∈ b_T := b_m4 (i := 25) rfl rfl
theorem wc_X8_add : Jvm.Cond.code ⟨"BurntHall$People", "add", "(I)I"⟩ prog_10_method_3_code 2 (Option.some Jvm.ClassFile.FieldType.int) ∈ b_T := b_m4 (i := 18) rfl rfl
theorem wi_X8_add : Jvm.Cond.instanceMethod ⟨"BurntHall$People", "add", "(I)I"⟩ ∈ b_T := b_m4 (i := 16) rfl rfl
theorem ws_X8_add : Jvm.Cond.selects "BurntHall$People" ⟨"BurntHall$People", "add", "(I)I"⟩ ⟨"BurntHall$People", "add", "(I)I"⟩ ∈ b_T := b_m4 (i := 17) rfl rfl
theorem wc_X8_tell : Jvm.Cond.code ⟨"BurntHall$People", "tell", "(IIII)I"⟩ prog_10_method_4_code 5 (Option.some Jvm.ClassFile.FieldType.int) ∈ b_T := b_m4 (i := 34) rfl rfl
theorem wi_X8_tell : Jvm.Cond.instanceMethod ⟨"BurntHall$People", "tell", "(IIII)I"⟩ ∈ b_T := b_m4 (i := 32) rfl rfl
theorem ws_X8_tell : Jvm.Cond.selects "BurntHall$People" ⟨"BurntHall$People", "tell", "(IIII)I"⟩ ⟨"BurntHall$People", "tell", "(IIII)I"⟩ ∈ b_T := b_m4 (i := 33) rfl rfl
theorem wc_X8_know : Jvm.Cond.code ⟨"BurntHall$People", "know", "(I)V"⟩ prog_10_method_5_code 3 (Option.none : Option Jvm.ClassFile.FieldType) ∈ b_T := b_m4 (i := 58) rfl rfl
theorem wi_X8_know : Jvm.Cond.instanceMethod ⟨"BurntHall$People", "know", "(I)V"⟩ ∈ b_T := b_m4 (i := 56) rfl rfl
theorem ws_X8_know : Jvm.Cond.selects "BurntHall$People" ⟨"BurntHall$People", "know", "(I)V"⟩ ⟨"BurntHall$People", "know", "(I)V"⟩ ∈ b_T := b_m4 (i := 57) rfl rfl
theorem wc_X8_unite : Jvm.Cond.code ⟨"BurntHall$People", "unite", "(II)V"⟩ prog_10_method_6_code 6 (Option.none : Option Jvm.ClassFile.FieldType) ∈ b_T := b_m4 (i := 62) rfl rfl
theorem wi_X8_unite : Jvm.Cond.instanceMethod ⟨"BurntHall$People", "unite", "(II)V"⟩ ∈ b_T := b_m4 (i := 61) rfl rfl
theorem ws_X8_unite : Jvm.Cond.selects "BurntHall$People" ⟨"BurntHall$People", "unite", "(II)V"⟩ ⟨"BurntHall$People", "unite", "(II)V"⟩ ∈ b_T := b_memS (i := 1) (q := (⟨"BurntHall$People", "unite", "(II)V"⟩, 14)) rfl
theorem wc_X8_learn : Jvm.Cond.code ⟨"BurntHall$People", "learn", "(I)V"⟩ prog_10_method_7_code 4 (Option.none : Option Jvm.ClassFile.FieldType) ∈ b_T := b_m4 (i := 72) rfl rfl
theorem wi_X8_learn : Jvm.Cond.instanceMethod ⟨"BurntHall$People", "learn", "(I)V"⟩ ∈ b_T := b_m4 (i := 71) rfl rfl
theorem ws_X8_learn : Jvm.Cond.selects "BurntHall$People" ⟨"BurntHall$People", "learn", "(I)V"⟩ ⟨"BurntHall$People", "learn", "(I)V"⟩ ∈ b_T := b_memS (i := 2) (q := (⟨"BurntHall$People", "learn", "(I)V"⟩, 14)) rfl
theorem wc_X8_groupOf : Jvm.Cond.code ⟨"BurntHall$People", "groupOf", "(I)I"⟩ prog_10_method_8_code 2 (Option.some Jvm.ClassFile.FieldType.int) ∈ b_T := b_m4 (i := 85) rfl rfl
theorem wi_X8_groupOf : Jvm.Cond.instanceMethod ⟨"BurntHall$People", "groupOf", "(I)I"⟩ ∈ b_T := b_m4 (i := 83) rfl rfl
theorem ws_X8_groupOf : Jvm.Cond.selects "BurntHall$People" ⟨"BurntHall$People", "groupOf", "(I)I"⟩ ⟨"BurntHall$People", "groupOf", "(I)I"⟩ ∈ b_T := b_m4 (i := 84) rfl rfl
theorem wc_X8_deathOf : Jvm.Cond.code ⟨"BurntHall$People", "deathOf", "(I)I"⟩ prog_10_method_9_code 2 (Option.some Jvm.ClassFile.FieldType.int) ∈ b_T := b_m4 (i := 76) rfl rfl
theorem wi_X8_deathOf : Jvm.Cond.instanceMethod ⟨"BurntHall$People", "deathOf", "(I)I"⟩ ∈ b_T := b_m4 (i := 74) rfl rfl
theorem ws_X8_deathOf : Jvm.Cond.selects "BurntHall$People" ⟨"BurntHall$People", "deathOf", "(I)I"⟩ ⟨"BurntHall$People", "deathOf", "(I)I"⟩ ∈ b_T := b_m4 (i := 75) rfl rfl
theorem wc_X8_isDeadBy : Jvm.Cond.code ⟨"BurntHall$People", "isDeadBy", "(II)Z"⟩ prog_10_method_10_code 3 (Option.some Jvm.ClassFile.FieldType.boolean) ∈ b_T := b_m6 (i := 62) rfl rfl
theorem wi_X8_isDeadBy : Jvm.Cond.instanceMethod ⟨"BurntHall$People", "isDeadBy", "(II)Z"⟩ ∈ b_T := b_m6 (i := 60) rfl rfl
theorem ws_X8_isDeadBy : Jvm.Cond.selects "BurntHall$People" ⟨"BurntHall$People", "isDeadBy", "(II)Z"⟩ ⟨"BurntHall$People", "isDeadBy", "(II)Z"⟩ ∈ b_T := b_m6 (i := 61) rfl rfl
theorem wc_X8_isChild : Jvm.Cond.code ⟨"BurntHall$People", "isChild", "(II)Z"⟩ prog_10_method_11_code 5 (Option.some Jvm.ClassFile.FieldType.boolean) ∈ b_T := b_m6 (i := 168) rfl rfl
theorem wi_X8_isChild : Jvm.Cond.instanceMethod ⟨"BurntHall$People", "isChild", "(II)Z"⟩ ∈ b_T := b_m6 (i := 166) rfl rfl
theorem ws_X8_isChild : Jvm.Cond.selects "BurntHall$People" ⟨"BurntHall$People", "isChild", "(II)Z"⟩ ⟨"BurntHall$People", "isChild", "(II)Z"⟩ ∈ b_T := b_m6 (i := 167) rfl rfl
theorem wc_X8_quarrels : Jvm.Cond.code ⟨"BurntHall$People", "quarrels", "(I)I"⟩ prog_10_method_12_code 4 (Option.some Jvm.ClassFile.FieldType.int) ∈ b_T := b_m4 (i := 93) rfl rfl
theorem wi_X8_quarrels : Jvm.Cond.instanceMethod ⟨"BurntHall$People", "quarrels", "(I)I"⟩ ∈ b_T := b_m4 (i := 91) rfl rfl
theorem ws_X8_quarrels : Jvm.Cond.selects "BurntHall$People" ⟨"BurntHall$People", "quarrels", "(I)I"⟩ ⟨"BurntHall$People", "quarrels", "(I)I"⟩ ∈ b_T := b_m4 (i := 92) rfl rfl
theorem wc_X9_init : Jvm.Cond.code ⟨"BurntHall$Places", "<init>", "(LBurntHall$Acts;LBurntHall$Evidence;LBurntHall$Chains;LBurntHall$Claims;)V"⟩ prog_11_method_1_code 5 (Option.none : Option Jvm.ClassFile.FieldType) ∈ b_T := b_m3 (i := 146) rfl rfl
theorem wi_X9_init : Jvm.Cond.instanceMethod ⟨"BurntHall$Places", "<init>", "(LBurntHall$Acts;LBurntHall$Evidence;LBurntHall$Chains;LBurntHall$Claims;)V"⟩ ∈ b_T := b_m3 (i := 145) rfl rfl
theorem wn_9 : Jvm.Cond.initialized "BurntHall$Places" ∈ b_T := b_m1 (i := 17) rfl rfl
theorem wc_X9_add : Jvm.Cond.code ⟨"BurntHall$Places", "add", "(III)I"⟩ prog_11_method_2_code 4 (Option.some Jvm.ClassFile.FieldType.int) ∈ b_T := b_m7 (i := 189) rfl rfl
theorem wi_X9_add : Jvm.Cond.instanceMethod ⟨"BurntHall$Places", "add", "(III)I"⟩ ∈ b_T := b_m7 (i := 187) rfl rfl
theorem ws_X9_add : Jvm.Cond.selects "BurntHall$Places" ⟨"BurntHall$Places", "add", "(III)I"⟩ ⟨"BurntHall$Places", "add", "(III)I"⟩ ∈ b_T := b_m7 (i := 188) rfl rfl
theorem wc_X9_recall : Jvm.Cond.code ⟨"BurntHall$Places", "recall", "(I)I"⟩ prog_11_method_3_code 2 (Option.some Jvm.ClassFile.FieldType.int) ∈ b_T := b_m7 (i := 238) rfl rfl
theorem wi_X9_recall : Jvm.Cond.instanceMethod ⟨"BurntHall$Places", "recall", "(I)I"⟩ ∈ b_T := b_m7 (i := 236) rfl rfl
theorem ws_X9_recall : Jvm.Cond.selects "BurntHall$Places" ⟨"BurntHall$Places", "recall", "(I)I"⟩ ⟨"BurntHall$Places", "recall", "(I)I"⟩ ∈ b_T := b_m7 (i := 237) rfl rfl
theorem wc_X9_gather : Jvm.Cond.code ⟨"BurntHall$Places", "gather", "(I)V"⟩ prog_11_method_4_code 4 (Option.none : Option Jvm.ClassFile.FieldType) ∈ b_T := b_m7 (i := 201) rfl rfl
theorem wi_X9_gather : Jvm.Cond.instanceMethod ⟨"BurntHall$Places", "gather", "(I)V"⟩ ∈ b_T := b_m7 (i := 200) rfl rfl
theorem ws_X9_gather : Jvm.Cond.selects "BurntHall$Places" ⟨"BurntHall$Places", "gather", "(I)V"⟩ ⟨"BurntHall$Places", "gather", "(I)V"⟩ ∈ b_T := b_memS (i := 63) (q := (⟨"BurntHall$Places", "gather", "(I)V"⟩, 16)) rfl
theorem wc_X9_addCase : Jvm.Cond.code ⟨"BurntHall$Places", "addCase", "(LBurntHall$Act;)Z"⟩ prog_11_method_5_code 8 (Option.some Jvm.ClassFile.FieldType.boolean) ∈ b_T := b_m7 (i := 209) rfl rfl
theorem wi_X9_addCase : Jvm.Cond.instanceMethod ⟨"BurntHall$Places", "addCase", "(LBurntHall$Act;)Z"⟩ ∈ b_T := b_m7 (i := 208) rfl rfl
theorem ws_X9_addCase : Jvm.Cond.selects "BurntHall$Places" ⟨"BurntHall$Places", "addCase", "(LBurntHall$Act;)Z"⟩ ⟨"BurntHall$Places", "addCase", "(LBurntHall$Act;)Z"⟩ ∈ b_T := b_memS (i := 64) (q := (⟨"BurntHall$Places", "addCase", "(LBurntHall$Act;)Z"⟩, 16)) rfl
theorem wc_X9_settled : Jvm.Cond.code ⟨"BurntHall$Places", "settled", "()I"⟩ prog_11_method_6_code 6 (Option.some Jvm.ClassFile.FieldType.int) ∈ b_T := b_m7 (i := 218) rfl rfl
theorem wi_X9_settled : Jvm.Cond.instanceMethod ⟨"BurntHall$Places", "settled", "()I"⟩ ∈ b_T := b_m7 (i := 217) rfl rfl
theorem ws_X9_settled : Jvm.Cond.selects "BurntHall$Places" ⟨"BurntHall$Places", "settled", "()I"⟩ ⟨"BurntHall$Places", "settled", "()I"⟩ ∈ b_T := b_memS (i := 65) (q := (⟨"BurntHall$Places", "settled", "()I"⟩, 16)) rfl
theorem wc_X9_settledBy : Jvm.Cond.code ⟨"BurntHall$Places", "settledBy", "(II)I"⟩ prog_11_method_7_code 4 (Option.some Jvm.ClassFile.FieldType.int) ∈ b_T := b_m7 (i := 197) rfl rfl
