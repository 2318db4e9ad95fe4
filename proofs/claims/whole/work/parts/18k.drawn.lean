abbrev xX12_act : bX := ("BurntHallModel", prog_14_method_67_code, 4, (Option.some Jvm.ClassFile.FieldType.int), b_rm 30 0 0, 0, "act")
abbrev yX12_act : MethodName := ⟨"BurntHallModel", "act", "()I"⟩
theorem dX12_act_0 : decode prog_14_method_67_code 0 = .ok (.aload_n 0, 1) := by decide +kernel
theorem dX12_act_1 : decode prog_14_method_67_code 1 = .ok (.invokevirtual 395, 3) := by decide +kernel
theorem dX12_act_4 : decode prog_14_method_67_code 4 = .ok (.aload_n 0, 1) := by decide +kernel
theorem dX12_act_5 : decode prog_14_method_67_code 5 = .ok (.iconst 0, 1) := by decide +kernel
theorem dX12_act_6 : decode prog_14_method_67_code 6 = .ok (.putfield 341, 3) := by decide +kernel
theorem dX12_act_9 : decode prog_14_method_67_code 9 = .ok (.aload_n 0, 1) := by decide +kernel
theorem dX12_act_10 : decode prog_14_method_67_code 10 = .ok (.iconst (-1), 1) := by decide +kernel
theorem dX12_act_11 : decode prog_14_method_67_code 11 = .ok (.putfield 13, 3) := by decide +kernel
theorem dX12_act_14 : decode prog_14_method_67_code 14 = .ok (.aload_n 0, 1) := by decide +kernel
theorem dX12_act_15 : decode prog_14_method_67_code 15 = .ok (.iconst 0, 1) := by decide +kernel
theorem dX12_act_16 : decode prog_14_method_67_code 16 = .ok (.putfield 481, 3) := by decide +kernel
theorem dX12_act_19 : decode prog_14_method_67_code 19 = .ok (.aload_n 0, 1) := by decide +kernel
theorem dX12_act_20 : decode prog_14_method_67_code 20 = .ok (.iconst 0, 1) := by decide +kernel
theorem dX12_act_21 : decode prog_14_method_67_code 21 = .ok (.putfield 475, 3) := by decide +kernel
theorem dX12_act_24 : decode prog_14_method_67_code 24 = .ok (.iconst 0, 1) := by decide +kernel
theorem dX12_act_25 : decode prog_14_method_67_code 25 = .ok (.istore_n 1, 1) := by decide +kernel
theorem dX12_act_26 : decode prog_14_method_67_code 26 = .ok (.iload_n 1, 1) := by decide +kernel
theorem dX12_act_27 : decode prog_14_method_67_code 27 = .ok (.bipush 11, 2) := by decide +kernel
theorem dX12_act_29 : decode prog_14_method_67_code 29 = .ok (.if_icmp .ge 22, 3) := by decide +kernel
theorem dX12_act_32 : decode prog_14_method_67_code 32 = .ok (.aload_n 0, 1) := by decide +kernel
theorem dX12_act_33 : decode prog_14_method_67_code 33 = .ok (.getfield 79, 3) := by decide +kernel
theorem dX12_act_36 : decode prog_14_method_67_code 36 = .ok (.bipush 88, 2) := by decide +kernel
theorem dX12_act_38 : decode prog_14_method_67_code 38 = .ok (.iload_n 1, 1) := by decide +kernel
theorem dX12_act_39 : decode prog_14_method_67_code 39 = .ok (.iadd, 1) := by decide +kernel
theorem dX12_act_40 : decode prog_14_method_67_code 40 = .ok (.iload_n 1, 1) := by decide +kernel
theorem dX12_act_41 : decode prog_14_method_67_code 41 = .ok (.invokestatic 275, 3) := by decide +kernel
theorem dX12_act_44 : decode prog_14_method_67_code 44 = .ok (.iastore, 1) := by decide +kernel
theorem dX12_act_45 : decode prog_14_method_67_code 45 = .ok (.iinc 1 1, 3) := by decide +kernel
theorem dX12_act_48 : decode prog_14_method_67_code 48 = .ok (.goto (-22), 3) := by decide +kernel
theorem dX12_act_51 : decode prog_14_method_67_code 51 = .ok (.aload_n 0, 1) := by decide +kernel
theorem dX12_act_52 : decode prog_14_method_67_code 52 = .ok (.getfield 316, 3) := by decide +kernel
theorem dX12_act_55 : decode prog_14_method_67_code 55 = .ok (.bipush 8, 2) := by decide +kernel
theorem dX12_act_57 : decode prog_14_method_67_code 57 = .ok (.if_icmp .eq 12, 3) := by decide +kernel
theorem dX12_act_60 : decode prog_14_method_67_code 60 = .ok (.aload_n 0, 1) := by decide +kernel
theorem dX12_act_61 : decode prog_14_method_67_code 61 = .ok (.invokevirtual 484, 3) := by decide +kernel
theorem dX12_act_64 : decode prog_14_method_67_code 64 = .ok (.ifCond .ne (-13), 3) := by decide +kernel
theorem dX12_act_67 : decode prog_14_method_67_code 67 = .ok (.iconst (-1), 1) := by decide +kernel
theorem dX12_act_68 : decode prog_14_method_67_code 68 = .ok (.ireturn, 1) := by decide +kernel
theorem dX12_act_69 : decode prog_14_method_67_code 69 = .ok (.aload_n 0, 1) := by decide +kernel
theorem dX12_act_70 : decode prog_14_method_67_code 70 = .ok (.getfield 487, 3) := by decide +kernel
theorem dX12_act_73 : decode prog_14_method_67_code 73 = .ok (.bipush 8, 2) := by decide +kernel
theorem dX12_act_75 : decode prog_14_method_67_code 75 = .ok (.if_icmp .ne 6, 3) := by decide +kernel
theorem dX12_act_78 : decode prog_14_method_67_code 78 = .ok (.bipush (-3), 2) := by decide +kernel
theorem dX12_act_80 : decode prog_14_method_67_code 80 = .ok (.ireturn, 1) := by decide +kernel
theorem dX12_act_81 : decode prog_14_method_67_code 81 = .ok (.aload_n 0, 1) := by decide +kernel
theorem dX12_act_82 : decode prog_14_method_67_code 82 = .ok (.getfield 76, 3) := by decide +kernel
theorem dX12_act_85 : decode prog_14_method_67_code 85 = .ok (.aload_n 0, 1) := by decide +kernel
theorem dX12_act_86 : decode prog_14_method_67_code 86 = .ok (.getfield 487, 3) := by decide +kernel
theorem dX12_act_89 : decode prog_14_method_67_code 89 = .ok (.aload_n 0, 1) := by decide +kernel
theorem dX12_act_90 : decode prog_14_method_67_code 90 = .ok (.getfield 344, 3) := by decide +kernel
theorem dX12_act_93 : decode prog_14_method_67_code 93 = .ok (.iastore, 1) := by decide +kernel
theorem dX12_act_94 : decode prog_14_method_67_code 94 = .ok (.iconst 0, 1) := by decide +kernel
theorem dX12_act_95 : decode prog_14_method_67_code 95 = .ok (.istore_n 1, 1) := by decide +kernel
theorem dX12_act_96 : decode prog_14_method_67_code 96 = .ok (.iload_n 1, 1) := by decide +kernel
theorem dX12_act_97 : decode prog_14_method_67_code 97 = .ok (.bipush 11, 2) := by decide +kernel
theorem dX12_act_99 : decode prog_14_method_67_code 99 = .ok (.if_icmp .ge 32, 3) := by decide +kernel
theorem dX12_act_102 : decode prog_14_method_67_code 102 = .ok (.aload_n 0, 1) := by decide +kernel
theorem dX12_act_103 : decode prog_14_method_67_code 103 = .ok (.getfield 79, 3) := by decide +kernel
theorem dX12_act_106 : decode prog_14_method_67_code 106 = .ok (.bipush 11, 2) := by decide +kernel
theorem dX12_act_108 : decode prog_14_method_67_code 108 = .ok (.aload_n 0, 1) := by decide +kernel
theorem dX12_act_109 : decode prog_14_method_67_code 109 = .ok (.getfield 487, 3) := by decide +kernel
theorem dX12_act_112 : decode prog_14_method_67_code 112 = .ok (.imul, 1) := by decide +kernel
theorem dX12_act_113 : decode prog_14_method_67_code 113 = .ok (.iload_n 1, 1) := by decide +kernel
theorem dX12_act_114 : decode prog_14_method_67_code 114 = .ok (.iadd, 1) := by decide +kernel
theorem dX12_act_115 : decode prog_14_method_67_code 115 = .ok (.aload_n 0, 1) := by decide +kernel
theorem dX12_act_116 : decode prog_14_method_67_code 116 = .ok (.getfield 79, 3) := by decide +kernel
theorem dX12_act_119 : decode prog_14_method_67_code 119 = .ok (.bipush 88, 2) := by decide +kernel
theorem dX12_act_121 : decode prog_14_method_67_code 121 = .ok (.iload_n 1, 1) := by decide +kernel
theorem dX12_act_122 : decode prog_14_method_67_code 122 = .ok (.iadd, 1) := by decide +kernel
theorem dX12_act_123 : decode prog_14_method_67_code 123 = .ok (.iaload, 1) := by decide +kernel
theorem dX12_act_124 : decode prog_14_method_67_code 124 = .ok (.iastore, 1) := by decide +kernel
theorem dX12_act_125 : decode prog_14_method_67_code 125 = .ok (.iinc 1 1, 3) := by decide +kernel
theorem dX12_act_128 : decode prog_14_method_67_code 128 = .ok (.goto (-32), 3) := by decide +kernel
theorem dX12_act_131 : decode prog_14_method_67_code 131 = .ok (.iconst 0, 1) := by decide +kernel
theorem dX12_act_132 : decode prog_14_method_67_code 132 = .ok (.istore_n 1, 1) := by decide +kernel
theorem dX12_act_133 : decode prog_14_method_67_code 133 = .ok (.iload_n 1, 1) := by decide +kernel
theorem dX12_act_134 : decode prog_14_method_67_code 134 = .ok (.bipush 24, 2) := by decide +kernel
theorem dX12_act_136 : decode prog_14_method_67_code 136 = .ok (.if_icmp .ge 73, 3) := by decide +kernel
theorem dX12_act_139 : decode prog_14_method_67_code 139 = .ok (.bipush 24, 2) := by decide +kernel
theorem dX12_act_141 : decode prog_14_method_67_code 141 = .ok (.aload_n 0, 1) := by decide +kernel
theorem dX12_act_142 : decode prog_14_method_67_code 142 = .ok (.getfield 487, 3) := by decide +kernel
theorem dX12_act_145 : decode prog_14_method_67_code 145 = .ok (.imul, 1) := by decide +kernel
theorem dX12_act_146 : decode prog_14_method_67_code 146 = .ok (.iload_n 1, 1) := by decide +kernel
theorem dX12_act_147 : decode prog_14_method_67_code 147 = .ok (.iadd, 1) := by decide +kernel
theorem dX12_act_148 : decode prog_14_method_67_code 148 = .ok (.istore_n 2, 1) := by decide +kernel
theorem dX12_act_149 : decode prog_14_method_67_code 149 = .ok (.sipush 192, 3) := by decide +kernel
theorem dX12_act_152 : decode prog_14_method_67_code 152 = .ok (.iload_n 1, 1) := by decide +kernel
theorem dX12_act_153 : decode prog_14_method_67_code 153 = .ok (.iadd, 1) := by decide +kernel
theorem dX12_act_154 : decode prog_14_method_67_code 154 = .ok (.istore_n 3, 1) := by decide +kernel
theorem dX12_act_155 : decode prog_14_method_67_code 155 = .ok (.aload_n 0, 1) := by decide +kernel
theorem dX12_act_156 : decode prog_14_method_67_code 156 = .ok (.getfield 82, 3) := by decide +kernel
theorem dX12_act_159 : decode prog_14_method_67_code 159 = .ok (.iload_n 2, 1) := by decide +kernel
theorem dX12_act_160 : decode prog_14_method_67_code 160 = .ok (.aload_n 0, 1) := by decide +kernel
theorem dX12_act_161 : decode prog_14_method_67_code 161 = .ok (.getfield 82, 3) := by decide +kernel
theorem dX12_act_164 : decode prog_14_method_67_code 164 = .ok (.iload_n 3, 1) := by decide +kernel
theorem dX12_act_165 : decode prog_14_method_67_code 165 = .ok (.iaload, 1) := by decide +kernel
theorem dX12_act_166 : decode prog_14_method_67_code 166 = .ok (.iastore, 1) := by decide +kernel
theorem dX12_act_167 : decode prog_14_method_67_code 167 = .ok (.aload_n 0, 1) := by decide +kernel
theorem dX12_act_168 : decode prog_14_method_67_code 168 = .ok (.getfield 85, 3) := by decide +kernel
theorem dX12_act_171 : decode prog_14_method_67_code 171 = .ok (.iload_n 2, 1) := by decide +kernel
theorem dX12_act_172 : decode prog_14_method_67_code 172 = .ok (.aload_n 0, 1) := by decide +kernel
theorem dX12_act_173 : decode prog_14_method_67_code 173 = .ok (.getfield 85, 3) := by decide +kernel
theorem dX12_act_176 : decode prog_14_method_67_code 176 = .ok (.iload_n 3, 1) := by decide +kernel
theorem dX12_act_177 : decode prog_14_method_67_code 177 = .ok (.iaload, 1) := by decide +kernel
theorem dX12_act_178 : decode prog_14_method_67_code 178 = .ok (.iastore, 1) := by decide +kernel
theorem dX12_act_179 : decode prog_14_method_67_code 179 = .ok (.aload_n 0, 1) := by decide +kernel
theorem dX12_act_180 : decode prog_14_method_67_code 180 = .ok (.getfield 88, 3) := by decide +kernel
theorem dX12_act_183 : decode prog_14_method_67_code 183 = .ok (.iload_n 2, 1) := by decide +kernel
theorem dX12_act_184 : decode prog_14_method_67_code 184 = .ok (.aload_n 0, 1) := by decide +kernel
theorem dX12_act_185 : decode prog_14_method_67_code 185 = .ok (.getfield 88, 3) := by decide +kernel
theorem dX12_act_188 : decode prog_14_method_67_code 188 = .ok (.iload_n 3, 1) := by decide +kernel
theorem dX12_act_189 : decode prog_14_method_67_code 189 = .ok (.iaload, 1) := by decide +kernel
theorem dX12_act_190 : decode prog_14_method_67_code 190 = .ok (.iastore, 1) := by decide +kernel
theorem dX12_act_191 : decode prog_14_method_67_code 191 = .ok (.aload_n 0, 1) := by decide +kernel
theorem dX12_act_192 : decode prog_14_method_67_code 192 = .ok (.getfield 91, 3) := by decide +kernel
theorem dX12_act_195 : decode prog_14_method_67_code 195 = .ok (.iload_n 2, 1) := by decide +kernel
theorem dX12_act_196 : decode prog_14_method_67_code 196 = .ok (.aload_n 0, 1) := by decide +kernel
theorem dX12_act_197 : decode prog_14_method_67_code 197 = .ok (.getfield 91, 3) := by decide +kernel
theorem dX12_act_200 : decode prog_14_method_67_code 200 = .ok (.iload_n 3, 1) := by decide +kernel
theorem dX12_act_201 : decode prog_14_method_67_code 201 = .ok (.iaload, 1) := by decide +kernel
theorem dX12_act_202 : decode prog_14_method_67_code 202 = .ok (.iastore, 1) := by decide +kernel
theorem dX12_act_203 : decode prog_14_method_67_code 203 = .ok (.iinc 1 1, 3) := by decide +kernel
theorem dX12_act_206 : decode prog_14_method_67_code 206 = .ok (.goto (-73), 3) := by decide +kernel
theorem dX12_act_209 : decode prog_14_method_67_code 209 = .ok (.iconst 0, 1) := by decide +kernel
theorem dX12_act_210 : decode prog_14_method_67_code 210 = .ok (.istore_n 1, 1) := by decide +kernel
theorem dX12_act_211 : decode prog_14_method_67_code 211 = .ok (.iload_n 1, 1) := by decide +kernel
theorem dX12_act_212 : decode prog_14_method_67_code 212 = .ok (.sipush 2400, 3) := by decide +kernel
theorem dX12_act_215 : decode prog_14_method_67_code 215 = .ok (.if_icmp .ge 34, 3) := by decide +kernel
theorem dX12_act_218 : decode prog_14_method_67_code 218 = .ok (.aload_n 0, 1) := by decide +kernel
theorem dX12_act_219 : decode prog_14_method_67_code 219 = .ok (.getfield 94, 3) := by decide +kernel
theorem dX12_act_222 : decode prog_14_method_67_code 222 = .ok (.sipush 2400, 3) := by decide +kernel
theorem dX12_act_225 : decode prog_14_method_67_code 225 = .ok (.aload_n 0, 1) := by decide +kernel
theorem dX12_act_226 : decode prog_14_method_67_code 226 = .ok (.getfield 487, 3) := by decide +kernel
theorem dX12_act_229 : decode prog_14_method_67_code 229 = .ok (.imul, 1) := by decide +kernel
theorem dX12_act_230 : decode prog_14_method_67_code 230 = .ok (.iload_n 1, 1) := by decide +kernel
theorem dX12_act_231 : decode prog_14_method_67_code 231 = .ok (.iadd, 1) := by decide +kernel
theorem dX12_act_232 : decode prog_14_method_67_code 232 = .ok (.aload_n 0, 1) := by decide +kernel
theorem dX12_act_233 : decode prog_14_method_67_code 233 = .ok (.getfield 94, 3) := by decide +kernel
theorem dX12_act_236 : decode prog_14_method_67_code 236 = .ok (.sipush 19200, 3) := by decide +kernel
theorem dX12_act_239 : decode prog_14_method_67_code 239 = .ok (.iload_n 1, 1) := by decide +kernel
theorem dX12_act_240 : decode prog_14_method_67_code 240 = .ok (.iadd, 1) := by decide +kernel
theorem dX12_act_241 : decode prog_14_method_67_code 241 = .ok (.iaload, 1) := by decide +kernel
theorem dX12_act_242 : decode prog_14_method_67_code 242 = .ok (.iastore, 1) := by decide +kernel
theorem dX12_act_243 : decode prog_14_method_67_code 243 = .ok (.iinc 1 1, 3) := by decide +kernel
theorem dX12_act_246 : decode prog_14_method_67_code 246 = .ok (.goto (-35), 3) := by decide +kernel
theorem dX12_act_249 : decode prog_14_method_67_code 249 = .ok (.iconst 0, 1) := by decide +kernel
theorem dX12_act_250 : decode prog_14_method_67_code 250 = .ok (.istore_n 1, 1) := by decide +kernel
theorem dX12_act_251 : decode prog_14_method_67_code 251 = .ok (.iload_n 1, 1) := by decide +kernel
theorem dX12_act_252 : decode prog_14_method_67_code 252 = .ok (.sipush 288, 3) := by decide +kernel
theorem dX12_act_255 : decode prog_14_method_67_code 255 = .ok (.if_icmp .ge 84, 3) := by decide +kernel
theorem dX12_act_258 : decode prog_14_method_67_code 258 = .ok (.aload_n 0, 1) := by decide +kernel
theorem dX12_act_259 : decode prog_14_method_67_code 259 = .ok (.getfield 97, 3) := by decide +kernel
theorem dX12_act_262 : decode prog_14_method_67_code 262 = .ok (.sipush 288, 3) := by decide +kernel
theorem dX12_act_265 : decode prog_14_method_67_code 265 = .ok (.aload_n 0, 1) := by decide +kernel
theorem dX12_act_266 : decode prog_14_method_67_code 266 = .ok (.getfield 487, 3) := by decide +kernel
theorem dX12_act_269 : decode prog_14_method_67_code 269 = .ok (.imul, 1) := by decide +kernel
theorem dX12_act_270 : decode prog_14_method_67_code 270 = .ok (.iload_n 1, 1) := by decide +kernel
theorem dX12_act_271 : decode prog_14_method_67_code 271 = .ok (.iadd, 1) := by decide +kernel
theorem dX12_act_272 : decode prog_14_method_67_code 272 = .ok (.aload_n 0, 1) := by decide +kernel
theorem dX12_act_273 : decode prog_14_method_67_code 273 = .ok (.getfield 97, 3) := by decide +kernel
theorem dX12_act_276 : decode prog_14_method_67_code 276 = .ok (.sipush 2304, 3) := by decide +kernel
theorem dX12_act_279 : decode prog_14_method_67_code 279 = .ok (.iload_n 1, 1) := by decide +kernel
theorem dX12_act_280 : decode prog_14_method_67_code 280 = .ok (.iadd, 1) := by decide +kernel
theorem dX12_act_281 : decode prog_14_method_67_code 281 = .ok (.iaload, 1) := by decide +kernel
theorem dX12_act_282 : decode prog_14_method_67_code 282 = .ok (.iastore, 1) := by decide +kernel
theorem dX12_act_283 : decode prog_14_method_67_code 283 = .ok (.aload_n 0, 1) := by decide +kernel
theorem dX12_act_284 : decode prog_14_method_67_code 284 = .ok (.getfield 100, 3) := by decide +kernel
theorem dX12_act_287 : decode prog_14_method_67_code 287 = .ok (.sipush 288, 3) := by decide +kernel
theorem dX12_act_290 : decode prog_14_method_67_code 290 = .ok (.aload_n 0, 1) := by decide +kernel
theorem dX12_act_291 : decode prog_14_method_67_code 291 = .ok (.getfield 487, 3) := by decide +kernel
theorem dX12_act_294 : decode prog_14_method_67_code 294 = .ok (.imul, 1) := by decide +kernel
theorem dX12_act_295 : decode prog_14_method_67_code 295 = .ok (.iload_n 1, 1) := by decide +kernel
theorem dX12_act_296 : decode prog_14_method_67_code 296 = .ok (.iadd, 1) := by decide +kernel
theorem dX12_act_297 : decode prog_14_method_67_code 297 = .ok (.aload_n 0, 1) := by decide +kernel
theorem dX12_act_298 : decode prog_14_method_67_code 298 = .ok (.getfield 100, 3) := by decide +kernel
theorem dX12_act_301 : decode prog_14_method_67_code 301 = .ok (.sipush 2304, 3) := by decide +kernel
theorem dX12_act_304 : decode prog_14_method_67_code 304 = .ok (.iload_n 1, 1) := by decide +kernel
theorem dX12_act_305 : decode prog_14_method_67_code 305 = .ok (.iadd, 1) := by decide +kernel
theorem dX12_act_306 : decode prog_14_method_67_code 306 = .ok (.iaload, 1) := by decide +kernel
theorem dX12_act_307 : decode prog_14_method_67_code 307 = .ok (.iastore, 1) := by decide +kernel
theorem dX12_act_308 : decode prog_14_method_67_code 308 = .ok (.aload_n 0, 1) := by decide +kernel
theorem dX12_act_309 : decode prog_14_method_67_code 309 = .ok (.getfield 103, 3) := by decide +kernel
theorem dX12_act_312 : decode prog_14_method_67_code 312 = .ok (.sipush 288, 3) := by decide +kernel
theorem dX12_act_315 : decode prog_14_method_67_code 315 = .ok (.aload_n 0, 1) := by decide +kernel
theorem dX12_act_316 : decode prog_14_method_67_code 316 = .ok (.getfield 487, 3) := by decide +kernel
theorem dX12_act_319 : decode prog_14_method_67_code 319 = .ok (.imul, 1) := by decide +kernel
theorem dX12_act_320 : decode prog_14_method_67_code 320 = .ok (.iload_n 1, 1) := by decide +kernel
theorem dX12_act_321 : decode prog_14_method_67_code 321 = .ok (.iadd, 1) := by decide +kernel
theorem dX12_act_322 : decode prog_14_method_67_code 322 = .ok (.aload_n 0, 1) := by decide +kernel
theorem dX12_act_323 : decode prog_14_method_67_code 323 = .ok (.getfield 103, 3) := by decide +kernel
theorem dX12_act_326 : decode prog_14_method_67_code 326 = .ok (.sipush 2304, 3) := by decide +kernel
theorem dX12_act_329 : decode prog_14_method_67_code 329 = .ok (.iload_n 1, 1) := by decide +kernel
theorem dX12_act_330 : decode prog_14_method_67_code 330 = .ok (.iadd, 1) := by decide +kernel
theorem dX12_act_331 : decode prog_14_method_67_code 331 = .ok (.iaload, 1) := by decide +kernel
theorem dX12_act_332 : decode prog_14_method_67_code 332 = .ok (.iastore, 1) := by decide +kernel
theorem dX12_act_333 : decode prog_14_method_67_code 333 = .ok (.iinc 1 1, 3) := by decide +kernel
theorem dX12_act_336 : decode prog_14_method_67_code 336 = .ok (.goto (-85), 3) := by decide +kernel
theorem dX12_act_339 : decode prog_14_method_67_code 339 = .ok (.iconst 0, 1) := by decide +kernel
theorem dX12_act_340 : decode prog_14_method_67_code 340 = .ok (.istore_n 1, 1) := by decide +kernel
theorem dX12_act_341 : decode prog_14_method_67_code 341 = .ok (.iload_n 1, 1) := by decide +kernel
theorem dX12_act_342 : decode prog_14_method_67_code 342 = .ok (.sipush 1728, 3) := by decide +kernel
theorem dX12_act_345 : decode prog_14_method_67_code 345 = .ok (.if_icmp .ge 59, 3) := by decide +kernel
theorem dX12_act_348 : decode prog_14_method_67_code 348 = .ok (.aload_n 0, 1) := by decide +kernel
theorem dX12_act_349 : decode prog_14_method_67_code 349 = .ok (.getfield 106, 3) := by decide +kernel
theorem dX12_act_352 : decode prog_14_method_67_code 352 = .ok (.sipush 1728, 3) := by decide +kernel
theorem dX12_act_355 : decode prog_14_method_67_code 355 = .ok (.aload_n 0, 1) := by decide +kernel
theorem dX12_act_356 : decode prog_14_method_67_code 356 = .ok (.getfield 487, 3) := by decide +kernel
theorem dX12_act_359 : decode prog_14_method_67_code 359 = .ok (.imul, 1) := by decide +kernel
theorem dX12_act_360 : decode prog_14_method_67_code 360 = .ok (.iload_n 1, 1) := by decide +kernel
theorem dX12_act_361 : decode prog_14_method_67_code 361 = .ok (.iadd, 1) := by decide +kernel
theorem dX12_act_362 : decode prog_14_method_67_code 362 = .ok (.aload_n 0, 1) := by decide +kernel
theorem dX12_act_363 : decode prog_14_method_67_code 363 = .ok (.getfield 106, 3) := by decide +kernel
theorem dX12_act_366 : decode prog_14_method_67_code 366 = .ok (.sipush 13824, 3) := by decide +kernel
theorem dX12_act_369 : decode prog_14_method_67_code 369 = .ok (.iload_n 1, 1) := by decide +kernel
theorem dX12_act_370 : decode prog_14_method_67_code 370 = .ok (.iadd, 1) := by decide +kernel
theorem dX12_act_371 : decode prog_14_method_67_code 371 = .ok (.laload, 1) := by decide +kernel
theorem dX12_act_372 : decode prog_14_method_67_code 372 = .ok (.lastore, 1) := by decide +kernel
theorem dX12_act_373 : decode prog_14_method_67_code 373 = .ok (.aload_n 0, 1) := by decide +kernel
theorem dX12_act_374 : decode prog_14_method_67_code 374 = .ok (.getfield 109, 3) := by decide +kernel
theorem dX12_act_377 : decode prog_14_method_67_code 377 = .ok (.sipush 1728, 3) := by decide +kernel
theorem dX12_act_380 : decode prog_14_method_67_code 380 = .ok (.aload_n 0, 1) := by decide +kernel
theorem dX12_act_381 : decode prog_14_method_67_code 381 = .ok (.getfield 487, 3) := by decide +kernel
theorem dX12_act_384 : decode prog_14_method_67_code 384 = .ok (.imul, 1) := by decide +kernel
theorem dX12_act_385 : decode prog_14_method_67_code 385 = .ok (.iload_n 1, 1) := by decide +kernel
theorem dX12_act_386 : decode prog_14_method_67_code 386 = .ok (.iadd, 1) := by decide +kernel
theorem dX12_act_387 : decode prog_14_method_67_code 387 = .ok (.aload_n 0, 1) := by decide +kernel
theorem dX12_act_388 : decode prog_14_method_67_code 388 = .ok (.getfield 109, 3) := by decide +kernel
theorem dX12_act_391 : decode prog_14_method_67_code 391 = .ok (.sipush 13824, 3) := by decide +kernel
theorem dX12_act_394 : decode prog_14_method_67_code 394 = .ok (.iload_n 1, 1) := by decide +kernel
theorem dX12_act_395 : decode prog_14_method_67_code 395 = .ok (.iadd, 1) := by decide +kernel
theorem dX12_act_396 : decode prog_14_method_67_code 396 = .ok (.iaload, 1) := by decide +kernel
theorem dX12_act_397 : decode prog_14_method_67_code 397 = .ok (.iastore, 1) := by decide +kernel
theorem dX12_act_398 : decode prog_14_method_67_code 398 = .ok (.iinc 1 1, 3) := by decide +kernel
theorem dX12_act_401 : decode prog_14_method_67_code 401 = .ok (.goto (-60), 3) := by decide +kernel
theorem dX12_act_404 : decode prog_14_method_67_code 404 = .ok (.aload_n 0, 1) := by decide +kernel
theorem dX12_act_405 : decode prog_14_method_67_code 405 = .ok (.dup, 1) := by decide +kernel
theorem dX12_act_406 : decode prog_14_method_67_code 406 = .ok (.getfield 487, 3) := by decide +kernel
theorem dX12_act_409 : decode prog_14_method_67_code 409 = .ok (.iconst 1, 1) := by decide +kernel
theorem dX12_act_410 : decode prog_14_method_67_code 410 = .ok (.iadd, 1) := by decide +kernel
theorem dX12_act_411 : decode prog_14_method_67_code 411 = .ok (.putfield 487, 3) := by decide +kernel
theorem dX12_act_414 : decode prog_14_method_67_code 414 = .ok (.aload_n 0, 1) := by decide +kernel
theorem dX12_act_415 : decode prog_14_method_67_code 415 = .ok (.getfield 481, 3) := by decide +kernel
theorem dX12_act_418 : decode prog_14_method_67_code 418 = .ok (.ireturn, 1) := by decide +kernel
abbrev A_X12_act_26 (l : Launch) (E : bE) (Q : (Int × bM) → Prop) : (Int × bM) → Prop := (fun t : Int × bM => V l E xX12_act (0, 0) 26 [(0, bR 11), (1, bI (t.1))] [] t.2 (b_pI Q))
abbrev X_X12_act_26 (l : Launch) (E : bE) (Q : (Int × bM) → Prop) : (bM) → Prop := (fun t : bM => V l E xX12_act (0, 0) 51 [(0, bR 11)] [] t (b_pI Q))
noncomputable def F_X12_act_s26 (v1 : Int) (M : bM) : Option ((Int × bM) ⊕ (bM)) :=
  if 11 ≤ v1 then (some (.inr (M))) else (b_g (b_i32 (88 + v1)) (b_bind (F_X12_plain v1 M) (fun x8 => b_g (0 ≤ (88 + v1) ∧ (88 + v1) < 110) (b_let (b_up M 183 (88 + v1) x8) (fun M10 => b_g (b_i32 (v1 + 1)) (some (.inl ((v1 + 1), M10))))))))
theorem t_X12_act_s26 {l : Launch} {E : bE} {Q : (Int × bM) → Prop} {v1 : Int} {M : bM} (hfg : b_fg E) (h : b_wp (F_X12_act_s26 v1 M) (Sum.elim (A_X12_act_26 l E Q ) (X_X12_act_26 l E Q ))) : V l E xX12_act (0, 0) 26 [(0, bR 11), (1, bI v1)] [] M (b_pI Q) := by
  unfold F_X12_act_s26 at h
  refine v_iload_n (f := 1) 1 rfl dX12_act_26 ?_
  refine v_bipush ⟨by decide, by decide⟩ (by decide) dX12_act_27 ?_
  refine v_icmp_ge (tgt := 51) dX12_act_29 (by decide) (fun c6 => ?_) (fun c6 => ?_)
  · replace h := b_wp_t c6 h
    refine v_sub (ls2 := [(0, bR _)]) [0] rfl ?_
    exact h
  · replace h := b_wp_f c6 h
    obtain ⟨g7, h⟩ := b_wp_g h
    refine v_aload_n (f := 0) 0 rfl dX12_act_32 ?_
    refine v_getR (kf := 37) (kz := 37) rfl kd_11 rfl ⟨by decide, by decide⟩ rfl wf_12_79 dX12_act_33 ?_
    refine v_bipush ⟨by decide, by decide⟩ (by decide) dX12_act_36 ?_
    refine v_iload_n (f := 1) 1 rfl dX12_act_38 ?_
    refine v_iaddN g7 dX12_act_39 ?_
    refine v_iload_n (f := 1) 1 rfl dX12_act_40 ?_
    refine v_cSIp (nA := 1) (As := [bI _]) (ix := 275) (cf_X12_plain (b_wp_b h)) rfl wc_X12_plain wm_12_275 wi_X12_plain wn_12 ⟨by decide, by decide, by decide⟩ rfl ⟨by decide, by decide⟩ ⟨by decide, by decide⟩ (Nat.le_of_ble_eq_true rfl) dX12_act_41 (fun x8 h => ?_)
    obtain ⟨g9, h⟩ := b_wp_g h
    refine v_iastore kd_183 g9 (by decide) dX12_act_44 ?_
    replace h := b_wp_l h
    obtain ⟨g11, h⟩ := b_wp_g h
    refine v_iincN (ls' := [(1, bI _), (0, bR _)]) 1 rfl (by decide) g11 dX12_act_45 rfl ?_
    refine v_goto (tgt := 26) dX12_act_48 (by decide) ?_
    refine v_sub (ls2 := [(0, bR _), (1, bI _)]) [1, 0] rfl ?_
    exact h
theorem l_X12_act_26 {l : Launch} {E : bE} {Q : (Int × bM) → Prop} (hfg : b_fg E) {s : Int × bM} (h : b_wp (b_loop (fun t => F_X12_act_s26 t.1 t.2) s) (X_X12_act_26 l E Q )) : A_X12_act_26 l E Q  s := b_loop_wp (fun t h => t_X12_act_s26 hfg h) s h
abbrev A_X12_act_51 (l : Launch) (E : bE) (Q : (Int × bM) → Prop) : (bM) → Prop := (fun t : bM => V l E xX12_act (0, 0) 51 [(0, bR 11)] [] t (b_pI Q))
abbrev X_X12_act_51 (l : Launch) (E : bE) (Q : (Int × bM) → Prop) : ((bM) ⊕ (Int × bM)) → Prop := (Sum.elim (fun t : bM => V l E xX12_act (0, 0) 69 [(0, bR 11)] [] t (b_pI Q)) Q)
noncomputable def F_X12_act_s51 (M : bM) : Option ((bM) ⊕ ((bM) ⊕ (Int × bM))) :=
  if (M 11 3) = 8 then (some (.inr (.inl (M)))) else (b_bind (F_X12_readClause M) (fun t => b_two t (fun x13 M14 => if x13 = 0 then (some (.inr (.inr ((-1), M14)))) else (some (.inl (M14))))))
theorem t_X12_act_s51 {l : Launch} {E : bE} {Q : (Int × bM) → Prop} {M : bM} (hfg : b_fg E) (h : b_wp (F_X12_act_s51 M) (Sum.elim (A_X12_act_51 l E Q ) (X_X12_act_51 l E Q ))) : V l E xX12_act (0, 0) 51 [(0, bR 11)] [] M (b_pI Q) := by
  unfold F_X12_act_s51 at h
  refine v_aload_n (f := 0) 0 rfl dX12_act_51 ?_
  refine v_getI (kf := 3) (kz := 3) rfl kd_11 rfl ⟨by decide, by decide⟩ rfl wf_12_316 dX12_act_52 ?_
  refine v_bipush ⟨by decide, by decide⟩ (by decide) dX12_act_55 ?_
  refine v_icmp_eq (tgt := 69) dX12_act_57 (by decide) (fun c12 => ?_) (fun c12 => ?_)
  · replace h := b_wp_t c12 h
    exact h
  · replace h := b_wp_f c12 h
    refine v_aload_n (f := 0) 0 rfl dX12_act_60 ?_
    refine v_cVI (nA := 0) (As := []) (ix := 484) (cf_X12_readClause hfg (b_wp_b h)) rfl kd_11 rfl rfl wc_X12_readClause wm_12_484 wi_X12_readClause ws_X12_readClause wn_12 ⟨by decide, by decide, by decide⟩ rfl ⟨by decide, by decide⟩ ⟨by decide, by decide⟩ (Nat.le_of_ble_eq_true rfl) dX12_act_61 (fun x13 M14 h => ?_)
    replace h := b_wp_two h
    refine v_if_ne (tgt := 51) dX12_act_64 (by decide) (fun c15 => ?_) (fun c15 => ?_)
    · replace h := b_wp_f c15 h
      exact h
    · replace h := b_wp_t c15 h
      refine v_iconst ⟨by decide, by decide⟩ dX12_act_67 ?_
      refine v_ireturn rfl dX12_act_68 ⟨by decide, by decide⟩ ?_
      exact ⟨_, rfl, h⟩
theorem l_X12_act_51 {l : Launch} {E : bE} {Q : (Int × bM) → Prop} (hfg : b_fg E) {s : bM} (h : b_wp (b_loop (fun t => F_X12_act_s51 t) s) (X_X12_act_51 l E Q )) : A_X12_act_51 l E Q  s := b_loop_wp (fun t h => t_X12_act_s51 hfg h) s h
abbrev A_X12_act_96 (l : Launch) (E : bE) (Q : (Int × bM) → Prop) : (Int × bM) → Prop := (fun t : Int × bM => V l E xX12_act (0, 0) 96 [(0, bR 11), (1, bI (t.1))] [] t.2 (b_pI Q))
abbrev X_X12_act_96 (l : Launch) (E : bE) (Q : (Int × bM) → Prop) : (bM) → Prop := (fun t : bM => V l E xX12_act (0, 0) 131 [(0, bR 11)] [] t (b_pI Q))
noncomputable def F_X12_act_s96 (v1 : Int) (M : bM) : Option ((Int × bM) ⊕ (bM)) :=
  if 11 ≤ v1 then (some (.inr (M))) else (b_g ((b_i32 (11 * (M 11 35))) ∧ (b_i32 ((11 * (M 11 35)) + v1)) ∧ (b_i32 (88 + v1)) ∧ (0 ≤ (88 + v1) ∧ (88 + v1) < 110) ∧ (0 ≤ ((11 * (M 11 35)) + v1) ∧ ((11 * (M 11 35)) + v1) < 110)) (b_let (b_up M 183 ((11 * (M 11 35)) + v1) (M 183 (88 + v1))) (fun M25 => b_g (b_i32 (v1 + 1)) (some (.inl ((v1 + 1), M25))))))
theorem t_X12_act_s96 {l : Launch} {E : bE} {Q : (Int × bM) → Prop} {v1 : Int} {M : bM} (hfg : b_fg E) (h : b_wp (F_X12_act_s96 v1 M) (Sum.elim (A_X12_act_96 l E Q ) (X_X12_act_96 l E Q ))) : V l E xX12_act (0, 0) 96 [(0, bR 11), (1, bI v1)] [] M (b_pI Q) := by
  unfold F_X12_act_s96 at h
  refine v_iload_n (f := 1) 1 rfl dX12_act_96 ?_
  refine v_bipush ⟨by decide, by decide⟩ (by decide) dX12_act_97 ?_
  refine v_icmp_ge (tgt := 131) dX12_act_99 (by decide) (fun c19 => ?_) (fun c19 => ?_)
  · replace h := b_wp_t c19 h
    refine v_sub (ls2 := [(0, bR _)]) [0] rfl ?_
    exact h
  · replace h := b_wp_f c19 h
    obtain ⟨⟨g20, g21, g22, g23, g24⟩, h⟩ := b_wp_g h
    refine v_aload_n (f := 0) 0 rfl dX12_act_102 ?_
    refine v_getR (kf := 37) (kz := 37) rfl kd_11 rfl ⟨by decide, by decide⟩ rfl wf_12_79 dX12_act_103 ?_
    refine v_bipush ⟨by decide, by decide⟩ (by decide) dX12_act_106 ?_
    refine v_aload_n (f := 0) 0 rfl dX12_act_108 ?_
    refine v_getI (kf := 35) (kz := 35) rfl kd_11 rfl ⟨by decide, by decide⟩ rfl wf_12_487 dX12_act_109 ?_
    refine v_imulN g20 dX12_act_112 ?_
    refine v_iload_n (f := 1) 1 rfl dX12_act_113 ?_
    refine v_iaddN g21 dX12_act_114 ?_
    refine v_aload_n (f := 0) 0 rfl dX12_act_115 ?_
    refine v_getR (kf := 37) (kz := 37) rfl kd_11 rfl ⟨by decide, by decide⟩ rfl wf_12_79 dX12_act_116 ?_
    refine v_bipush ⟨by decide, by decide⟩ (by decide) dX12_act_119 ?_
    refine v_iload_n (f := 1) 1 rfl dX12_act_121 ?_
    refine v_iaddN g22 dX12_act_122 ?_
    refine v_iaload kd_183 g23 (by decide) dX12_act_123 ?_
    refine v_iastore kd_183 g24 (by decide) dX12_act_124 ?_
    replace h := b_wp_l h
    obtain ⟨g26, h⟩ := b_wp_g h
    refine v_iincN (ls' := [(1, bI _), (0, bR _)]) 1 rfl (by decide) g26 dX12_act_125 rfl ?_
    refine v_goto (tgt := 96) dX12_act_128 (by decide) ?_
    refine v_sub (ls2 := [(0, bR _), (1, bI _)]) [1, 0] rfl ?_
    exact h
theorem l_X12_act_96 {l : Launch} {E : bE} {Q : (Int × bM) → Prop} (hfg : b_fg E) {s : Int × bM} (h : b_wp (b_loop (fun t => F_X12_act_s96 t.1 t.2) s) (X_X12_act_96 l E Q )) : A_X12_act_96 l E Q  s := b_loop_wp (fun t h => t_X12_act_s96 hfg h) s h
abbrev A_X12_act_133 (l : Launch) (E : bE) (Q : (Int × bM) → Prop) : (Int × bM) → Prop := (fun t : Int × bM => V l E xX12_act (0, 0) 133 [(0, bR 11), (1, bI (t.1))] [] t.2 (b_pI Q))
abbrev X_X12_act_133 (l : Launch) (E : bE) (Q : (Int × bM) → Prop) : (bM) → Prop := (fun t : bM => V l E xX12_act (0, 0) 209 [(0, bR 11)] [] t (b_pI Q))
noncomputable def F_X12_act_s133 (v1 : Int) (M : bM) : Option ((Int × bM) ⊕ (bM)) :=
  if 24 ≤ v1 then (some (.inr (M))) else (b_g ((b_i32 (24 * (M 11 35))) ∧ (b_i32 ((24 * (M 11 35)) + v1))) (b_let (((24 * (M 11 35)) + v1)) (fun y30 => b_g (b_i32 (192 + v1)) (b_let ((192 + v1)) (fun y32 => b_g ((0 ≤ y32 ∧ y32 < 216) ∧ (0 ≤ y30 ∧ y30 < 216)) (b_let (b_up M 184 y30 (M 184 y32)) (fun M35 => b_g ((0 ≤ y32 ∧ y32 < 216) ∧ (0 ≤ y30 ∧ y30 < 216)) (b_let (b_up M35 185 y30 (M35 185 y32)) (fun M38 => b_g ((0 ≤ y32 ∧ y32 < 216) ∧ (0 ≤ y30 ∧ y30 < 216)) (b_let (b_up M38 186 y30 (M38 186 y32)) (fun M41 => b_g ((0 ≤ y32 ∧ y32 < 216) ∧ (0 ≤ y30 ∧ y30 < 216)) (b_let (b_up M41 187 y30 (M41 187 y32)) (fun M44 => b_g (b_i32 (v1 + 1)) (some (.inl ((v1 + 1), M44))))))))))))))))
theorem t_X12_act_s133 {l : Launch} {E : bE} {Q : (Int × bM) → Prop} {v1 : Int} {M : bM} (hfg : b_fg E) (h : b_wp (F_X12_act_s133 v1 M) (Sum.elim (A_X12_act_133 l E Q ) (X_X12_act_133 l E Q ))) : V l E xX12_act (0, 0) 133 [(0, bR 11), (1, bI v1)] [] M (b_pI Q) := by
  unfold F_X12_act_s133 at h
  refine v_iload_n (f := 1) 1 rfl dX12_act_133 ?_
  refine v_bipush ⟨by decide, by decide⟩ (by decide) dX12_act_134 ?_
  refine v_icmp_ge (tgt := 209) dX12_act_136 (by decide) (fun c27 => ?_) (fun c27 => ?_)
  · replace h := b_wp_t c27 h
    refine v_sub (ls2 := [(0, bR _)]) [0] rfl ?_
    exact h
  · replace h := b_wp_f c27 h
    obtain ⟨⟨g28, g29⟩, h⟩ := b_wp_g h
    refine v_bipush ⟨by decide, by decide⟩ (by decide) dX12_act_139 ?_
    refine v_aload_n (f := 0) 0 rfl dX12_act_141 ?_
    refine v_getI (kf := 35) (kz := 35) rfl kd_11 rfl ⟨by decide, by decide⟩ rfl wf_12_487 dX12_act_142 ?_
    refine v_imulN g28 dX12_act_145 ?_
    refine v_iload_n (f := 1) 1 rfl dX12_act_146 ?_
    refine v_iaddN g29 dX12_act_147 ?_
    replace h := b_wp_l h
    obtain ⟨g31, h⟩ := b_wp_g h
    refine v_istore_n (g := 2) (i := 2) (ls' := [(2, bI _), (0, bR _), (1, bI _)]) rfl (by decide) dX12_act_148 rfl ?_
    refine v_sipush ⟨by decide, by decide⟩ (by decide) dX12_act_149 ?_
    refine v_iload_n (f := 1) 2 rfl dX12_act_152 ?_
    refine v_iaddN g31 dX12_act_153 ?_
    replace h := b_wp_l h
    obtain ⟨⟨g33, g34⟩, h⟩ := b_wp_g h
    refine v_istore_n (g := 3) (i := 3) (ls' := [(3, bI _), (2, bI _), (0, bR _), (1, bI _)]) rfl (by decide) dX12_act_154 rfl ?_
    refine v_aload_n (f := 0) 2 rfl dX12_act_155 ?_
    refine v_getR (kf := 38) (kz := 38) rfl kd_11 rfl ⟨by decide, by decide⟩ rfl wf_12_82 dX12_act_156 ?_
    refine v_iload_n (f := 2) 1 rfl dX12_act_159 ?_
    refine v_aload_n (f := 0) 2 rfl dX12_act_160 ?_
    refine v_getR (kf := 38) (kz := 38) rfl kd_11 rfl ⟨by decide, by decide⟩ rfl wf_12_82 dX12_act_161 ?_
    refine v_iload_n (f := 3) 0 rfl dX12_act_164 ?_
    refine v_iaload kd_184 g33 (by decide) dX12_act_165 ?_
    refine v_iastore kd_184 g34 (by decide) dX12_act_166 ?_
    replace h := b_wp_l h
    obtain ⟨⟨g36, g37⟩, h⟩ := b_wp_g h
    refine v_aload_n (f := 0) 2 rfl dX12_act_167 ?_
    refine v_getR (kf := 39) (kz := 39) rfl kd_11 rfl ⟨by decide, by decide⟩ rfl wf_12_85 dX12_act_168 ?_
    refine v_iload_n (f := 2) 1 rfl dX12_act_171 ?_
    refine v_aload_n (f := 0) 2 rfl dX12_act_172 ?_
    refine v_getR (kf := 39) (kz := 39) rfl kd_11 rfl ⟨by decide, by decide⟩ rfl wf_12_85 dX12_act_173 ?_
    refine v_iload_n (f := 3) 0 rfl dX12_act_176 ?_
    refine v_iaload kd_185 g36 (by decide) dX12_act_177 ?_
    refine v_iastore kd_185 g37 (by decide) dX12_act_178 ?_
    replace h := b_wp_l h
    obtain ⟨⟨g39, g40⟩, h⟩ := b_wp_g h
    refine v_aload_n (f := 0) 2 rfl dX12_act_179 ?_
    refine v_getR (kf := 40) (kz := 40) rfl kd_11 rfl ⟨by decide, by decide⟩ rfl wf_12_88 dX12_act_180 ?_
    refine v_iload_n (f := 2) 1 rfl dX12_act_183 ?_
    refine v_aload_n (f := 0) 2 rfl dX12_act_184 ?_
    refine v_getR (kf := 40) (kz := 40) rfl kd_11 rfl ⟨by decide, by decide⟩ rfl wf_12_88 dX12_act_185 ?_
    refine v_iload_n (f := 3) 0 rfl dX12_act_188 ?_
    refine v_iaload kd_186 g39 (by decide) dX12_act_189 ?_
    refine v_iastore kd_186 g40 (by decide) dX12_act_190 ?_
    replace h := b_wp_l h
    obtain ⟨⟨g42, g43⟩, h⟩ := b_wp_g h
    refine v_aload_n (f := 0) 2 rfl dX12_act_191 ?_
    refine v_getR (kf := 41) (kz := 41) rfl kd_11 rfl ⟨by decide, by decide⟩ rfl wf_12_91 dX12_act_192 ?_
    refine v_iload_n (f := 2) 1 rfl dX12_act_195 ?_
    refine v_aload_n (f := 0) 2 rfl dX12_act_196 ?_
    refine v_getR (kf := 41) (kz := 41) rfl kd_11 rfl ⟨by decide, by decide⟩ rfl wf_12_91 dX12_act_197 ?_
    refine v_iload_n (f := 3) 0 rfl dX12_act_200 ?_
    refine v_iaload kd_187 g42 (by decide) dX12_act_201 ?_
    refine v_iastore kd_187 g43 (by decide) dX12_act_202 ?_
    replace h := b_wp_l h
    obtain ⟨g45, h⟩ := b_wp_g h
    refine v_iincN (ls' := [(1, bI _), (3, bI _), (2, bI _), (0, bR _)]) 3 rfl (by decide) g45 dX12_act_203 rfl ?_
    refine v_goto (tgt := 133) dX12_act_206 (by decide) ?_
    refine v_sub (ls2 := [(0, bR _), (1, bI _)]) [3, 0] rfl ?_
    exact h
theorem l_X12_act_133 {l : Launch} {E : bE} {Q : (Int × bM) → Prop} (hfg : b_fg E) {s : Int × bM} (h : b_wp (b_loop (fun t => F_X12_act_s133 t.1 t.2) s) (X_X12_act_133 l E Q )) : A_X12_act_133 l E Q  s := b_loop_wp (fun t h => t_X12_act_s133 hfg h) s h
abbrev A_X12_act_211 (l : Launch) (E : bE) (Q : (Int × bM) → Prop) : (Int × bM) → Prop := (fun t : Int × bM => V l E xX12_act (0, 0) 211 [(0, bR 11), (1, bI (t.1))] [] t.2 (b_pI Q))
abbrev X_X12_act_211 (l : Launch) (E : bE) (Q : (Int × bM) → Prop) : (bM) → Prop := (fun t : bM => V l E xX12_act (0, 0) 249 [(0, bR 11)] [] t (b_pI Q))
noncomputable def F_X12_act_s211 (v1 : Int) (M : bM) : Option ((Int × bM) ⊕ (bM)) :=
  if 2400 ≤ v1 then (some (.inr (M))) else (b_g ((b_i32 (2400 * (M 11 35))) ∧ (b_i32 ((2400 * (M 11 35)) + v1)) ∧ (b_i32 (19200 + v1)) ∧ (0 ≤ (19200 + v1) ∧ (19200 + v1) < 21600) ∧ (0 ≤ ((2400 * (M 11 35)) + v1) ∧ ((2400 * (M 11 35)) + v1) < 21600)) (b_let (b_up M 188 ((2400 * (M 11 35)) + v1) (M 188 (19200 + v1))) (fun M52 => b_g (b_i32 (v1 + 1)) (some (.inl ((v1 + 1), M52))))))
theorem t_X12_act_s211 {l : Launch} {E : bE} {Q : (Int × bM) → Prop} {v1 : Int} {M : bM} (hfg : b_fg E) (h : b_wp (F_X12_act_s211 v1 M) (Sum.elim (A_X12_act_211 l E Q ) (X_X12_act_211 l E Q ))) : V l E xX12_act (0, 0) 211 [(0, bR 11), (1, bI v1)] [] M (b_pI Q) := by
  unfold F_X12_act_s211 at h
  refine v_iload_n (f := 1) 1 rfl dX12_act_211 ?_
  refine v_sipush ⟨by decide, by decide⟩ (by decide) dX12_act_212 ?_
  refine v_icmp_ge (tgt := 249) dX12_act_215 (by decide) (fun c46 => ?_) (fun c46 => ?_)
  · replace h := b_wp_t c46 h
    refine v_sub (ls2 := [(0, bR _)]) [0] rfl ?_
    exact h
  · replace h := b_wp_f c46 h
    obtain ⟨⟨g47, g48, g49, g50, g51⟩, h⟩ := b_wp_g h
    refine v_aload_n (f := 0) 0 rfl dX12_act_218 ?_
    refine v_getR (kf := 42) (kz := 42) rfl kd_11 rfl ⟨by decide, by decide⟩ rfl wf_12_94 dX12_act_219 ?_
    refine v_sipush ⟨by decide, by decide⟩ (by decide) dX12_act_222 ?_
    refine v_aload_n (f := 0) 0 rfl dX12_act_225 ?_
    refine v_getI (kf := 35) (kz := 35) rfl kd_11 rfl ⟨by decide, by decide⟩ rfl wf_12_487 dX12_act_226 ?_
    refine v_imulN g47 dX12_act_229 ?_
    refine v_iload_n (f := 1) 1 rfl dX12_act_230 ?_
    refine v_iaddN g48 dX12_act_231 ?_
    refine v_aload_n (f := 0) 0 rfl dX12_act_232 ?_
    refine v_getR (kf := 42) (kz := 42) rfl kd_11 rfl ⟨by decide, by decide⟩ rfl wf_12_94 dX12_act_233 ?_
    refine v_sipush ⟨by decide, by decide⟩ (by decide) dX12_act_236 ?_
    refine v_iload_n (f := 1) 1 rfl dX12_act_239 ?_
    refine v_iaddN g49 dX12_act_240 ?_
    refine v_iaload kd_188 g50 (by decide) dX12_act_241 ?_
    refine v_iastore kd_188 g51 (by decide) dX12_act_242 ?_
    replace h := b_wp_l h
    obtain ⟨g53, h⟩ := b_wp_g h
    refine v_iincN (ls' := [(1, bI _), (0, bR _)]) 1 rfl (by decide) g53 dX12_act_243 rfl ?_
    refine v_goto (tgt := 211) dX12_act_246 (by decide) ?_
    refine v_sub (ls2 := [(0, bR _), (1, bI _)]) [1, 0] rfl ?_
    exact h
theorem l_X12_act_211 {l : Launch} {E : bE} {Q : (Int × bM) → Prop} (hfg : b_fg E) {s : Int × bM} (h : b_wp (b_loop (fun t => F_X12_act_s211 t.1 t.2) s) (X_X12_act_211 l E Q )) : A_X12_act_211 l E Q  s := b_loop_wp (fun t h => t_X12_act_s211 hfg h) s h
abbrev A_X12_act_251 (l : Launch) (E : bE) (Q : (Int × bM) → Prop) : (Int × bM) → Prop := (fun t : Int × bM => V l E xX12_act (0, 0) 251 [(0, bR 11), (1, bI (t.1))] [] t.2 (b_pI Q))
abbrev X_X12_act_251 (l : Launch) (E : bE) (Q : (Int × bM) → Prop) : (bM) → Prop := (fun t : bM => V l E xX12_act (0, 0) 339 [(0, bR 11)] [] t (b_pI Q))
noncomputable def F_X12_act_s251 (v1 : Int) (M : bM) : Option ((Int × bM) ⊕ (bM)) :=
  if 288 ≤ v1 then (some (.inr (M))) else (b_g ((b_i32 (288 * (M 11 35))) ∧ (b_i32 ((288 * (M 11 35)) + v1)) ∧ (b_i32 (2304 + v1)) ∧ (0 ≤ (2304 + v1) ∧ (2304 + v1) < 2592) ∧ (0 ≤ ((288 * (M 11 35)) + v1) ∧ ((288 * (M 11 35)) + v1) < 2592)) (b_let (b_up M 189 ((288 * (M 11 35)) + v1) (M 189 (2304 + v1))) (fun M60 => b_g ((b_i32 (288 * (M60 11 35))) ∧ (b_i32 ((288 * (M60 11 35)) + v1)) ∧ (b_i32 (2304 + v1)) ∧ (0 ≤ (2304 + v1) ∧ (2304 + v1) < 2592) ∧ (0 ≤ ((288 * (M60 11 35)) + v1) ∧ ((288 * (M60 11 35)) + v1) < 2592)) (b_let (b_up M60 190 ((288 * (M60 11 35)) + v1) (M60 190 (2304 + v1))) (fun M66 => b_g ((b_i32 (288 * (M66 11 35))) ∧ (b_i32 ((288 * (M66 11 35)) + v1)) ∧ (b_i32 (2304 + v1)) ∧ (0 ≤ (2304 + v1) ∧ (2304 + v1) < 2592) ∧ (0 ≤ ((288 * (M66 11 35)) + v1) ∧ ((288 * (M66 11 35)) + v1) < 2592)) (b_let (b_up M66 191 ((288 * (M66 11 35)) + v1) (M66 191 (2304 + v1))) (fun M72 => b_g (b_i32 (v1 + 1)) (some (.inl ((v1 + 1), M72))))))))))
theorem t_X12_act_s251 {l : Launch} {E : bE} {Q : (Int × bM) → Prop} {v1 : Int} {M : bM} (hfg : b_fg E) (h : b_wp (F_X12_act_s251 v1 M) (Sum.elim (A_X12_act_251 l E Q ) (X_X12_act_251 l E Q ))) : V l E xX12_act (0, 0) 251 [(0, bR 11), (1, bI v1)] [] M (b_pI Q) := by
  unfold F_X12_act_s251 at h
  refine v_iload_n (f := 1) 1 rfl dX12_act_251 ?_
  refine v_sipush ⟨by decide, by decide⟩ (by decide) dX12_act_252 ?_
  refine v_icmp_ge (tgt := 339) dX12_act_255 (by decide) (fun c54 => ?_) (fun c54 => ?_)
  · replace h := b_wp_t c54 h
    refine v_sub (ls2 := [(0, bR _)]) [0] rfl ?_
    exact h
  · replace h := b_wp_f c54 h
    obtain ⟨⟨g55, g56, g57, g58, g59⟩, h⟩ := b_wp_g h
    refine v_aload_n (f := 0) 0 rfl dX12_act_258 ?_
    refine v_getR (kf := 43) (kz := 43) rfl kd_11 rfl ⟨by decide, by decide⟩ rfl wf_12_97 dX12_act_259 ?_
    refine v_sipush ⟨by decide, by decide⟩ (by decide) dX12_act_262 ?_
    refine v_aload_n (f := 0) 0 rfl dX12_act_265 ?_
    refine v_getI (kf := 35) (kz := 35) rfl kd_11 rfl ⟨by decide, by decide⟩ rfl wf_12_487 dX12_act_266 ?_
    refine v_imulN g55 dX12_act_269 ?_
    refine v_iload_n (f := 1) 1 rfl dX12_act_270 ?_
    refine v_iaddN g56 dX12_act_271 ?_
    refine v_aload_n (f := 0) 0 rfl dX12_act_272 ?_
    refine v_getR (kf := 43) (kz := 43) rfl kd_11 rfl ⟨by decide, by decide⟩ rfl wf_12_97 dX12_act_273 ?_
    refine v_sipush ⟨by decide, by decide⟩ (by decide) dX12_act_276 ?_
    refine v_iload_n (f := 1) 1 rfl dX12_act_279 ?_
    refine v_iaddN g57 dX12_act_280 ?_
    refine v_iaload kd_189 g58 (by decide) dX12_act_281 ?_
    refine v_iastore kd_189 g59 (by decide) dX12_act_282 ?_
    replace h := b_wp_l h
    obtain ⟨⟨g61, g62, g63, g64, g65⟩, h⟩ := b_wp_g h
    refine v_aload_n (f := 0) 0 rfl dX12_act_283 ?_
    refine v_getR (kf := 44) (kz := 44) rfl kd_11 rfl ⟨by decide, by decide⟩ rfl wf_12_100 dX12_act_284 ?_
    refine v_sipush ⟨by decide, by decide⟩ (by decide) dX12_act_287 ?_
    refine v_aload_n (f := 0) 0 rfl dX12_act_290 ?_
    refine v_getI (kf := 35) (kz := 35) rfl kd_11 rfl ⟨by decide, by decide⟩ rfl wf_12_487 dX12_act_291 ?_
    refine v_imulN g61 dX12_act_294 ?_
    refine v_iload_n (f := 1) 1 rfl dX12_act_295 ?_
    refine v_iaddN g62 dX12_act_296 ?_
    refine v_aload_n (f := 0) 0 rfl dX12_act_297 ?_
    refine v_getR (kf := 44) (kz := 44) rfl kd_11 rfl ⟨by decide, by decide⟩ rfl wf_12_100 dX12_act_298 ?_
    refine v_sipush ⟨by decide, by decide⟩ (by decide) dX12_act_301 ?_
    refine v_iload_n (f := 1) 1 rfl dX12_act_304 ?_
    refine v_iaddN g63 dX12_act_305 ?_
    refine v_iaload kd_190 g64 (by decide) dX12_act_306 ?_
    refine v_iastore kd_190 g65 (by decide) dX12_act_307 ?_
    replace h := b_wp_l h
    obtain ⟨⟨g67, g68, g69, g70, g71⟩, h⟩ := b_wp_g h
    refine v_aload_n (f := 0) 0 rfl dX12_act_308 ?_
    refine v_getR (kf := 45) (kz := 45) rfl kd_11 rfl ⟨by decide, by decide⟩ rfl wf_12_103 dX12_act_309 ?_
    refine v_sipush ⟨by decide, by decide⟩ (by decide) dX12_act_312 ?_
    refine v_aload_n (f := 0) 0 rfl dX12_act_315 ?_
    refine v_getI (kf := 35) (kz := 35) rfl kd_11 rfl ⟨by decide, by decide⟩ rfl wf_12_487 dX12_act_316 ?_
    refine v_imulN g67 dX12_act_319 ?_
    refine v_iload_n (f := 1) 1 rfl dX12_act_320 ?_
    refine v_iaddN g68 dX12_act_321 ?_
    refine v_aload_n (f := 0) 0 rfl dX12_act_322 ?_
    refine v_getR (kf := 45) (kz := 45) rfl kd_11 rfl ⟨by decide, by decide⟩ rfl wf_12_103 dX12_act_323 ?_
    refine v_sipush ⟨by decide, by decide⟩ (by decide) dX12_act_326 ?_
    refine v_iload_n (f := 1) 1 rfl dX12_act_329 ?_
    refine v_iaddN g69 dX12_act_330 ?_
    refine v_iaload kd_191 g70 (by decide) dX12_act_331 ?_
    refine v_iastore kd_191 g71 (by decide) dX12_act_332 ?_
    replace h := b_wp_l h
    obtain ⟨g73, h⟩ := b_wp_g h
    refine v_iincN (ls' := [(1, bI _), (0, bR _)]) 1 rfl (by decide) g73 dX12_act_333 rfl ?_
    refine v_goto (tgt := 251) dX12_act_336 (by decide) ?_
    refine v_sub (ls2 := [(0, bR _), (1, bI _)]) [1, 0] rfl ?_
    exact h
theorem l_X12_act_251 {l : Launch} {E : bE} {Q : (Int × bM) → Prop} (hfg : b_fg E) {s : Int × bM} (h : b_wp (b_loop (fun t => F_X12_act_s251 t.1 t.2) s) (X_X12_act_251 l E Q )) : A_X12_act_251 l E Q  s := b_loop_wp (fun t h => t_X12_act_s251 hfg h) s h
abbrev A_X12_act_341 (l : Launch) (E : bE) (Q : (Int × bM) → Prop) : (Int × bM) → Prop := (fun t : Int × bM => V l E xX12_act (0, 0) 341 [(0, bR 11), (1, bI (t.1))] [] t.2 (b_pI Q))
abbrev X_X12_act_341 (l : Launch) (E : bE) (Q : (Int × bM) → Prop) : (bM) → Prop := (fun t : bM => V l E xX12_act (0, 0) 404 [(0, bR 11)] [] t (b_pI Q))
noncomputable def F_X12_act_s341 (v1 : Int) (M : bM) : Option ((Int × bM) ⊕ (bM)) :=
  if 1728 ≤ v1 then (some (.inr (M))) else (b_g ((b_i32 (1728 * (M 11 35))) ∧ (b_i32 ((1728 * (M 11 35)) + v1)) ∧ (b_i32 (13824 + v1)) ∧ (0 ≤ (13824 + v1) ∧ (13824 + v1) < 15552) ∧ (0 ≤ ((1728 * (M 11 35)) + v1) ∧ ((1728 * (M 11 35)) + v1) < 15552)) (b_let (b_up M 192 ((1728 * (M 11 35)) + v1) (M 192 (13824 + v1))) (fun M80 => b_g ((b_i32 (1728 * (M80 11 35))) ∧ (b_i32 ((1728 * (M80 11 35)) + v1)) ∧ (b_i32 (13824 + v1)) ∧ (0 ≤ (13824 + v1) ∧ (13824 + v1) < 15552) ∧ (0 ≤ ((1728 * (M80 11 35)) + v1) ∧ ((1728 * (M80 11 35)) + v1) < 15552)) (b_let (b_up M80 193 ((1728 * (M80 11 35)) + v1) (M80 193 (13824 + v1))) (fun M86 => b_g (b_i32 (v1 + 1)) (some (.inl ((v1 + 1), M86))))))))
theorem t_X12_act_s341 {l : Launch} {E : bE} {Q : (Int × bM) → Prop} {v1 : Int} {M : bM} (hfg : b_fg E) (h : b_wp (F_X12_act_s341 v1 M) (Sum.elim (A_X12_act_341 l E Q ) (X_X12_act_341 l E Q ))) : V l E xX12_act (0, 0) 341 [(0, bR 11), (1, bI v1)] [] M (b_pI Q) := by
  unfold F_X12_act_s341 at h
  refine v_iload_n (f := 1) 1 rfl dX12_act_341 ?_
  refine v_sipush ⟨by decide, by decide⟩ (by decide) dX12_act_342 ?_
  refine v_icmp_ge (tgt := 404) dX12_act_345 (by decide) (fun c74 => ?_) (fun c74 => ?_)
  · replace h := b_wp_t c74 h
    refine v_sub (ls2 := [(0, bR _)]) [0] rfl ?_
    exact h
  · replace h := b_wp_f c74 h
    obtain ⟨⟨g75, g76, g77, g78, g79⟩, h⟩ := b_wp_g h
    refine v_aload_n (f := 0) 0 rfl dX12_act_348 ?_
    refine v_getR (kf := 46) (kz := 46) rfl kd_11 rfl ⟨by decide, by decide⟩ rfl wf_12_106 dX12_act_349 ?_
    refine v_sipush ⟨by decide, by decide⟩ (by decide) dX12_act_352 ?_
    refine v_aload_n (f := 0) 0 rfl dX12_act_355 ?_
    refine v_getI (kf := 35) (kz := 35) rfl kd_11 rfl ⟨by decide, by decide⟩ rfl wf_12_487 dX12_act_356 ?_
    refine v_imulN g75 dX12_act_359 ?_
    refine v_iload_n (f := 1) 1 rfl dX12_act_360 ?_
    refine v_iaddN g76 dX12_act_361 ?_
    refine v_aload_n (f := 0) 0 rfl dX12_act_362 ?_
    refine v_getR (kf := 46) (kz := 46) rfl kd_11 rfl ⟨by decide, by decide⟩ rfl wf_12_106 dX12_act_363 ?_
    refine v_sipush ⟨by decide, by decide⟩ (by decide) dX12_act_366 ?_
    refine v_iload_n (f := 1) 1 rfl dX12_act_369 ?_
    refine v_iaddN g77 dX12_act_370 ?_
    refine v_laload kd_192 g78 (by decide) dX12_act_371 ?_
    refine v_lastore kd_192 g79 (by decide) dX12_act_372 ?_
    replace h := b_wp_l h
    obtain ⟨⟨g81, g82, g83, g84, g85⟩, h⟩ := b_wp_g h
    refine v_aload_n (f := 0) 0 rfl dX12_act_373 ?_
    refine v_getR (kf := 47) (kz := 47) rfl kd_11 rfl ⟨by decide, by decide⟩ rfl wf_12_109 dX12_act_374 ?_
    refine v_sipush ⟨by decide, by decide⟩ (by decide) dX12_act_377 ?_
    refine v_aload_n (f := 0) 0 rfl dX12_act_380 ?_
    refine v_getI (kf := 35) (kz := 35) rfl kd_11 rfl ⟨by decide, by decide⟩ rfl wf_12_487 dX12_act_381 ?_
    refine v_imulN g81 dX12_act_384 ?_
    refine v_iload_n (f := 1) 1 rfl dX12_act_385 ?_
    refine v_iaddN g82 dX12_act_386 ?_
    refine v_aload_n (f := 0) 0 rfl dX12_act_387 ?_
    refine v_getR (kf := 47) (kz := 47) rfl kd_11 rfl ⟨by decide, by decide⟩ rfl wf_12_109 dX12_act_388 ?_
    refine v_sipush ⟨by decide, by decide⟩ (by decide) dX12_act_391 ?_
    refine v_iload_n (f := 1) 1 rfl dX12_act_394 ?_
    refine v_iaddN g83 dX12_act_395 ?_
    refine v_iaload kd_193 g84 (by decide) dX12_act_396 ?_
    refine v_iastore kd_193 g85 (by decide) dX12_act_397 ?_
    replace h := b_wp_l h
    obtain ⟨g87, h⟩ := b_wp_g h
    refine v_iincN (ls' := [(1, bI _), (0, bR _)]) 1 rfl (by decide) g87 dX12_act_398 rfl ?_
    refine v_goto (tgt := 341) dX12_act_401 (by decide) ?_
    refine v_sub (ls2 := [(0, bR _), (1, bI _)]) [1, 0] rfl ?_
    exact h
theorem l_X12_act_341 {l : Launch} {E : bE} {Q : (Int × bM) → Prop} (hfg : b_fg E) {s : Int × bM} (h : b_wp (b_loop (fun t => F_X12_act_s341 t.1 t.2) s) (X_X12_act_341 l E Q )) : A_X12_act_341 l E Q  s := b_loop_wp (fun t h => t_X12_act_s341 hfg h) s h
noncomputable def F_X12_act_b404 (M : bM) : Option (Int × bM) :=
  b_g (b_i32 ((M 11 35) + 1)) (b_let (b_up M 11 35 ((M 11 35) + 1)) (fun M89 => some ((M89 11 50), M89)))
theorem t_X12_act_b404 {l : Launch} {E : bE} {Q : (Int × bM) → Prop} {M : bM} (hfg : b_fg E) (h : b_wp (F_X12_act_b404 M) (Q)) : V l E xX12_act (0, 0) 404 [(0, bR 11)] [] M (b_pI Q) := by
  unfold F_X12_act_b404 at h
  obtain ⟨g88, h⟩ := b_wp_g h
  refine v_aload_n (f := 0) 0 rfl dX12_act_404 ?_
  refine v_dup rfl dX12_act_405 ?_
  refine v_getI (kf := 35) (kz := 35) rfl kd_11 rfl ⟨by decide, by decide⟩ rfl wf_12_487 dX12_act_406 ?_
  refine v_iconst ⟨by decide, by decide⟩ dX12_act_409 ?_
  refine v_iaddN g88 dX12_act_410 ?_
  refine v_putI (kf := 35) (kz := 35) rfl kd_11 rfl ⟨by decide, by decide⟩ rfl wf_12_487 rfl rfl dX12_act_411 ?_
  replace h := b_wp_l h
  refine v_aload_n (f := 0) 0 rfl dX12_act_414 ?_
  refine v_getI (kf := 50) (kz := 50) rfl kd_11 rfl ⟨by decide, by decide⟩ rfl wf_12_481 dX12_act_415 ?_
  refine v_ireturn rfl dX12_act_418 ⟨by decide, by decide⟩ ?_
  exact ⟨_, rfl, h⟩
noncomputable def F_X12_act_b339 (M : bM) : Option (Int × bM) :=
  b_bind (b_loop (fun t => F_X12_act_s341 t.1 t.2) (0, M)) (fun t => F_X12_act_b404 t)
theorem t_X12_act_b339 {l : Launch} {E : bE} {Q : (Int × bM) → Prop} {M : bM} (hfg : b_fg E) (h : b_wp (F_X12_act_b339 M) (Q)) : V l E xX12_act (0, 0) 339 [(0, bR 11)] [] M (b_pI Q) := by
  unfold F_X12_act_b339 at h
  refine v_iconst ⟨by decide, by decide⟩ dX12_act_339 ?_
  refine v_istore_n (g := 1) (i := 1) (ls' := [(1, bI _), (0, bR _)]) rfl (by decide) dX12_act_340 rfl ?_
  refine v_sub (ls2 := [(0, bR _), (1, bI _)]) [1, 0] rfl ?_
  refine l_X12_act_341 hfg (b_wp_m (fun t h => ?_) (b_wp_b h))
  show V l E xX12_act (0, 0) 404 [(0, bR 11)] [] _ (b_pI Q)
  exact t_X12_act_b404 hfg h
noncomputable def F_X12_act_b249 (M : bM) : Option (Int × bM) :=
  b_bind (b_loop (fun t => F_X12_act_s251 t.1 t.2) (0, M)) (fun t => F_X12_act_b339 t)
theorem t_X12_act_b249 {l : Launch} {E : bE} {Q : (Int × bM) → Prop} {M : bM} (hfg : b_fg E) (h : b_wp (F_X12_act_b249 M) (Q)) : V l E xX12_act (0, 0) 249 [(0, bR 11)] [] M (b_pI Q) := by
  unfold F_X12_act_b249 at h
  refine v_iconst ⟨by decide, by decide⟩ dX12_act_249 ?_
  refine v_istore_n (g := 1) (i := 1) (ls' := [(1, bI _), (0, bR _)]) rfl (by decide) dX12_act_250 rfl ?_
  refine v_sub (ls2 := [(0, bR _), (1, bI _)]) [1, 0] rfl ?_
  refine l_X12_act_251 hfg (b_wp_m (fun t h => ?_) (b_wp_b h))
  show V l E xX12_act (0, 0) 339 [(0, bR 11)] [] _ (b_pI Q)
  exact t_X12_act_b339 hfg h
noncomputable def F_X12_act_b209 (M : bM) : Option (Int × bM) :=
  b_bind (b_loop (fun t => F_X12_act_s211 t.1 t.2) (0, M)) (fun t => F_X12_act_b249 t)
theorem t_X12_act_b209 {l : Launch} {E : bE} {Q : (Int × bM) → Prop} {M : bM} (hfg : b_fg E) (h : b_wp (F_X12_act_b209 M) (Q)) : V l E xX12_act (0, 0) 209 [(0, bR 11)] [] M (b_pI Q) := by
  unfold F_X12_act_b209 at h
  refine v_iconst ⟨by decide, by decide⟩ dX12_act_209 ?_
  refine v_istore_n (g := 1) (i := 1) (ls' := [(1, bI _), (0, bR _)]) rfl (by decide) dX12_act_210 rfl ?_
  refine v_sub (ls2 := [(0, bR _), (1, bI _)]) [1, 0] rfl ?_
  refine l_X12_act_211 hfg (b_wp_m (fun t h => ?_) (b_wp_b h))
  show V l E xX12_act (0, 0) 249 [(0, bR 11)] [] _ (b_pI Q)
  exact t_X12_act_b249 hfg h
noncomputable def F_X12_act_b131 (M : bM) : Option (Int × bM) :=
  b_bind (b_loop (fun t => F_X12_act_s133 t.1 t.2) (0, M)) (fun t => F_X12_act_b209 t)
theorem t_X12_act_b131 {l : Launch} {E : bE} {Q : (Int × bM) → Prop} {M : bM} (hfg : b_fg E) (h : b_wp (F_X12_act_b131 M) (Q)) : V l E xX12_act (0, 0) 131 [(0, bR 11)] [] M (b_pI Q) := by
  unfold F_X12_act_b131 at h
  refine v_iconst ⟨by decide, by decide⟩ dX12_act_131 ?_
  refine v_istore_n (g := 1) (i := 1) (ls' := [(1, bI _), (0, bR _)]) rfl (by decide) dX12_act_132 rfl ?_
  refine v_sub (ls2 := [(0, bR _), (1, bI _)]) [1, 0] rfl ?_
  refine l_X12_act_133 hfg (b_wp_m (fun t h => ?_) (b_wp_b h))
  show V l E xX12_act (0, 0) 209 [(0, bR 11)] [] _ (b_pI Q)
  exact t_X12_act_b209 hfg h
noncomputable def F_X12_act_b69 (M : bM) : Option (Int × bM) :=
  if (M 11 35) = 8 then (some ((-3), M)) else (b_g (0 ≤ (M 11 35) ∧ (M 11 35) < 8) (b_let (b_up M 182 (M 11 35) (M 11 11)) (fun M18 => b_bind (b_loop (fun t => F_X12_act_s96 t.1 t.2) (0, M18)) (fun t => F_X12_act_b131 t))))
theorem t_X12_act_b69 {l : Launch} {E : bE} {Q : (Int × bM) → Prop} {M : bM} (hfg : b_fg E) (h : b_wp (F_X12_act_b69 M) (Q)) : V l E xX12_act (0, 0) 69 [(0, bR 11)] [] M (b_pI Q) := by
  unfold F_X12_act_b69 at h
  refine v_aload_n (f := 0) 0 rfl dX12_act_69 ?_
  refine v_getI (kf := 35) (kz := 35) rfl kd_11 rfl ⟨by decide, by decide⟩ rfl wf_12_487 dX12_act_70 ?_
  refine v_bipush ⟨by decide, by decide⟩ (by decide) dX12_act_73 ?_
  refine v_icmp_ne (tgt := 81) dX12_act_75 (by decide) (fun c16 => ?_) (fun c16 => ?_)
  · replace h := b_wp_f c16 h
    obtain ⟨g17, h⟩ := b_wp_g h
    refine v_aload_n (f := 0) 0 rfl dX12_act_81 ?_
    refine v_getR (kf := 36) (kz := 36) rfl kd_11 rfl ⟨by decide, by decide⟩ rfl wf_12_76 dX12_act_82 ?_
    refine v_aload_n (f := 0) 0 rfl dX12_act_85 ?_
    refine v_getI (kf := 35) (kz := 35) rfl kd_11 rfl ⟨by decide, by decide⟩ rfl wf_12_487 dX12_act_86 ?_
    refine v_aload_n (f := 0) 0 rfl dX12_act_89 ?_
    refine v_getI (kf := 11) (kz := 11) rfl kd_11 rfl ⟨by decide, by decide⟩ rfl wf_12_344 dX12_act_90 ?_
    refine v_iastore kd_182 g17 (by decide) dX12_act_93 ?_
    replace h := b_wp_l h
    refine v_iconst ⟨by decide, by decide⟩ dX12_act_94 ?_
    refine v_istore_n (g := 1) (i := 1) (ls' := [(1, bI _), (0, bR _)]) rfl (by decide) dX12_act_95 rfl ?_
    refine v_sub (ls2 := [(0, bR _), (1, bI _)]) [1, 0] rfl ?_
    refine l_X12_act_96 hfg (b_wp_m (fun t h => ?_) (b_wp_b h))
    show V l E xX12_act (0, 0) 131 [(0, bR 11)] [] _ (b_pI Q)
    exact t_X12_act_b131 hfg h
  · replace h := b_wp_t c16 h
    refine v_bipush ⟨by decide, by decide⟩ (by decide) dX12_act_78 ?_
    refine v_ireturn rfl dX12_act_80 ⟨by decide, by decide⟩ ?_
    exact ⟨_, rfl, h⟩
noncomputable def F_X12_act (M : bM) : Option (Int × bM) :=
  b_bind (F_X12_take M) (fun M1 => b_let (b_up M1 11 8 0) (fun M2 => b_let (b_up M2 11 9 (-1)) (fun M3 => b_let (b_up M3 11 50 0) (fun M4 => b_let (b_up M4 11 51 0) (fun M5 => b_bind (b_loop (fun t => F_X12_act_s26 t.1 t.2) (0, M5)) (fun t => b_bind (b_loop (fun t => F_X12_act_s51 t) (t)) (Sum.elim (fun t => F_X12_act_b69 t) some)))))))
theorem t_X12_act {l : Launch} {E : bE} {Q : (Int × bM) → Prop} {M : bM} (hfg : b_fg E) (h : b_wp (F_X12_act M) (Q)) : V l E xX12_act (0, 0) 0 [(0, bR 11)] [] M (b_pI Q) := by
  unfold F_X12_act at h
  refine v_aload_n (f := 0) 0 rfl dX12_act_0 ?_
  refine v_cVV (nA := 0) (As := []) (ix := 395) (cf_X12_take hfg (b_wp_b h)) rfl kd_11 rfl rfl wc_X12_take wm_12_395 wi_X12_take ws_X12_take wn_12 ⟨by decide, by decide, by decide⟩ rfl ⟨by decide, by decide⟩ ⟨by decide, by decide⟩ (Nat.le_of_ble_eq_true rfl) dX12_act_1 (fun M1 h => ?_)
  refine v_aload_n (f := 0) 0 rfl dX12_act_4 ?_
  refine v_iconst ⟨by decide, by decide⟩ dX12_act_5 ?_
  refine v_putI (kf := 8) (kz := 8) rfl kd_11 rfl ⟨by decide, by decide⟩ rfl wf_12_341 rfl rfl dX12_act_6 ?_
  replace h := b_wp_l h
  refine v_aload_n (f := 0) 0 rfl dX12_act_9 ?_
  refine v_iconst ⟨by decide, by decide⟩ dX12_act_10 ?_
  refine v_putI (kf := 9) (kz := 9) rfl kd_11 rfl ⟨by decide, by decide⟩ rfl wf_12_13 rfl rfl dX12_act_11 ?_
  replace h := b_wp_l h
  refine v_aload_n (f := 0) 0 rfl dX12_act_14 ?_
  refine v_iconst ⟨by decide, by decide⟩ dX12_act_15 ?_
  refine v_putI (kf := 50) (kz := 50) rfl kd_11 rfl ⟨by decide, by decide⟩ rfl wf_12_481 rfl rfl dX12_act_16 ?_
  replace h := b_wp_l h
  refine v_aload_n (f := 0) 0 rfl dX12_act_19 ?_
  refine v_iconst ⟨by decide, by decide⟩ dX12_act_20 ?_
  refine v_putI (kf := 51) (kz := 51) rfl kd_11 rfl ⟨by decide, by decide⟩ rfl wf_12_475 rfl rfl dX12_act_21 ?_
  replace h := b_wp_l h
  refine v_iconst ⟨by decide, by decide⟩ dX12_act_24 ?_
  refine v_istore_n (g := 1) (i := 1) (ls' := [(1, bI _), (0, bR _)]) rfl (by decide) dX12_act_25 rfl ?_
  refine v_sub (ls2 := [(0, bR _), (1, bI _)]) [1, 0] rfl ?_
  refine l_X12_act_26 hfg (b_wp_m (fun t h => ?_) (b_wp_b h))
  show V l E xX12_act (0, 0) 51 [(0, bR 11)] [] _ (b_pI Q)
  refine l_X12_act_51 hfg (b_wp_m (fun t h => ?_) (b_wp_b h))
  cases t with
  | inr o => exact h
  | inl t =>
    show V l E xX12_act (0, 0) 69 [(0, bR 11)] [] _ (b_pI Q)
    replace h := b_wp_inl h
    exact t_X12_act_b69 hfg h
theorem cf_X12_act {l : Launch} {E : bE} {M : bM} (hfg : b_fg E) {Q : (Int × bM) → Prop} (h : b_wp (F_X12_act M) Q) : b_C l E xX12_act yX12_act [bR 11] M (b_pI Q) := b_met (by decide) ⟨rfl, rfl⟩ (Nat.le_of_ble_eq_true rfl) (fun _ _ => t_X12_act hfg h)
abbrev xX12_actOn : bX := ("BurntHallModel", prog_14_method_68_code, 3, (Option.some Jvm.ClassFile.FieldType.int), b_rm 1 0 0, 0, "actOn")
abbrev yX12_actOn : MethodName := ⟨"BurntHallModel", "actOn", "(I)I"⟩
theorem dX12_actOn_0 : decode prog_14_method_68_code 0 = .ok (.aload_n 0, 1) := by decide +kernel
theorem dX12_actOn_1 : decode prog_14_method_68_code 1 = .ok (.getfield 487, 3) := by decide +kernel
theorem dX12_actOn_4 : decode prog_14_method_68_code 4 = .ok (.iconst 1, 1) := by decide +kernel
theorem dX12_actOn_5 : decode prog_14_method_68_code 5 = .ok (.isub, 1) := by decide +kernel
theorem dX12_actOn_6 : decode prog_14_method_68_code 6 = .ok (.istore_n 2, 1) := by decide +kernel
theorem dX12_actOn_7 : decode prog_14_method_68_code 7 = .ok (.iload_n 2, 1) := by decide +kernel
theorem dX12_actOn_8 : decode prog_14_method_68_code 8 = .ok (.ifCond .lt 19, 3) := by decide +kernel
theorem dX12_actOn_11 : decode prog_14_method_68_code 11 = .ok (.aload_n 0, 1) := by decide +kernel
theorem dX12_actOn_12 : decode prog_14_method_68_code 12 = .ok (.getfield 76, 3) := by decide +kernel
theorem dX12_actOn_15 : decode prog_14_method_68_code 15 = .ok (.iload_n 2, 1) := by decide +kernel
theorem dX12_actOn_16 : decode prog_14_method_68_code 16 = .ok (.iaload, 1) := by decide +kernel
theorem dX12_actOn_17 : decode prog_14_method_68_code 17 = .ok (.iload_n 1, 1) := by decide +kernel
theorem dX12_actOn_18 : decode prog_14_method_68_code 18 = .ok (.if_icmp .le 9, 3) := by decide +kernel
theorem dX12_actOn_21 : decode prog_14_method_68_code 21 = .ok (.iinc 2 (-1), 3) := by decide +kernel
theorem dX12_actOn_24 : decode prog_14_method_68_code 24 = .ok (.goto (-17), 3) := by decide +kernel
theorem dX12_actOn_27 : decode prog_14_method_68_code 27 = .ok (.iload_n 2, 1) := by decide +kernel
theorem dX12_actOn_28 : decode prog_14_method_68_code 28 = .ok (.ifCond .ge 8, 3) := by decide +kernel
theorem dX12_actOn_31 : decode prog_14_method_68_code 31 = .ok (.bipush 9, 2) := by decide +kernel
theorem dX12_actOn_33 : decode prog_14_method_68_code 33 = .ok (.goto 4, 3) := by decide +kernel
theorem dX12_actOn_36 : decode prog_14_method_68_code 36 = .ok (.iload_n 2, 1) := by decide +kernel
theorem dX12_actOn_37 : decode prog_14_method_68_code 37 = .ok (.ireturn, 1) := by decide +kernel
abbrev A_X12_actOn_7 (l : Launch) (E : bE) (Q : Int → Prop) (v1 : Int) (M : bM) : (Int) → Prop := (fun t : Int => V l E xX12_actOn (0, 0) 7 [(0, bR 11), (1, bI v1), (2, bI t)] [] M (b_pIp M Q))
abbrev X_X12_actOn_7 (l : Launch) (E : bE) (Q : Int → Prop) (v1 : Int) (M : bM) : (Int) → Prop := (fun t : Int => V l E xX12_actOn (0, 0) 27 [(2, bI t)] [] M (b_pIp M Q))
noncomputable def F_X12_actOn_s7 (v1 : Int) (v2 : Int) (M : bM) : Option ((Int) ⊕ (Int)) :=
  if v2 < 0 then (some (.inr (v2))) else (b_g (0 ≤ v2 ∧ v2 < 8) (if (M 182 v2) ≤ v1 then (some (.inr (v2))) else (b_g (b_i32 (v2 + (-1))) (some (.inl ((v2 + (-1))))))))
theorem t_X12_actOn_s7 {l : Launch} {E : bE} {Q : Int → Prop} {v1 : Int} {v2 : Int} {M : bM} (h : b_wp (F_X12_actOn_s7 v1 v2 M) (Sum.elim (A_X12_actOn_7 l E Q v1 M) (X_X12_actOn_7 l E Q v1 M))) : V l E xX12_actOn (0, 0) 7 [(0, bR 11), (1, bI v1), (2, bI v2)] [] M (b_pIp M Q) := by
  unfold F_X12_actOn_s7 at h
  refine v_iload_n (f := 2) 2 rfl dX12_actOn_7 ?_
  refine v_if_lt (tgt := 27) dX12_actOn_8 (by decide) (fun c3 => ?_) (fun c3 => ?_)
  · replace h := b_wp_t c3 h
    refine v_sub (ls2 := [(2, bI _)]) [2] rfl ?_
    exact h
  · replace h := b_wp_f c3 h
    obtain ⟨g4, h⟩ := b_wp_g h
    refine v_aload_n (f := 0) 0 rfl dX12_actOn_11 ?_
    refine v_getR (kf := 36) (kz := 36) rfl kd_11 rfl ⟨by decide, by decide⟩ rfl wf_12_76 dX12_actOn_12 ?_
    refine v_iload_n (f := 2) 2 rfl dX12_actOn_15 ?_
    refine v_iaload kd_182 g4 (by decide) dX12_actOn_16 ?_
    refine v_iload_n (f := 1) 1 rfl dX12_actOn_17 ?_
    refine v_icmp_le (tgt := 27) dX12_actOn_18 (by decide) (fun c5 => ?_) (fun c5 => ?_)
    · replace h := b_wp_t c5 h
      refine v_sub (ls2 := [(2, bI _)]) [2] rfl ?_
      exact h
    · replace h := b_wp_f c5 h
      obtain ⟨g6, h⟩ := b_wp_g h
      refine v_iincN (ls' := [(2, bI _), (0, bR _), (1, bI _)]) 2 rfl (by decide) g6 dX12_actOn_21 rfl ?_
      refine v_goto (tgt := 7) dX12_actOn_24 (by decide) ?_
      refine v_sub (ls2 := [(0, bR _), (1, bI _), (2, bI _)]) [1, 2, 0] rfl ?_
      exact h
theorem l_X12_actOn_7 {l : Launch} {E : bE} {Q : Int → Prop} {v1 : Int} {M : bM} {s : Int} (h : b_wp (b_loop (fun t => F_X12_actOn_s7 v1 t M) s) (X_X12_actOn_7 l E Q v1 M)) : A_X12_actOn_7 l E Q v1 M s := b_loop_wp (fun t h => t_X12_actOn_s7 h) s h
noncomputable def F_X12_actOn_b27 (v2 : Int) (M : bM) : Option (Int) :=
  if 0 ≤ v2 then (some v2) else (some 9)
theorem t_X12_actOn_b27 {l : Launch} {E : bE} {Q : Int → Prop} {v2 : Int} {M : bM} (h : b_wp (F_X12_actOn_b27 v2 M) (Q)) : V l E xX12_actOn (0, 0) 27 [(2, bI v2)] [] M (b_pIp M Q) := by
  unfold F_X12_actOn_b27 at h
  refine v_iload_n (f := 2) 0 rfl dX12_actOn_27 ?_
  refine v_if_ge (tgt := 36) dX12_actOn_28 (by decide) (fun c7 => ?_) (fun c7 => ?_)
  · replace h := b_wp_t c7 h
    refine v_iload_n (f := 2) 0 rfl dX12_actOn_36 ?_
    refine v_ireturn rfl dX12_actOn_37 ⟨by decide, by decide⟩ ?_
    exact ⟨_, rfl, rfl, h⟩
  · replace h := b_wp_f c7 h
    refine v_bipush ⟨by decide, by decide⟩ (by decide) dX12_actOn_31 ?_
    refine v_goto (tgt := 37) dX12_actOn_33 (by decide) ?_
    refine v_ireturn rfl dX12_actOn_37 ⟨by decide, by decide⟩ ?_
    exact ⟨_, rfl, rfl, h⟩
noncomputable def F_X12_actOn (v1 : Int) (M : bM) : Option (Int) :=
  b_g (b_i32 ((M 11 35) - 1)) (b_let (((M 11 35) - 1)) (fun y2 => b_bind (b_loop (fun t => F_X12_actOn_s7 v1 t M) (y2)) (fun t => F_X12_actOn_b27 t M)))
theorem t_X12_actOn {l : Launch} {E : bE} {Q : Int → Prop} {v1 : Int} {M : bM} (h : b_wp (F_X12_actOn v1 M) (Q)) : V l E xX12_actOn (0, 0) 0 [(0, bR 11), (1, bI v1)] [] M (b_pIp M Q) := by
  unfold F_X12_actOn at h
  obtain ⟨g1, h⟩ := b_wp_g h
  refine v_aload_n (f := 0) 0 rfl dX12_actOn_0 ?_
  refine v_getI (kf := 35) (kz := 35) rfl kd_11 rfl ⟨by decide, by decide⟩ rfl wf_12_487 dX12_actOn_1 ?_
  refine v_iconst ⟨by decide, by decide⟩ dX12_actOn_4 ?_
  refine v_isubN g1 dX12_actOn_5 ?_
  replace h := b_wp_l h
  refine v_istore_n (g := 2) (i := 2) (ls' := [(2, bI _), (0, bR _), (1, bI _)]) rfl (by decide) dX12_actOn_6 rfl ?_
  refine v_sub (ls2 := [(0, bR _), (1, bI _), (2, bI _)]) [1, 2, 0] rfl ?_
  refine l_X12_actOn_7 (b_wp_m (fun t h => ?_) (b_wp_b h))
  show V l E xX12_actOn (0, 0) 27 [(2, bI _)] [] _ (b_pIp M Q)
  exact t_X12_actOn_b27 h
theorem cf_X12_actOn {l : Launch} {E : bE} {M : bM} {v1 : Int} {Q : Int → Prop} (h : b_wp (F_X12_actOn v1 M) Q) : b_C l E xX12_actOn yX12_actOn [bR 11, bI v1] M (b_pIp M Q) := b_met (by decide) ⟨rfl, rfl⟩ (Nat.le_of_ble_eq_true rfl) (fun _ _ => t_X12_actOn h)
abbrev xX12_ruleOn : bX := ("BurntHallModel", prog_14_method_69_code, 3, (Option.some Jvm.ClassFile.FieldType.int), b_rm 2 0 0, 0, "ruleOn")
abbrev yX12_ruleOn : MethodName := ⟨"BurntHallModel", "ruleOn", "(II)I"⟩
theorem dX12_ruleOn_0 : decode prog_14_method_69_code 0 = .ok (.aload_n 0, 1) := by decide +kernel
theorem dX12_ruleOn_1 : decode prog_14_method_69_code 1 = .ok (.getfield 79, 3) := by decide +kernel
theorem dX12_ruleOn_4 : decode prog_14_method_69_code 4 = .ok (.bipush 11, 2) := by decide +kernel
theorem dX12_ruleOn_6 : decode prog_14_method_69_code 6 = .ok (.aload_n 0, 1) := by decide +kernel
theorem dX12_ruleOn_7 : decode prog_14_method_69_code 7 = .ok (.iload_n 1, 1) := by decide +kernel
theorem dX12_ruleOn_8 : decode prog_14_method_69_code 8 = .ok (.invokevirtual 490, 3) := by decide +kernel
theorem dX12_ruleOn_11 : decode prog_14_method_69_code 11 = .ok (.imul, 1) := by decide +kernel
theorem dX12_ruleOn_12 : decode prog_14_method_69_code 12 = .ok (.iload_n 2, 1) := by decide +kernel
theorem dX12_ruleOn_13 : decode prog_14_method_69_code 13 = .ok (.iadd, 1) := by decide +kernel
theorem dX12_ruleOn_14 : decode prog_14_method_69_code 14 = .ok (.iaload, 1) := by decide +kernel
theorem dX12_ruleOn_15 : decode prog_14_method_69_code 15 = .ok (.ireturn, 1) := by decide +kernel
noncomputable def F_X12_ruleOn (v1 : Int) (v2 : Int) (M : bM) : Option (Int) :=
  b_bind (F_X12_actOn v1 M) (fun x1 => b_g ((b_i32 (11 * x1)) ∧ (b_i32 ((11 * x1) + v2)) ∧ (0 ≤ ((11 * x1) + v2) ∧ ((11 * x1) + v2) < 110)) (some (M 183 ((11 * x1) + v2))))
theorem t_X12_ruleOn {l : Launch} {E : bE} {Q : Int → Prop} {v1 : Int} {v2 : Int} {M : bM} (h : b_wp (F_X12_ruleOn v1 v2 M) (Q)) : V l E xX12_ruleOn (0, 0) 0 [(0, bR 11), (1, bI v1), (2, bI v2)] [] M (b_pIp M Q) := by
  unfold F_X12_ruleOn at h
  refine v_aload_n (f := 0) 0 rfl dX12_ruleOn_0 ?_
  refine v_getR (kf := 37) (kz := 37) rfl kd_11 rfl ⟨by decide, by decide⟩ rfl wf_12_79 dX12_ruleOn_1 ?_
  refine v_bipush ⟨by decide, by decide⟩ (by decide) dX12_ruleOn_4 ?_
  refine v_aload_n (f := 0) 0 rfl dX12_ruleOn_6 ?_
  refine v_iload_n (f := 1) 1 rfl dX12_ruleOn_7 ?_
  refine v_cVIp (nA := 1) (As := [bI _]) (ix := 490) (cf_X12_actOn (b_wp_b h)) rfl kd_11 rfl rfl wc_X12_actOn wm_12_490 wi_X12_actOn ws_X12_actOn wn_12 ⟨by decide, by decide, by decide⟩ rfl ⟨by decide, by decide⟩ ⟨by decide, by decide⟩ (Nat.le_of_ble_eq_true rfl) dX12_ruleOn_8 (fun x1 h => ?_)
  obtain ⟨⟨g2, g3, g4⟩, h⟩ := b_wp_g h
  refine v_imulN g2 dX12_ruleOn_11 ?_
  refine v_iload_n (f := 2) 2 rfl dX12_ruleOn_12 ?_
  refine v_iaddN g3 dX12_ruleOn_13 ?_
  refine v_iaload kd_183 g4 (by decide) dX12_ruleOn_14 ?_
  refine v_ireturn rfl dX12_ruleOn_15 ⟨by decide, by decide⟩ ?_
  exact ⟨_, rfl, rfl, h⟩
theorem cf_X12_ruleOn {l : Launch} {E : bE} {M : bM} {v1 : Int} {v2 : Int} {Q : Int → Prop} (h : b_wp (F_X12_ruleOn v1 v2 M) Q) : b_C l E xX12_ruleOn yX12_ruleOn [bR 11, bI v1, bI v2] M (b_pIp M Q) := b_met (by decide) ⟨rfl, rfl⟩ (Nat.le_of_ble_eq_true rfl) (fun _ _ => t_X12_ruleOn h)
abbrev xX12_rule : bX := ("BurntHallModel", prog_14_method_70_code, 3, (Option.some Jvm.ClassFile.FieldType.int), b_rm 3 0 0, 0, "rule")
abbrev yX12_rule : MethodName := ⟨"BurntHallModel", "rule", "(II)I"⟩
theorem dX12_rule_0 : decode prog_14_method_70_code 0 = .ok (.iload_n 1, 1) := by decide +kernel
theorem dX12_rule_1 : decode prog_14_method_70_code 1 = .ok (.invokestatic 347, 3) := by decide +kernel
theorem dX12_rule_4 : decode prog_14_method_70_code 4 = .ok (.ifCond .eq 22, 3) := by decide +kernel
theorem dX12_rule_7 : decode prog_14_method_70_code 7 = .ok (.iload_n 2, 1) := by decide +kernel
theorem dX12_rule_8 : decode prog_14_method_70_code 8 = .ok (.iconst 0, 1) := by decide +kernel
theorem dX12_rule_9 : decode prog_14_method_70_code 9 = .ok (.bipush 10, 2) := by decide +kernel
theorem dX12_rule_11 : decode prog_14_method_70_code 11 = .ok (.invokestatic 279, 3) := by decide +kernel
theorem dX12_rule_14 : decode prog_14_method_70_code 14 = .ok (.ifCond .eq 12, 3) := by decide +kernel
theorem dX12_rule_17 : decode prog_14_method_70_code 17 = .ok (.aload_n 0, 1) := by decide +kernel
theorem dX12_rule_18 : decode prog_14_method_70_code 18 = .ok (.iload_n 1, 1) := by decide +kernel
theorem dX12_rule_19 : decode prog_14_method_70_code 19 = .ok (.iload_n 2, 1) := by decide +kernel
theorem dX12_rule_20 : decode prog_14_method_70_code 20 = .ok (.invokevirtual 493, 3) := by decide +kernel
theorem dX12_rule_23 : decode prog_14_method_70_code 23 = .ok (.goto 5, 3) := by decide +kernel
theorem dX12_rule_26 : decode prog_14_method_70_code 26 = .ok (.bipush (-9), 2) := by decide +kernel
theorem dX12_rule_28 : decode prog_14_method_70_code 28 = .ok (.ireturn, 1) := by decide +kernel
noncomputable def F_X12_rule (v1 : Int) (v2 : Int) (M : bM) : Option (Int) :=
  b_bind (F_X12_isDay v1 M) (fun x1 => if x1 = 0 then (some (-9)) else (b_bind (F_X12_in v2 0 10 M) (fun x3 => if x3 = 0 then (some (-9)) else (b_bind (F_X12_ruleOn v1 v2 M) (fun x5 => some x5)))))
theorem t_X12_rule {l : Launch} {E : bE} {Q : Int → Prop} {v1 : Int} {v2 : Int} {M : bM} (h : b_wp (F_X12_rule v1 v2 M) (Q)) : V l E xX12_rule (0, 0) 0 [(0, bR 11), (1, bI v1), (2, bI v2)] [] M (b_pIp M Q) := by
  unfold F_X12_rule at h
  refine v_iload_n (f := 1) 1 rfl dX12_rule_0 ?_
  refine v_cSIp (nA := 1) (As := [bI _]) (ix := 347) (cf_X12_isDay (b_wp_b h)) rfl wc_X12_isDay wm_12_347 wi_X12_isDay wn_12 ⟨by decide, by decide, by decide⟩ rfl ⟨by decide, by decide⟩ ⟨by decide, by decide⟩ (Nat.le_of_ble_eq_true rfl) dX12_rule_1 (fun x1 h => ?_)
  refine v_if_eq (tgt := 26) dX12_rule_4 (by decide) (fun c2 => ?_) (fun c2 => ?_)
  · replace h := b_wp_t c2 h
    refine v_bipush ⟨by decide, by decide⟩ (by decide) dX12_rule_26 ?_
    refine v_ireturn rfl dX12_rule_28 ⟨by decide, by decide⟩ ?_
    exact ⟨_, rfl, rfl, h⟩
  · replace h := b_wp_f c2 h
    refine v_iload_n (f := 2) 2 rfl dX12_rule_7 ?_
    refine v_iconst ⟨by decide, by decide⟩ dX12_rule_8 ?_
    refine v_bipush ⟨by decide, by decide⟩ (by decide) dX12_rule_9 ?_
    refine v_cSIp (nA := 3) (As := [bI _, bI _, bI _]) (ix := 279) (cf_X12_in (b_wp_b h)) rfl wc_X12_in wm_12_279 wi_X12_in wn_12 ⟨by decide, by decide, by decide⟩ rfl ⟨by decide, by decide⟩ ⟨by decide, by decide⟩ (Nat.le_of_ble_eq_true rfl) dX12_rule_11 (fun x3 h => ?_)
    refine v_if_eq (tgt := 26) dX12_rule_14 (by decide) (fun c4 => ?_) (fun c4 => ?_)
    · replace h := b_wp_t c4 h
      refine v_bipush ⟨by decide, by decide⟩ (by decide) dX12_rule_26 ?_
      refine v_ireturn rfl dX12_rule_28 ⟨by decide, by decide⟩ ?_
      exact ⟨_, rfl, rfl, h⟩
    · replace h := b_wp_f c4 h
      refine v_aload_n (f := 0) 0 rfl dX12_rule_17 ?_
      refine v_iload_n (f := 1) 1 rfl dX12_rule_18 ?_
      refine v_iload_n (f := 2) 2 rfl dX12_rule_19 ?_
      refine v_cVIp (nA := 2) (As := [bI _, bI _]) (ix := 493) (cf_X12_ruleOn (b_wp_b h)) rfl kd_11 rfl rfl wc_X12_ruleOn wm_12_493 wi_X12_ruleOn ws_X12_ruleOn wn_12 ⟨by decide, by decide, by decide⟩ rfl ⟨by decide, by decide⟩ ⟨by decide, by decide⟩ (Nat.le_of_ble_eq_true rfl) dX12_rule_20 (fun x5 h => ?_)
      refine v_goto (tgt := 28) dX12_rule_23 (by decide) ?_
      refine v_ireturn rfl dX12_rule_28 ⟨by decide, by decide⟩ ?_
      exact ⟨_, rfl, rfl, h⟩
theorem cf_X12_rule {l : Launch} {E : bE} {M : bM} {v1 : Int} {v2 : Int} {Q : Int → Prop} (h : b_wp (F_X12_rule v1 v2 M) Q) : b_C l E xX12_rule yX12_rule [bR 11, bI v1, bI v2] M (b_pIp M Q) := b_met (by decide) ⟨rfl, rfl⟩ (Nat.le_of_ble_eq_true rfl) (fun _ _ => t_X12_rule h)
abbrev xX12_readMarks : bX := ("BurntHallModel", prog_14_method_71_code, 3, (Option.some Jvm.ClassFile.FieldType.boolean), b_rm 8 0 0, 0, "readMarks")
abbrev yX12_readMarks : MethodName := ⟨"BurntHallModel", "readMarks", "()Z"⟩
theorem dX12_readMarks_0 : decode prog_14_method_71_code 0 = .ok (.aload_n 0, 1) := by decide +kernel
theorem dX12_readMarks_1 : decode prog_14_method_71_code 1 = .ok (.getfield 155, 3) := by decide +kernel
theorem dX12_readMarks_4 : decode prog_14_method_71_code 4 = .ok (.bipush 120, 2) := by decide +kernel
theorem dX12_readMarks_6 : decode prog_14_method_71_code 6 = .ok (.iconst 0, 1) := by decide +kernel
theorem dX12_readMarks_7 : decode prog_14_method_71_code 7 = .ok (.iastore, 1) := by decide +kernel
theorem dX12_readMarks_8 : decode prog_14_method_71_code 8 = .ok (.aload_n 0, 1) := by decide +kernel
theorem dX12_readMarks_9 : decode prog_14_method_71_code 9 = .ok (.getfield 316, 3) := by decide +kernel
theorem dX12_readMarks_12 : decode prog_14_method_71_code 12 = .ok (.bipush 8, 2) := by decide +kernel
theorem dX12_readMarks_14 : decode prog_14_method_71_code 14 = .ok (.if_icmp .eq 157, 3) := by decide +kernel
theorem dX12_readMarks_17 : decode prog_14_method_71_code 17 = .ok (.aload_n 0, 1) := by decide +kernel
theorem dX12_readMarks_18 : decode prog_14_method_71_code 18 = .ok (.getfield 155, 3) := by decide +kernel
theorem dX12_readMarks_21 : decode prog_14_method_71_code 21 = .ok (.bipush 120, 2) := by decide +kernel
theorem dX12_readMarks_23 : decode prog_14_method_71_code 23 = .ok (.iaload, 1) := by decide +kernel
theorem dX12_readMarks_24 : decode prog_14_method_71_code 24 = .ok (.istore_n 1, 1) := by decide +kernel
theorem dX12_readMarks_25 : decode prog_14_method_71_code 25 = .ok (.aload_n 0, 1) := by decide +kernel
theorem dX12_readMarks_26 : decode prog_14_method_71_code 26 = .ok (.getfield 316, 3) := by decide +kernel
theorem dX12_readMarks_29 : decode prog_14_method_71_code 29 = .ok (.iconst 1, 1) := by decide +kernel
theorem dX12_readMarks_30 : decode prog_14_method_71_code 30 = .ok (.if_icmp .ne 9, 3) := by decide +kernel
theorem dX12_readMarks_33 : decode prog_14_method_71_code 33 = .ok (.iload_n 1, 1) := by decide +kernel
theorem dX12_readMarks_34 : decode prog_14_method_71_code 34 = .ok (.bipush 12, 2) := by decide +kernel
theorem dX12_readMarks_36 : decode prog_14_method_71_code 36 = .ok (.if_icmp .ne 5, 3) := by decide +kernel
theorem dX12_readMarks_39 : decode prog_14_method_71_code 39 = .ok (.iconst 0, 1) := by decide +kernel
theorem dX12_readMarks_40 : decode prog_14_method_71_code 40 = .ok (.ireturn, 1) := by decide +kernel
theorem dX12_readMarks_41 : decode prog_14_method_71_code 41 = .ok (.iconst 0, 1) := by decide +kernel
theorem dX12_readMarks_42 : decode prog_14_method_71_code 42 = .ok (.istore_n 2, 1) := by decide +kernel
theorem dX12_readMarks_43 : decode prog_14_method_71_code 43 = .ok (.iload_n 2, 1) := by decide +kernel
theorem dX12_readMarks_44 : decode prog_14_method_71_code 44 = .ok (.iload_n 1, 1) := by decide +kernel
theorem dX12_readMarks_45 : decode prog_14_method_71_code 45 = .ok (.if_icmp .ge 29, 3) := by decide +kernel
theorem dX12_readMarks_48 : decode prog_14_method_71_code 48 = .ok (.aload_n 0, 1) := by decide +kernel
theorem dX12_readMarks_49 : decode prog_14_method_71_code 49 = .ok (.getfield 149, 3) := by decide +kernel
theorem dX12_readMarks_52 : decode prog_14_method_71_code 52 = .ok (.sipush 1440, 3) := by decide +kernel
theorem dX12_readMarks_55 : decode prog_14_method_71_code 55 = .ok (.iload_n 2, 1) := by decide +kernel
theorem dX12_readMarks_56 : decode prog_14_method_71_code 56 = .ok (.iadd, 1) := by decide +kernel
theorem dX12_readMarks_57 : decode prog_14_method_71_code 57 = .ok (.laload, 1) := by decide +kernel
theorem dX12_readMarks_58 : decode prog_14_method_71_code 58 = .ok (.aload_n 0, 1) := by decide +kernel
theorem dX12_readMarks_59 : decode prog_14_method_71_code 59 = .ok (.getfield 323, 3) := by decide +kernel
theorem dX12_readMarks_62 : decode prog_14_method_71_code 62 = .ok (.lcmp, 1) := by decide +kernel
theorem dX12_readMarks_63 : decode prog_14_method_71_code 63 = .ok (.ifCond .ne 5, 3) := by decide +kernel
theorem dX12_readMarks_66 : decode prog_14_method_71_code 66 = .ok (.iconst 0, 1) := by decide +kernel
theorem dX12_readMarks_67 : decode prog_14_method_71_code 67 = .ok (.ireturn, 1) := by decide +kernel
theorem dX12_readMarks_68 : decode prog_14_method_71_code 68 = .ok (.iinc 2 1, 3) := by decide +kernel
theorem dX12_readMarks_71 : decode prog_14_method_71_code 71 = .ok (.goto (-28), 3) := by decide +kernel
theorem dX12_readMarks_74 : decode prog_14_method_71_code 74 = .ok (.aload_n 0, 1) := by decide +kernel
theorem dX12_readMarks_75 : decode prog_14_method_71_code 75 = .ok (.getfield 149, 3) := by decide +kernel
theorem dX12_readMarks_78 : decode prog_14_method_71_code 78 = .ok (.sipush 1440, 3) := by decide +kernel
theorem dX12_readMarks_81 : decode prog_14_method_71_code 81 = .ok (.iload_n 1, 1) := by decide +kernel
theorem dX12_readMarks_82 : decode prog_14_method_71_code 82 = .ok (.iadd, 1) := by decide +kernel
theorem dX12_readMarks_83 : decode prog_14_method_71_code 83 = .ok (.aload_n 0, 1) := by decide +kernel
theorem dX12_readMarks_84 : decode prog_14_method_71_code 84 = .ok (.getfield 323, 3) := by decide +kernel
theorem dX12_readMarks_87 : decode prog_14_method_71_code 87 = .ok (.lastore, 1) := by decide +kernel
theorem dX12_readMarks_88 : decode prog_14_method_71_code 88 = .ok (.aload_n 0, 1) := by decide +kernel
theorem dX12_readMarks_89 : decode prog_14_method_71_code 89 = .ok (.getfield 152, 3) := by decide +kernel
theorem dX12_readMarks_92 : decode prog_14_method_71_code 92 = .ok (.sipush 1440, 3) := by decide +kernel
theorem dX12_readMarks_95 : decode prog_14_method_71_code 95 = .ok (.iload_n 1, 1) := by decide +kernel
theorem dX12_readMarks_96 : decode prog_14_method_71_code 96 = .ok (.iadd, 1) := by decide +kernel
theorem dX12_readMarks_97 : decode prog_14_method_71_code 97 = .ok (.iconst 1, 1) := by decide +kernel
theorem dX12_readMarks_98 : decode prog_14_method_71_code 98 = .ok (.iastore, 1) := by decide +kernel
theorem dX12_readMarks_99 : decode prog_14_method_71_code 99 = .ok (.aload_n 0, 1) := by decide +kernel
theorem dX12_readMarks_100 : decode prog_14_method_71_code 100 = .ok (.invokevirtual 292, 3) := by decide +kernel
theorem dX12_readMarks_103 : decode prog_14_method_71_code 103 = .ok (.aload_n 0, 1) := by decide +kernel
theorem dX12_readMarks_104 : decode prog_14_method_71_code 104 = .ok (.getfield 316, 3) := by decide +kernel
theorem dX12_readMarks_107 : decode prog_14_method_71_code 107 = .ok (.iconst 4, 1) := by decide +kernel
theorem dX12_readMarks_108 : decode prog_14_method_71_code 108 = .ok (.if_icmp .ne 35, 3) := by decide +kernel
theorem dX12_readMarks_111 : decode prog_14_method_71_code 111 = .ok (.aload_n 0, 1) := by decide +kernel
theorem dX12_readMarks_112 : decode prog_14_method_71_code 112 = .ok (.invokevirtual 292, 3) := by decide +kernel
theorem dX12_readMarks_115 : decode prog_14_method_71_code 115 = .ok (.aload_n 0, 1) := by decide +kernel
theorem dX12_readMarks_116 : decode prog_14_method_71_code 116 = .ok (.getfield 316, 3) := by decide +kernel
theorem dX12_readMarks_119 : decode prog_14_method_71_code 119 = .ok (.iconst 2, 1) := by decide +kernel
theorem dX12_readMarks_120 : decode prog_14_method_71_code 120 = .ok (.if_icmp .eq 5, 3) := by decide +kernel
theorem dX12_readMarks_123 : decode prog_14_method_71_code 123 = .ok (.iconst 0, 1) := by decide +kernel
theorem dX12_readMarks_124 : decode prog_14_method_71_code 124 = .ok (.ireturn, 1) := by decide +kernel
theorem dX12_readMarks_125 : decode prog_14_method_71_code 125 = .ok (.aload_n 0, 1) := by decide +kernel
theorem dX12_readMarks_126 : decode prog_14_method_71_code 126 = .ok (.getfield 152, 3) := by decide +kernel
theorem dX12_readMarks_129 : decode prog_14_method_71_code 129 = .ok (.sipush 1440, 3) := by decide +kernel
theorem dX12_readMarks_132 : decode prog_14_method_71_code 132 = .ok (.iload_n 1, 1) := by decide +kernel
theorem dX12_readMarks_133 : decode prog_14_method_71_code 133 = .ok (.iadd, 1) := by decide +kernel
theorem dX12_readMarks_134 : decode prog_14_method_71_code 134 = .ok (.aload_n 0, 1) := by decide +kernel
theorem dX12_readMarks_135 : decode prog_14_method_71_code 135 = .ok (.getfield 338, 3) := by decide +kernel
theorem dX12_readMarks_138 : decode prog_14_method_71_code 138 = .ok (.iastore, 1) := by decide +kernel
theorem dX12_readMarks_139 : decode prog_14_method_71_code 139 = .ok (.aload_n 0, 1) := by decide +kernel
theorem dX12_readMarks_140 : decode prog_14_method_71_code 140 = .ok (.invokevirtual 292, 3) := by decide +kernel
theorem dX12_readMarks_143 : decode prog_14_method_71_code 143 = .ok (.aload_n 0, 1) := by decide +kernel
theorem dX12_readMarks_144 : decode prog_14_method_71_code 144 = .ok (.getfield 316, 3) := by decide +kernel
theorem dX12_readMarks_147 : decode prog_14_method_71_code 147 = .ok (.iconst 3, 1) := by decide +kernel
theorem dX12_readMarks_148 : decode prog_14_method_71_code 148 = .ok (.if_icmp .eq 5, 3) := by decide +kernel
theorem dX12_readMarks_151 : decode prog_14_method_71_code 151 = .ok (.iconst 0, 1) := by decide +kernel
theorem dX12_readMarks_152 : decode prog_14_method_71_code 152 = .ok (.ireturn, 1) := by decide +kernel
theorem dX12_readMarks_153 : decode prog_14_method_71_code 153 = .ok (.aload_n 0, 1) := by decide +kernel
theorem dX12_readMarks_154 : decode prog_14_method_71_code 154 = .ok (.invokevirtual 292, 3) := by decide +kernel
theorem dX12_readMarks_157 : decode prog_14_method_71_code 157 = .ok (.aload_n 0, 1) := by decide +kernel
theorem dX12_readMarks_158 : decode prog_14_method_71_code 158 = .ok (.getfield 155, 3) := by decide +kernel
theorem dX12_readMarks_161 : decode prog_14_method_71_code 161 = .ok (.bipush 120, 2) := by decide +kernel
theorem dX12_readMarks_163 : decode prog_14_method_71_code 163 = .ok (.dup2, 1) := by decide +kernel
theorem dX12_readMarks_164 : decode prog_14_method_71_code 164 = .ok (.iaload, 1) := by decide +kernel
theorem dX12_readMarks_165 : decode prog_14_method_71_code 165 = .ok (.iconst 1, 1) := by decide +kernel
theorem dX12_readMarks_166 : decode prog_14_method_71_code 166 = .ok (.iadd, 1) := by decide +kernel
theorem dX12_readMarks_167 : decode prog_14_method_71_code 167 = .ok (.iastore, 1) := by decide +kernel
theorem dX12_readMarks_168 : decode prog_14_method_71_code 168 = .ok (.goto (-160), 3) := by decide +kernel
theorem dX12_readMarks_171 : decode prog_14_method_71_code 171 = .ok (.iconst 1, 1) := by decide +kernel
theorem dX12_readMarks_172 : decode prog_14_method_71_code 172 = .ok (.ireturn, 1) := by decide +kernel
abbrev A_X12_readMarks_8 (l : Launch) (E : bE) (Q : (Int × bM) → Prop) : (bM) → Prop := (fun t : bM => V l E xX12_readMarks (0, 0) 8 [(0, bR 11)] [] t (b_pI Q))
abbrev X_X12_readMarks_8 (l : Launch) (E : bE) (Q : (Int × bM) → Prop) : ((bM) ⊕ (Int × bM)) → Prop := (Sum.elim (fun t : bM => V l E xX12_readMarks (0, 0) 171 [] [] t (b_pI Q)) Q)
abbrev A_X12_readMarks_43 (l : Launch) (E : bE) (Q : (Int × bM) → Prop) (v1 : Int) (M : bM) : (Int) → Prop := (fun t : Int => V l E xX12_readMarks (0, 0) 43 [(0, bR 11), (1, bI v1), (2, bI t)] [] M (b_pI Q))
abbrev X_X12_readMarks_43 (l : Launch) (E : bE) (Q : (Int × bM) → Prop) (v1 : Int) (M : bM) : ((Unit) ⊕ ((bM) ⊕ ((bM) ⊕ (Int × bM)))) → Prop := (Sum.elim (fun t : Unit => V l E xX12_readMarks (0, 0) 74 [(0, bR 11), (1, bI v1)] [] M (b_pI Q)) (Sum.elim (A_X12_readMarks_8 l E Q ) (X_X12_readMarks_8 l E Q )))
noncomputable def F_X12_readMarks_s43 (v1 : Int) (v2 : Int) (M : bM) : Option ((Int) ⊕ ((Unit) ⊕ ((bM) ⊕ ((bM) ⊕ (Int × bM))))) :=
  if v1 ≤ v2 then (some (.inr (.inl ()))) else (b_g ((b_i32 (1440 + v2)) ∧ (0 ≤ (1440 + v2) ∧ (1440 + v2) < 1452)) (if (j_cmp (M 205 (1440 + v2)) (M 11 10)) = 0 then (some (.inr (.inr (.inr (.inr (0, M)))))) else (b_g (b_i32 (v2 + 1)) (some (.inl ((v2 + 1)))))))
theorem t_X12_readMarks_s43 {l : Launch} {E : bE} {Q : (Int × bM) → Prop} {v1 : Int} {v2 : Int} {M : bM} (hfg : b_fg E) (h : b_wp (F_X12_readMarks_s43 v1 v2 M) (Sum.elim (A_X12_readMarks_43 l E Q v1 M) (X_X12_readMarks_43 l E Q v1 M))) : V l E xX12_readMarks (0, 0) 43 [(0, bR 11), (1, bI v1), (2, bI v2)] [] M (b_pI Q) := by
  unfold F_X12_readMarks_s43 at h
  refine v_iload_n (f := 2) 2 rfl dX12_readMarks_43 ?_
  refine v_iload_n (f := 1) 1 rfl dX12_readMarks_44 ?_
  refine v_icmp_ge (tgt := 74) dX12_readMarks_45 (by decide) (fun c6 => ?_) (fun c6 => ?_)
  · replace h := b_wp_t c6 h
    refine v_sub (ls2 := [(0, bR _), (1, bI _)]) [0, 1] rfl ?_
    exact h
  · replace h := b_wp_f c6 h
    obtain ⟨⟨g7, g8⟩, h⟩ := b_wp_g h
    refine v_aload_n (f := 0) 0 rfl dX12_readMarks_48 ?_
    refine v_getR (kf := 66) (kz := 66) rfl kd_11 rfl ⟨by decide, by decide⟩ rfl wf_12_149 dX12_readMarks_49 ?_
    refine v_sipush ⟨by decide, by decide⟩ (by decide) dX12_readMarks_52 ?_
    refine v_iload_n (f := 2) 2 rfl dX12_readMarks_55 ?_
    refine v_iaddN g7 dX12_readMarks_56 ?_
    refine v_laload kd_205 g8 (by decide) dX12_readMarks_57 ?_
    refine v_aload_n (f := 0) 0 rfl dX12_readMarks_58 ?_
    refine v_getJ (kf := 10) (kz := 10) rfl kd_11 rfl ⟨by decide, by decide⟩ rfl wf_12_323 dX12_readMarks_59 ?_
    refine v_lcmpN dX12_readMarks_62 ?_
    refine v_if_ne (tgt := 68) dX12_readMarks_63 (by decide) (fun c9 => ?_) (fun c9 => ?_)
    · replace h := b_wp_f c9 h
      obtain ⟨g10, h⟩ := b_wp_g h
      refine v_iincN (ls' := [(2, bI _), (0, bR _), (1, bI _)]) 2 rfl (by decide) g10 dX12_readMarks_68 rfl ?_
      refine v_goto (tgt := 43) dX12_readMarks_71 (by decide) ?_
      refine v_sub (ls2 := [(0, bR _), (1, bI _), (2, bI _)]) [1, 2, 0] rfl ?_
      exact h
    · replace h := b_wp_t c9 h
      refine v_iconst ⟨by decide, by decide⟩ dX12_readMarks_66 ?_
      refine v_zreturn rfl (Or.inl rfl) dX12_readMarks_67 ⟨by decide, by decide⟩ ?_
      exact ⟨_, rfl, h⟩
theorem l_X12_readMarks_43 {l : Launch} {E : bE} {Q : (Int × bM) → Prop} {v1 : Int} {M : bM} (hfg : b_fg E) {s : Int} (h : b_wp (b_loop (fun t => F_X12_readMarks_s43 v1 t M) s) (X_X12_readMarks_43 l E Q v1 M)) : A_X12_readMarks_43 l E Q v1 M s := b_loop_wp (fun t h => t_X12_readMarks_s43 hfg h) s h
noncomputable def F_X12_readMarks_b143 (M : bM) : Option ((bM) ⊕ ((bM) ⊕ (Int × bM))) :=
  if (M 11 3) = 3 then (b_bind (F_X12_scan M) (fun M20 => b_g (b_i32 ((M20 207 120) + 1)) (b_let (b_up M20 207 120 ((M20 207 120) + 1)) (fun M22 => some (.inl (M22)))))) else (some (.inr (.inr (0, M))))
theorem t_X12_readMarks_b143 {l : Launch} {E : bE} {Q : (Int × bM) → Prop} {M : bM} (hfg : b_fg E) (h : b_wp (F_X12_readMarks_b143 M) (Sum.elim (A_X12_readMarks_8 l E Q ) (X_X12_readMarks_8 l E Q ))) : V l E xX12_readMarks (0, 0) 143 [(0, bR 11)] [] M (b_pI Q) := by
  unfold F_X12_readMarks_b143 at h
  refine v_aload_n (f := 0) 0 rfl dX12_readMarks_143 ?_
  refine v_getI (kf := 3) (kz := 3) rfl kd_11 rfl ⟨by decide, by decide⟩ rfl wf_12_316 dX12_readMarks_144 ?_
  refine v_iconst ⟨by decide, by decide⟩ dX12_readMarks_147 ?_
  refine v_icmp_eq (tgt := 153) dX12_readMarks_148 (by decide) (fun c19 => ?_) (fun c19 => ?_)
  · replace h := b_wp_t c19 h
    refine v_aload_n (f := 0) 0 rfl dX12_readMarks_153 ?_
    refine v_cVV (nA := 0) (As := []) (ix := 292) (cf_X12_scan hfg (b_wp_b h)) rfl kd_11 rfl rfl wc_X12_scan wm_12_292 wi_X12_scan ws_X12_scan wn_12 ⟨by decide, by decide, by decide⟩ rfl ⟨by decide, by decide⟩ ⟨by decide, by decide⟩ (Nat.le_of_ble_eq_true rfl) dX12_readMarks_154 (fun M20 h => ?_)
    obtain ⟨g21, h⟩ := b_wp_g h
    refine v_aload_n (f := 0) 0 rfl dX12_readMarks_157 ?_
    refine v_getR (kf := 68) (kz := 68) rfl kd_11 rfl ⟨by decide, by decide⟩ rfl wf_12_155 dX12_readMarks_158 ?_
    refine v_bipush ⟨by decide, by decide⟩ (by decide) dX12_readMarks_161 ?_
    refine v_dup2 rfl rfl dX12_readMarks_163 ?_
    refine v_iaload kd_207 ⟨by decide, by decide⟩ (by decide) dX12_readMarks_164 ?_
    refine v_iconst ⟨by decide, by decide⟩ dX12_readMarks_165 ?_
    refine v_iaddN g21 dX12_readMarks_166 ?_
    refine v_iastore kd_207 ⟨by decide, by decide⟩ (by decide) dX12_readMarks_167 ?_
    replace h := b_wp_l h
    refine v_goto (tgt := 8) dX12_readMarks_168 (by decide) ?_
    exact h
  · replace h := b_wp_f c19 h
    refine v_iconst ⟨by decide, by decide⟩ dX12_readMarks_151 ?_
    refine v_zreturn rfl (Or.inl rfl) dX12_readMarks_152 ⟨by decide, by decide⟩ ?_
    exact ⟨_, rfl, h⟩
noncomputable def F_X12_readMarks_b74 (v1 : Int) (M : bM) : Option ((bM) ⊕ ((bM) ⊕ (Int × bM))) :=
  b_g ((b_i32 (1440 + v1)) ∧ (0 ≤ (1440 + v1) ∧ (1440 + v1) < 1452)) (b_let (b_up M 205 (1440 + v1) (M 11 10)) (fun M13 => b_g ((b_i32 (1440 + v1)) ∧ (0 ≤ (1440 + v1) ∧ (1440 + v1) < 1452)) (b_let (b_up M13 206 (1440 + v1) 1) (fun M16 => b_bind (F_X12_scan M16) (fun M17 => if (M17 11 3) = 4 then (b_bind (F_X12_scan M17) (fun M23 => if (M23 11 3) = 2 then (b_g ((b_i32 (1440 + v1)) ∧ (0 ≤ (1440 + v1) ∧ (1440 + v1) < 1452)) (b_let (b_up M23 206 (1440 + v1) (M23 11 7)) (fun M27 => b_bind (F_X12_scan M27) (fun M28 => F_X12_readMarks_b143 M28)))) else (some (.inr (.inr (0, M23)))))) else (F_X12_readMarks_b143 M17))))))
theorem t_X12_readMarks_b74 {l : Launch} {E : bE} {Q : (Int × bM) → Prop} {v1 : Int} {M : bM} (hfg : b_fg E) (h : b_wp (F_X12_readMarks_b74 v1 M) (Sum.elim (A_X12_readMarks_8 l E Q ) (X_X12_readMarks_8 l E Q ))) : V l E xX12_readMarks (0, 0) 74 [(0, bR 11), (1, bI v1)] [] M (b_pI Q) := by
  unfold F_X12_readMarks_b74 at h
  obtain ⟨⟨g11, g12⟩, h⟩ := b_wp_g h
  refine v_aload_n (f := 0) 0 rfl dX12_readMarks_74 ?_
  refine v_getR (kf := 66) (kz := 66) rfl kd_11 rfl ⟨by decide, by decide⟩ rfl wf_12_149 dX12_readMarks_75 ?_
  refine v_sipush ⟨by decide, by decide⟩ (by decide) dX12_readMarks_78 ?_
  refine v_iload_n (f := 1) 1 rfl dX12_readMarks_81 ?_
  refine v_iaddN g11 dX12_readMarks_82 ?_
  refine v_aload_n (f := 0) 0 rfl dX12_readMarks_83 ?_
  refine v_getJ (kf := 10) (kz := 10) rfl kd_11 rfl ⟨by decide, by decide⟩ rfl wf_12_323 dX12_readMarks_84 ?_
  refine v_lastore kd_205 g12 (by decide) dX12_readMarks_87 ?_
  replace h := b_wp_l h
  obtain ⟨⟨g14, g15⟩, h⟩ := b_wp_g h
  refine v_aload_n (f := 0) 0 rfl dX12_readMarks_88 ?_
  refine v_getR (kf := 67) (kz := 67) rfl kd_11 rfl ⟨by decide, by decide⟩ rfl wf_12_152 dX12_readMarks_89 ?_
  refine v_sipush ⟨by decide, by decide⟩ (by decide) dX12_readMarks_92 ?_
  refine v_iload_n (f := 1) 1 rfl dX12_readMarks_95 ?_
  refine v_iaddN g14 dX12_readMarks_96 ?_
  refine v_iconst ⟨by decide, by decide⟩ dX12_readMarks_97 ?_
  refine v_iastore kd_206 g15 (by decide) dX12_readMarks_98 ?_
  replace h := b_wp_l h
  refine v_aload_n (f := 0) 0 rfl dX12_readMarks_99 ?_
  refine v_cVV (nA := 0) (As := []) (ix := 292) (cf_X12_scan hfg (b_wp_b h)) rfl kd_11 rfl rfl wc_X12_scan wm_12_292 wi_X12_scan ws_X12_scan wn_12 ⟨by decide, by decide, by decide⟩ rfl ⟨by decide, by decide⟩ ⟨by decide, by decide⟩ (Nat.le_of_ble_eq_true rfl) dX12_readMarks_100 (fun M17 h => ?_)
  refine v_aload_n (f := 0) 0 rfl dX12_readMarks_103 ?_
  refine v_getI (kf := 3) (kz := 3) rfl kd_11 rfl ⟨by decide, by decide⟩ rfl wf_12_316 dX12_readMarks_104 ?_
  refine v_iconst ⟨by decide, by decide⟩ dX12_readMarks_107 ?_
  refine v_icmp_ne (tgt := 143) dX12_readMarks_108 (by decide) (fun c18 => ?_) (fun c18 => ?_)
  · replace h := b_wp_f c18 h
    refine v_sub (ls2 := [(0, bR _)]) [0] rfl ?_
    exact t_X12_readMarks_b143 hfg h
  · replace h := b_wp_t c18 h
    refine v_aload_n (f := 0) 0 rfl dX12_readMarks_111 ?_
    refine v_cVV (nA := 0) (As := []) (ix := 292) (cf_X12_scan hfg (b_wp_b h)) rfl kd_11 rfl rfl wc_X12_scan wm_12_292 wi_X12_scan ws_X12_scan wn_12 ⟨by decide, by decide, by decide⟩ rfl ⟨by decide, by decide⟩ ⟨by decide, by decide⟩ (Nat.le_of_ble_eq_true rfl) dX12_readMarks_112 (fun M23 h => ?_)
    refine v_aload_n (f := 0) 0 rfl dX12_readMarks_115 ?_
    refine v_getI (kf := 3) (kz := 3) rfl kd_11 rfl ⟨by decide, by decide⟩ rfl wf_12_316 dX12_readMarks_116 ?_
    refine v_iconst ⟨by decide, by decide⟩ dX12_readMarks_119 ?_
    refine v_icmp_eq (tgt := 125) dX12_readMarks_120 (by decide) (fun c24 => ?_) (fun c24 => ?_)
    · replace h := b_wp_t c24 h
      obtain ⟨⟨g25, g26⟩, h⟩ := b_wp_g h
      refine v_aload_n (f := 0) 0 rfl dX12_readMarks_125 ?_
      refine v_getR (kf := 67) (kz := 67) rfl kd_11 rfl ⟨by decide, by decide⟩ rfl wf_12_152 dX12_readMarks_126 ?_
      refine v_sipush ⟨by decide, by decide⟩ (by decide) dX12_readMarks_129 ?_
      refine v_iload_n (f := 1) 1 rfl dX12_readMarks_132 ?_
      refine v_iaddN g25 dX12_readMarks_133 ?_
      refine v_aload_n (f := 0) 0 rfl dX12_readMarks_134 ?_
      refine v_getI (kf := 7) (kz := 7) rfl kd_11 rfl ⟨by decide, by decide⟩ rfl wf_12_338 dX12_readMarks_135 ?_
      refine v_iastore kd_206 g26 (by decide) dX12_readMarks_138 ?_
      replace h := b_wp_l h
      refine v_aload_n (f := 0) 0 rfl dX12_readMarks_139 ?_
      refine v_cVV (nA := 0) (As := []) (ix := 292) (cf_X12_scan hfg (b_wp_b h)) rfl kd_11 rfl rfl wc_X12_scan wm_12_292 wi_X12_scan ws_X12_scan wn_12 ⟨by decide, by decide, by decide⟩ rfl ⟨by decide, by decide⟩ ⟨by decide, by decide⟩ (Nat.le_of_ble_eq_true rfl) dX12_readMarks_140 (fun M28 h => ?_)
      refine v_sub (ls2 := [(0, bR _)]) [0] rfl ?_
      exact t_X12_readMarks_b143 hfg h
    · replace h := b_wp_f c24 h
      refine v_iconst ⟨by decide, by decide⟩ dX12_readMarks_123 ?_
      refine v_zreturn rfl (Or.inl rfl) dX12_readMarks_124 ⟨by decide, by decide⟩ ?_
      exact ⟨_, rfl, h⟩
noncomputable def F_X12_readMarks_s8 (M : bM) : Option ((bM) ⊕ ((bM) ⊕ (Int × bM))) :=
  if (M 11 3) = 8 then (some (.inr (.inl (M)))) else (b_let ((M 207 120)) (fun y3 => if (M 11 3) = 1 then (if y3 = 12 then (some (.inr (.inr (0, M)))) else (b_bind (b_loop (fun t => F_X12_readMarks_s43 y3 t M) (0)) (Sum.elim (fun t => F_X12_readMarks_b74 y3 M) some))) else (some (.inr (.inr (0, M))))))
theorem t_X12_readMarks_s8 {l : Launch} {E : bE} {Q : (Int × bM) → Prop} {M : bM} (hfg : b_fg E) (h : b_wp (F_X12_readMarks_s8 M) (Sum.elim (A_X12_readMarks_8 l E Q ) (X_X12_readMarks_8 l E Q ))) : V l E xX12_readMarks (0, 0) 8 [(0, bR 11)] [] M (b_pI Q) := by
  unfold F_X12_readMarks_s8 at h
  refine v_aload_n (f := 0) 0 rfl dX12_readMarks_8 ?_
  refine v_getI (kf := 3) (kz := 3) rfl kd_11 rfl ⟨by decide, by decide⟩ rfl wf_12_316 dX12_readMarks_9 ?_
  refine v_bipush ⟨by decide, by decide⟩ (by decide) dX12_readMarks_12 ?_
  refine v_icmp_eq (tgt := 171) dX12_readMarks_14 (by decide) (fun c2 => ?_) (fun c2 => ?_)
  · replace h := b_wp_t c2 h
    refine v_sub (ls2 := []) [] rfl ?_
    exact h
  · replace h := b_wp_f c2 h
    refine v_aload_n (f := 0) 0 rfl dX12_readMarks_17 ?_
    refine v_getR (kf := 68) (kz := 68) rfl kd_11 rfl ⟨by decide, by decide⟩ rfl wf_12_155 dX12_readMarks_18 ?_
    refine v_bipush ⟨by decide, by decide⟩ (by decide) dX12_readMarks_21 ?_
    refine v_iaload kd_207 ⟨by decide, by decide⟩ (by decide) dX12_readMarks_23 ?_
    replace h := b_wp_l h
    refine v_istore_n (g := 1) (i := 1) (ls' := [(1, bI _), (0, bR _)]) rfl (by decide) dX12_readMarks_24 rfl ?_
    refine v_aload_n (f := 0) 1 rfl dX12_readMarks_25 ?_
    refine v_getI (kf := 3) (kz := 3) rfl kd_11 rfl ⟨by decide, by decide⟩ rfl wf_12_316 dX12_readMarks_26 ?_
    refine v_iconst ⟨by decide, by decide⟩ dX12_readMarks_29 ?_
    refine v_icmp_ne (tgt := 39) dX12_readMarks_30 (by decide) (fun c4 => ?_) (fun c4 => ?_)
    · replace h := b_wp_f c4 h
      refine v_iconst ⟨by decide, by decide⟩ dX12_readMarks_39 ?_
      refine v_zreturn rfl (Or.inl rfl) dX12_readMarks_40 ⟨by decide, by decide⟩ ?_
      exact ⟨_, rfl, h⟩
    · replace h := b_wp_t c4 h
      refine v_iload_n (f := 1) 0 rfl dX12_readMarks_33 ?_
      refine v_bipush ⟨by decide, by decide⟩ (by decide) dX12_readMarks_34 ?_
      refine v_icmp_ne (tgt := 41) dX12_readMarks_36 (by decide) (fun c5 => ?_) (fun c5 => ?_)
      · replace h := b_wp_f c5 h
        refine v_iconst ⟨by decide, by decide⟩ dX12_readMarks_41 ?_
        refine v_istore_n (g := 2) (i := 2) (ls' := [(2, bI _), (1, bI _), (0, bR _)]) rfl (by decide) dX12_readMarks_42 rfl ?_
        refine v_sub (ls2 := [(0, bR _), (1, bI _), (2, bI _)]) [2, 1, 0] rfl ?_
        refine l_X12_readMarks_43 hfg (b_wp_m (fun t h => ?_) (b_wp_b h))
        cases t with
        | inr o => exact h
        | inl t =>
          show V l E xX12_readMarks (0, 0) 74 [(0, bR 11), (1, bI _)] [] _ (b_pI Q)
          replace h := b_wp_inl h
          exact t_X12_readMarks_b74 hfg h
      · replace h := b_wp_t c5 h
        refine v_iconst ⟨by decide, by decide⟩ dX12_readMarks_39 ?_
        refine v_zreturn rfl (Or.inl rfl) dX12_readMarks_40 ⟨by decide, by decide⟩ ?_
        exact ⟨_, rfl, h⟩
theorem l_X12_readMarks_8 {l : Launch} {E : bE} {Q : (Int × bM) → Prop} (hfg : b_fg E) {s : bM} (h : b_wp (b_loop (fun t => F_X12_readMarks_s8 t) s) (X_X12_readMarks_8 l E Q )) : A_X12_readMarks_8 l E Q  s := b_loop_wp (fun t h => t_X12_readMarks_s8 hfg h) s h
noncomputable def F_X12_readMarks_b171 (M : bM) : Option (Int × bM) :=
  some (1, M)
theorem t_X12_readMarks_b171 {l : Launch} {E : bE} {Q : (Int × bM) → Prop} {M : bM} (hfg : b_fg E) (h : b_wp (F_X12_readMarks_b171 M) (Q)) : V l E xX12_readMarks (0, 0) 171 [] [] M (b_pI Q) := by
  unfold F_X12_readMarks_b171 at h
  refine v_iconst ⟨by decide, by decide⟩ dX12_readMarks_171 ?_
  refine v_zreturn rfl (Or.inr rfl) dX12_readMarks_172 ⟨by decide, by decide⟩ ?_
  exact ⟨_, rfl, h⟩
noncomputable def F_X12_readMarks (M : bM) : Option (Int × bM) :=
  b_let (b_up M 207 120 0) (fun M1 => b_bind (b_loop (fun t => F_X12_readMarks_s8 t) (M1)) (Sum.elim (fun t => F_X12_readMarks_b171 t) some))
theorem t_X12_readMarks {l : Launch} {E : bE} {Q : (Int × bM) → Prop} {M : bM} (hfg : b_fg E) (h : b_wp (F_X12_readMarks M) (Q)) : V l E xX12_readMarks (0, 0) 0 [(0, bR 11)] [] M (b_pI Q) := by
  unfold F_X12_readMarks at h
  refine v_aload_n (f := 0) 0 rfl dX12_readMarks_0 ?_
  refine v_getR (kf := 68) (kz := 68) rfl kd_11 rfl ⟨by decide, by decide⟩ rfl wf_12_155 dX12_readMarks_1 ?_
  refine v_bipush ⟨by decide, by decide⟩ (by decide) dX12_readMarks_4 ?_
  refine v_iconst ⟨by decide, by decide⟩ dX12_readMarks_6 ?_
  refine v_iastore kd_207 ⟨by decide, by decide⟩ (by decide) dX12_readMarks_7 ?_
  replace h := b_wp_l h
  refine l_X12_readMarks_8 hfg (b_wp_m (fun t h => ?_) (b_wp_b h))
  cases t with
  | inr o => exact h
  | inl t =>
    show V l E xX12_readMarks (0, 0) 171 [] [] _ (b_pI Q)
    replace h := b_wp_inl h
    exact t_X12_readMarks_b171 hfg h
theorem cf_X12_readMarks {l : Launch} {E : bE} {M : bM} (hfg : b_fg E) {Q : (Int × bM) → Prop} (h : b_wp (F_X12_readMarks M) Q) : b_C l E xX12_readMarks yX12_readMarks [bR 11] M (b_pI Q) := b_met (by decide) ⟨rfl, rfl⟩ (Nat.le_of_ble_eq_true rfl) (fun _ _ => t_X12_readMarks hfg h)
abbrev xX12_burnt : bX := ("BurntHallModel", prog_14_method_72_code, 1, (Option.some Jvm.ClassFile.FieldType.int), b_rm 1 0 0, 0, "burnt")
abbrev yX12_burnt : MethodName := ⟨"BurntHallModel", "burnt", "()I"⟩
theorem dX12_burnt_0 : decode prog_14_method_72_code 0 = .ok (.aload_n 0, 1) := by decide +kernel
theorem dX12_burnt_1 : decode prog_14_method_72_code 1 = .ok (.getfield 496, 3) := by decide +kernel
theorem dX12_burnt_4 : decode prog_14_method_72_code 4 = .ok (.bipush 30, 2) := by decide +kernel
theorem dX12_burnt_6 : decode prog_14_method_72_code 6 = .ok (.if_icmp .ne 6, 3) := by decide +kernel
theorem dX12_burnt_9 : decode prog_14_method_72_code 9 = .ok (.bipush (-3), 2) := by decide +kernel
theorem dX12_burnt_11 : decode prog_14_method_72_code 11 = .ok (.ireturn, 1) := by decide +kernel
theorem dX12_burnt_12 : decode prog_14_method_72_code 12 = .ok (.aload_n 0, 1) := by decide +kernel
theorem dX12_burnt_13 : decode prog_14_method_72_code 13 = .ok (.dup, 1) := by decide +kernel
theorem dX12_burnt_14 : decode prog_14_method_72_code 14 = .ok (.getfield 496, 3) := by decide +kernel
theorem dX12_burnt_17 : decode prog_14_method_72_code 17 = .ok (.iconst 1, 1) := by decide +kernel
theorem dX12_burnt_18 : decode prog_14_method_72_code 18 = .ok (.iadd, 1) := by decide +kernel
theorem dX12_burnt_19 : decode prog_14_method_72_code 19 = .ok (.putfield 496, 3) := by decide +kernel
theorem dX12_burnt_22 : decode prog_14_method_72_code 22 = .ok (.aload_n 0, 1) := by decide +kernel
theorem dX12_burnt_23 : decode prog_14_method_72_code 23 = .ok (.getfield 496, 3) := by decide +kernel
theorem dX12_burnt_26 : decode prog_14_method_72_code 26 = .ok (.iconst 1, 1) := by decide +kernel
theorem dX12_burnt_27 : decode prog_14_method_72_code 27 = .ok (.isub, 1) := by decide +kernel
theorem dX12_burnt_28 : decode prog_14_method_72_code 28 = .ok (.ireturn, 1) := by decide +kernel
noncomputable def F_X12_burnt (M : bM) : Option (Int × bM) :=
  if (M 11 52) = 30 then (some ((-3), M)) else (b_g (b_i32 ((M 11 52) + 1)) (b_let (b_up M 11 52 ((M 11 52) + 1)) (fun M3 => b_g (b_i32 ((M3 11 52) - 1)) (some (((M3 11 52) - 1), M3)))))
theorem t_X12_burnt {l : Launch} {E : bE} {Q : (Int × bM) → Prop} {M : bM} (h : b_wp (F_X12_burnt M) (Q)) : V l E xX12_burnt (0, 0) 0 [(0, bR 11)] [] M (b_pI Q) := by
  unfold F_X12_burnt at h
  refine v_aload_n (f := 0) 0 rfl dX12_burnt_0 ?_
  refine v_getI (kf := 52) (kz := 52) rfl kd_11 rfl ⟨by decide, by decide⟩ rfl wf_12_496 dX12_burnt_1 ?_
  refine v_bipush ⟨by decide, by decide⟩ (by decide) dX12_burnt_4 ?_
  refine v_icmp_ne (tgt := 12) dX12_burnt_6 (by decide) (fun c1 => ?_) (fun c1 => ?_)
  · replace h := b_wp_f c1 h
    obtain ⟨g2, h⟩ := b_wp_g h
    refine v_aload_n (f := 0) 0 rfl dX12_burnt_12 ?_
    refine v_dup rfl dX12_burnt_13 ?_
    refine v_getI (kf := 52) (kz := 52) rfl kd_11 rfl ⟨by decide, by decide⟩ rfl wf_12_496 dX12_burnt_14 ?_
    refine v_iconst ⟨by decide, by decide⟩ dX12_burnt_17 ?_
    refine v_iaddN g2 dX12_burnt_18 ?_
    refine v_putI (kf := 52) (kz := 52) rfl kd_11 rfl ⟨by decide, by decide⟩ rfl wf_12_496 rfl rfl dX12_burnt_19 ?_
    replace h := b_wp_l h
    obtain ⟨g4, h⟩ := b_wp_g h
    refine v_aload_n (f := 0) 0 rfl dX12_burnt_22 ?_
    refine v_getI (kf := 52) (kz := 52) rfl kd_11 rfl ⟨by decide, by decide⟩ rfl wf_12_496 dX12_burnt_23 ?_
    refine v_iconst ⟨by decide, by decide⟩ dX12_burnt_26 ?_
    refine v_isubN g4 dX12_burnt_27 ?_
    refine v_ireturn rfl dX12_burnt_28 ⟨by decide, by decide⟩ ?_
    exact ⟨_, rfl, h⟩
  · replace h := b_wp_t c1 h
    refine v_bipush ⟨by decide, by decide⟩ (by decide) dX12_burnt_9 ?_
    refine v_ireturn rfl dX12_burnt_11 ⟨by decide, by decide⟩ ?_
    exact ⟨_, rfl, h⟩
theorem cf_X12_burnt {l : Launch} {E : bE} {M : bM} {Q : (Int × bM) → Prop} (h : b_wp (F_X12_burnt M) Q) : b_C l E xX12_burnt yX12_burnt [bR 11] M (b_pI Q) := b_met (by decide) ⟨rfl, rfl⟩ (Nat.le_of_ble_eq_true rfl) (fun _ _ => t_X12_burnt h)
abbrev xX12_paper : bX := ("BurntHallModel", prog_14_method_73_code, 10, (Option.some Jvm.ClassFile.FieldType.int), b_rm 9 0 0, 0, "paper")
abbrev yX12_paper : MethodName := ⟨"BurntHallModel", "paper", "(IIIIIII)I"⟩
theorem dX12_paper_0 : decode prog_14_method_73_code 0 = .ok (.aload_n 0, 1) := by decide +kernel
theorem dX12_paper_1 : decode prog_14_method_73_code 1 = .ok (.invokevirtual 395, 3) := by decide +kernel
theorem dX12_paper_4 : decode prog_14_method_73_code 4 = .ok (.iload_n 1, 1) := by decide +kernel
theorem dX12_paper_5 : decode prog_14_method_73_code 5 = .ok (.iconst 0, 1) := by decide +kernel
theorem dX12_paper_6 : decode prog_14_method_73_code 6 = .ok (.bipush 6, 2) := by decide +kernel
theorem dX12_paper_8 : decode prog_14_method_73_code 8 = .ok (.invokestatic 279, 3) := by decide +kernel
theorem dX12_paper_11 : decode prog_14_method_73_code 11 = .ok (.ifCond .eq 86, 3) := by decide +kernel
theorem dX12_paper_14 : decode prog_14_method_73_code 14 = .ok (.iload_n 2, 1) := by decide +kernel
theorem dX12_paper_15 : decode prog_14_method_73_code 15 = .ok (.iconst (-1), 1) := by decide +kernel
theorem dX12_paper_16 : decode prog_14_method_73_code 16 = .ok (.if_icmp .eq 17, 3) := by decide +kernel
theorem dX12_paper_19 : decode prog_14_method_73_code 19 = .ok (.iload_n 2, 1) := by decide +kernel
theorem dX12_paper_20 : decode prog_14_method_73_code 20 = .ok (.iconst 0, 1) := by decide +kernel
theorem dX12_paper_21 : decode prog_14_method_73_code 21 = .ok (.aload_n 0, 1) := by decide +kernel
theorem dX12_paper_22 : decode prog_14_method_73_code 22 = .ok (.getfield 496, 3) := by decide +kernel
theorem dX12_paper_25 : decode prog_14_method_73_code 25 = .ok (.iconst 1, 1) := by decide +kernel
theorem dX12_paper_26 : decode prog_14_method_73_code 26 = .ok (.isub, 1) := by decide +kernel
theorem dX12_paper_27 : decode prog_14_method_73_code 27 = .ok (.invokestatic 279, 3) := by decide +kernel
theorem dX12_paper_30 : decode prog_14_method_73_code 30 = .ok (.ifCond .eq 67, 3) := by decide +kernel
theorem dX12_paper_33 : decode prog_14_method_73_code 33 = .ok (.iload_n 3, 1) := by decide +kernel
theorem dX12_paper_34 : decode prog_14_method_73_code 34 = .ok (.iconst (-1), 1) := by decide +kernel
theorem dX12_paper_35 : decode prog_14_method_73_code 35 = .ok (.if_icmp .eq 11, 3) := by decide +kernel
theorem dX12_paper_38 : decode prog_14_method_73_code 38 = .ok (.aload_n 0, 1) := by decide +kernel
theorem dX12_paper_39 : decode prog_14_method_73_code 39 = .ok (.iload_n 3, 1) := by decide +kernel
theorem dX12_paper_40 : decode prog_14_method_73_code 40 = .ok (.invokevirtual 356, 3) := by decide +kernel
theorem dX12_paper_43 : decode prog_14_method_73_code 43 = .ok (.ifCond .eq 54, 3) := by decide +kernel
theorem dX12_paper_46 : decode prog_14_method_73_code 46 = .ok (.iload 4, 2) := by decide +kernel
theorem dX12_paper_48 : decode prog_14_method_73_code 48 = .ok (.iconst (-1), 1) := by decide +kernel
theorem dX12_paper_49 : decode prog_14_method_73_code 49 = .ok (.if_icmp .eq 12, 3) := by decide +kernel
theorem dX12_paper_52 : decode prog_14_method_73_code 52 = .ok (.aload_n 0, 1) := by decide +kernel
theorem dX12_paper_53 : decode prog_14_method_73_code 53 = .ok (.iload 4, 2) := by decide +kernel
theorem dX12_paper_55 : decode prog_14_method_73_code 55 = .ok (.invokevirtual 356, 3) := by decide +kernel
theorem dX12_paper_58 : decode prog_14_method_73_code 58 = .ok (.ifCond .eq 39, 3) := by decide +kernel
theorem dX12_paper_61 : decode prog_14_method_73_code 61 = .ok (.iload 5, 2) := by decide +kernel
theorem dX12_paper_63 : decode prog_14_method_73_code 63 = .ok (.iconst (-1), 1) := by decide +kernel
theorem dX12_paper_64 : decode prog_14_method_73_code 64 = .ok (.if_icmp .eq 12, 3) := by decide +kernel
theorem dX12_paper_67 : decode prog_14_method_73_code 67 = .ok (.aload_n 0, 1) := by decide +kernel
theorem dX12_paper_68 : decode prog_14_method_73_code 68 = .ok (.iload 5, 2) := by decide +kernel
theorem dX12_paper_70 : decode prog_14_method_73_code 70 = .ok (.invokevirtual 385, 3) := by decide +kernel
theorem dX12_paper_73 : decode prog_14_method_73_code 73 = .ok (.ifCond .eq 24, 3) := by decide +kernel
theorem dX12_paper_76 : decode prog_14_method_73_code 76 = .ok (.iload 6, 2) := by decide +kernel
theorem dX12_paper_78 : decode prog_14_method_73_code 78 = .ok (.invokestatic 347, 3) := by decide +kernel
theorem dX12_paper_81 : decode prog_14_method_73_code 81 = .ok (.ifCond .eq 16, 3) := by decide +kernel
theorem dX12_paper_84 : decode prog_14_method_73_code 84 = .ok (.iload 7, 2) := by decide +kernel
theorem dX12_paper_86 : decode prog_14_method_73_code 86 = .ok (.iload 6, 2) := by decide +kernel
theorem dX12_paper_88 : decode prog_14_method_73_code 88 = .ok (.sipush 9999, 3) := by decide +kernel
theorem dX12_paper_91 : decode prog_14_method_73_code 91 = .ok (.invokestatic 279, 3) := by decide +kernel
theorem dX12_paper_94 : decode prog_14_method_73_code 94 = .ok (.ifCond .ne 6, 3) := by decide +kernel
theorem dX12_paper_97 : decode prog_14_method_73_code 97 = .ok (.bipush (-2), 2) := by decide +kernel
theorem dX12_paper_99 : decode prog_14_method_73_code 99 = .ok (.ireturn, 1) := by decide +kernel
theorem dX12_paper_100 : decode prog_14_method_73_code 100 = .ok (.aload_n 0, 1) := by decide +kernel
theorem dX12_paper_101 : decode prog_14_method_73_code 101 = .ok (.invokevirtual 499, 3) := by decide +kernel
theorem dX12_paper_104 : decode prog_14_method_73_code 104 = .ok (.ifCond .ne 5, 3) := by decide +kernel
theorem dX12_paper_107 : decode prog_14_method_73_code 107 = .ok (.iconst (-1), 1) := by decide +kernel
theorem dX12_paper_108 : decode prog_14_method_73_code 108 = .ok (.ireturn, 1) := by decide +kernel
theorem dX12_paper_109 : decode prog_14_method_73_code 109 = .ok (.aload_n 0, 1) := by decide +kernel
theorem dX12_paper_110 : decode prog_14_method_73_code 110 = .ok (.getfield 502, 3) := by decide +kernel
theorem dX12_paper_113 : decode prog_14_method_73_code 113 = .ok (.bipush 120, 2) := by decide +kernel
theorem dX12_paper_115 : decode prog_14_method_73_code 115 = .ok (.if_icmp .ne 6, 3) := by decide +kernel
theorem dX12_paper_118 : decode prog_14_method_73_code 118 = .ok (.bipush (-3), 2) := by decide +kernel
theorem dX12_paper_120 : decode prog_14_method_73_code 120 = .ok (.ireturn, 1) := by decide +kernel
theorem dX12_paper_121 : decode prog_14_method_73_code 121 = .ok (.aload_n 0, 1) := by decide +kernel
theorem dX12_paper_122 : decode prog_14_method_73_code 122 = .ok (.getfield 502, 3) := by decide +kernel
theorem dX12_paper_125 : decode prog_14_method_73_code 125 = .ok (.istore 8, 2) := by decide +kernel
theorem dX12_paper_127 : decode prog_14_method_73_code 127 = .ok (.aload_n 0, 1) := by decide +kernel
theorem dX12_paper_128 : decode prog_14_method_73_code 128 = .ok (.getfield 115, 3) := by decide +kernel
theorem dX12_paper_131 : decode prog_14_method_73_code 131 = .ok (.iload 8, 2) := by decide +kernel
theorem dX12_paper_133 : decode prog_14_method_73_code 133 = .ok (.iload_n 1, 1) := by decide +kernel
theorem dX12_paper_134 : decode prog_14_method_73_code 134 = .ok (.iastore, 1) := by decide +kernel
theorem dX12_paper_135 : decode prog_14_method_73_code 135 = .ok (.aload_n 0, 1) := by decide +kernel
theorem dX12_paper_136 : decode prog_14_method_73_code 136 = .ok (.getfield 118, 3) := by decide +kernel
theorem dX12_paper_139 : decode prog_14_method_73_code 139 = .ok (.iload 8, 2) := by decide +kernel
theorem dX12_paper_141 : decode prog_14_method_73_code 141 = .ok (.iload_n 2, 1) := by decide +kernel
theorem dX12_paper_142 : decode prog_14_method_73_code 142 = .ok (.iastore, 1) := by decide +kernel
theorem dX12_paper_143 : decode prog_14_method_73_code 143 = .ok (.aload_n 0, 1) := by decide +kernel
theorem dX12_paper_144 : decode prog_14_method_73_code 144 = .ok (.getfield 121, 3) := by decide +kernel
theorem dX12_paper_147 : decode prog_14_method_73_code 147 = .ok (.iconst 3, 1) := by decide +kernel
theorem dX12_paper_148 : decode prog_14_method_73_code 148 = .ok (.iload 8, 2) := by decide +kernel
theorem dX12_paper_150 : decode prog_14_method_73_code 150 = .ok (.imul, 1) := by decide +kernel
theorem dX12_paper_151 : decode prog_14_method_73_code 151 = .ok (.iload_n 3, 1) := by decide +kernel
theorem dX12_paper_152 : decode prog_14_method_73_code 152 = .ok (.iastore, 1) := by decide +kernel
theorem dX12_paper_153 : decode prog_14_method_73_code 153 = .ok (.aload_n 0, 1) := by decide +kernel
theorem dX12_paper_154 : decode prog_14_method_73_code 154 = .ok (.getfield 121, 3) := by decide +kernel
theorem dX12_paper_157 : decode prog_14_method_73_code 157 = .ok (.iconst 3, 1) := by decide +kernel
theorem dX12_paper_158 : decode prog_14_method_73_code 158 = .ok (.iload 8, 2) := by decide +kernel
theorem dX12_paper_160 : decode prog_14_method_73_code 160 = .ok (.imul, 1) := by decide +kernel
theorem dX12_paper_161 : decode prog_14_method_73_code 161 = .ok (.iconst 1, 1) := by decide +kernel
theorem dX12_paper_162 : decode prog_14_method_73_code 162 = .ok (.iadd, 1) := by decide +kernel
theorem dX12_paper_163 : decode prog_14_method_73_code 163 = .ok (.iload 4, 2) := by decide +kernel
theorem dX12_paper_165 : decode prog_14_method_73_code 165 = .ok (.iastore, 1) := by decide +kernel
theorem dX12_paper_166 : decode prog_14_method_73_code 166 = .ok (.aload_n 0, 1) := by decide +kernel
theorem dX12_paper_167 : decode prog_14_method_73_code 167 = .ok (.getfield 121, 3) := by decide +kernel
theorem dX12_paper_170 : decode prog_14_method_73_code 170 = .ok (.iconst 3, 1) := by decide +kernel
theorem dX12_paper_171 : decode prog_14_method_73_code 171 = .ok (.iload 8, 2) := by decide +kernel
theorem dX12_paper_173 : decode prog_14_method_73_code 173 = .ok (.imul, 1) := by decide +kernel
theorem dX12_paper_174 : decode prog_14_method_73_code 174 = .ok (.iconst 2, 1) := by decide +kernel
theorem dX12_paper_175 : decode prog_14_method_73_code 175 = .ok (.iadd, 1) := by decide +kernel
theorem dX12_paper_176 : decode prog_14_method_73_code 176 = .ok (.iload 5, 2) := by decide +kernel
theorem dX12_paper_178 : decode prog_14_method_73_code 178 = .ok (.iastore, 1) := by decide +kernel
theorem dX12_paper_179 : decode prog_14_method_73_code 179 = .ok (.aload_n 0, 1) := by decide +kernel
theorem dX12_paper_180 : decode prog_14_method_73_code 180 = .ok (.getfield 124, 3) := by decide +kernel
theorem dX12_paper_183 : decode prog_14_method_73_code 183 = .ok (.iload 8, 2) := by decide +kernel
theorem dX12_paper_185 : decode prog_14_method_73_code 185 = .ok (.iload 6, 2) := by decide +kernel
theorem dX12_paper_187 : decode prog_14_method_73_code 187 = .ok (.iastore, 1) := by decide +kernel
theorem dX12_paper_188 : decode prog_14_method_73_code 188 = .ok (.aload_n 0, 1) := by decide +kernel
theorem dX12_paper_189 : decode prog_14_method_73_code 189 = .ok (.getfield 127, 3) := by decide +kernel
theorem dX12_paper_192 : decode prog_14_method_73_code 192 = .ok (.iload 8, 2) := by decide +kernel
theorem dX12_paper_194 : decode prog_14_method_73_code 194 = .ok (.iload 7, 2) := by decide +kernel
theorem dX12_paper_196 : decode prog_14_method_73_code 196 = .ok (.iastore, 1) := by decide +kernel
theorem dX12_paper_197 : decode prog_14_method_73_code 197 = .ok (.aload_n 0, 1) := by decide +kernel
theorem dX12_paper_198 : decode prog_14_method_73_code 198 = .ok (.getfield 130, 3) := by decide +kernel
theorem dX12_paper_201 : decode prog_14_method_73_code 201 = .ok (.iload 8, 2) := by decide +kernel
theorem dX12_paper_203 : decode prog_14_method_73_code 203 = .ok (.aload_n 0, 1) := by decide +kernel
theorem dX12_paper_204 : decode prog_14_method_73_code 204 = .ok (.getfield 344, 3) := by decide +kernel
theorem dX12_paper_207 : decode prog_14_method_73_code 207 = .ok (.iastore, 1) := by decide +kernel
theorem dX12_paper_208 : decode prog_14_method_73_code 208 = .ok (.aload_n 0, 1) := by decide +kernel
theorem dX12_paper_209 : decode prog_14_method_73_code 209 = .ok (.getfield 155, 3) := by decide +kernel
theorem dX12_paper_212 : decode prog_14_method_73_code 212 = .ok (.iload 8, 2) := by decide +kernel
theorem dX12_paper_214 : decode prog_14_method_73_code 214 = .ok (.aload_n 0, 1) := by decide +kernel
theorem dX12_paper_215 : decode prog_14_method_73_code 215 = .ok (.getfield 155, 3) := by decide +kernel
theorem dX12_paper_218 : decode prog_14_method_73_code 218 = .ok (.bipush 120, 2) := by decide +kernel
theorem dX12_paper_220 : decode prog_14_method_73_code 220 = .ok (.iaload, 1) := by decide +kernel
theorem dX12_paper_221 : decode prog_14_method_73_code 221 = .ok (.iastore, 1) := by decide +kernel
theorem dX12_paper_222 : decode prog_14_method_73_code 222 = .ok (.iconst 0, 1) := by decide +kernel
theorem dX12_paper_223 : decode prog_14_method_73_code 223 = .ok (.istore 9, 2) := by decide +kernel
theorem dX12_paper_225 : decode prog_14_method_73_code 225 = .ok (.iload 9, 2) := by decide +kernel
theorem dX12_paper_227 : decode prog_14_method_73_code 227 = .ok (.bipush 12, 2) := by decide +kernel
theorem dX12_paper_229 : decode prog_14_method_73_code 229 = .ok (.if_icmp .ge 57, 3) := by decide +kernel
theorem dX12_paper_232 : decode prog_14_method_73_code 232 = .ok (.aload_n 0, 1) := by decide +kernel
theorem dX12_paper_233 : decode prog_14_method_73_code 233 = .ok (.getfield 149, 3) := by decide +kernel
theorem dX12_paper_236 : decode prog_14_method_73_code 236 = .ok (.bipush 12, 2) := by decide +kernel
theorem dX12_paper_238 : decode prog_14_method_73_code 238 = .ok (.iload 8, 2) := by decide +kernel
theorem dX12_paper_240 : decode prog_14_method_73_code 240 = .ok (.imul, 1) := by decide +kernel
theorem dX12_paper_241 : decode prog_14_method_73_code 241 = .ok (.iload 9, 2) := by decide +kernel
theorem dX12_paper_243 : decode prog_14_method_73_code 243 = .ok (.iadd, 1) := by decide +kernel
theorem dX12_paper_244 : decode prog_14_method_73_code 244 = .ok (.aload_n 0, 1) := by decide +kernel
theorem dX12_paper_245 : decode prog_14_method_73_code 245 = .ok (.getfield 149, 3) := by decide +kernel
theorem dX12_paper_248 : decode prog_14_method_73_code 248 = .ok (.sipush 1440, 3) := by decide +kernel
theorem dX12_paper_251 : decode prog_14_method_73_code 251 = .ok (.iload 9, 2) := by decide +kernel
theorem dX12_paper_253 : decode prog_14_method_73_code 253 = .ok (.iadd, 1) := by decide +kernel
theorem dX12_paper_254 : decode prog_14_method_73_code 254 = .ok (.laload, 1) := by decide +kernel
theorem dX12_paper_255 : decode prog_14_method_73_code 255 = .ok (.lastore, 1) := by decide +kernel
theorem dX12_paper_256 : decode prog_14_method_73_code 256 = .ok (.aload_n 0, 1) := by decide +kernel
theorem dX12_paper_257 : decode prog_14_method_73_code 257 = .ok (.getfield 152, 3) := by decide +kernel
theorem dX12_paper_260 : decode prog_14_method_73_code 260 = .ok (.bipush 12, 2) := by decide +kernel
theorem dX12_paper_262 : decode prog_14_method_73_code 262 = .ok (.iload 8, 2) := by decide +kernel
theorem dX12_paper_264 : decode prog_14_method_73_code 264 = .ok (.imul, 1) := by decide +kernel
theorem dX12_paper_265 : decode prog_14_method_73_code 265 = .ok (.iload 9, 2) := by decide +kernel
theorem dX12_paper_267 : decode prog_14_method_73_code 267 = .ok (.iadd, 1) := by decide +kernel
theorem dX12_paper_268 : decode prog_14_method_73_code 268 = .ok (.aload_n 0, 1) := by decide +kernel
theorem dX12_paper_269 : decode prog_14_method_73_code 269 = .ok (.getfield 152, 3) := by decide +kernel
theorem dX12_paper_272 : decode prog_14_method_73_code 272 = .ok (.sipush 1440, 3) := by decide +kernel
theorem dX12_paper_275 : decode prog_14_method_73_code 275 = .ok (.iload 9, 2) := by decide +kernel
theorem dX12_paper_277 : decode prog_14_method_73_code 277 = .ok (.iadd, 1) := by decide +kernel
theorem dX12_paper_278 : decode prog_14_method_73_code 278 = .ok (.iaload, 1) := by decide +kernel
theorem dX12_paper_279 : decode prog_14_method_73_code 279 = .ok (.iastore, 1) := by decide +kernel
theorem dX12_paper_280 : decode prog_14_method_73_code 280 = .ok (.iinc 9 1, 3) := by decide +kernel
theorem dX12_paper_283 : decode prog_14_method_73_code 283 = .ok (.goto (-58), 3) := by decide +kernel
theorem dX12_paper_286 : decode prog_14_method_73_code 286 = .ok (.aload_n 0, 1) := by decide +kernel
theorem dX12_paper_287 : decode prog_14_method_73_code 287 = .ok (.dup, 1) := by decide +kernel
theorem dX12_paper_288 : decode prog_14_method_73_code 288 = .ok (.getfield 502, 3) := by decide +kernel
theorem dX12_paper_291 : decode prog_14_method_73_code 291 = .ok (.iconst 1, 1) := by decide +kernel
theorem dX12_paper_292 : decode prog_14_method_73_code 292 = .ok (.iadd, 1) := by decide +kernel
theorem dX12_paper_293 : decode prog_14_method_73_code 293 = .ok (.putfield 502, 3) := by decide +kernel
theorem dX12_paper_296 : decode prog_14_method_73_code 296 = .ok (.iload 8, 2) := by decide +kernel
theorem dX12_paper_298 : decode prog_14_method_73_code 298 = .ok (.ireturn, 1) := by decide +kernel
abbrev A_X12_paper_225 (l : Launch) (E : bE) (Q : (Int × bM) → Prop) (v8 : Int) : (Int × bM) → Prop := (fun t : Int × bM => V l E xX12_paper (0, 0) 225 [(0, bR 11), (8, bI v8), (9, bI (t.1))] [] t.2 (b_pI Q))
abbrev X_X12_paper_225 (l : Launch) (E : bE) (Q : (Int × bM) → Prop) (v8 : Int) : (bM) → Prop := (fun t : bM => V l E xX12_paper (0, 0) 286 [(0, bR 11), (8, bI v8)] [] t (b_pI Q))
noncomputable def F_X12_paper_s225 (v8 : Int) (v9 : Int) (M : bM) : Option ((Int × bM) ⊕ (bM)) :=
  if 12 ≤ v9 then (some (.inr (M))) else (b_g ((b_i32 (12 * v8)) ∧ (b_i32 ((12 * v8) + v9)) ∧ (b_i32 (1440 + v9)) ∧ (0 ≤ (1440 + v9) ∧ (1440 + v9) < 1452) ∧ (0 ≤ ((12 * v8) + v9) ∧ ((12 * v8) + v9) < 1452)) (b_let (b_up M 205 ((12 * v8) + v9) (M 205 (1440 + v9))) (fun M46 => b_g ((b_i32 (12 * v8)) ∧ (b_i32 ((12 * v8) + v9)) ∧ (b_i32 (1440 + v9)) ∧ (0 ≤ (1440 + v9) ∧ (1440 + v9) < 1452) ∧ (0 ≤ ((12 * v8) + v9) ∧ ((12 * v8) + v9) < 1452)) (b_let (b_up M46 206 ((12 * v8) + v9) (M46 206 (1440 + v9))) (fun M52 => b_g (b_i32 (v9 + 1)) (some (.inl ((v9 + 1), M52))))))))
theorem t_X12_paper_s225 {l : Launch} {E : bE} {Q : (Int × bM) → Prop} {v8 : Int} {v9 : Int} {M : bM} (hfg : b_fg E) (h : b_wp (F_X12_paper_s225 v8 v9 M) (Sum.elim (A_X12_paper_225 l E Q v8) (X_X12_paper_225 l E Q v8))) : V l E xX12_paper (0, 0) 225 [(0, bR 11), (8, bI v8), (9, bI v9)] [] M (b_pI Q) := by
  unfold F_X12_paper_s225 at h
  refine v_iload (i := 9) 2 rfl dX12_paper_225 ?_
  refine v_bipush ⟨by decide, by decide⟩ (by decide) dX12_paper_227 ?_
  refine v_icmp_ge (tgt := 286) dX12_paper_229 (by decide) (fun c40 => ?_) (fun c40 => ?_)
  · replace h := b_wp_t c40 h
    refine v_sub (ls2 := [(0, bR _), (8, bI _)]) [0, 1] rfl ?_
    exact h
  · replace h := b_wp_f c40 h
    obtain ⟨⟨g41, g42, g43, g44, g45⟩, h⟩ := b_wp_g h
    refine v_aload_n (f := 0) 0 rfl dX12_paper_232 ?_
    refine v_getR (kf := 66) (kz := 66) rfl kd_11 rfl ⟨by decide, by decide⟩ rfl wf_12_149 dX12_paper_233 ?_
    refine v_bipush ⟨by decide, by decide⟩ (by decide) dX12_paper_236 ?_
    refine v_iload (i := 8) 1 rfl dX12_paper_238 ?_
    refine v_imulN g41 dX12_paper_240 ?_
    refine v_iload (i := 9) 2 rfl dX12_paper_241 ?_
    refine v_iaddN g42 dX12_paper_243 ?_
    refine v_aload_n (f := 0) 0 rfl dX12_paper_244 ?_
    refine v_getR (kf := 66) (kz := 66) rfl kd_11 rfl ⟨by decide, by decide⟩ rfl wf_12_149 dX12_paper_245 ?_
    refine v_sipush ⟨by decide, by decide⟩ (by decide) dX12_paper_248 ?_
    refine v_iload (i := 9) 2 rfl dX12_paper_251 ?_
    refine v_iaddN g43 dX12_paper_253 ?_
    refine v_laload kd_205 g44 (by decide) dX12_paper_254 ?_
    refine v_lastore kd_205 g45 (by decide) dX12_paper_255 ?_
    replace h := b_wp_l h
    obtain ⟨⟨g47, g48, g49, g50, g51⟩, h⟩ := b_wp_g h
    refine v_aload_n (f := 0) 0 rfl dX12_paper_256 ?_
    refine v_getR (kf := 67) (kz := 67) rfl kd_11 rfl ⟨by decide, by decide⟩ rfl wf_12_152 dX12_paper_257 ?_
    refine v_bipush ⟨by decide, by decide⟩ (by decide) dX12_paper_260 ?_
    refine v_iload (i := 8) 1 rfl dX12_paper_262 ?_
    refine v_imulN g47 dX12_paper_264 ?_
    refine v_iload (i := 9) 2 rfl dX12_paper_265 ?_
    refine v_iaddN g48 dX12_paper_267 ?_
    refine v_aload_n (f := 0) 0 rfl dX12_paper_268 ?_
    refine v_getR (kf := 67) (kz := 67) rfl kd_11 rfl ⟨by decide, by decide⟩ rfl wf_12_152 dX12_paper_269 ?_
    refine v_sipush ⟨by decide, by decide⟩ (by decide) dX12_paper_272 ?_
    refine v_iload (i := 9) 2 rfl dX12_paper_275 ?_
    refine v_iaddN g49 dX12_paper_277 ?_
    refine v_iaload kd_206 g50 (by decide) dX12_paper_278 ?_
    refine v_iastore kd_206 g51 (by decide) dX12_paper_279 ?_
    replace h := b_wp_l h
    obtain ⟨g53, h⟩ := b_wp_g h
    refine v_iincN (ls' := [(9, bI _), (0, bR _), (8, bI _)]) 2 rfl (by decide) g53 dX12_paper_280 rfl ?_
    refine v_goto (tgt := 225) dX12_paper_283 (by decide) ?_
    refine v_sub (ls2 := [(0, bR _), (8, bI _), (9, bI _)]) [1, 2, 0] rfl ?_
    exact h
theorem l_X12_paper_225 {l : Launch} {E : bE} {Q : (Int × bM) → Prop} {v8 : Int} (hfg : b_fg E) {s : Int × bM} (h : b_wp (b_loop (fun t => F_X12_paper_s225 v8 t.1 t.2) s) (X_X12_paper_225 l E Q v8)) : A_X12_paper_225 l E Q v8 s := b_loop_wp (fun t h => t_X12_paper_s225 hfg h) s h
noncomputable def F_X12_paper_b286 (v8 : Int) (M : bM) : Option (Int × bM) :=
  b_g (b_i32 ((M 11 53) + 1)) (b_let (b_up M 11 53 ((M 11 53) + 1)) (fun M55 => some (v8, M55)))
theorem t_X12_paper_b286 {l : Launch} {E : bE} {Q : (Int × bM) → Prop} {v8 : Int} {M : bM} (hfg : b_fg E) (h : b_wp (F_X12_paper_b286 v8 M) (Q)) : V l E xX12_paper (0, 0) 286 [(0, bR 11), (8, bI v8)] [] M (b_pI Q) := by
  unfold F_X12_paper_b286 at h
  obtain ⟨g54, h⟩ := b_wp_g h
  refine v_aload_n (f := 0) 0 rfl dX12_paper_286 ?_
  refine v_dup rfl dX12_paper_287 ?_
  refine v_getI (kf := 53) (kz := 53) rfl kd_11 rfl ⟨by decide, by decide⟩ rfl wf_12_502 dX12_paper_288 ?_
  refine v_iconst ⟨by decide, by decide⟩ dX12_paper_291 ?_
  refine v_iaddN g54 dX12_paper_292 ?_
  refine v_putI (kf := 53) (kz := 53) rfl kd_11 rfl ⟨by decide, by decide⟩ rfl wf_12_502 rfl rfl dX12_paper_293 ?_
  replace h := b_wp_l h
  refine v_iload (i := 8) 1 rfl dX12_paper_296 ?_
  refine v_ireturn rfl dX12_paper_298 ⟨by decide, by decide⟩ ?_
  exact ⟨_, rfl, h⟩
noncomputable def F_X12_paper_b76 (v1 : Int) (v2 : Int) (v3 : Int) (v4 : Int) (v5 : Int) (v6 : Int) (v7 : Int) (M : bM) : Option (Int × bM) :=
  b_bind (F_X12_isDay v6 M) (fun x8 => if x8 = 0 then (some ((-2), M)) else (b_bind (F_X12_in v7 v6 9999 M) (fun x10 => if x10 = 0 then (some ((-2), M)) else (b_bind (F_X12_readMarks M) (fun t => b_two t (fun x12 M13 => if x12 = 0 then (some ((-1), M13)) else (if (M13 11 53) = 120 then (some ((-3), M13)) else (b_let ((M13 11 53)) (fun y16 => b_g (0 ≤ y16 ∧ y16 < 120) (b_let (b_up M13 194 y16 v1) (fun M18 => b_g (0 ≤ y16 ∧ y16 < 120) (b_let (b_up M18 195 y16 v2) (fun M20 => b_g ((b_i32 (3 * y16)) ∧ (0 ≤ (3 * y16) ∧ (3 * y16) < 360)) (b_let (b_up M20 196 (3 * y16) v3) (fun M23 => b_g ((b_i32 (3 * y16)) ∧ (b_i32 ((3 * y16) + 1)) ∧ (0 ≤ ((3 * y16) + 1) ∧ ((3 * y16) + 1) < 360)) (b_let (b_up M23 196 ((3 * y16) + 1) v4) (fun M27 => b_g ((b_i32 (3 * y16)) ∧ (b_i32 ((3 * y16) + 2)) ∧ (0 ≤ ((3 * y16) + 2) ∧ ((3 * y16) + 2) < 360)) (b_let (b_up M27 196 ((3 * y16) + 2) v5) (fun M31 => b_g (0 ≤ y16 ∧ y16 < 120) (b_let (b_up M31 197 y16 v6) (fun M33 => b_g (0 ≤ y16 ∧ y16 < 120) (b_let (b_up M33 198 y16 v7) (fun M35 => b_g (0 ≤ y16 ∧ y16 < 120) (b_let (b_up M35 199 y16 (M35 11 11)) (fun M37 => b_g (0 ≤ y16 ∧ y16 < 121) (b_let (b_up M37 207 y16 (M37 207 120)) (fun M39 => b_bind (b_loop (fun t => F_X12_paper_s225 y16 t.1 t.2) (0, M39)) (fun t => F_X12_paper_b286 y16 t))))))))))))))))))))))))))))
theorem t_X12_paper_b76 {l : Launch} {E : bE} {Q : (Int × bM) → Prop} {v1 : Int} {v2 : Int} {v3 : Int} {v4 : Int} {v5 : Int} {v6 : Int} {v7 : Int} {M : bM} (hfg : b_fg E) (h : b_wp (F_X12_paper_b76 v1 v2 v3 v4 v5 v6 v7 M) (Q)) : V l E xX12_paper (0, 0) 76 [(0, bR 11), (1, bI v1), (2, bI v2), (3, bI v3), (4, bI v4), (5, bI v5), (6, bI v6), (7, bI v7)] [] M (b_pI Q) := by
  unfold F_X12_paper_b76 at h
  refine v_iload (i := 6) 6 rfl dX12_paper_76 ?_
  refine v_cSIp (nA := 1) (As := [bI _]) (ix := 347) (cf_X12_isDay (b_wp_b h)) rfl wc_X12_isDay wm_12_347 wi_X12_isDay wn_12 ⟨by decide, by decide, by decide⟩ rfl ⟨by decide, by decide⟩ ⟨by decide, by decide⟩ (Nat.le_of_ble_eq_true rfl) dX12_paper_78 (fun x8 h => ?_)
  refine v_if_eq (tgt := 97) dX12_paper_81 (by decide) (fun c9 => ?_) (fun c9 => ?_)
  · replace h := b_wp_t c9 h
    refine v_bipush ⟨by decide, by decide⟩ (by decide) dX12_paper_97 ?_
    refine v_ireturn rfl dX12_paper_99 ⟨by decide, by decide⟩ ?_
    exact ⟨_, rfl, h⟩
  · replace h := b_wp_f c9 h
    refine v_iload (i := 7) 7 rfl dX12_paper_84 ?_
    refine v_iload (i := 6) 6 rfl dX12_paper_86 ?_
    refine v_sipush ⟨by decide, by decide⟩ (by decide) dX12_paper_88 ?_
    refine v_cSIp (nA := 3) (As := [bI _, bI _, bI _]) (ix := 279) (cf_X12_in (b_wp_b h)) rfl wc_X12_in wm_12_279 wi_X12_in wn_12 ⟨by decide, by decide, by decide⟩ rfl ⟨by decide, by decide⟩ ⟨by decide, by decide⟩ (Nat.le_of_ble_eq_true rfl) dX12_paper_91 (fun x10 h => ?_)
    refine v_if_ne (tgt := 100) dX12_paper_94 (by decide) (fun c11 => ?_) (fun c11 => ?_)
    · replace h := b_wp_f c11 h
      refine v_aload_n (f := 0) 0 rfl dX12_paper_100 ?_
      refine v_cVI (nA := 0) (As := []) (ix := 499) (cf_X12_readMarks hfg (b_wp_b h)) rfl kd_11 rfl rfl wc_X12_readMarks wm_12_499 wi_X12_readMarks ws_X12_readMarks wn_12 ⟨by decide, by decide, by decide⟩ rfl ⟨by decide, by decide⟩ ⟨by decide, by decide⟩ (Nat.le_of_ble_eq_true rfl) dX12_paper_101 (fun x12 M13 h => ?_)
      replace h := b_wp_two h
      refine v_if_ne (tgt := 109) dX12_paper_104 (by decide) (fun c14 => ?_) (fun c14 => ?_)
      · replace h := b_wp_f c14 h
        refine v_aload_n (f := 0) 0 rfl dX12_paper_109 ?_
        refine v_getI (kf := 53) (kz := 53) rfl kd_11 rfl ⟨by decide, by decide⟩ rfl wf_12_502 dX12_paper_110 ?_
        refine v_bipush ⟨by decide, by decide⟩ (by decide) dX12_paper_113 ?_
        refine v_icmp_ne (tgt := 121) dX12_paper_115 (by decide) (fun c15 => ?_) (fun c15 => ?_)
        · replace h := b_wp_f c15 h
          refine v_aload_n (f := 0) 0 rfl dX12_paper_121 ?_
          refine v_getI (kf := 53) (kz := 53) rfl kd_11 rfl ⟨by decide, by decide⟩ rfl wf_12_502 dX12_paper_122 ?_
          replace h := b_wp_l h
          obtain ⟨g17, h⟩ := b_wp_g h
          refine v_istore (i := 8) (ls' := [(8, bI _), (0, bR _), (1, bI _), (2, bI _), (3, bI _), (4, bI _), (5, bI _), (6, bI _), (7, bI _)]) (by decide) dX12_paper_125 rfl ?_
          refine v_aload_n (f := 0) 1 rfl dX12_paper_127 ?_
          refine v_getR (kf := 55) (kz := 55) rfl kd_11 rfl ⟨by decide, by decide⟩ rfl wf_12_115 dX12_paper_128 ?_
          refine v_iload (i := 8) 0 rfl dX12_paper_131 ?_
          refine v_iload_n (f := 1) 2 rfl dX12_paper_133 ?_
          refine v_iastore kd_194 g17 (by decide) dX12_paper_134 ?_
          replace h := b_wp_l h
          obtain ⟨g19, h⟩ := b_wp_g h
          refine v_aload_n (f := 0) 1 rfl dX12_paper_135 ?_
          refine v_getR (kf := 56) (kz := 56) rfl kd_11 rfl ⟨by decide, by decide⟩ rfl wf_12_118 dX12_paper_136 ?_
          refine v_iload (i := 8) 0 rfl dX12_paper_139 ?_
          refine v_iload_n (f := 2) 3 rfl dX12_paper_141 ?_
          refine v_iastore kd_195 g19 (by decide) dX12_paper_142 ?_
          replace h := b_wp_l h
          obtain ⟨⟨g21, g22⟩, h⟩ := b_wp_g h
          refine v_aload_n (f := 0) 1 rfl dX12_paper_143 ?_
          refine v_getR (kf := 57) (kz := 57) rfl kd_11 rfl ⟨by decide, by decide⟩ rfl wf_12_121 dX12_paper_144 ?_
          refine v_iconst ⟨by decide, by decide⟩ dX12_paper_147 ?_
          refine v_iload (i := 8) 0 rfl dX12_paper_148 ?_
          refine v_imulN g21 dX12_paper_150 ?_
          refine v_iload_n (f := 3) 4 rfl dX12_paper_151 ?_
          refine v_iastore kd_196 g22 (by decide) dX12_paper_152 ?_
          replace h := b_wp_l h
          obtain ⟨⟨g24, g25, g26⟩, h⟩ := b_wp_g h
          refine v_aload_n (f := 0) 1 rfl dX12_paper_153 ?_
          refine v_getR (kf := 57) (kz := 57) rfl kd_11 rfl ⟨by decide, by decide⟩ rfl wf_12_121 dX12_paper_154 ?_
          refine v_iconst ⟨by decide, by decide⟩ dX12_paper_157 ?_
          refine v_iload (i := 8) 0 rfl dX12_paper_158 ?_
          refine v_imulN g24 dX12_paper_160 ?_
          refine v_iconst ⟨by decide, by decide⟩ dX12_paper_161 ?_
          refine v_iaddN g25 dX12_paper_162 ?_
          refine v_iload (i := 4) 5 rfl dX12_paper_163 ?_
          refine v_iastore kd_196 g26 (by decide) dX12_paper_165 ?_
          replace h := b_wp_l h
          obtain ⟨⟨g28, g29, g30⟩, h⟩ := b_wp_g h
          refine v_aload_n (f := 0) 1 rfl dX12_paper_166 ?_
          refine v_getR (kf := 57) (kz := 57) rfl kd_11 rfl ⟨by decide, by decide⟩ rfl wf_12_121 dX12_paper_167 ?_
          refine v_iconst ⟨by decide, by decide⟩ dX12_paper_170 ?_
          refine v_iload (i := 8) 0 rfl dX12_paper_171 ?_
          refine v_imulN g28 dX12_paper_173 ?_
          refine v_iconst ⟨by decide, by decide⟩ dX12_paper_174 ?_
          refine v_iaddN g29 dX12_paper_175 ?_
          refine v_iload (i := 5) 6 rfl dX12_paper_176 ?_
          refine v_iastore kd_196 g30 (by decide) dX12_paper_178 ?_
          replace h := b_wp_l h
          obtain ⟨g32, h⟩ := b_wp_g h
          refine v_aload_n (f := 0) 1 rfl dX12_paper_179 ?_
          refine v_getR (kf := 58) (kz := 58) rfl kd_11 rfl ⟨by decide, by decide⟩ rfl wf_12_124 dX12_paper_180 ?_
          refine v_iload (i := 8) 0 rfl dX12_paper_183 ?_
          refine v_iload (i := 6) 7 rfl dX12_paper_185 ?_
          refine v_iastore kd_197 g32 (by decide) dX12_paper_187 ?_
          replace h := b_wp_l h
          obtain ⟨g34, h⟩ := b_wp_g h
          refine v_aload_n (f := 0) 1 rfl dX12_paper_188 ?_
          refine v_getR (kf := 59) (kz := 59) rfl kd_11 rfl ⟨by decide, by decide⟩ rfl wf_12_127 dX12_paper_189 ?_
          refine v_iload (i := 8) 0 rfl dX12_paper_192 ?_
          refine v_iload (i := 7) 8 rfl dX12_paper_194 ?_
          refine v_iastore kd_198 g34 (by decide) dX12_paper_196 ?_
          replace h := b_wp_l h
          obtain ⟨g36, h⟩ := b_wp_g h
          refine v_aload_n (f := 0) 1 rfl dX12_paper_197 ?_
          refine v_getR (kf := 60) (kz := 60) rfl kd_11 rfl ⟨by decide, by decide⟩ rfl wf_12_130 dX12_paper_198 ?_
          refine v_iload (i := 8) 0 rfl dX12_paper_201 ?_
          refine v_aload_n (f := 0) 1 rfl dX12_paper_203 ?_
          refine v_getI (kf := 11) (kz := 11) rfl kd_11 rfl ⟨by decide, by decide⟩ rfl wf_12_344 dX12_paper_204 ?_
          refine v_iastore kd_199 g36 (by decide) dX12_paper_207 ?_
          replace h := b_wp_l h
          obtain ⟨g38, h⟩ := b_wp_g h
          refine v_aload_n (f := 0) 1 rfl dX12_paper_208 ?_
          refine v_getR (kf := 68) (kz := 68) rfl kd_11 rfl ⟨by decide, by decide⟩ rfl wf_12_155 dX12_paper_209 ?_
          refine v_iload (i := 8) 0 rfl dX12_paper_212 ?_
          refine v_aload_n (f := 0) 1 rfl dX12_paper_214 ?_
          refine v_getR (kf := 68) (kz := 68) rfl kd_11 rfl ⟨by decide, by decide⟩ rfl wf_12_155 dX12_paper_215 ?_
          refine v_bipush ⟨by decide, by decide⟩ (by decide) dX12_paper_218 ?_
          refine v_iaload kd_207 ⟨by decide, by decide⟩ (by decide) dX12_paper_220 ?_
          refine v_iastore kd_207 g38 (by decide) dX12_paper_221 ?_
          replace h := b_wp_l h
          refine v_iconst ⟨by decide, by decide⟩ dX12_paper_222 ?_
          refine v_istore (i := 9) (ls' := [(9, bI _), (8, bI _), (0, bR _), (1, bI _), (2, bI _), (3, bI _), (4, bI _), (5, bI _), (6, bI _), (7, bI _)]) (by decide) dX12_paper_223 rfl ?_
          refine v_sub (ls2 := [(0, bR _), (8, bI _), (9, bI _)]) [2, 1, 0] rfl ?_
          refine l_X12_paper_225 hfg (b_wp_m (fun t h => ?_) (b_wp_b h))
          show V l E xX12_paper (0, 0) 286 [(0, bR 11), (8, bI _)] [] _ (b_pI Q)
          exact t_X12_paper_b286 hfg h
        · replace h := b_wp_t c15 h
          refine v_bipush ⟨by decide, by decide⟩ (by decide) dX12_paper_118 ?_
          refine v_ireturn rfl dX12_paper_120 ⟨by decide, by decide⟩ ?_
          exact ⟨_, rfl, h⟩
      · replace h := b_wp_t c14 h
        refine v_iconst ⟨by decide, by decide⟩ dX12_paper_107 ?_
        refine v_ireturn rfl dX12_paper_108 ⟨by decide, by decide⟩ ?_
        exact ⟨_, rfl, h⟩
    · replace h := b_wp_t c11 h
      refine v_bipush ⟨by decide, by decide⟩ (by decide) dX12_paper_97 ?_
      refine v_ireturn rfl dX12_paper_99 ⟨by decide, by decide⟩ ?_
      exact ⟨_, rfl, h⟩
noncomputable def F_X12_paper_b61 (v1 : Int) (v2 : Int) (v3 : Int) (v4 : Int) (v5 : Int) (v6 : Int) (v7 : Int) (M : bM) : Option (Int × bM) :=
  if v5 = (-1) then (F_X12_paper_b76 v1 v2 v3 v4 v5 v6 v7 M) else (b_bind (F_X12_isLot v5 M) (fun x56 => if x56 = 0 then (some ((-2), M)) else (F_X12_paper_b76 v1 v2 v3 v4 v5 v6 v7 M)))
theorem t_X12_paper_b61 {l : Launch} {E : bE} {Q : (Int × bM) → Prop} {v1 : Int} {v2 : Int} {v3 : Int} {v4 : Int} {v5 : Int} {v6 : Int} {v7 : Int} {M : bM} (hfg : b_fg E) (h : b_wp (F_X12_paper_b61 v1 v2 v3 v4 v5 v6 v7 M) (Q)) : V l E xX12_paper (0, 0) 61 [(0, bR 11), (1, bI v1), (2, bI v2), (3, bI v3), (4, bI v4), (5, bI v5), (6, bI v6), (7, bI v7)] [] M (b_pI Q) := by
  unfold F_X12_paper_b61 at h
  refine v_iload (i := 5) 5 rfl dX12_paper_61 ?_
  refine v_iconst ⟨by decide, by decide⟩ dX12_paper_63 ?_
  refine v_icmp_eq (tgt := 76) dX12_paper_64 (by decide) (fun c7 => ?_) (fun c7 => ?_)
  · replace h := b_wp_t c7 h
    exact t_X12_paper_b76 hfg h
  · replace h := b_wp_f c7 h
    refine v_aload_n (f := 0) 0 rfl dX12_paper_67 ?_
    refine v_iload (i := 5) 5 rfl dX12_paper_68 ?_
    refine v_cVIp (nA := 1) (As := [bI _]) (ix := 385) (cf_X12_isLot (b_wp_b h)) rfl kd_11 rfl rfl wc_X12_isLot wm_12_385 wi_X12_isLot ws_X12_isLot wn_12 ⟨by decide, by decide, by decide⟩ rfl ⟨by decide, by decide⟩ ⟨by decide, by decide⟩ (Nat.le_of_ble_eq_true rfl) dX12_paper_70 (fun x56 h => ?_)
    refine v_if_eq (tgt := 97) dX12_paper_73 (by decide) (fun c57 => ?_) (fun c57 => ?_)
    · replace h := b_wp_t c57 h
      refine v_bipush ⟨by decide, by decide⟩ (by decide) dX12_paper_97 ?_
      refine v_ireturn rfl dX12_paper_99 ⟨by decide, by decide⟩ ?_
      exact ⟨_, rfl, h⟩
    · replace h := b_wp_f c57 h
      exact t_X12_paper_b76 hfg h
noncomputable def F_X12_paper_b46 (v1 : Int) (v2 : Int) (v3 : Int) (v4 : Int) (v5 : Int) (v6 : Int) (v7 : Int) (M : bM) : Option (Int × bM) :=
  if v4 = (-1) then (F_X12_paper_b61 v1 v2 v3 v4 v5 v6 v7 M) else (b_bind (F_X12_isPerson v4 M) (fun x58 => if x58 = 0 then (some ((-2), M)) else (F_X12_paper_b61 v1 v2 v3 v4 v5 v6 v7 M)))
theorem t_X12_paper_b46 {l : Launch} {E : bE} {Q : (Int × bM) → Prop} {v1 : Int} {v2 : Int} {v3 : Int} {v4 : Int} {v5 : Int} {v6 : Int} {v7 : Int} {M : bM} (hfg : b_fg E) (h : b_wp (F_X12_paper_b46 v1 v2 v3 v4 v5 v6 v7 M) (Q)) : V l E xX12_paper (0, 0) 46 [(0, bR 11), (1, bI v1), (2, bI v2), (3, bI v3), (4, bI v4), (5, bI v5), (6, bI v6), (7, bI v7)] [] M (b_pI Q) := by
  unfold F_X12_paper_b46 at h
  refine v_iload (i := 4) 4 rfl dX12_paper_46 ?_
  refine v_iconst ⟨by decide, by decide⟩ dX12_paper_48 ?_
  refine v_icmp_eq (tgt := 61) dX12_paper_49 (by decide) (fun c6 => ?_) (fun c6 => ?_)
  · replace h := b_wp_t c6 h
    exact t_X12_paper_b61 hfg h
  · replace h := b_wp_f c6 h
    refine v_aload_n (f := 0) 0 rfl dX12_paper_52 ?_
    refine v_iload (i := 4) 4 rfl dX12_paper_53 ?_
    refine v_cVIp (nA := 1) (As := [bI _]) (ix := 356) (cf_X12_isPerson (b_wp_b h)) rfl kd_11 rfl rfl wc_X12_isPerson wm_12_356 wi_X12_isPerson ws_X12_isPerson wn_12 ⟨by decide, by decide, by decide⟩ rfl ⟨by decide, by decide⟩ ⟨by decide, by decide⟩ (Nat.le_of_ble_eq_true rfl) dX12_paper_55 (fun x58 h => ?_)
    refine v_if_eq (tgt := 97) dX12_paper_58 (by decide) (fun c59 => ?_) (fun c59 => ?_)
    · replace h := b_wp_t c59 h
      refine v_bipush ⟨by decide, by decide⟩ (by decide) dX12_paper_97 ?_
      refine v_ireturn rfl dX12_paper_99 ⟨by decide, by decide⟩ ?_
      exact ⟨_, rfl, h⟩
    · replace h := b_wp_f c59 h
      exact t_X12_paper_b61 hfg h
noncomputable def F_X12_paper_b33 (v1 : Int) (v2 : Int) (v3 : Int) (v4 : Int) (v5 : Int) (v6 : Int) (v7 : Int) (M : bM) : Option (Int × bM) :=
  if v3 = (-1) then (F_X12_paper_b46 v1 v2 v3 v4 v5 v6 v7 M) else (b_bind (F_X12_isPerson v3 M) (fun x60 => if x60 = 0 then (some ((-2), M)) else (F_X12_paper_b46 v1 v2 v3 v4 v5 v6 v7 M)))
theorem t_X12_paper_b33 {l : Launch} {E : bE} {Q : (Int × bM) → Prop} {v1 : Int} {v2 : Int} {v3 : Int} {v4 : Int} {v5 : Int} {v6 : Int} {v7 : Int} {M : bM} (hfg : b_fg E) (h : b_wp (F_X12_paper_b33 v1 v2 v3 v4 v5 v6 v7 M) (Q)) : V l E xX12_paper (0, 0) 33 [(0, bR 11), (1, bI v1), (2, bI v2), (3, bI v3), (4, bI v4), (5, bI v5), (6, bI v6), (7, bI v7)] [] M (b_pI Q) := by
  unfold F_X12_paper_b33 at h
  refine v_iload_n (f := 3) 3 rfl dX12_paper_33 ?_
  refine v_iconst ⟨by decide, by decide⟩ dX12_paper_34 ?_
  refine v_icmp_eq (tgt := 46) dX12_paper_35 (by decide) (fun c5 => ?_) (fun c5 => ?_)
  · replace h := b_wp_t c5 h
    exact t_X12_paper_b46 hfg h
  · replace h := b_wp_f c5 h
    refine v_aload_n (f := 0) 0 rfl dX12_paper_38 ?_
    refine v_iload_n (f := 3) 3 rfl dX12_paper_39 ?_
    refine v_cVIp (nA := 1) (As := [bI _]) (ix := 356) (cf_X12_isPerson (b_wp_b h)) rfl kd_11 rfl rfl wc_X12_isPerson wm_12_356 wi_X12_isPerson ws_X12_isPerson wn_12 ⟨by decide, by decide, by decide⟩ rfl ⟨by decide, by decide⟩ ⟨by decide, by decide⟩ (Nat.le_of_ble_eq_true rfl) dX12_paper_40 (fun x60 h => ?_)
    refine v_if_eq (tgt := 97) dX12_paper_43 (by decide) (fun c61 => ?_) (fun c61 => ?_)
    · replace h := b_wp_t c61 h
      refine v_bipush ⟨by decide, by decide⟩ (by decide) dX12_paper_97 ?_
      refine v_ireturn rfl dX12_paper_99 ⟨by decide, by decide⟩ ?_
      exact ⟨_, rfl, h⟩
    · replace h := b_wp_f c61 h
      exact t_X12_paper_b46 hfg h
noncomputable def F_X12_paper (v1 : Int) (v2 : Int) (v3 : Int) (v4 : Int) (v5 : Int) (v6 : Int) (v7 : Int) (M : bM) : Option (Int × bM) :=
  b_bind (F_X12_take M) (fun M1 => b_bind (F_X12_in v1 0 6 M1) (fun x2 => if x2 = 0 then (some ((-2), M1)) else (if v2 = (-1) then (F_X12_paper_b33 v1 v2 v3 v4 v5 v6 v7 M1) else (b_g (b_i32 ((M1 11 52) - 1)) (b_bind (F_X12_in v2 0 ((M1 11 52) - 1) M1) (fun x63 => if x63 = 0 then (some ((-2), M1)) else (F_X12_paper_b33 v1 v2 v3 v4 v5 v6 v7 M1)))))))
theorem t_X12_paper {l : Launch} {E : bE} {Q : (Int × bM) → Prop} {v1 : Int} {v2 : Int} {v3 : Int} {v4 : Int} {v5 : Int} {v6 : Int} {v7 : Int} {M : bM} (hfg : b_fg E) (h : b_wp (F_X12_paper v1 v2 v3 v4 v5 v6 v7 M) (Q)) : V l E xX12_paper (0, 0) 0 [(0, bR 11), (1, bI v1), (2, bI v2), (3, bI v3), (4, bI v4), (5, bI v5), (6, bI v6), (7, bI v7)] [] M (b_pI Q) := by
  unfold F_X12_paper at h
  refine v_aload_n (f := 0) 0 rfl dX12_paper_0 ?_
  refine v_cVV (nA := 0) (As := []) (ix := 395) (cf_X12_take hfg (b_wp_b h)) rfl kd_11 rfl rfl wc_X12_take wm_12_395 wi_X12_take ws_X12_take wn_12 ⟨by decide, by decide, by decide⟩ rfl ⟨by decide, by decide⟩ ⟨by decide, by decide⟩ (Nat.le_of_ble_eq_true rfl) dX12_paper_1 (fun M1 h => ?_)
  refine v_iload_n (f := 1) 1 rfl dX12_paper_4 ?_
  refine v_iconst ⟨by decide, by decide⟩ dX12_paper_5 ?_
  refine v_bipush ⟨by decide, by decide⟩ (by decide) dX12_paper_6 ?_
  refine v_cSIp (nA := 3) (As := [bI _, bI _, bI _]) (ix := 279) (cf_X12_in (b_wp_b h)) rfl wc_X12_in wm_12_279 wi_X12_in wn_12 ⟨by decide, by decide, by decide⟩ rfl ⟨by decide, by decide⟩ ⟨by decide, by decide⟩ (Nat.le_of_ble_eq_true rfl) dX12_paper_8 (fun x2 h => ?_)
  refine v_if_eq (tgt := 97) dX12_paper_11 (by decide) (fun c3 => ?_) (fun c3 => ?_)
  · replace h := b_wp_t c3 h
    refine v_bipush ⟨by decide, by decide⟩ (by decide) dX12_paper_97 ?_
    refine v_ireturn rfl dX12_paper_99 ⟨by decide, by decide⟩ ?_
    exact ⟨_, rfl, h⟩
  · replace h := b_wp_f c3 h
    refine v_iload_n (f := 2) 2 rfl dX12_paper_14 ?_
    refine v_iconst ⟨by decide, by decide⟩ dX12_paper_15 ?_
    refine v_icmp_eq (tgt := 33) dX12_paper_16 (by decide) (fun c4 => ?_) (fun c4 => ?_)
    · replace h := b_wp_t c4 h
      exact t_X12_paper_b33 hfg h
    · replace h := b_wp_f c4 h
      obtain ⟨g62, h⟩ := b_wp_g h
      refine v_iload_n (f := 2) 2 rfl dX12_paper_19 ?_
      refine v_iconst ⟨by decide, by decide⟩ dX12_paper_20 ?_
      refine v_aload_n (f := 0) 0 rfl dX12_paper_21 ?_
      refine v_getI (kf := 52) (kz := 52) rfl kd_11 rfl ⟨by decide, by decide⟩ rfl wf_12_496 dX12_paper_22 ?_
      refine v_iconst ⟨by decide, by decide⟩ dX12_paper_25 ?_
      refine v_isubN g62 dX12_paper_26 ?_
      refine v_cSIp (nA := 3) (As := [bI _, bI _, bI _]) (ix := 279) (cf_X12_in (b_wp_b h)) rfl wc_X12_in wm_12_279 wi_X12_in wn_12 ⟨by decide, by decide, by decide⟩ rfl ⟨by decide, by decide⟩ ⟨by decide, by decide⟩ (Nat.le_of_ble_eq_true rfl) dX12_paper_27 (fun x63 h => ?_)
      refine v_if_eq (tgt := 97) dX12_paper_30 (by decide) (fun c64 => ?_) (fun c64 => ?_)
      · replace h := b_wp_t c64 h
        refine v_bipush ⟨by decide, by decide⟩ (by decide) dX12_paper_97 ?_
        refine v_ireturn rfl dX12_paper_99 ⟨by decide, by decide⟩ ?_
        exact ⟨_, rfl, h⟩
      · replace h := b_wp_f c64 h
        exact t_X12_paper_b33 hfg h
theorem cf_X12_paper {l : Launch} {E : bE} {M : bM} {v1 : Int} {v2 : Int} {v3 : Int} {v4 : Int} {v5 : Int} {v6 : Int} {v7 : Int} (hfg : b_fg E) {Q : (Int × bM) → Prop} (h : b_wp (F_X12_paper v1 v2 v3 v4 v5 v6 v7 M) Q) : b_C l E xX12_paper yX12_paper [bR 11, bI v1, bI v2, bI v3, bI v4, bI v5, bI v6, bI v7] M (b_pI Q) := b_met (by decide) ⟨rfl, rfl⟩ (Nat.le_of_ble_eq_true rfl) (fun _ _ => t_X12_paper hfg h)
abbrev xX12_isPaper : bX := ("BurntHallModel", prog_14_method_74_code, 2, (Option.some Jvm.ClassFile.FieldType.boolean), b_rm 2 0 0, 0, "isPaper")
abbrev yX12_isPaper : MethodName := ⟨"BurntHallModel", "isPaper", "(I)Z"⟩
theorem dX12_isPaper_0 : decode prog_14_method_74_code 0 = .ok (.iload_n 1, 1) := by decide +kernel
theorem dX12_isPaper_1 : decode prog_14_method_74_code 1 = .ok (.iconst 0, 1) := by decide +kernel
theorem dX12_isPaper_2 : decode prog_14_method_74_code 2 = .ok (.aload_n 0, 1) := by decide +kernel
theorem dX12_isPaper_3 : decode prog_14_method_74_code 3 = .ok (.getfield 502, 3) := by decide +kernel
theorem dX12_isPaper_6 : decode prog_14_method_74_code 6 = .ok (.iconst 1, 1) := by decide +kernel
theorem dX12_isPaper_7 : decode prog_14_method_74_code 7 = .ok (.isub, 1) := by decide +kernel
theorem dX12_isPaper_8 : decode prog_14_method_74_code 8 = .ok (.invokestatic 279, 3) := by decide +kernel
theorem dX12_isPaper_11 : decode prog_14_method_74_code 11 = .ok (.ireturn, 1) := by decide +kernel
noncomputable def F_X12_isPaper (v1 : Int) (M : bM) : Option (Int) :=
  b_g (b_i32 ((M 11 53) - 1)) (b_bind (F_X12_in v1 0 ((M 11 53) - 1) M) (fun x2 => b_g (x2 = 0 ∨ x2 = 1) (some x2)))
theorem t_X12_isPaper {l : Launch} {E : bE} {Q : Int → Prop} {v1 : Int} {M : bM} (h : b_wp (F_X12_isPaper v1 M) (Q)) : V l E xX12_isPaper (0, 0) 0 [(0, bR 11), (1, bI v1)] [] M (b_pIp M Q) := by
  unfold F_X12_isPaper at h
  obtain ⟨g1, h⟩ := b_wp_g h
  refine v_iload_n (f := 1) 1 rfl dX12_isPaper_0 ?_
  refine v_iconst ⟨by decide, by decide⟩ dX12_isPaper_1 ?_
  refine v_aload_n (f := 0) 0 rfl dX12_isPaper_2 ?_
  refine v_getI (kf := 53) (kz := 53) rfl kd_11 rfl ⟨by decide, by decide⟩ rfl wf_12_502 dX12_isPaper_3 ?_
  refine v_iconst ⟨by decide, by decide⟩ dX12_isPaper_6 ?_
  refine v_isubN g1 dX12_isPaper_7 ?_
  refine v_cSIp (nA := 3) (As := [bI _, bI _, bI _]) (ix := 279) (cf_X12_in (b_wp_b h)) rfl wc_X12_in wm_12_279 wi_X12_in wn_12 ⟨by decide, by decide, by decide⟩ rfl ⟨by decide, by decide⟩ ⟨by decide, by decide⟩ (Nat.le_of_ble_eq_true rfl) dX12_isPaper_8 (fun x2 h => ?_)
  obtain ⟨g3, h⟩ := b_wp_g h
  refine v_zreturn rfl g3 dX12_isPaper_11 ⟨by decide, by decide⟩ ?_
  exact ⟨_, rfl, rfl, h⟩
theorem cf_X12_isPaper {l : Launch} {E : bE} {M : bM} {v1 : Int} {Q : Int → Prop} (h : b_wp (F_X12_isPaper v1 M) Q) : b_C l E xX12_isPaper yX12_isPaper [bR 11, bI v1] M (b_pIp M Q) := b_met (by decide) ⟨rfl, rfl⟩ (Nat.le_of_ble_eq_true rfl) (fun _ _ => t_X12_isPaper h)
abbrev xX12_written : bX := ("BurntHallModel", prog_14_method_75_code, 6, (Option.some Jvm.ClassFile.FieldType.int), b_rm 3 0 0, 0, "written")
abbrev yX12_written : MethodName := ⟨"BurntHallModel", "written", "(IIIII)I"⟩
theorem dX12_written_0 : decode prog_14_method_75_code 0 = .ok (.aload_n 0, 1) := by decide +kernel
theorem dX12_written_1 : decode prog_14_method_75_code 1 = .ok (.iload_n 1, 1) := by decide +kernel
theorem dX12_written_2 : decode prog_14_method_75_code 2 = .ok (.invokevirtual 505, 3) := by decide +kernel
theorem dX12_written_5 : decode prog_14_method_75_code 5 = .ok (.ifCond .eq 40, 3) := by decide +kernel
theorem dX12_written_8 : decode prog_14_method_75_code 8 = .ok (.aload_n 0, 1) := by decide +kernel
theorem dX12_written_9 : decode prog_14_method_75_code 9 = .ok (.iload_n 2, 1) := by decide +kernel
theorem dX12_written_10 : decode prog_14_method_75_code 10 = .ok (.invokevirtual 356, 3) := by decide +kernel
theorem dX12_written_13 : decode prog_14_method_75_code 13 = .ok (.ifCond .eq 32, 3) := by decide +kernel
theorem dX12_written_16 : decode prog_14_method_75_code 16 = .ok (.iload_n 3, 1) := by decide +kernel
theorem dX12_written_17 : decode prog_14_method_75_code 17 = .ok (.invokestatic 347, 3) := by decide +kernel
theorem dX12_written_20 : decode prog_14_method_75_code 20 = .ok (.ifCond .eq 25, 3) := by decide +kernel
theorem dX12_written_23 : decode prog_14_method_75_code 23 = .ok (.iload 4, 2) := by decide +kernel
theorem dX12_written_25 : decode prog_14_method_75_code 25 = .ok (.iconst 0, 1) := by decide +kernel
theorem dX12_written_26 : decode prog_14_method_75_code 26 = .ok (.bipush 9, 2) := by decide +kernel
theorem dX12_written_28 : decode prog_14_method_75_code 28 = .ok (.invokestatic 279, 3) := by decide +kernel
theorem dX12_written_31 : decode prog_14_method_75_code 31 = .ok (.ifCond .eq 14, 3) := by decide +kernel
theorem dX12_written_34 : decode prog_14_method_75_code 34 = .ok (.iload 5, 2) := by decide +kernel
theorem dX12_written_36 : decode prog_14_method_75_code 36 = .ok (.iconst 0, 1) := by decide +kernel
theorem dX12_written_37 : decode prog_14_method_75_code 37 = .ok (.bipush 99, 2) := by decide +kernel
theorem dX12_written_39 : decode prog_14_method_75_code 39 = .ok (.invokestatic 279, 3) := by decide +kernel
theorem dX12_written_42 : decode prog_14_method_75_code 42 = .ok (.ifCond .ne 6, 3) := by decide +kernel
theorem dX12_written_45 : decode prog_14_method_75_code 45 = .ok (.bipush (-2), 2) := by decide +kernel
theorem dX12_written_47 : decode prog_14_method_75_code 47 = .ok (.ireturn, 1) := by decide +kernel
theorem dX12_written_48 : decode prog_14_method_75_code 48 = .ok (.aload_n 0, 1) := by decide +kernel
theorem dX12_written_49 : decode prog_14_method_75_code 49 = .ok (.getfield 133, 3) := by decide +kernel
theorem dX12_written_52 : decode prog_14_method_75_code 52 = .ok (.iload_n 1, 1) := by decide +kernel
theorem dX12_written_53 : decode prog_14_method_75_code 53 = .ok (.baload, 1) := by decide +kernel
theorem dX12_written_54 : decode prog_14_method_75_code 54 = .ok (.ifCond .eq 6, 3) := by decide +kernel
theorem dX12_written_57 : decode prog_14_method_75_code 57 = .ok (.bipush (-4), 2) := by decide +kernel
theorem dX12_written_59 : decode prog_14_method_75_code 59 = .ok (.ireturn, 1) := by decide +kernel
theorem dX12_written_60 : decode prog_14_method_75_code 60 = .ok (.aload_n 0, 1) := by decide +kernel
theorem dX12_written_61 : decode prog_14_method_75_code 61 = .ok (.getfield 133, 3) := by decide +kernel
theorem dX12_written_64 : decode prog_14_method_75_code 64 = .ok (.iload_n 1, 1) := by decide +kernel
theorem dX12_written_65 : decode prog_14_method_75_code 65 = .ok (.iconst 1, 1) := by decide +kernel
theorem dX12_written_66 : decode prog_14_method_75_code 66 = .ok (.bastore, 1) := by decide +kernel
theorem dX12_written_67 : decode prog_14_method_75_code 67 = .ok (.aload_n 0, 1) := by decide +kernel
theorem dX12_written_68 : decode prog_14_method_75_code 68 = .ok (.getfield 137, 3) := by decide +kernel
theorem dX12_written_71 : decode prog_14_method_75_code 71 = .ok (.iload_n 1, 1) := by decide +kernel
theorem dX12_written_72 : decode prog_14_method_75_code 72 = .ok (.iload_n 2, 1) := by decide +kernel
theorem dX12_written_73 : decode prog_14_method_75_code 73 = .ok (.iastore, 1) := by decide +kernel
theorem dX12_written_74 : decode prog_14_method_75_code 74 = .ok (.aload_n 0, 1) := by decide +kernel
theorem dX12_written_75 : decode prog_14_method_75_code 75 = .ok (.getfield 140, 3) := by decide +kernel
theorem dX12_written_78 : decode prog_14_method_75_code 78 = .ok (.iload_n 1, 1) := by decide +kernel
theorem dX12_written_79 : decode prog_14_method_75_code 79 = .ok (.iload_n 3, 1) := by decide +kernel
theorem dX12_written_80 : decode prog_14_method_75_code 80 = .ok (.iastore, 1) := by decide +kernel
theorem dX12_written_81 : decode prog_14_method_75_code 81 = .ok (.aload_n 0, 1) := by decide +kernel
theorem dX12_written_82 : decode prog_14_method_75_code 82 = .ok (.getfield 143, 3) := by decide +kernel
theorem dX12_written_85 : decode prog_14_method_75_code 85 = .ok (.iload_n 1, 1) := by decide +kernel
theorem dX12_written_86 : decode prog_14_method_75_code 86 = .ok (.iload 4, 2) := by decide +kernel
theorem dX12_written_88 : decode prog_14_method_75_code 88 = .ok (.iastore, 1) := by decide +kernel
theorem dX12_written_89 : decode prog_14_method_75_code 89 = .ok (.aload_n 0, 1) := by decide +kernel
theorem dX12_written_90 : decode prog_14_method_75_code 90 = .ok (.getfield 146, 3) := by decide +kernel
theorem dX12_written_93 : decode prog_14_method_75_code 93 = .ok (.iload_n 1, 1) := by decide +kernel
theorem dX12_written_94 : decode prog_14_method_75_code 94 = .ok (.iload 5, 2) := by decide +kernel
theorem dX12_written_96 : decode prog_14_method_75_code 96 = .ok (.iastore, 1) := by decide +kernel
theorem dX12_written_97 : decode prog_14_method_75_code 97 = .ok (.iconst 1, 1) := by decide +kernel
theorem dX12_written_98 : decode prog_14_method_75_code 98 = .ok (.ireturn, 1) := by decide +kernel
noncomputable def F_X12_written (v1 : Int) (v2 : Int) (v3 : Int) (v4 : Int) (v5 : Int) (M : bM) : Option (Int × bM) :=
  b_bind (F_X12_isPaper v1 M) (fun x1 => if x1 = 0 then (some ((-2), M)) else (b_bind (F_X12_isPerson v2 M) (fun x3 => if x3 = 0 then (some ((-2), M)) else (b_bind (F_X12_isDay v3 M) (fun x5 => if x5 = 0 then (some ((-2), M)) else (b_bind (F_X12_in v4 0 9 M) (fun x7 => if x7 = 0 then (some ((-2), M)) else (b_bind (F_X12_in v5 0 99 M) (fun x9 => if x9 = 0 then (some ((-2), M)) else (b_g (0 ≤ v1 ∧ v1 < 120) (if (M 200 v1) = 0 then (b_g (0 ≤ v1 ∧ v1 < 120) (b_let (b_up M 200 v1 1) (fun M14 => b_g (0 ≤ v1 ∧ v1 < 120) (b_let (b_up M14 201 v1 v2) (fun M16 => b_g (0 ≤ v1 ∧ v1 < 120) (b_let (b_up M16 202 v1 v3) (fun M18 => b_g (0 ≤ v1 ∧ v1 < 120) (b_let (b_up M18 203 v1 v4) (fun M20 => b_g (0 ≤ v1 ∧ v1 < 120) (b_let (b_up M20 204 v1 v5) (fun M22 => some (1, M22)))))))))))) else (some ((-4), M)))))))))))))
theorem t_X12_written {l : Launch} {E : bE} {Q : (Int × bM) → Prop} {v1 : Int} {v2 : Int} {v3 : Int} {v4 : Int} {v5 : Int} {M : bM} (h : b_wp (F_X12_written v1 v2 v3 v4 v5 M) (Q)) : V l E xX12_written (0, 0) 0 [(0, bR 11), (1, bI v1), (2, bI v2), (3, bI v3), (4, bI v4), (5, bI v5)] [] M (b_pI Q) := by
  unfold F_X12_written at h
  refine v_aload_n (f := 0) 0 rfl dX12_written_0 ?_
  refine v_iload_n (f := 1) 1 rfl dX12_written_1 ?_
  refine v_cVIp (nA := 1) (As := [bI _]) (ix := 505) (cf_X12_isPaper (b_wp_b h)) rfl kd_11 rfl rfl wc_X12_isPaper wm_12_505 wi_X12_isPaper ws_X12_isPaper wn_12 ⟨by decide, by decide, by decide⟩ rfl ⟨by decide, by decide⟩ ⟨by decide, by decide⟩ (Nat.le_of_ble_eq_true rfl) dX12_written_2 (fun x1 h => ?_)
  refine v_if_eq (tgt := 45) dX12_written_5 (by decide) (fun c2 => ?_) (fun c2 => ?_)
  · replace h := b_wp_t c2 h
    refine v_bipush ⟨by decide, by decide⟩ (by decide) dX12_written_45 ?_
    refine v_ireturn rfl dX12_written_47 ⟨by decide, by decide⟩ ?_
    exact ⟨_, rfl, h⟩
  · replace h := b_wp_f c2 h
    refine v_aload_n (f := 0) 0 rfl dX12_written_8 ?_
    refine v_iload_n (f := 2) 2 rfl dX12_written_9 ?_
    refine v_cVIp (nA := 1) (As := [bI _]) (ix := 356) (cf_X12_isPerson (b_wp_b h)) rfl kd_11 rfl rfl wc_X12_isPerson wm_12_356 wi_X12_isPerson ws_X12_isPerson wn_12 ⟨by decide, by decide, by decide⟩ rfl ⟨by decide, by decide⟩ ⟨by decide, by decide⟩ (Nat.le_of_ble_eq_true rfl) dX12_written_10 (fun x3 h => ?_)
    refine v_if_eq (tgt := 45) dX12_written_13 (by decide) (fun c4 => ?_) (fun c4 => ?_)
    · replace h := b_wp_t c4 h
      refine v_bipush ⟨by decide, by decide⟩ (by decide) dX12_written_45 ?_
      refine v_ireturn rfl dX12_written_47 ⟨by decide, by decide⟩ ?_
      exact ⟨_, rfl, h⟩
    · replace h := b_wp_f c4 h
      refine v_iload_n (f := 3) 3 rfl dX12_written_16 ?_
      refine v_cSIp (nA := 1) (As := [bI _]) (ix := 347) (cf_X12_isDay (b_wp_b h)) rfl wc_X12_isDay wm_12_347 wi_X12_isDay wn_12 ⟨by decide, by decide, by decide⟩ rfl ⟨by decide, by decide⟩ ⟨by decide, by decide⟩ (Nat.le_of_ble_eq_true rfl) dX12_written_17 (fun x5 h => ?_)
      refine v_if_eq (tgt := 45) dX12_written_20 (by decide) (fun c6 => ?_) (fun c6 => ?_)
      · replace h := b_wp_t c6 h
        refine v_bipush ⟨by decide, by decide⟩ (by decide) dX12_written_45 ?_
        refine v_ireturn rfl dX12_written_47 ⟨by decide, by decide⟩ ?_
        exact ⟨_, rfl, h⟩
      · replace h := b_wp_f c6 h
        refine v_iload (i := 4) 4 rfl dX12_written_23 ?_
        refine v_iconst ⟨by decide, by decide⟩ dX12_written_25 ?_
        refine v_bipush ⟨by decide, by decide⟩ (by decide) dX12_written_26 ?_
        refine v_cSIp (nA := 3) (As := [bI _, bI _, bI _]) (ix := 279) (cf_X12_in (b_wp_b h)) rfl wc_X12_in wm_12_279 wi_X12_in wn_12 ⟨by decide, by decide, by decide⟩ rfl ⟨by decide, by decide⟩ ⟨by decide, by decide⟩ (Nat.le_of_ble_eq_true rfl) dX12_written_28 (fun x7 h => ?_)
        refine v_if_eq (tgt := 45) dX12_written_31 (by decide) (fun c8 => ?_) (fun c8 => ?_)
        · replace h := b_wp_t c8 h
          refine v_bipush ⟨by decide, by decide⟩ (by decide) dX12_written_45 ?_
          refine v_ireturn rfl dX12_written_47 ⟨by decide, by decide⟩ ?_
          exact ⟨_, rfl, h⟩
        · replace h := b_wp_f c8 h
          refine v_iload (i := 5) 5 rfl dX12_written_34 ?_
          refine v_iconst ⟨by decide, by decide⟩ dX12_written_36 ?_
          refine v_bipush ⟨by decide, by decide⟩ (by decide) dX12_written_37 ?_
          refine v_cSIp (nA := 3) (As := [bI _, bI _, bI _]) (ix := 279) (cf_X12_in (b_wp_b h)) rfl wc_X12_in wm_12_279 wi_X12_in wn_12 ⟨by decide, by decide, by decide⟩ rfl ⟨by decide, by decide⟩ ⟨by decide, by decide⟩ (Nat.le_of_ble_eq_true rfl) dX12_written_39 (fun x9 h => ?_)
          refine v_if_ne (tgt := 48) dX12_written_42 (by decide) (fun c10 => ?_) (fun c10 => ?_)
          · replace h := b_wp_f c10 h
            obtain ⟨g11, h⟩ := b_wp_g h
            refine v_aload_n (f := 0) 0 rfl dX12_written_48 ?_
            refine v_getR (kf := 61) (kz := 61) rfl kd_11 rfl ⟨by decide, by decide⟩ rfl wf_12_133 dX12_written_49 ?_
            refine v_iload_n (f := 1) 1 rfl dX12_written_52 ?_
            refine v_zaload kd_200 g11 (by decide) dX12_written_53 ?_
            refine v_if_eq (tgt := 60) dX12_written_54 (by decide) (fun c12 => ?_) (fun c12 => ?_)
            · replace h := b_wp_t c12 h
              obtain ⟨g13, h⟩ := b_wp_g h
              refine v_aload_n (f := 0) 0 rfl dX12_written_60 ?_
              refine v_getR (kf := 61) (kz := 61) rfl kd_11 rfl ⟨by decide, by decide⟩ rfl wf_12_133 dX12_written_61 ?_
              refine v_iload_n (f := 1) 1 rfl dX12_written_64 ?_
              refine v_iconst ⟨by decide, by decide⟩ dX12_written_65 ?_
              refine v_zastore kd_200 g13 (by decide) (b_narz (Or.inr rfl)) dX12_written_66 ?_
              replace h := b_wp_l h
              obtain ⟨g15, h⟩ := b_wp_g h
              refine v_aload_n (f := 0) 0 rfl dX12_written_67 ?_
              refine v_getR (kf := 62) (kz := 62) rfl kd_11 rfl ⟨by decide, by decide⟩ rfl wf_12_137 dX12_written_68 ?_
              refine v_iload_n (f := 1) 1 rfl dX12_written_71 ?_
              refine v_iload_n (f := 2) 2 rfl dX12_written_72 ?_
              refine v_iastore kd_201 g15 (by decide) dX12_written_73 ?_
              replace h := b_wp_l h
              obtain ⟨g17, h⟩ := b_wp_g h
              refine v_aload_n (f := 0) 0 rfl dX12_written_74 ?_
              refine v_getR (kf := 63) (kz := 63) rfl kd_11 rfl ⟨by decide, by decide⟩ rfl wf_12_140 dX12_written_75 ?_
              refine v_iload_n (f := 1) 1 rfl dX12_written_78 ?_
              refine v_iload_n (f := 3) 3 rfl dX12_written_79 ?_
              refine v_iastore kd_202 g17 (by decide) dX12_written_80 ?_
              replace h := b_wp_l h
              obtain ⟨g19, h⟩ := b_wp_g h
              refine v_aload_n (f := 0) 0 rfl dX12_written_81 ?_
              refine v_getR (kf := 64) (kz := 64) rfl kd_11 rfl ⟨by decide, by decide⟩ rfl wf_12_143 dX12_written_82 ?_
              refine v_iload_n (f := 1) 1 rfl dX12_written_85 ?_
              refine v_iload (i := 4) 4 rfl dX12_written_86 ?_
              refine v_iastore kd_203 g19 (by decide) dX12_written_88 ?_
              replace h := b_wp_l h
              obtain ⟨g21, h⟩ := b_wp_g h
              refine v_aload_n (f := 0) 0 rfl dX12_written_89 ?_
              refine v_getR (kf := 65) (kz := 65) rfl kd_11 rfl ⟨by decide, by decide⟩ rfl wf_12_146 dX12_written_90 ?_
              refine v_iload_n (f := 1) 1 rfl dX12_written_93 ?_
              refine v_iload (i := 5) 5 rfl dX12_written_94 ?_
              refine v_iastore kd_204 g21 (by decide) dX12_written_96 ?_
              replace h := b_wp_l h
              refine v_iconst ⟨by decide, by decide⟩ dX12_written_97 ?_
              refine v_ireturn rfl dX12_written_98 ⟨by decide, by decide⟩ ?_
              exact ⟨_, rfl, h⟩
            · replace h := b_wp_f c12 h
              refine v_bipush ⟨by decide, by decide⟩ (by decide) dX12_written_57 ?_
              refine v_ireturn rfl dX12_written_59 ⟨by decide, by decide⟩ ?_
              exact ⟨_, rfl, h⟩
          · replace h := b_wp_t c10 h
            refine v_bipush ⟨by decide, by decide⟩ (by decide) dX12_written_45 ?_
            refine v_ireturn rfl dX12_written_47 ⟨by decide, by decide⟩ ?_
            exact ⟨_, rfl, h⟩
theorem cf_X12_written {l : Launch} {E : bE} {M : bM} {v1 : Int} {v2 : Int} {v3 : Int} {v4 : Int} {v5 : Int} {Q : (Int × bM) → Prop} (h : b_wp (F_X12_written v1 v2 v3 v4 v5 M) Q) : b_C l E xX12_written yX12_written [bR 11, bI v1, bI v2, bI v3, bI v4, bI v5] M (b_pI Q) := b_met (by decide) ⟨rfl, rfl⟩ (Nat.le_of_ble_eq_true rfl) (fun _ _ => t_X12_written h)
abbrev xX12_pages : bX := ("BurntHallModel", prog_14_method_76_code, 3, (Option.some Jvm.ClassFile.FieldType.int), b_rm 2 0 0, 0, "pages")
abbrev yX12_pages : MethodName := ⟨"BurntHallModel", "pages", "(I)I"⟩
theorem dX12_pages_0 : decode prog_14_method_76_code 0 = .ok (.iload_n 1, 1) := by decide +kernel
theorem dX12_pages_1 : decode prog_14_method_76_code 1 = .ok (.iconst 1, 1) := by decide +kernel
theorem dX12_pages_2 : decode prog_14_method_76_code 2 = .ok (.bipush 40, 2) := by decide +kernel
theorem dX12_pages_4 : decode prog_14_method_76_code 4 = .ok (.invokestatic 279, 3) := by decide +kernel
theorem dX12_pages_7 : decode prog_14_method_76_code 7 = .ok (.ifCond .ne 6, 3) := by decide +kernel
theorem dX12_pages_10 : decode prog_14_method_76_code 10 = .ok (.bipush (-2), 2) := by decide +kernel
theorem dX12_pages_12 : decode prog_14_method_76_code 12 = .ok (.ireturn, 1) := by decide +kernel
theorem dX12_pages_13 : decode prog_14_method_76_code 13 = .ok (.aload_n 0, 1) := by decide +kernel
theorem dX12_pages_14 : decode prog_14_method_76_code 14 = .ok (.getfield 112, 3) := by decide +kernel
theorem dX12_pages_17 : decode prog_14_method_76_code 17 = .ok (.istore_n 2, 1) := by decide +kernel
theorem dX12_pages_18 : decode prog_14_method_76_code 18 = .ok (.aload_n 0, 1) := by decide +kernel
theorem dX12_pages_19 : decode prog_14_method_76_code 19 = .ok (.iload_n 1, 1) := by decide +kernel
theorem dX12_pages_20 : decode prog_14_method_76_code 20 = .ok (.putfield 112, 3) := by decide +kernel
theorem dX12_pages_23 : decode prog_14_method_76_code 23 = .ok (.iload_n 2, 1) := by decide +kernel
theorem dX12_pages_24 : decode prog_14_method_76_code 24 = .ok (.ireturn, 1) := by decide +kernel
noncomputable def F_X12_pages (v1 : Int) (M : bM) : Option (Int × bM) :=
  b_bind (F_X12_in v1 1 40 M) (fun x1 => if x1 = 0 then (some ((-2), M)) else (b_let (b_up M 11 54 v1) (fun M3 => some ((M 11 54), M3))))
theorem t_X12_pages {l : Launch} {E : bE} {Q : (Int × bM) → Prop} {v1 : Int} {M : bM} (h : b_wp (F_X12_pages v1 M) (Q)) : V l E xX12_pages (0, 0) 0 [(0, bR 11), (1, bI v1)] [] M (b_pI Q) := by
  unfold F_X12_pages at h
  refine v_iload_n (f := 1) 1 rfl dX12_pages_0 ?_
  refine v_iconst ⟨by decide, by decide⟩ dX12_pages_1 ?_
  refine v_bipush ⟨by decide, by decide⟩ (by decide) dX12_pages_2 ?_
  refine v_cSIp (nA := 3) (As := [bI _, bI _, bI _]) (ix := 279) (cf_X12_in (b_wp_b h)) rfl wc_X12_in wm_12_279 wi_X12_in wn_12 ⟨by decide, by decide, by decide⟩ rfl ⟨by decide, by decide⟩ ⟨by decide, by decide⟩ (Nat.le_of_ble_eq_true rfl) dX12_pages_4 (fun x1 h => ?_)
  refine v_if_ne (tgt := 13) dX12_pages_7 (by decide) (fun c2 => ?_) (fun c2 => ?_)
  · replace h := b_wp_f c2 h
    refine v_aload_n (f := 0) 0 rfl dX12_pages_13 ?_
    refine v_getI (kf := 54) (kz := 54) rfl kd_11 rfl ⟨by decide, by decide⟩ rfl wf_12_112 dX12_pages_14 ?_
    refine v_istore_n (g := 2) (i := 2) (ls' := [(2, bI _), (0, bR _), (1, bI _)]) rfl (by decide) dX12_pages_17 rfl ?_
    refine v_aload_n (f := 0) 1 rfl dX12_pages_18 ?_
    refine v_iload_n (f := 1) 2 rfl dX12_pages_19 ?_
    refine v_putI (kf := 54) (kz := 54) rfl kd_11 rfl ⟨by decide, by decide⟩ rfl wf_12_112 rfl rfl dX12_pages_20 ?_
    replace h := b_wp_l h
    refine v_iload_n (f := 2) 0 rfl dX12_pages_23 ?_
    refine v_ireturn rfl dX12_pages_24 ⟨by decide, by decide⟩ ?_
    exact ⟨_, rfl, h⟩
  · replace h := b_wp_t c2 h
    refine v_bipush ⟨by decide, by decide⟩ (by decide) dX12_pages_10 ?_
    refine v_ireturn rfl dX12_pages_12 ⟨by decide, by decide⟩ ?_
    exact ⟨_, rfl, h⟩
theorem cf_X12_pages {l : Launch} {E : bE} {M : bM} {v1 : Int} {Q : (Int × bM) → Prop} (h : b_wp (F_X12_pages v1 M) Q) : b_C l E xX12_pages yX12_pages [bR 11, bI v1] M (b_pI Q) := b_met (by decide) ⟨rfl, rfl⟩ (Nat.le_of_ble_eq_true rfl) (fun _ _ => t_X12_pages h)
abbrev xX12_sumOf : bX := ("BurntHallModel", prog_14_method_77_code, 7, (Option.some Jvm.ClassFile.FieldType.int), b_rm 1 0 0, 0, "sumOf")
abbrev yX12_sumOf : MethodName := ⟨"BurntHallModel", "sumOf", "(III)I"⟩
theorem dX12_sumOf_0 : decode prog_14_method_77_code 0 = .ok (.iconst 0, 1) := by decide +kernel
theorem dX12_sumOf_1 : decode prog_14_method_77_code 1 = .ok (.istore 4, 2) := by decide +kernel
theorem dX12_sumOf_3 : decode prog_14_method_77_code 3 = .ok (.iload_n 1, 1) := by decide +kernel
theorem dX12_sumOf_4 : decode prog_14_method_77_code 4 = .ok (.istore 5, 2) := by decide +kernel
theorem dX12_sumOf_6 : decode prog_14_method_77_code 6 = .ok (.iload 5, 2) := by decide +kernel
theorem dX12_sumOf_8 : decode prog_14_method_77_code 8 = .ok (.iload_n 1, 1) := by decide +kernel
theorem dX12_sumOf_9 : decode prog_14_method_77_code 9 = .ok (.iload_n 2, 1) := by decide +kernel
theorem dX12_sumOf_10 : decode prog_14_method_77_code 10 = .ok (.iadd, 1) := by decide +kernel
theorem dX12_sumOf_11 : decode prog_14_method_77_code 11 = .ok (.if_icmp .ge 93, 3) := by decide +kernel
theorem dX12_sumOf_14 : decode prog_14_method_77_code 14 = .ok (.iload 4, 2) := by decide +kernel
theorem dX12_sumOf_16 : decode prog_14_method_77_code 16 = .ok (.aload_n 0, 1) := by decide +kernel
theorem dX12_sumOf_17 : decode prog_14_method_77_code 17 = .ok (.getfield 109, 3) := by decide +kernel
theorem dX12_sumOf_20 : decode prog_14_method_77_code 20 = .ok (.iload 5, 2) := by decide +kernel
theorem dX12_sumOf_22 : decode prog_14_method_77_code 22 = .ok (.iaload, 1) := by decide +kernel
theorem dX12_sumOf_23 : decode prog_14_method_77_code 23 = .ok (.iadd, 1) := by decide +kernel
theorem dX12_sumOf_24 : decode prog_14_method_77_code 24 = .ok (.istore 4, 2) := by decide +kernel
theorem dX12_sumOf_26 : decode prog_14_method_77_code 26 = .ok (.iconst 0, 1) := by decide +kernel
theorem dX12_sumOf_27 : decode prog_14_method_77_code 27 = .ok (.istore 6, 2) := by decide +kernel
theorem dX12_sumOf_29 : decode prog_14_method_77_code 29 = .ok (.iload 6, 2) := by decide +kernel
theorem dX12_sumOf_31 : decode prog_14_method_77_code 31 = .ok (.aload_n 0, 1) := by decide +kernel
theorem dX12_sumOf_32 : decode prog_14_method_77_code 32 = .ok (.getfield 155, 3) := by decide +kernel
theorem dX12_sumOf_35 : decode prog_14_method_77_code 35 = .ok (.iload_n 3, 1) := by decide +kernel
theorem dX12_sumOf_36 : decode prog_14_method_77_code 36 = .ok (.iaload, 1) := by decide +kernel
theorem dX12_sumOf_37 : decode prog_14_method_77_code 37 = .ok (.if_icmp .ge 61, 3) := by decide +kernel
theorem dX12_sumOf_40 : decode prog_14_method_77_code 40 = .ok (.aload_n 0, 1) := by decide +kernel
theorem dX12_sumOf_41 : decode prog_14_method_77_code 41 = .ok (.getfield 106, 3) := by decide +kernel
theorem dX12_sumOf_44 : decode prog_14_method_77_code 44 = .ok (.iload 5, 2) := by decide +kernel
theorem dX12_sumOf_46 : decode prog_14_method_77_code 46 = .ok (.laload, 1) := by decide +kernel
theorem dX12_sumOf_47 : decode prog_14_method_77_code 47 = .ok (.lconst 0, 1) := by decide +kernel
theorem dX12_sumOf_48 : decode prog_14_method_77_code 48 = .ok (.lcmp, 1) := by decide +kernel
theorem dX12_sumOf_49 : decode prog_14_method_77_code 49 = .ok (.ifCond .eq 49, 3) := by decide +kernel
theorem dX12_sumOf_52 : decode prog_14_method_77_code 52 = .ok (.aload_n 0, 1) := by decide +kernel
theorem dX12_sumOf_53 : decode prog_14_method_77_code 53 = .ok (.getfield 149, 3) := by decide +kernel
theorem dX12_sumOf_56 : decode prog_14_method_77_code 56 = .ok (.bipush 12, 2) := by decide +kernel
theorem dX12_sumOf_58 : decode prog_14_method_77_code 58 = .ok (.iload_n 3, 1) := by decide +kernel
theorem dX12_sumOf_59 : decode prog_14_method_77_code 59 = .ok (.imul, 1) := by decide +kernel
theorem dX12_sumOf_60 : decode prog_14_method_77_code 60 = .ok (.iload 6, 2) := by decide +kernel
theorem dX12_sumOf_62 : decode prog_14_method_77_code 62 = .ok (.iadd, 1) := by decide +kernel
theorem dX12_sumOf_63 : decode prog_14_method_77_code 63 = .ok (.laload, 1) := by decide +kernel
theorem dX12_sumOf_64 : decode prog_14_method_77_code 64 = .ok (.aload_n 0, 1) := by decide +kernel
theorem dX12_sumOf_65 : decode prog_14_method_77_code 65 = .ok (.getfield 106, 3) := by decide +kernel
theorem dX12_sumOf_68 : decode prog_14_method_77_code 68 = .ok (.iload 5, 2) := by decide +kernel
theorem dX12_sumOf_70 : decode prog_14_method_77_code 70 = .ok (.laload, 1) := by decide +kernel
theorem dX12_sumOf_71 : decode prog_14_method_77_code 71 = .ok (.lcmp, 1) := by decide +kernel
theorem dX12_sumOf_72 : decode prog_14_method_77_code 72 = .ok (.ifCond .ne 20, 3) := by decide +kernel
theorem dX12_sumOf_75 : decode prog_14_method_77_code 75 = .ok (.iload 4, 2) := by decide +kernel
theorem dX12_sumOf_77 : decode prog_14_method_77_code 77 = .ok (.aload_n 0, 1) := by decide +kernel
theorem dX12_sumOf_78 : decode prog_14_method_77_code 78 = .ok (.getfield 152, 3) := by decide +kernel
theorem dX12_sumOf_81 : decode prog_14_method_77_code 81 = .ok (.bipush 12, 2) := by decide +kernel
theorem dX12_sumOf_83 : decode prog_14_method_77_code 83 = .ok (.iload_n 3, 1) := by decide +kernel
theorem dX12_sumOf_84 : decode prog_14_method_77_code 84 = .ok (.imul, 1) := by decide +kernel
theorem dX12_sumOf_85 : decode prog_14_method_77_code 85 = .ok (.iload 6, 2) := by decide +kernel
theorem dX12_sumOf_87 : decode prog_14_method_77_code 87 = .ok (.iadd, 1) := by decide +kernel
theorem dX12_sumOf_88 : decode prog_14_method_77_code 88 = .ok (.iaload, 1) := by decide +kernel
theorem dX12_sumOf_89 : decode prog_14_method_77_code 89 = .ok (.iadd, 1) := by decide +kernel
theorem dX12_sumOf_90 : decode prog_14_method_77_code 90 = .ok (.istore 4, 2) := by decide +kernel
theorem dX12_sumOf_92 : decode prog_14_method_77_code 92 = .ok (.iinc 6 1, 3) := by decide +kernel
theorem dX12_sumOf_95 : decode prog_14_method_77_code 95 = .ok (.goto (-66), 3) := by decide +kernel
theorem dX12_sumOf_98 : decode prog_14_method_77_code 98 = .ok (.iinc 5 1, 3) := by decide +kernel
theorem dX12_sumOf_101 : decode prog_14_method_77_code 101 = .ok (.goto (-95), 3) := by decide +kernel
theorem dX12_sumOf_104 : decode prog_14_method_77_code 104 = .ok (.iload 4, 2) := by decide +kernel
theorem dX12_sumOf_106 : decode prog_14_method_77_code 106 = .ok (.ireturn, 1) := by decide +kernel
abbrev A_X12_sumOf_6 (l : Launch) (E : bE) (Q : Int → Prop) (v1 : Int) (v2 : Int) (v3 : Int) (M : bM) : (Int × Int) → Prop := (fun t : Int × Int => V l E xX12_sumOf (0, 0) 6 [(0, bR 11), (1, bI v1), (2, bI v2), (3, bI v3), (4, bI (t.1)), (5, bI (t.2))] [] M (b_pIp M Q))
abbrev X_X12_sumOf_6 (l : Launch) (E : bE) (Q : Int → Prop) (v1 : Int) (v2 : Int) (v3 : Int) (M : bM) : (Int) → Prop := (fun t : Int => V l E xX12_sumOf (0, 0) 104 [(4, bI t)] [] M (b_pIp M Q))
abbrev A_X12_sumOf_29 (l : Launch) (E : bE) (Q : Int → Prop) (v1 : Int) (v2 : Int) (v3 : Int) (v5 : Int) (M : bM) : (Int × Int) → Prop := (fun t : Int × Int => V l E xX12_sumOf (0, 0) 29 [(0, bR 11), (1, bI v1), (2, bI v2), (3, bI v3), (4, bI (t.1)), (5, bI v5), (6, bI (t.2))] [] M (b_pIp M Q))
abbrev X_X12_sumOf_29 (l : Launch) (E : bE) (Q : Int → Prop) (v1 : Int) (v2 : Int) (v3 : Int) (v5 : Int) (M : bM) : (Int) → Prop := (fun t : Int => V l E xX12_sumOf (0, 0) 98 [(0, bR 11), (1, bI v1), (2, bI v2), (3, bI v3), (4, bI t), (5, bI v5)] [] M (b_pIp M Q))
noncomputable def F_X12_sumOf_s29 (v1 : Int) (v2 : Int) (v3 : Int) (v4 : Int) (v5 : Int) (v6 : Int) (M : bM) : Option ((Int × Int) ⊕ (Int)) :=
  b_g (0 ≤ v3 ∧ v3 < 121) (if (M 207 v3) ≤ v6 then (some (.inr (v4))) else (b_g (0 ≤ v5 ∧ v5 < 15552) (if (j_cmp (M 192 v5) 0) = 0 then (some (.inr (v4))) else (b_g ((b_i32 (12 * v3)) ∧ (b_i32 ((12 * v3) + v6)) ∧ (0 ≤ ((12 * v3) + v6) ∧ ((12 * v3) + v6) < 1452) ∧ (0 ≤ v5 ∧ v5 < 15552)) (if (j_cmp (M 205 ((12 * v3) + v6)) (M 192 v5)) = 0 then (b_g ((b_i32 (12 * v3)) ∧ (b_i32 ((12 * v3) + v6)) ∧ (0 ≤ ((12 * v3) + v6) ∧ ((12 * v3) + v6) < 1452) ∧ (b_i32 (v4 + (M 206 ((12 * v3) + v6))))) (b_let ((v4 + (M 206 ((12 * v3) + v6)))) (fun y20 => b_g (b_i32 (v6 + 1)) (some (.inl (y20, (v6 + 1))))))) else (b_g (b_i32 (v6 + 1)) (some (.inl (v4, (v6 + 1))))))))))
theorem t_X12_sumOf_s29 {l : Launch} {E : bE} {Q : Int → Prop} {v1 : Int} {v2 : Int} {v3 : Int} {v4 : Int} {v5 : Int} {v6 : Int} {M : bM} (h : b_wp (F_X12_sumOf_s29 v1 v2 v3 v4 v5 v6 M) (Sum.elim (A_X12_sumOf_29 l E Q v1 v2 v3 v5 M) (X_X12_sumOf_29 l E Q v1 v2 v3 v5 M))) : V l E xX12_sumOf (0, 0) 29 [(0, bR 11), (1, bI v1), (2, bI v2), (3, bI v3), (4, bI v4), (5, bI v5), (6, bI v6)] [] M (b_pIp M Q) := by
  unfold F_X12_sumOf_s29 at h
  obtain ⟨g6, h⟩ := b_wp_g h
  refine v_iload (i := 6) 6 rfl dX12_sumOf_29 ?_
  refine v_aload_n (f := 0) 0 rfl dX12_sumOf_31 ?_
  refine v_getR (kf := 68) (kz := 68) rfl kd_11 rfl ⟨by decide, by decide⟩ rfl wf_12_155 dX12_sumOf_32 ?_
  refine v_iload_n (f := 3) 3 rfl dX12_sumOf_35 ?_
  refine v_iaload kd_207 g6 (by decide) dX12_sumOf_36 ?_
  refine v_icmp_ge (tgt := 98) dX12_sumOf_37 (by decide) (fun c7 => ?_) (fun c7 => ?_)
  · replace h := b_wp_t c7 h
    refine v_sub (ls2 := [(0, bR _), (1, bI _), (2, bI _), (3, bI _), (4, bI _), (5, bI _)]) [0, 1, 2, 3, 4, 5] rfl ?_
    exact h
  · replace h := b_wp_f c7 h
    obtain ⟨g8, h⟩ := b_wp_g h
    refine v_aload_n (f := 0) 0 rfl dX12_sumOf_40 ?_
    refine v_getR (kf := 46) (kz := 46) rfl kd_11 rfl ⟨by decide, by decide⟩ rfl wf_12_106 dX12_sumOf_41 ?_
    refine v_iload (i := 5) 5 rfl dX12_sumOf_44 ?_
    refine v_laload kd_192 g8 (by decide) dX12_sumOf_46 ?_
    refine v_lconst0 dX12_sumOf_47 ?_
    refine v_lcmpN dX12_sumOf_48 ?_
    refine v_if_eq (tgt := 98) dX12_sumOf_49 (by decide) (fun c9 => ?_) (fun c9 => ?_)
    · replace h := b_wp_t c9 h
      refine v_sub (ls2 := [(0, bR _), (1, bI _), (2, bI _), (3, bI _), (4, bI _), (5, bI _)]) [0, 1, 2, 3, 4, 5] rfl ?_
      exact h
    · replace h := b_wp_f c9 h
      obtain ⟨⟨g10, g11, g12, g13⟩, h⟩ := b_wp_g h
      refine v_aload_n (f := 0) 0 rfl dX12_sumOf_52 ?_
      refine v_getR (kf := 66) (kz := 66) rfl kd_11 rfl ⟨by decide, by decide⟩ rfl wf_12_149 dX12_sumOf_53 ?_
      refine v_bipush ⟨by decide, by decide⟩ (by decide) dX12_sumOf_56 ?_
      refine v_iload_n (f := 3) 3 rfl dX12_sumOf_58 ?_
      refine v_imulN g10 dX12_sumOf_59 ?_
      refine v_iload (i := 6) 6 rfl dX12_sumOf_60 ?_
      refine v_iaddN g11 dX12_sumOf_62 ?_
      refine v_laload kd_205 g12 (by decide) dX12_sumOf_63 ?_
      refine v_aload_n (f := 0) 0 rfl dX12_sumOf_64 ?_
      refine v_getR (kf := 46) (kz := 46) rfl kd_11 rfl ⟨by decide, by decide⟩ rfl wf_12_106 dX12_sumOf_65 ?_
      refine v_iload (i := 5) 5 rfl dX12_sumOf_68 ?_
      refine v_laload kd_192 g13 (by decide) dX12_sumOf_70 ?_
      refine v_lcmpN dX12_sumOf_71 ?_
      refine v_if_ne (tgt := 92) dX12_sumOf_72 (by decide) (fun c14 => ?_) (fun c14 => ?_)
      · replace h := b_wp_f c14 h
        obtain ⟨g15, h⟩ := b_wp_g h
        refine v_iincN (ls' := [(6, bI _), (0, bR _), (1, bI _), (2, bI _), (3, bI _), (4, bI _), (5, bI _)]) 6 rfl (by decide) g15 dX12_sumOf_92 rfl ?_
        refine v_goto (tgt := 29) dX12_sumOf_95 (by decide) ?_
        refine v_sub (ls2 := [(0, bR _), (1, bI _), (2, bI _), (3, bI _), (4, bI _), (5, bI _), (6, bI _)]) [1, 2, 3, 4, 5, 6, 0] rfl ?_
        exact h
      · replace h := b_wp_t c14 h
        obtain ⟨⟨g16, g17, g18, g19⟩, h⟩ := b_wp_g h
        refine v_iload (i := 4) 4 rfl dX12_sumOf_75 ?_
        refine v_aload_n (f := 0) 0 rfl dX12_sumOf_77 ?_
        refine v_getR (kf := 67) (kz := 67) rfl kd_11 rfl ⟨by decide, by decide⟩ rfl wf_12_152 dX12_sumOf_78 ?_
        refine v_bipush ⟨by decide, by decide⟩ (by decide) dX12_sumOf_81 ?_
        refine v_iload_n (f := 3) 3 rfl dX12_sumOf_83 ?_
        refine v_imulN g16 dX12_sumOf_84 ?_
        refine v_iload (i := 6) 6 rfl dX12_sumOf_85 ?_
        refine v_iaddN g17 dX12_sumOf_87 ?_
        refine v_iaload kd_206 g18 (by decide) dX12_sumOf_88 ?_
        refine v_iaddN g19 dX12_sumOf_89 ?_
        replace h := b_wp_l h
        obtain ⟨g21, h⟩ := b_wp_g h
        refine v_istore (i := 4) (ls' := [(4, bI _), (0, bR _), (1, bI _), (2, bI _), (3, bI _), (5, bI _), (6, bI _)]) (by decide) dX12_sumOf_90 rfl ?_
        refine v_iincN (ls' := [(6, bI _), (4, bI _), (0, bR _), (1, bI _), (2, bI _), (3, bI _), (5, bI _)]) 6 rfl (by decide) g21 dX12_sumOf_92 rfl ?_
        refine v_goto (tgt := 29) dX12_sumOf_95 (by decide) ?_
        refine v_sub (ls2 := [(0, bR _), (1, bI _), (2, bI _), (3, bI _), (4, bI _), (5, bI _), (6, bI _)]) [2, 3, 4, 5, 1, 6, 0] rfl ?_
        exact h
theorem l_X12_sumOf_29 {l : Launch} {E : bE} {Q : Int → Prop} {v1 : Int} {v2 : Int} {v3 : Int} {v5 : Int} {M : bM} {s : Int × Int} (h : b_wp (b_loop (fun t => F_X12_sumOf_s29 v1 v2 v3 t.1 v5 t.2 M) s) (X_X12_sumOf_29 l E Q v1 v2 v3 v5 M)) : A_X12_sumOf_29 l E Q v1 v2 v3 v5 M s := b_loop_wp (fun t h => t_X12_sumOf_s29 h) s h
noncomputable def F_X12_sumOf_b98 (v1 : Int) (v2 : Int) (v3 : Int) (v4 : Int) (v5 : Int) (M : bM) : Option ((Int × Int) ⊕ (Int)) :=
  b_g (b_i32 (v5 + 1)) (some (.inl (v4, (v5 + 1))))
theorem t_X12_sumOf_b98 {l : Launch} {E : bE} {Q : Int → Prop} {v1 : Int} {v2 : Int} {v3 : Int} {v4 : Int} {v5 : Int} {M : bM} (h : b_wp (F_X12_sumOf_b98 v1 v2 v3 v4 v5 M) (Sum.elim (A_X12_sumOf_6 l E Q v1 v2 v3 M) (X_X12_sumOf_6 l E Q v1 v2 v3 M))) : V l E xX12_sumOf (0, 0) 98 [(0, bR 11), (1, bI v1), (2, bI v2), (3, bI v3), (4, bI v4), (5, bI v5)] [] M (b_pIp M Q) := by
  unfold F_X12_sumOf_b98 at h
  obtain ⟨g22, h⟩ := b_wp_g h
  refine v_iincN (ls' := [(5, bI _), (0, bR _), (1, bI _), (2, bI _), (3, bI _), (4, bI _)]) 5 rfl (by decide) g22 dX12_sumOf_98 rfl ?_
  refine v_goto (tgt := 6) dX12_sumOf_101 (by decide) ?_
  refine v_sub (ls2 := [(0, bR _), (1, bI _), (2, bI _), (3, bI _), (4, bI _), (5, bI _)]) [1, 2, 3, 4, 5, 0] rfl ?_
  exact h
noncomputable def F_X12_sumOf_s6 (v1 : Int) (v2 : Int) (v3 : Int) (v4 : Int) (v5 : Int) (M : bM) : Option ((Int × Int) ⊕ (Int)) :=
  b_g (b_i32 (v1 + v2)) (if (v1 + v2) ≤ v5 then (some (.inr (v4))) else (b_g ((0 ≤ v5 ∧ v5 < 15552) ∧ (b_i32 (v4 + (M 193 v5)))) (b_let ((v4 + (M 193 v5))) (fun y5 => b_bind (b_loop (fun t => F_X12_sumOf_s29 v1 v2 v3 t.1 v5 t.2 M) (y5, 0)) (fun t => F_X12_sumOf_b98 v1 v2 v3 t v5 M)))))
theorem t_X12_sumOf_s6 {l : Launch} {E : bE} {Q : Int → Prop} {v1 : Int} {v2 : Int} {v3 : Int} {v4 : Int} {v5 : Int} {M : bM} (h : b_wp (F_X12_sumOf_s6 v1 v2 v3 v4 v5 M) (Sum.elim (A_X12_sumOf_6 l E Q v1 v2 v3 M) (X_X12_sumOf_6 l E Q v1 v2 v3 M))) : V l E xX12_sumOf (0, 0) 6 [(0, bR 11), (1, bI v1), (2, bI v2), (3, bI v3), (4, bI v4), (5, bI v5)] [] M (b_pIp M Q) := by
  unfold F_X12_sumOf_s6 at h
  obtain ⟨g1, h⟩ := b_wp_g h
  refine v_iload (i := 5) 5 rfl dX12_sumOf_6 ?_
  refine v_iload_n (f := 1) 1 rfl dX12_sumOf_8 ?_
  refine v_iload_n (f := 2) 2 rfl dX12_sumOf_9 ?_
  refine v_iaddN g1 dX12_sumOf_10 ?_
  refine v_icmp_ge (tgt := 104) dX12_sumOf_11 (by decide) (fun c2 => ?_) (fun c2 => ?_)
  · replace h := b_wp_t c2 h
    refine v_sub (ls2 := [(4, bI _)]) [4] rfl ?_
    exact h
  · replace h := b_wp_f c2 h
    obtain ⟨⟨g3, g4⟩, h⟩ := b_wp_g h
    refine v_iload (i := 4) 4 rfl dX12_sumOf_14 ?_
    refine v_aload_n (f := 0) 0 rfl dX12_sumOf_16 ?_
    refine v_getR (kf := 47) (kz := 47) rfl kd_11 rfl ⟨by decide, by decide⟩ rfl wf_12_109 dX12_sumOf_17 ?_
    refine v_iload (i := 5) 5 rfl dX12_sumOf_20 ?_
    refine v_iaload kd_193 g3 (by decide) dX12_sumOf_22 ?_
    refine v_iaddN g4 dX12_sumOf_23 ?_
    replace h := b_wp_l h
    refine v_istore (i := 4) (ls' := [(4, bI _), (0, bR _), (1, bI _), (2, bI _), (3, bI _), (5, bI _)]) (by decide) dX12_sumOf_24 rfl ?_
    refine v_iconst ⟨by decide, by decide⟩ dX12_sumOf_26 ?_
    refine v_istore (i := 6) (ls' := [(6, bI _), (4, bI _), (0, bR _), (1, bI _), (2, bI _), (3, bI _), (5, bI _)]) (by decide) dX12_sumOf_27 rfl ?_
    refine v_sub (ls2 := [(0, bR _), (1, bI _), (2, bI _), (3, bI _), (4, bI _), (5, bI _), (6, bI _)]) [2, 3, 4, 5, 1, 6, 0] rfl ?_
    refine l_X12_sumOf_29 (b_wp_m (fun t h => ?_) (b_wp_b h))
    show V l E xX12_sumOf (0, 0) 98 [(0, bR 11), (1, bI _), (2, bI _), (3, bI _), (4, bI _), (5, bI _)] [] _ (b_pIp M Q)
    exact t_X12_sumOf_b98 h
theorem l_X12_sumOf_6 {l : Launch} {E : bE} {Q : Int → Prop} {v1 : Int} {v2 : Int} {v3 : Int} {M : bM} {s : Int × Int} (h : b_wp (b_loop (fun t => F_X12_sumOf_s6 v1 v2 v3 t.1 t.2 M) s) (X_X12_sumOf_6 l E Q v1 v2 v3 M)) : A_X12_sumOf_6 l E Q v1 v2 v3 M s := b_loop_wp (fun t h => t_X12_sumOf_s6 h) s h
noncomputable def F_X12_sumOf_b104 (v4 : Int) (M : bM) : Option (Int) :=
  some v4
theorem t_X12_sumOf_b104 {l : Launch} {E : bE} {Q : Int → Prop} {v4 : Int} {M : bM} (h : b_wp (F_X12_sumOf_b104 v4 M) (Q)) : V l E xX12_sumOf (0, 0) 104 [(4, bI v4)] [] M (b_pIp M Q) := by
  unfold F_X12_sumOf_b104 at h
  refine v_iload (i := 4) 0 rfl dX12_sumOf_104 ?_
  refine v_ireturn rfl dX12_sumOf_106 ⟨by decide, by decide⟩ ?_
  exact ⟨_, rfl, rfl, h⟩
noncomputable def F_X12_sumOf (v1 : Int) (v2 : Int) (v3 : Int) (M : bM) : Option (Int) :=
  b_bind (b_loop (fun t => F_X12_sumOf_s6 v1 v2 v3 t.1 t.2 M) (0, v1)) (fun t => F_X12_sumOf_b104 t M)
theorem t_X12_sumOf {l : Launch} {E : bE} {Q : Int → Prop} {v1 : Int} {v2 : Int} {v3 : Int} {M : bM} (h : b_wp (F_X12_sumOf v1 v2 v3 M) (Q)) : V l E xX12_sumOf (0, 0) 0 [(0, bR 11), (1, bI v1), (2, bI v2), (3, bI v3)] [] M (b_pIp M Q) := by
  unfold F_X12_sumOf at h
  refine v_iconst ⟨by decide, by decide⟩ dX12_sumOf_0 ?_
  refine v_istore (i := 4) (ls' := [(4, bI _), (0, bR _), (1, bI _), (2, bI _), (3, bI _)]) (by decide) dX12_sumOf_1 rfl ?_
  refine v_iload_n (f := 1) 2 rfl dX12_sumOf_3 ?_
  refine v_istore (i := 5) (ls' := [(5, bI _), (4, bI _), (0, bR _), (1, bI _), (2, bI _), (3, bI _)]) (by decide) dX12_sumOf_4 rfl ?_
  refine v_sub (ls2 := [(0, bR _), (1, bI _), (2, bI _), (3, bI _), (4, bI _), (5, bI _)]) [2, 3, 4, 5, 1, 0] rfl ?_
  refine l_X12_sumOf_6 (b_wp_m (fun t h => ?_) (b_wp_b h))
  show V l E xX12_sumOf (0, 0) 104 [(4, bI _)] [] _ (b_pIp M Q)
  exact t_X12_sumOf_b104 h
theorem cf_X12_sumOf {l : Launch} {E : bE} {M : bM} {v1 : Int} {v2 : Int} {v3 : Int} {Q : Int → Prop} (h : b_wp (F_X12_sumOf v1 v2 v3 M) Q) : b_C l E xX12_sumOf yX12_sumOf [bR 11, bI v1, bI v2, bI v3] M (b_pIp M Q) := b_met (by decide) ⟨rfl, rfl⟩ (Nat.le_of_ble_eq_true rfl) (fun _ _ => t_X12_sumOf h)
abbrev xX12_holds : bX := ("BurntHallModel", prog_14_method_78_code, 9, (Option.some Jvm.ClassFile.FieldType.boolean), b_rm 2 0 0, 0, "holds")
abbrev yX12_holds : MethodName := ⟨"BurntHallModel", "holds", "(II)Z"⟩
theorem dX12_holds_0 : decode prog_14_method_78_code 0 = .ok (.aload_n 0, 1) := by decide +kernel
theorem dX12_holds_1 : decode prog_14_method_78_code 1 = .ok (.getfield 91, 3) := by decide +kernel
theorem dX12_holds_4 : decode prog_14_method_78_code 4 = .ok (.iload_n 1, 1) := by decide +kernel
theorem dX12_holds_5 : decode prog_14_method_78_code 5 = .ok (.iaload, 1) := by decide +kernel
theorem dX12_holds_6 : decode prog_14_method_78_code 6 = .ok (.ifCond .ne 5, 3) := by decide +kernel
theorem dX12_holds_9 : decode prog_14_method_78_code 9 = .ok (.iconst 1, 1) := by decide +kernel
theorem dX12_holds_10 : decode prog_14_method_78_code 10 = .ok (.ireturn, 1) := by decide +kernel
theorem dX12_holds_11 : decode prog_14_method_78_code 11 = .ok (.iconst 0, 1) := by decide +kernel
theorem dX12_holds_12 : decode prog_14_method_78_code 12 = .ok (.istore_n 3, 1) := by decide +kernel
theorem dX12_holds_13 : decode prog_14_method_78_code 13 = .ok (.iconst 0, 1) := by decide +kernel
theorem dX12_holds_14 : decode prog_14_method_78_code 14 = .ok (.istore 4, 2) := by decide +kernel
theorem dX12_holds_16 : decode prog_14_method_78_code 16 = .ok (.iload 4, 2) := by decide +kernel
theorem dX12_holds_18 : decode prog_14_method_78_code 18 = .ok (.aload_n 0, 1) := by decide +kernel
theorem dX12_holds_19 : decode prog_14_method_78_code 19 = .ok (.getfield 91, 3) := by decide +kernel
theorem dX12_holds_22 : decode prog_14_method_78_code 22 = .ok (.iload_n 1, 1) := by decide +kernel
theorem dX12_holds_23 : decode prog_14_method_78_code 23 = .ok (.iaload, 1) := by decide +kernel
theorem dX12_holds_24 : decode prog_14_method_78_code 24 = .ok (.if_icmp .ge 280, 3) := by decide +kernel
theorem dX12_holds_27 : decode prog_14_method_78_code 27 = .ok (.aload_n 0, 1) := by decide +kernel
theorem dX12_holds_28 : decode prog_14_method_78_code 28 = .ok (.getfield 94, 3) := by decide +kernel
theorem dX12_holds_31 : decode prog_14_method_78_code 31 = .ok (.bipush 100, 2) := by decide +kernel
theorem dX12_holds_33 : decode prog_14_method_78_code 33 = .ok (.iload_n 1, 1) := by decide +kernel
theorem dX12_holds_34 : decode prog_14_method_78_code 34 = .ok (.imul, 1) := by decide +kernel
theorem dX12_holds_35 : decode prog_14_method_78_code 35 = .ok (.iload 4, 2) := by decide +kernel
theorem dX12_holds_37 : decode prog_14_method_78_code 37 = .ok (.iadd, 1) := by decide +kernel
theorem dX12_holds_38 : decode prog_14_method_78_code 38 = .ok (.iaload, 1) := by decide +kernel
theorem dX12_holds_39 : decode prog_14_method_78_code 39 = .ok (.istore 5, 2) := by decide +kernel
theorem dX12_holds_41 : decode prog_14_method_78_code 41 = .ok (.iload 5, 2) := by decide +kernel
theorem dX12_holds_43 : decode prog_14_method_78_code 43 = .ok (.ifCond .lt 151, 3) := by decide +kernel
theorem dX12_holds_46 : decode prog_14_method_78_code 46 = .ok (.bipush 12, 2) := by decide +kernel
theorem dX12_holds_48 : decode prog_14_method_78_code 48 = .ok (.iload_n 1, 1) := by decide +kernel
theorem dX12_holds_49 : decode prog_14_method_78_code 49 = .ok (.imul, 1) := by decide +kernel
theorem dX12_holds_50 : decode prog_14_method_78_code 50 = .ok (.iload 5, 2) := by decide +kernel
theorem dX12_holds_52 : decode prog_14_method_78_code 52 = .ok (.iadd, 1) := by decide +kernel
theorem dX12_holds_53 : decode prog_14_method_78_code 53 = .ok (.istore 6, 2) := by decide +kernel
theorem dX12_holds_55 : decode prog_14_method_78_code 55 = .ok (.aload_n 0, 1) := by decide +kernel
theorem dX12_holds_56 : decode prog_14_method_78_code 56 = .ok (.bipush 6, 2) := by decide +kernel
theorem dX12_holds_58 : decode prog_14_method_78_code 58 = .ok (.iload 6, 2) := by decide +kernel
theorem dX12_holds_60 : decode prog_14_method_78_code 60 = .ok (.imul, 1) := by decide +kernel
theorem dX12_holds_61 : decode prog_14_method_78_code 61 = .ok (.aload_n 0, 1) := by decide +kernel
theorem dX12_holds_62 : decode prog_14_method_78_code 62 = .ok (.getfield 100, 3) := by decide +kernel
theorem dX12_holds_65 : decode prog_14_method_78_code 65 = .ok (.iload 6, 2) := by decide +kernel
theorem dX12_holds_67 : decode prog_14_method_78_code 67 = .ok (.iaload, 1) := by decide +kernel
theorem dX12_holds_68 : decode prog_14_method_78_code 68 = .ok (.iload_n 2, 1) := by decide +kernel
theorem dX12_holds_69 : decode prog_14_method_78_code 69 = .ok (.invokevirtual 508, 3) := by decide +kernel
theorem dX12_holds_72 : decode prog_14_method_78_code 72 = .ok (.istore 7, 2) := by decide +kernel
theorem dX12_holds_74 : decode prog_14_method_78_code 74 = .ok (.aload_n 0, 1) := by decide +kernel
theorem dX12_holds_75 : decode prog_14_method_78_code 75 = .ok (.bipush 6, 2) := by decide +kernel
theorem dX12_holds_77 : decode prog_14_method_78_code 77 = .ok (.iload 6, 2) := by decide +kernel
theorem dX12_holds_79 : decode prog_14_method_78_code 79 = .ok (.imul, 1) := by decide +kernel
theorem dX12_holds_80 : decode prog_14_method_78_code 80 = .ok (.iconst 3, 1) := by decide +kernel
theorem dX12_holds_81 : decode prog_14_method_78_code 81 = .ok (.iadd, 1) := by decide +kernel
theorem dX12_holds_82 : decode prog_14_method_78_code 82 = .ok (.aload_n 0, 1) := by decide +kernel
theorem dX12_holds_83 : decode prog_14_method_78_code 83 = .ok (.getfield 103, 3) := by decide +kernel
theorem dX12_holds_86 : decode prog_14_method_78_code 86 = .ok (.iload 6, 2) := by decide +kernel
theorem dX12_holds_88 : decode prog_14_method_78_code 88 = .ok (.iaload, 1) := by decide +kernel
theorem dX12_holds_89 : decode prog_14_method_78_code 89 = .ok (.iload_n 2, 1) := by decide +kernel
theorem dX12_holds_90 : decode prog_14_method_78_code 90 = .ok (.invokevirtual 508, 3) := by decide +kernel
theorem dX12_holds_93 : decode prog_14_method_78_code 93 = .ok (.istore 8, 2) := by decide +kernel
theorem dX12_holds_95 : decode prog_14_method_78_code 95 = .ok (.aload_n 0, 1) := by decide +kernel
theorem dX12_holds_96 : decode prog_14_method_78_code 96 = .ok (.getfield 158, 3) := by decide +kernel
theorem dX12_holds_99 : decode prog_14_method_78_code 99 = .ok (.iload_n 3, 1) := by decide +kernel
theorem dX12_holds_100 : decode prog_14_method_78_code 100 = .ok (.aload_n 0, 1) := by decide +kernel
theorem dX12_holds_101 : decode prog_14_method_78_code 101 = .ok (.getfield 97, 3) := by decide +kernel
theorem dX12_holds_104 : decode prog_14_method_78_code 104 = .ok (.iload 6, 2) := by decide +kernel
theorem dX12_holds_106 : decode prog_14_method_78_code 106 = .ok (.iaload, 1) := by decide +kernel
theorem dX12_holds_107 : decode prog_14_method_78_code 107 = .ok (.ifCond .ne 16, 3) := by decide +kernel
theorem dX12_holds_110 : decode prog_14_method_78_code 110 = .ok (.iload 7, 2) := by decide +kernel
theorem dX12_holds_112 : decode prog_14_method_78_code 112 = .ok (.ifCond .le 7, 3) := by decide +kernel
theorem dX12_holds_115 : decode prog_14_method_78_code 115 = .ok (.iconst 1, 1) := by decide +kernel
theorem dX12_holds_116 : decode prog_14_method_78_code 116 = .ok (.goto 71, 3) := by decide +kernel
theorem dX12_holds_119 : decode prog_14_method_78_code 119 = .ok (.iconst 0, 1) := by decide +kernel
theorem dX12_holds_120 : decode prog_14_method_78_code 120 = .ok (.goto 67, 3) := by decide +kernel
theorem dX12_holds_123 : decode prog_14_method_78_code 123 = .ok (.aload_n 0, 1) := by decide +kernel
theorem dX12_holds_124 : decode prog_14_method_78_code 124 = .ok (.getfield 97, 3) := by decide +kernel
theorem dX12_holds_127 : decode prog_14_method_78_code 127 = .ok (.iload 6, 2) := by decide +kernel
theorem dX12_holds_129 : decode prog_14_method_78_code 129 = .ok (.iaload, 1) := by decide +kernel
theorem dX12_holds_130 : decode prog_14_method_78_code 130 = .ok (.iconst 1, 1) := by decide +kernel
theorem dX12_holds_131 : decode prog_14_method_78_code 131 = .ok (.if_icmp .ne 18, 3) := by decide +kernel
theorem dX12_holds_134 : decode prog_14_method_78_code 134 = .ok (.iload 7, 2) := by decide +kernel
theorem dX12_holds_136 : decode prog_14_method_78_code 136 = .ok (.iload 8, 2) := by decide +kernel
theorem dX12_holds_138 : decode prog_14_method_78_code 138 = .ok (.if_icmp .le 7, 3) := by decide +kernel
theorem dX12_holds_141 : decode prog_14_method_78_code 141 = .ok (.iconst 1, 1) := by decide +kernel
theorem dX12_holds_142 : decode prog_14_method_78_code 142 = .ok (.goto 45, 3) := by decide +kernel
theorem dX12_holds_145 : decode prog_14_method_78_code 145 = .ok (.iconst 0, 1) := by decide +kernel
theorem dX12_holds_146 : decode prog_14_method_78_code 146 = .ok (.goto 41, 3) := by decide +kernel
theorem dX12_holds_149 : decode prog_14_method_78_code 149 = .ok (.aload_n 0, 1) := by decide +kernel
theorem dX12_holds_150 : decode prog_14_method_78_code 150 = .ok (.getfield 97, 3) := by decide +kernel
theorem dX12_holds_153 : decode prog_14_method_78_code 153 = .ok (.iload 6, 2) := by decide +kernel
theorem dX12_holds_155 : decode prog_14_method_78_code 155 = .ok (.iaload, 1) := by decide +kernel
theorem dX12_holds_156 : decode prog_14_method_78_code 156 = .ok (.iconst 2, 1) := by decide +kernel
theorem dX12_holds_157 : decode prog_14_method_78_code 157 = .ok (.if_icmp .ne 18, 3) := by decide +kernel
theorem dX12_holds_160 : decode prog_14_method_78_code 160 = .ok (.iload 7, 2) := by decide +kernel
theorem dX12_holds_162 : decode prog_14_method_78_code 162 = .ok (.iload 8, 2) := by decide +kernel
theorem dX12_holds_164 : decode prog_14_method_78_code 164 = .ok (.if_icmp .ge 7, 3) := by decide +kernel
theorem dX12_holds_167 : decode prog_14_method_78_code 167 = .ok (.iconst 1, 1) := by decide +kernel
theorem dX12_holds_168 : decode prog_14_method_78_code 168 = .ok (.goto 19, 3) := by decide +kernel
theorem dX12_holds_171 : decode prog_14_method_78_code 171 = .ok (.iconst 0, 1) := by decide +kernel
theorem dX12_holds_172 : decode prog_14_method_78_code 172 = .ok (.goto 15, 3) := by decide +kernel
theorem dX12_holds_175 : decode prog_14_method_78_code 175 = .ok (.iload 7, 2) := by decide +kernel
theorem dX12_holds_177 : decode prog_14_method_78_code 177 = .ok (.iload 8, 2) := by decide +kernel
theorem dX12_holds_179 : decode prog_14_method_78_code 179 = .ok (.if_icmp .ne 7, 3) := by decide +kernel
theorem dX12_holds_182 : decode prog_14_method_78_code 182 = .ok (.iconst 1, 1) := by decide +kernel
theorem dX12_holds_183 : decode prog_14_method_78_code 183 = .ok (.goto 4, 3) := by decide +kernel
theorem dX12_holds_186 : decode prog_14_method_78_code 186 = .ok (.iconst 0, 1) := by decide +kernel
theorem dX12_holds_187 : decode prog_14_method_78_code 187 = .ok (.bastore, 1) := by decide +kernel
theorem dX12_holds_188 : decode prog_14_method_78_code 188 = .ok (.iinc 3 1, 3) := by decide +kernel
theorem dX12_holds_191 : decode prog_14_method_78_code 191 = .ok (.goto 107, 3) := by decide +kernel
theorem dX12_holds_194 : decode prog_14_method_78_code 194 = .ok (.iload 5, 2) := by decide +kernel
theorem dX12_holds_196 : decode prog_14_method_78_code 196 = .ok (.bipush (-3), 2) := by decide +kernel
theorem dX12_holds_198 : decode prog_14_method_78_code 198 = .ok (.if_icmp .ne 30, 3) := by decide +kernel
theorem dX12_holds_201 : decode prog_14_method_78_code 201 = .ok (.aload_n 0, 1) := by decide +kernel
theorem dX12_holds_202 : decode prog_14_method_78_code 202 = .ok (.getfield 158, 3) := by decide +kernel
theorem dX12_holds_205 : decode prog_14_method_78_code 205 = .ok (.iload_n 3, 1) := by decide +kernel
theorem dX12_holds_206 : decode prog_14_method_78_code 206 = .ok (.iconst 1, 1) := by decide +kernel
theorem dX12_holds_207 : decode prog_14_method_78_code 207 = .ok (.isub, 1) := by decide +kernel
theorem dX12_holds_208 : decode prog_14_method_78_code 208 = .ok (.aload_n 0, 1) := by decide +kernel
theorem dX12_holds_209 : decode prog_14_method_78_code 209 = .ok (.getfield 158, 3) := by decide +kernel
theorem dX12_holds_212 : decode prog_14_method_78_code 212 = .ok (.iload_n 3, 1) := by decide +kernel
theorem dX12_holds_213 : decode prog_14_method_78_code 213 = .ok (.iconst 1, 1) := by decide +kernel
theorem dX12_holds_214 : decode prog_14_method_78_code 214 = .ok (.isub, 1) := by decide +kernel
theorem dX12_holds_215 : decode prog_14_method_78_code 215 = .ok (.baload, 1) := by decide +kernel
theorem dX12_holds_216 : decode prog_14_method_78_code 216 = .ok (.ifCond .ne 7, 3) := by decide +kernel
theorem dX12_holds_219 : decode prog_14_method_78_code 219 = .ok (.iconst 1, 1) := by decide +kernel
theorem dX12_holds_220 : decode prog_14_method_78_code 220 = .ok (.goto 4, 3) := by decide +kernel
theorem dX12_holds_223 : decode prog_14_method_78_code 223 = .ok (.iconst 0, 1) := by decide +kernel
theorem dX12_holds_224 : decode prog_14_method_78_code 224 = .ok (.bastore, 1) := by decide +kernel
theorem dX12_holds_225 : decode prog_14_method_78_code 225 = .ok (.goto 73, 3) := by decide +kernel
theorem dX12_holds_228 : decode prog_14_method_78_code 228 = .ok (.iinc 3 (-1), 3) := by decide +kernel
theorem dX12_holds_231 : decode prog_14_method_78_code 231 = .ok (.aload_n 0, 1) := by decide +kernel
theorem dX12_holds_232 : decode prog_14_method_78_code 232 = .ok (.getfield 158, 3) := by decide +kernel
theorem dX12_holds_235 : decode prog_14_method_78_code 235 = .ok (.iload_n 3, 1) := by decide +kernel
theorem dX12_holds_236 : decode prog_14_method_78_code 236 = .ok (.iconst 1, 1) := by decide +kernel
theorem dX12_holds_237 : decode prog_14_method_78_code 237 = .ok (.isub, 1) := by decide +kernel
theorem dX12_holds_238 : decode prog_14_method_78_code 238 = .ok (.iload 5, 2) := by decide +kernel
theorem dX12_holds_240 : decode prog_14_method_78_code 240 = .ok (.iconst (-1), 1) := by decide +kernel
theorem dX12_holds_241 : decode prog_14_method_78_code 241 = .ok (.if_icmp .ne 31, 3) := by decide +kernel
theorem dX12_holds_244 : decode prog_14_method_78_code 244 = .ok (.aload_n 0, 1) := by decide +kernel
theorem dX12_holds_245 : decode prog_14_method_78_code 245 = .ok (.getfield 158, 3) := by decide +kernel
theorem dX12_holds_248 : decode prog_14_method_78_code 248 = .ok (.iload_n 3, 1) := by decide +kernel
theorem dX12_holds_249 : decode prog_14_method_78_code 249 = .ok (.iconst 1, 1) := by decide +kernel
theorem dX12_holds_250 : decode prog_14_method_78_code 250 = .ok (.isub, 1) := by decide +kernel
theorem dX12_holds_251 : decode prog_14_method_78_code 251 = .ok (.baload, 1) := by decide +kernel
theorem dX12_holds_252 : decode prog_14_method_78_code 252 = .ok (.ifCond .eq 16, 3) := by decide +kernel
theorem dX12_holds_255 : decode prog_14_method_78_code 255 = .ok (.aload_n 0, 1) := by decide +kernel
theorem dX12_holds_256 : decode prog_14_method_78_code 256 = .ok (.getfield 158, 3) := by decide +kernel
theorem dX12_holds_259 : decode prog_14_method_78_code 259 = .ok (.iload_n 3, 1) := by decide +kernel
theorem dX12_holds_260 : decode prog_14_method_78_code 260 = .ok (.baload, 1) := by decide +kernel
theorem dX12_holds_261 : decode prog_14_method_78_code 261 = .ok (.ifCond .eq 7, 3) := by decide +kernel
theorem dX12_holds_264 : decode prog_14_method_78_code 264 = .ok (.iconst 1, 1) := by decide +kernel
theorem dX12_holds_265 : decode prog_14_method_78_code 265 = .ok (.goto 32, 3) := by decide +kernel
theorem dX12_holds_268 : decode prog_14_method_78_code 268 = .ok (.iconst 0, 1) := by decide +kernel
theorem dX12_holds_269 : decode prog_14_method_78_code 269 = .ok (.goto 28, 3) := by decide +kernel
theorem dX12_holds_272 : decode prog_14_method_78_code 272 = .ok (.aload_n 0, 1) := by decide +kernel
theorem dX12_holds_273 : decode prog_14_method_78_code 273 = .ok (.getfield 158, 3) := by decide +kernel
theorem dX12_holds_276 : decode prog_14_method_78_code 276 = .ok (.iload_n 3, 1) := by decide +kernel
theorem dX12_holds_277 : decode prog_14_method_78_code 277 = .ok (.iconst 1, 1) := by decide +kernel
theorem dX12_holds_278 : decode prog_14_method_78_code 278 = .ok (.isub, 1) := by decide +kernel
theorem dX12_holds_279 : decode prog_14_method_78_code 279 = .ok (.baload, 1) := by decide +kernel
theorem dX12_holds_280 : decode prog_14_method_78_code 280 = .ok (.ifCond .ne 12, 3) := by decide +kernel
theorem dX12_holds_283 : decode prog_14_method_78_code 283 = .ok (.aload_n 0, 1) := by decide +kernel
theorem dX12_holds_284 : decode prog_14_method_78_code 284 = .ok (.getfield 158, 3) := by decide +kernel
theorem dX12_holds_287 : decode prog_14_method_78_code 287 = .ok (.iload_n 3, 1) := by decide +kernel
theorem dX12_holds_288 : decode prog_14_method_78_code 288 = .ok (.baload, 1) := by decide +kernel
theorem dX12_holds_289 : decode prog_14_method_78_code 289 = .ok (.ifCond .eq 7, 3) := by decide +kernel
theorem dX12_holds_292 : decode prog_14_method_78_code 292 = .ok (.iconst 1, 1) := by decide +kernel
theorem dX12_holds_293 : decode prog_14_method_78_code 293 = .ok (.goto 4, 3) := by decide +kernel
theorem dX12_holds_296 : decode prog_14_method_78_code 296 = .ok (.iconst 0, 1) := by decide +kernel
theorem dX12_holds_297 : decode prog_14_method_78_code 297 = .ok (.bastore, 1) := by decide +kernel
theorem dX12_holds_298 : decode prog_14_method_78_code 298 = .ok (.iinc 4 1, 3) := by decide +kernel
theorem dX12_holds_301 : decode prog_14_method_78_code 301 = .ok (.goto (-285), 3) := by decide +kernel
theorem dX12_holds_304 : decode prog_14_method_78_code 304 = .ok (.aload_n 0, 1) := by decide +kernel
theorem dX12_holds_305 : decode prog_14_method_78_code 305 = .ok (.getfield 158, 3) := by decide +kernel
theorem dX12_holds_308 : decode prog_14_method_78_code 308 = .ok (.iconst 0, 1) := by decide +kernel
theorem dX12_holds_309 : decode prog_14_method_78_code 309 = .ok (.baload, 1) := by decide +kernel
theorem dX12_holds_310 : decode prog_14_method_78_code 310 = .ok (.ireturn, 1) := by decide +kernel
abbrev A_X12_holds_16 (l : Launch) (E : bE) (Q : (Int × bM) → Prop) (v1 : Int) (v2 : Int) : (Int × Int × bM) → Prop := (fun t : Int × Int × bM => V l E xX12_holds (0, 0) 16 [(0, bR 11), (1, bI v1), (2, bI v2), (3, bI (t.1)), (4, bI (t.2.1))] [] t.2.2 (b_pI Q))
abbrev X_X12_holds_16 (l : Launch) (E : bE) (Q : (Int × bM) → Prop) (v1 : Int) (v2 : Int) : (bM) → Prop := (fun t : bM => V l E xX12_holds (0, 0) 304 [(0, bR 11)] [] t (b_pI Q))
noncomputable def F_X12_holds_b297 (v1 : Int) (v2 : Int) (v3 : Int) (v4 : Int) (u1 : Int) (u2 : Int) (M : bM) : Option ((Int × Int × bM) ⊕ (bM)) :=
  b_g ((0 ≤ u1 ∧ u1 < 120) ∧ (u2 = 0 ∨ u2 = 1)) (b_let (b_up M 208 u1 u2) (fun M19 => b_g (b_i32 (v4 + 1)) (some (.inl (v3, (v4 + 1), M19)))))
theorem t_X12_holds_b297 {l : Launch} {E : bE} {Q : (Int × bM) → Prop} {v1 : Int} {v2 : Int} {v3 : Int} {v4 : Int} {u1 : Int} {u2 : Int} {M : bM} (h : b_wp (F_X12_holds_b297 v1 v2 v3 v4 u1 u2 M) (Sum.elim (A_X12_holds_16 l E Q v1 v2) (X_X12_holds_16 l E Q v1 v2))) : V l E xX12_holds (0, 0) 297 [(0, bR 11), (1, bI v1), (2, bI v2), (3, bI v3), (4, bI v4)] [bI u2, bI u1, bR 208] M (b_pI Q) := by
  unfold F_X12_holds_b297 at h
  obtain ⟨⟨g17, g18⟩, h⟩ := b_wp_g h
  refine v_zastore kd_208 g17 (by decide) (b_narz g18) dX12_holds_297 ?_
  replace h := b_wp_l h
  obtain ⟨g20, h⟩ := b_wp_g h
  refine v_iincN (ls' := [(4, bI _), (0, bR _), (1, bI _), (2, bI _), (3, bI _)]) 4 rfl (by decide) g20 dX12_holds_298 rfl ?_
  refine v_goto (tgt := 16) dX12_holds_301 (by decide) ?_
  refine v_sub (ls2 := [(0, bR _), (1, bI _), (2, bI _), (3, bI _), (4, bI _)]) [1, 2, 3, 4, 0] rfl ?_
  exact h
noncomputable def F_X12_holds_b292 (v1 : Int) (v2 : Int) (v3 : Int) (v4 : Int) (u1 : Int) (M : bM) : Option ((Int × Int × bM) ⊕ (bM)) :=
  F_X12_holds_b297 v1 v2 v3 v4 u1 1 M
theorem t_X12_holds_b292 {l : Launch} {E : bE} {Q : (Int × bM) → Prop} {v1 : Int} {v2 : Int} {v3 : Int} {v4 : Int} {u1 : Int} {M : bM} (h : b_wp (F_X12_holds_b292 v1 v2 v3 v4 u1 M) (Sum.elim (A_X12_holds_16 l E Q v1 v2) (X_X12_holds_16 l E Q v1 v2))) : V l E xX12_holds (0, 0) 292 [(0, bR 11), (1, bI v1), (2, bI v2), (3, bI v3), (4, bI v4)] [bI u1, bR 208] M (b_pI Q) := by
  unfold F_X12_holds_b292 at h
  refine v_iconst ⟨by decide, by decide⟩ dX12_holds_292 ?_
  refine v_goto (tgt := 297) dX12_holds_293 (by decide) ?_
  exact t_X12_holds_b297 h
noncomputable def F_X12_holds_b268 (v1 : Int) (v2 : Int) (v3 : Int) (v4 : Int) (u1 : Int) (M : bM) : Option ((Int × Int × bM) ⊕ (bM)) :=
  F_X12_holds_b297 v1 v2 v3 v4 u1 0 M
theorem t_X12_holds_b268 {l : Launch} {E : bE} {Q : (Int × bM) → Prop} {v1 : Int} {v2 : Int} {v3 : Int} {v4 : Int} {u1 : Int} {M : bM} (h : b_wp (F_X12_holds_b268 v1 v2 v3 v4 u1 M) (Sum.elim (A_X12_holds_16 l E Q v1 v2) (X_X12_holds_16 l E Q v1 v2))) : V l E xX12_holds (0, 0) 268 [(0, bR 11), (1, bI v1), (2, bI v2), (3, bI v3), (4, bI v4)] [bI u1, bR 208] M (b_pI Q) := by
  unfold F_X12_holds_b268 at h
  refine v_iconst ⟨by decide, by decide⟩ dX12_holds_268 ?_
  refine v_goto (tgt := 297) dX12_holds_269 (by decide) ?_
  exact t_X12_holds_b297 h
noncomputable def F_X12_holds_b224 (v1 : Int) (v2 : Int) (v3 : Int) (v4 : Int) (u1 : Int) (u2 : Int) (M : bM) : Option ((Int × Int × bM) ⊕ (bM)) :=
  b_g ((0 ≤ u1 ∧ u1 < 120) ∧ (u2 = 0 ∨ u2 = 1)) (b_let (b_up M 208 u1 u2) (fun M33 => b_g (b_i32 (v4 + 1)) (some (.inl (v3, (v4 + 1), M33)))))
theorem t_X12_holds_b224 {l : Launch} {E : bE} {Q : (Int × bM) → Prop} {v1 : Int} {v2 : Int} {v3 : Int} {v4 : Int} {u1 : Int} {u2 : Int} {M : bM} (h : b_wp (F_X12_holds_b224 v1 v2 v3 v4 u1 u2 M) (Sum.elim (A_X12_holds_16 l E Q v1 v2) (X_X12_holds_16 l E Q v1 v2))) : V l E xX12_holds (0, 0) 224 [(0, bR 11), (1, bI v1), (2, bI v2), (3, bI v3), (4, bI v4)] [bI u2, bI u1, bR 208] M (b_pI Q) := by
  unfold F_X12_holds_b224 at h
  obtain ⟨⟨g31, g32⟩, h⟩ := b_wp_g h
  refine v_zastore kd_208 g31 (by decide) (b_narz g32) dX12_holds_224 ?_
  replace h := b_wp_l h
  obtain ⟨g34, h⟩ := b_wp_g h
  refine v_goto (tgt := 298) dX12_holds_225 (by decide) ?_
  refine v_iincN (ls' := [(4, bI _), (0, bR _), (1, bI _), (2, bI _), (3, bI _)]) 4 rfl (by decide) g34 dX12_holds_298 rfl ?_
  refine v_goto (tgt := 16) dX12_holds_301 (by decide) ?_
  refine v_sub (ls2 := [(0, bR _), (1, bI _), (2, bI _), (3, bI _), (4, bI _)]) [1, 2, 3, 4, 0] rfl ?_
  exact h
noncomputable def F_X12_holds_b187 (v1 : Int) (v2 : Int) (v3 : Int) (v4 : Int) (u1 : Int) (u2 : Int) (M : bM) : Option ((Int × Int × bM) ⊕ (bM)) :=
  b_g ((0 ≤ u1 ∧ u1 < 120) ∧ (u2 = 0 ∨ u2 = 1)) (b_let (b_up M 208 u1 u2) (fun M54 => b_g ((b_i32 (v3 + 1)) ∧ (b_i32 (v4 + 1))) (some (.inl ((v3 + 1), (v4 + 1), M54)))))
theorem t_X12_holds_b187 {l : Launch} {E : bE} {Q : (Int × bM) → Prop} {v1 : Int} {v2 : Int} {v3 : Int} {v4 : Int} {u1 : Int} {u2 : Int} {M : bM} (h : b_wp (F_X12_holds_b187 v1 v2 v3 v4 u1 u2 M) (Sum.elim (A_X12_holds_16 l E Q v1 v2) (X_X12_holds_16 l E Q v1 v2))) : V l E xX12_holds (0, 0) 187 [(0, bR 11), (1, bI v1), (2, bI v2), (3, bI v3), (4, bI v4)] [bI u2, bI u1, bR 208] M (b_pI Q) := by
  unfold F_X12_holds_b187 at h
  obtain ⟨⟨g52, g53⟩, h⟩ := b_wp_g h
  refine v_zastore kd_208 g52 (by decide) (b_narz g53) dX12_holds_187 ?_
  replace h := b_wp_l h
  obtain ⟨⟨g55, g56⟩, h⟩ := b_wp_g h
  refine v_iincN (ls' := [(3, bI _), (0, bR _), (1, bI _), (2, bI _), (4, bI _)]) 3 rfl (by decide) g55 dX12_holds_188 rfl ?_
  refine v_goto (tgt := 298) dX12_holds_191 (by decide) ?_
  refine v_iincN (ls' := [(4, bI _), (3, bI _), (0, bR _), (1, bI _), (2, bI _)]) 4 rfl (by decide) g56 dX12_holds_298 rfl ?_
  refine v_goto (tgt := 16) dX12_holds_301 (by decide) ?_
  refine v_sub (ls2 := [(0, bR _), (1, bI _), (2, bI _), (3, bI _), (4, bI _)]) [2, 3, 4, 1, 0] rfl ?_
  exact h
noncomputable def F_X12_holds_s16 (v1 : Int) (v2 : Int) (v3 : Int) (v4 : Int) (M : bM) : Option ((Int × Int × bM) ⊕ (bM)) :=
  b_g (0 ≤ v1 ∧ v1 < 216) (if (M 187 v1) ≤ v4 then (some (.inr (M))) else (b_g ((b_i32 (100 * v1)) ∧ (b_i32 ((100 * v1) + v4)) ∧ (0 ≤ ((100 * v1) + v4) ∧ ((100 * v1) + v4) < 21600)) (b_let ((M 188 ((100 * v1) + v4))) (fun y8 => if y8 < 0 then (if y8 = (-3) then (b_g ((b_i32 (v3 - 1)) ∧ (0 ≤ (v3 - 1) ∧ (v3 - 1) < 120)) (if (M 208 (v3 - 1)) = 0 then (F_X12_holds_b224 v1 v2 v3 v4 (v3 - 1) 1 M) else (F_X12_holds_b224 v1 v2 v3 v4 (v3 - 1) 0 M))) else (b_g ((b_i32 (v3 + (-1))) ∧ (b_i32 ((v3 + (-1)) - 1))) (if y8 = (-1) then (b_g ((b_i32 ((v3 + (-1)) - 1)) ∧ (0 ≤ ((v3 + (-1)) - 1) ∧ ((v3 + (-1)) - 1) < 120)) (if (M 208 ((v3 + (-1)) - 1)) = 0 then (F_X12_holds_b268 v1 v2 (v3 + (-1)) v4 ((v3 + (-1)) - 1) M) else (b_g (0 ≤ (v3 + (-1)) ∧ (v3 + (-1)) < 120) (if (M 208 (v3 + (-1))) = 0 then (F_X12_holds_b268 v1 v2 (v3 + (-1)) v4 ((v3 + (-1)) - 1) M) else (F_X12_holds_b297 v1 v2 (v3 + (-1)) v4 ((v3 + (-1)) - 1) 1 M))))) else (b_g ((b_i32 ((v3 + (-1)) - 1)) ∧ (0 ≤ ((v3 + (-1)) - 1) ∧ ((v3 + (-1)) - 1) < 120)) (if (M 208 ((v3 + (-1)) - 1)) = 0 then (b_g (0 ≤ (v3 + (-1)) ∧ (v3 + (-1)) < 120) (if (M 208 (v3 + (-1))) = 0 then (F_X12_holds_b297 v1 v2 (v3 + (-1)) v4 ((v3 + (-1)) - 1) 0 M) else (F_X12_holds_b292 v1 v2 (v3 + (-1)) v4 ((v3 + (-1)) - 1) M))) else (F_X12_holds_b292 v1 v2 (v3 + (-1)) v4 ((v3 + (-1)) - 1) M)))))) else (b_g ((b_i32 (12 * v1)) ∧ (b_i32 ((12 * v1) + y8))) (b_let (((12 * v1) + y8)) (fun y37 => b_g ((b_i32 (6 * y37)) ∧ (0 ≤ y37 ∧ y37 < 2592)) (b_bind (F_X12_sumOf (6 * y37) (M 190 y37) v2 M) (fun x40 => b_g ((b_i32 (6 * y37)) ∧ (b_i32 ((6 * y37) + 3)) ∧ (0 ≤ y37 ∧ y37 < 2592)) (b_bind (F_X12_sumOf ((6 * y37) + 3) (M 191 y37) v2 M) (fun x44 => b_g (0 ≤ y37 ∧ y37 < 2592) (if (M 189 y37) = 0 then (if x40 ≤ 0 then (F_X12_holds_b187 v1 v2 v3 v4 v3 0 M) else (F_X12_holds_b187 v1 v2 v3 v4 v3 1 M)) else (b_g (0 ≤ y37 ∧ y37 < 2592) (if (M 189 y37) = 1 then (if x40 ≤ x44 then (F_X12_holds_b187 v1 v2 v3 v4 v3 0 M) else (F_X12_holds_b187 v1 v2 v3 v4 v3 1 M)) else (b_g (0 ≤ y37 ∧ y37 < 2592) (if (M 189 y37) = 2 then (if x44 ≤ x40 then (F_X12_holds_b187 v1 v2 v3 v4 v3 0 M) else (F_X12_holds_b187 v1 v2 v3 v4 v3 1 M)) else (if x40 = x44 then (F_X12_holds_b187 v1 v2 v3 v4 v3 1 M) else (F_X12_holds_b187 v1 v2 v3 v4 v3 0 M))))))))))))))))))
theorem t_X12_holds_s16 {l : Launch} {E : bE} {Q : (Int × bM) → Prop} {v1 : Int} {v2 : Int} {v3 : Int} {v4 : Int} {M : bM} (h : b_wp (F_X12_holds_s16 v1 v2 v3 v4 M) (Sum.elim (A_X12_holds_16 l E Q v1 v2) (X_X12_holds_16 l E Q v1 v2))) : V l E xX12_holds (0, 0) 16 [(0, bR 11), (1, bI v1), (2, bI v2), (3, bI v3), (4, bI v4)] [] M (b_pI Q) := by
  unfold F_X12_holds_s16 at h
  obtain ⟨g3, h⟩ := b_wp_g h
  refine v_iload (i := 4) 4 rfl dX12_holds_16 ?_
  refine v_aload_n (f := 0) 0 rfl dX12_holds_18 ?_
  refine v_getR (kf := 41) (kz := 41) rfl kd_11 rfl ⟨by decide, by decide⟩ rfl wf_12_91 dX12_holds_19 ?_
  refine v_iload_n (f := 1) 1 rfl dX12_holds_22 ?_
  refine v_iaload kd_187 g3 (by decide) dX12_holds_23 ?_
  refine v_icmp_ge (tgt := 304) dX12_holds_24 (by decide) (fun c4 => ?_) (fun c4 => ?_)
  · replace h := b_wp_t c4 h
    refine v_sub (ls2 := [(0, bR _)]) [0] rfl ?_
    exact h
  · replace h := b_wp_f c4 h
    obtain ⟨⟨g5, g6, g7⟩, h⟩ := b_wp_g h
    refine v_aload_n (f := 0) 0 rfl dX12_holds_27 ?_
    refine v_getR (kf := 42) (kz := 42) rfl kd_11 rfl ⟨by decide, by decide⟩ rfl wf_12_94 dX12_holds_28 ?_
    refine v_bipush ⟨by decide, by decide⟩ (by decide) dX12_holds_31 ?_
    refine v_iload_n (f := 1) 1 rfl dX12_holds_33 ?_
    refine v_imulN g5 dX12_holds_34 ?_
    refine v_iload (i := 4) 4 rfl dX12_holds_35 ?_
    refine v_iaddN g6 dX12_holds_37 ?_
    refine v_iaload kd_188 g7 (by decide) dX12_holds_38 ?_
    replace h := b_wp_l h
    refine v_istore (i := 5) (ls' := [(5, bI _), (0, bR _), (1, bI _), (2, bI _), (3, bI _), (4, bI _)]) (by decide) dX12_holds_39 rfl ?_
    refine v_iload (i := 5) 0 rfl dX12_holds_41 ?_
    refine v_if_lt (tgt := 194) dX12_holds_43 (by decide) (fun c9 => ?_) (fun c9 => ?_)
    · replace h := b_wp_t c9 h
      refine v_iload (i := 5) 0 rfl dX12_holds_194 ?_
      refine v_bipush ⟨by decide, by decide⟩ (by decide) dX12_holds_196 ?_
      refine v_icmp_ne (tgt := 228) dX12_holds_198 (by decide) (fun c10 => ?_) (fun c10 => ?_)
      · replace h := b_wp_f c10 h
        obtain ⟨⟨g11, g12⟩, h⟩ := b_wp_g h
        refine v_iincN (ls' := [(3, bI _), (5, bI _), (0, bR _), (1, bI _), (2, bI _), (4, bI _)]) 4 rfl (by decide) g11 dX12_holds_228 rfl ?_
        refine v_aload_n (f := 0) 2 rfl dX12_holds_231 ?_
        refine v_getR (kf := 69) (kz := 69) rfl kd_11 rfl ⟨by decide, by decide⟩ rfl wf_12_158 dX12_holds_232 ?_
        refine v_iload_n (f := 3) 0 rfl dX12_holds_235 ?_
        refine v_iconst ⟨by decide, by decide⟩ dX12_holds_236 ?_
        refine v_isubN g12 dX12_holds_237 ?_
        refine v_iload (i := 5) 1 rfl dX12_holds_238 ?_
        refine v_iconst ⟨by decide, by decide⟩ dX12_holds_240 ?_
        refine v_icmp_ne (tgt := 272) dX12_holds_241 (by decide) (fun c13 => ?_) (fun c13 => ?_)
        · replace h := b_wp_f c13 h
          obtain ⟨⟨g14, g15⟩, h⟩ := b_wp_g h
          refine v_aload_n (f := 0) 2 rfl dX12_holds_272 ?_
          refine v_getR (kf := 69) (kz := 69) rfl kd_11 rfl ⟨by decide, by decide⟩ rfl wf_12_158 dX12_holds_273 ?_
          refine v_iload_n (f := 3) 0 rfl dX12_holds_276 ?_
          refine v_iconst ⟨by decide, by decide⟩ dX12_holds_277 ?_
          refine v_isubN g14 dX12_holds_278 ?_
          refine v_zaload kd_208 g15 (by decide) dX12_holds_279 ?_
          refine v_if_ne (tgt := 292) dX12_holds_280 (by decide) (fun c16 => ?_) (fun c16 => ?_)
          · replace h := b_wp_f c16 h
            refine v_sub (ls2 := [(0, bR _), (1, bI _), (2, bI _), (3, bI _), (4, bI _)]) [2, 3, 4, 0, 5] rfl ?_
            exact t_X12_holds_b292 h
          · replace h := b_wp_t c16 h
            obtain ⟨g21, h⟩ := b_wp_g h
            refine v_aload_n (f := 0) 2 rfl dX12_holds_283 ?_
            refine v_getR (kf := 69) (kz := 69) rfl kd_11 rfl ⟨by decide, by decide⟩ rfl wf_12_158 dX12_holds_284 ?_
            refine v_iload_n (f := 3) 0 rfl dX12_holds_287 ?_
            refine v_zaload kd_208 g21 (by decide) dX12_holds_288 ?_
            refine v_if_eq (tgt := 296) dX12_holds_289 (by decide) (fun c22 => ?_) (fun c22 => ?_)
            · replace h := b_wp_t c22 h
              refine v_iconst ⟨by decide, by decide⟩ dX12_holds_296 ?_
              refine v_sub (ls2 := [(0, bR _), (1, bI _), (2, bI _), (3, bI _), (4, bI _)]) [2, 3, 4, 0, 5] rfl ?_
              exact t_X12_holds_b297 h
            · replace h := b_wp_f c22 h
              refine v_sub (ls2 := [(0, bR _), (1, bI _), (2, bI _), (3, bI _), (4, bI _)]) [2, 3, 4, 0, 5] rfl ?_
              exact t_X12_holds_b292 h
        · replace h := b_wp_t c13 h
          obtain ⟨⟨g23, g24⟩, h⟩ := b_wp_g h
          refine v_aload_n (f := 0) 2 rfl dX12_holds_244 ?_
          refine v_getR (kf := 69) (kz := 69) rfl kd_11 rfl ⟨by decide, by decide⟩ rfl wf_12_158 dX12_holds_245 ?_
          refine v_iload_n (f := 3) 0 rfl dX12_holds_248 ?_
          refine v_iconst ⟨by decide, by decide⟩ dX12_holds_249 ?_
          refine v_isubN g23 dX12_holds_250 ?_
          refine v_zaload kd_208 g24 (by decide) dX12_holds_251 ?_
          refine v_if_eq (tgt := 268) dX12_holds_252 (by decide) (fun c25 => ?_) (fun c25 => ?_)
          · replace h := b_wp_t c25 h
            refine v_sub (ls2 := [(0, bR _), (1, bI _), (2, bI _), (3, bI _), (4, bI _)]) [2, 3, 4, 0, 5] rfl ?_
            exact t_X12_holds_b268 h
          · replace h := b_wp_f c25 h
            obtain ⟨g26, h⟩ := b_wp_g h
            refine v_aload_n (f := 0) 2 rfl dX12_holds_255 ?_
            refine v_getR (kf := 69) (kz := 69) rfl kd_11 rfl ⟨by decide, by decide⟩ rfl wf_12_158 dX12_holds_256 ?_
            refine v_iload_n (f := 3) 0 rfl dX12_holds_259 ?_
            refine v_zaload kd_208 g26 (by decide) dX12_holds_260 ?_
            refine v_if_eq (tgt := 268) dX12_holds_261 (by decide) (fun c27 => ?_) (fun c27 => ?_)
            · replace h := b_wp_t c27 h
              refine v_sub (ls2 := [(0, bR _), (1, bI _), (2, bI _), (3, bI _), (4, bI _)]) [2, 3, 4, 0, 5] rfl ?_
              exact t_X12_holds_b268 h
            · replace h := b_wp_f c27 h
              refine v_iconst ⟨by decide, by decide⟩ dX12_holds_264 ?_
              refine v_goto (tgt := 297) dX12_holds_265 (by decide) ?_
              refine v_sub (ls2 := [(0, bR _), (1, bI _), (2, bI _), (3, bI _), (4, bI _)]) [2, 3, 4, 0, 5] rfl ?_
              exact t_X12_holds_b297 h
      · replace h := b_wp_t c10 h
        obtain ⟨⟨g28, g29⟩, h⟩ := b_wp_g h
        refine v_aload_n (f := 0) 1 rfl dX12_holds_201 ?_
        refine v_getR (kf := 69) (kz := 69) rfl kd_11 rfl ⟨by decide, by decide⟩ rfl wf_12_158 dX12_holds_202 ?_
        refine v_iload_n (f := 3) 4 rfl dX12_holds_205 ?_
        refine v_iconst ⟨by decide, by decide⟩ dX12_holds_206 ?_
        refine v_isubN g28 dX12_holds_207 ?_
        refine v_aload_n (f := 0) 1 rfl dX12_holds_208 ?_
        refine v_getR (kf := 69) (kz := 69) rfl kd_11 rfl ⟨by decide, by decide⟩ rfl wf_12_158 dX12_holds_209 ?_
        refine v_iload_n (f := 3) 4 rfl dX12_holds_212 ?_
        refine v_iconst ⟨by decide, by decide⟩ dX12_holds_213 ?_
        refine v_isubN g28 dX12_holds_214 ?_
        refine v_zaload kd_208 g29 (by decide) dX12_holds_215 ?_
        refine v_if_ne (tgt := 223) dX12_holds_216 (by decide) (fun c30 => ?_) (fun c30 => ?_)
        · replace h := b_wp_f c30 h
          refine v_iconst ⟨by decide, by decide⟩ dX12_holds_223 ?_
          refine v_sub (ls2 := [(0, bR _), (1, bI _), (2, bI _), (3, bI _), (4, bI _)]) [1, 2, 3, 4, 5] rfl ?_
          exact t_X12_holds_b224 h
        · replace h := b_wp_t c30 h
          refine v_iconst ⟨by decide, by decide⟩ dX12_holds_219 ?_
          refine v_goto (tgt := 224) dX12_holds_220 (by decide) ?_
          refine v_sub (ls2 := [(0, bR _), (1, bI _), (2, bI _), (3, bI _), (4, bI _)]) [1, 2, 3, 4, 5] rfl ?_
          exact t_X12_holds_b224 h
    · replace h := b_wp_f c9 h
      obtain ⟨⟨g35, g36⟩, h⟩ := b_wp_g h
      refine v_bipush ⟨by decide, by decide⟩ (by decide) dX12_holds_46 ?_
      refine v_iload_n (f := 1) 2 rfl dX12_holds_48 ?_
      refine v_imulN g35 dX12_holds_49 ?_
      refine v_iload (i := 5) 0 rfl dX12_holds_50 ?_
      refine v_iaddN g36 dX12_holds_52 ?_
      replace h := b_wp_l h
      obtain ⟨⟨g38, g39⟩, h⟩ := b_wp_g h
      refine v_istore (i := 6) (ls' := [(6, bI _), (5, bI _), (0, bR _), (1, bI _), (2, bI _), (3, bI _), (4, bI _)]) (by decide) dX12_holds_53 rfl ?_
      refine v_aload_n (f := 0) 2 rfl dX12_holds_55 ?_
      refine v_bipush ⟨by decide, by decide⟩ (by decide) dX12_holds_56 ?_
      refine v_iload (i := 6) 0 rfl dX12_holds_58 ?_
      refine v_imulN g38 dX12_holds_60 ?_
      refine v_aload_n (f := 0) 2 rfl dX12_holds_61 ?_
      refine v_getR (kf := 44) (kz := 44) rfl kd_11 rfl ⟨by decide, by decide⟩ rfl wf_12_100 dX12_holds_62 ?_
      refine v_iload (i := 6) 0 rfl dX12_holds_65 ?_
      refine v_iaload kd_190 g39 (by decide) dX12_holds_67 ?_
      refine v_iload_n (f := 2) 4 rfl dX12_holds_68 ?_
      refine v_cVIp (nA := 3) (As := [bI _, bI _, bI _]) (ix := 508) (cf_X12_sumOf (b_wp_b h)) rfl kd_11 rfl rfl wc_X12_sumOf wm_12_508 wi_X12_sumOf ws_X12_sumOf wn_12 ⟨by decide, by decide, by decide⟩ rfl ⟨by decide, by decide⟩ ⟨by decide, by decide⟩ (Nat.le_of_ble_eq_true rfl) dX12_holds_69 (fun x40 h => ?_)
      obtain ⟨⟨g41, g42, g43⟩, h⟩ := b_wp_g h
      refine v_istore (i := 7) (ls' := [(7, bI _), (6, bI _), (5, bI _), (0, bR _), (1, bI _), (2, bI _), (3, bI _), (4, bI _)]) (by decide) dX12_holds_72 rfl ?_
      refine v_aload_n (f := 0) 3 rfl dX12_holds_74 ?_
      refine v_bipush ⟨by decide, by decide⟩ (by decide) dX12_holds_75 ?_
      refine v_iload (i := 6) 1 rfl dX12_holds_77 ?_
      refine v_imulN g41 dX12_holds_79 ?_
      refine v_iconst ⟨by decide, by decide⟩ dX12_holds_80 ?_
      refine v_iaddN g42 dX12_holds_81 ?_
      refine v_aload_n (f := 0) 3 rfl dX12_holds_82 ?_
      refine v_getR (kf := 45) (kz := 45) rfl kd_11 rfl ⟨by decide, by decide⟩ rfl wf_12_103 dX12_holds_83 ?_
      refine v_iload (i := 6) 1 rfl dX12_holds_86 ?_
      refine v_iaload kd_191 g43 (by decide) dX12_holds_88 ?_
      refine v_iload_n (f := 2) 5 rfl dX12_holds_89 ?_
      refine v_cVIp (nA := 3) (As := [bI _, bI _, bI _]) (ix := 508) (cf_X12_sumOf (b_wp_b h)) rfl kd_11 rfl rfl wc_X12_sumOf wm_12_508 wi_X12_sumOf ws_X12_sumOf wn_12 ⟨by decide, by decide, by decide⟩ rfl ⟨by decide, by decide⟩ ⟨by decide, by decide⟩ (Nat.le_of_ble_eq_true rfl) dX12_holds_90 (fun x44 h => ?_)
      obtain ⟨g45, h⟩ := b_wp_g h
      refine v_istore (i := 8) (ls' := [(8, bI _), (7, bI _), (6, bI _), (5, bI _), (0, bR _), (1, bI _), (2, bI _), (3, bI _), (4, bI _)]) (by decide) dX12_holds_93 rfl ?_
      refine v_aload_n (f := 0) 4 rfl dX12_holds_95 ?_
      refine v_getR (kf := 69) (kz := 69) rfl kd_11 rfl ⟨by decide, by decide⟩ rfl wf_12_158 dX12_holds_96 ?_
      refine v_iload_n (f := 3) 7 rfl dX12_holds_99 ?_
      refine v_aload_n (f := 0) 4 rfl dX12_holds_100 ?_
      refine v_getR (kf := 43) (kz := 43) rfl kd_11 rfl ⟨by decide, by decide⟩ rfl wf_12_97 dX12_holds_101 ?_
      refine v_iload (i := 6) 2 rfl dX12_holds_104 ?_
      refine v_iaload kd_189 g45 (by decide) dX12_holds_106 ?_
      refine v_if_ne (tgt := 123) dX12_holds_107 (by decide) (fun c46 => ?_) (fun c46 => ?_)
      · replace h := b_wp_f c46 h
        obtain ⟨g47, h⟩ := b_wp_g h
        refine v_aload_n (f := 0) 4 rfl dX12_holds_123 ?_
        refine v_getR (kf := 43) (kz := 43) rfl kd_11 rfl ⟨by decide, by decide⟩ rfl wf_12_97 dX12_holds_124 ?_
        refine v_iload (i := 6) 2 rfl dX12_holds_127 ?_
        refine v_iaload kd_189 g47 (by decide) dX12_holds_129 ?_
        refine v_iconst ⟨by decide, by decide⟩ dX12_holds_130 ?_
        refine v_icmp_ne (tgt := 149) dX12_holds_131 (by decide) (fun c48 => ?_) (fun c48 => ?_)
        · replace h := b_wp_f c48 h
          obtain ⟨g49, h⟩ := b_wp_g h
          refine v_aload_n (f := 0) 4 rfl dX12_holds_149 ?_
          refine v_getR (kf := 43) (kz := 43) rfl kd_11 rfl ⟨by decide, by decide⟩ rfl wf_12_97 dX12_holds_150 ?_
          refine v_iload (i := 6) 2 rfl dX12_holds_153 ?_
          refine v_iaload kd_189 g49 (by decide) dX12_holds_155 ?_
          refine v_iconst ⟨by decide, by decide⟩ dX12_holds_156 ?_
          refine v_icmp_ne (tgt := 175) dX12_holds_157 (by decide) (fun c50 => ?_) (fun c50 => ?_)
          · replace h := b_wp_f c50 h
            refine v_iload (i := 7) 1 rfl dX12_holds_175 ?_
            refine v_iload (i := 8) 0 rfl dX12_holds_177 ?_
            refine v_icmp_ne (tgt := 186) dX12_holds_179 (by decide) (fun c51 => ?_) (fun c51 => ?_)
            · replace h := b_wp_f c51 h
              refine v_iconst ⟨by decide, by decide⟩ dX12_holds_186 ?_
              refine v_sub (ls2 := [(0, bR _), (1, bI _), (2, bI _), (3, bI _), (4, bI _)]) [4, 5, 6, 7, 8] rfl ?_
              exact t_X12_holds_b187 h
            · replace h := b_wp_t c51 h
              refine v_iconst ⟨by decide, by decide⟩ dX12_holds_182 ?_
              refine v_goto (tgt := 187) dX12_holds_183 (by decide) ?_
              refine v_sub (ls2 := [(0, bR _), (1, bI _), (2, bI _), (3, bI _), (4, bI _)]) [4, 5, 6, 7, 8] rfl ?_
              exact t_X12_holds_b187 h
          · replace h := b_wp_t c50 h
            refine v_iload (i := 7) 1 rfl dX12_holds_160 ?_
            refine v_iload (i := 8) 0 rfl dX12_holds_162 ?_
            refine v_icmp_ge (tgt := 171) dX12_holds_164 (by decide) (fun c57 => ?_) (fun c57 => ?_)
            · replace h := b_wp_t c57 h
              refine v_iconst ⟨by decide, by decide⟩ dX12_holds_171 ?_
              refine v_goto (tgt := 187) dX12_holds_172 (by decide) ?_
              refine v_sub (ls2 := [(0, bR _), (1, bI _), (2, bI _), (3, bI _), (4, bI _)]) [4, 5, 6, 7, 8] rfl ?_
              exact t_X12_holds_b187 h
            · replace h := b_wp_f c57 h
              refine v_iconst ⟨by decide, by decide⟩ dX12_holds_167 ?_
              refine v_goto (tgt := 187) dX12_holds_168 (by decide) ?_
              refine v_sub (ls2 := [(0, bR _), (1, bI _), (2, bI _), (3, bI _), (4, bI _)]) [4, 5, 6, 7, 8] rfl ?_
              exact t_X12_holds_b187 h
        · replace h := b_wp_t c48 h
          refine v_iload (i := 7) 1 rfl dX12_holds_134 ?_
          refine v_iload (i := 8) 0 rfl dX12_holds_136 ?_
          refine v_icmp_le (tgt := 145) dX12_holds_138 (by decide) (fun c58 => ?_) (fun c58 => ?_)
          · replace h := b_wp_t c58 h
            refine v_iconst ⟨by decide, by decide⟩ dX12_holds_145 ?_
            refine v_goto (tgt := 187) dX12_holds_146 (by decide) ?_
            refine v_sub (ls2 := [(0, bR _), (1, bI _), (2, bI _), (3, bI _), (4, bI _)]) [4, 5, 6, 7, 8] rfl ?_
            exact t_X12_holds_b187 h
          · replace h := b_wp_f c58 h
            refine v_iconst ⟨by decide, by decide⟩ dX12_holds_141 ?_
            refine v_goto (tgt := 187) dX12_holds_142 (by decide) ?_
            refine v_sub (ls2 := [(0, bR _), (1, bI _), (2, bI _), (3, bI _), (4, bI _)]) [4, 5, 6, 7, 8] rfl ?_
            exact t_X12_holds_b187 h
      · replace h := b_wp_t c46 h
        refine v_iload (i := 7) 1 rfl dX12_holds_110 ?_
        refine v_if_le (tgt := 119) dX12_holds_112 (by decide) (fun c59 => ?_) (fun c59 => ?_)
        · replace h := b_wp_t c59 h
          refine v_iconst ⟨by decide, by decide⟩ dX12_holds_119 ?_
          refine v_goto (tgt := 187) dX12_holds_120 (by decide) ?_
          refine v_sub (ls2 := [(0, bR _), (1, bI _), (2, bI _), (3, bI _), (4, bI _)]) [4, 5, 6, 7, 8] rfl ?_
          exact t_X12_holds_b187 h
        · replace h := b_wp_f c59 h
          refine v_iconst ⟨by decide, by decide⟩ dX12_holds_115 ?_
          refine v_goto (tgt := 187) dX12_holds_116 (by decide) ?_
          refine v_sub (ls2 := [(0, bR _), (1, bI _), (2, bI _), (3, bI _), (4, bI _)]) [4, 5, 6, 7, 8] rfl ?_
          exact t_X12_holds_b187 h
theorem l_X12_holds_16 {l : Launch} {E : bE} {Q : (Int × bM) → Prop} {v1 : Int} {v2 : Int} {s : Int × Int × bM} (h : b_wp (b_loop (fun t => F_X12_holds_s16 v1 v2 t.1 t.2.1 t.2.2) s) (X_X12_holds_16 l E Q v1 v2)) : A_X12_holds_16 l E Q v1 v2 s := b_loop_wp (fun t h => t_X12_holds_s16 h) s h
noncomputable def F_X12_holds_b304 (M : bM) : Option (Int × bM) :=
  b_g ((M 208 0) = 0 ∨ (M 208 0) = 1) (some ((M 208 0), M))
theorem t_X12_holds_b304 {l : Launch} {E : bE} {Q : (Int × bM) → Prop} {M : bM} (h : b_wp (F_X12_holds_b304 M) (Q)) : V l E xX12_holds (0, 0) 304 [(0, bR 11)] [] M (b_pI Q) := by
  unfold F_X12_holds_b304 at h
  obtain ⟨g60, h⟩ := b_wp_g h
  refine v_aload_n (f := 0) 0 rfl dX12_holds_304 ?_
  refine v_getR (kf := 69) (kz := 69) rfl kd_11 rfl ⟨by decide, by decide⟩ rfl wf_12_158 dX12_holds_305 ?_
  refine v_iconst ⟨by decide, by decide⟩ dX12_holds_308 ?_
  refine v_zaload kd_208 ⟨by decide, by decide⟩ (by decide) dX12_holds_309 ?_
  refine v_zreturn rfl g60 dX12_holds_310 ⟨by decide, by decide⟩ ?_
  exact ⟨_, rfl, h⟩
noncomputable def F_X12_holds (v1 : Int) (v2 : Int) (M : bM) : Option (Int × bM) :=
  b_g (0 ≤ v1 ∧ v1 < 216) (if (M 187 v1) = 0 then (some (1, M)) else (b_bind (b_loop (fun t => F_X12_holds_s16 v1 v2 t.1 t.2.1 t.2.2) (0, 0, M)) (fun t => F_X12_holds_b304 t)))
theorem t_X12_holds {l : Launch} {E : bE} {Q : (Int × bM) → Prop} {v1 : Int} {v2 : Int} {M : bM} (h : b_wp (F_X12_holds v1 v2 M) (Q)) : V l E xX12_holds (0, 0) 0 [(0, bR 11), (1, bI v1), (2, bI v2)] [] M (b_pI Q) := by
  unfold F_X12_holds at h
  obtain ⟨g1, h⟩ := b_wp_g h
  refine v_aload_n (f := 0) 0 rfl dX12_holds_0 ?_
  refine v_getR (kf := 41) (kz := 41) rfl kd_11 rfl ⟨by decide, by decide⟩ rfl wf_12_91 dX12_holds_1 ?_
  refine v_iload_n (f := 1) 1 rfl dX12_holds_4 ?_
  refine v_iaload kd_187 g1 (by decide) dX12_holds_5 ?_
  refine v_if_ne (tgt := 11) dX12_holds_6 (by decide) (fun c2 => ?_) (fun c2 => ?_)
  · replace h := b_wp_f c2 h
    refine v_iconst ⟨by decide, by decide⟩ dX12_holds_11 ?_
    refine v_istore_n (g := 3) (i := 3) (ls' := [(3, bI _), (0, bR _), (1, bI _), (2, bI _)]) rfl (by decide) dX12_holds_12 rfl ?_
    refine v_iconst ⟨by decide, by decide⟩ dX12_holds_13 ?_
    refine v_istore (i := 4) (ls' := [(4, bI _), (3, bI _), (0, bR _), (1, bI _), (2, bI _)]) (by decide) dX12_holds_14 rfl ?_
    refine v_sub (ls2 := [(0, bR _), (1, bI _), (2, bI _), (3, bI _), (4, bI _)]) [2, 3, 4, 1, 0] rfl ?_
    refine l_X12_holds_16 (b_wp_m (fun t h => ?_) (b_wp_b h))
    show V l E xX12_holds (0, 0) 304 [(0, bR 11)] [] _ (b_pI Q)
    exact t_X12_holds_b304 h
  · replace h := b_wp_t c2 h
    refine v_iconst ⟨by decide, by decide⟩ dX12_holds_9 ?_
    refine v_zreturn rfl (Or.inr rfl) dX12_holds_10 ⟨by decide, by decide⟩ ?_
    exact ⟨_, rfl, h⟩
theorem cf_X12_holds {l : Launch} {E : bE} {M : bM} {v1 : Int} {v2 : Int} {Q : (Int × bM) → Prop} (h : b_wp (F_X12_holds v1 v2 M) Q) : b_C l E xX12_holds yX12_holds [bR 11, bI v1, bI v2] M (b_pI Q) := b_met (by decide) ⟨rfl, rfl⟩ (Nat.le_of_ble_eq_true rfl) (fun _ _ => t_X12_holds h)
abbrev xX12_weightOf : bX := ("BurntHallModel", prog_14_method_79_code, 6, (Option.some Jvm.ClassFile.FieldType.int), b_rm 3 0 0, 0, "weightOf")
abbrev yX12_weightOf : MethodName := ⟨"BurntHallModel", "weightOf", "(II)I"⟩
theorem dX12_weightOf_0 : decode prog_14_method_79_code 0 = .ok (.aload_n 0, 1) := by decide +kernel
theorem dX12_weightOf_1 : decode prog_14_method_79_code 1 = .ok (.iload_n 2, 1) := by decide +kernel
theorem dX12_weightOf_2 : decode prog_14_method_79_code 2 = .ok (.invokevirtual 490, 3) := by decide +kernel
theorem dX12_weightOf_5 : decode prog_14_method_79_code 5 = .ok (.istore_n 3, 1) := by decide +kernel
theorem dX12_weightOf_6 : decode prog_14_method_79_code 6 = .ok (.iconst 0, 1) := by decide +kernel
theorem dX12_weightOf_7 : decode prog_14_method_79_code 7 = .ok (.istore 4, 2) := by decide +kernel
theorem dX12_weightOf_9 : decode prog_14_method_79_code 9 = .ok (.bipush 24, 2) := by decide +kernel
theorem dX12_weightOf_11 : decode prog_14_method_79_code 11 = .ok (.iload_n 3, 1) := by decide +kernel
theorem dX12_weightOf_12 : decode prog_14_method_79_code 12 = .ok (.imul, 1) := by decide +kernel
theorem dX12_weightOf_13 : decode prog_14_method_79_code 13 = .ok (.istore 5, 2) := by decide +kernel
theorem dX12_weightOf_15 : decode prog_14_method_79_code 15 = .ok (.iload_n 3, 1) := by decide +kernel
theorem dX12_weightOf_16 : decode prog_14_method_79_code 16 = .ok (.bipush 9, 2) := by decide +kernel
theorem dX12_weightOf_18 : decode prog_14_method_79_code 18 = .ok (.if_icmp .ge 66, 3) := by decide +kernel
theorem dX12_weightOf_21 : decode prog_14_method_79_code 21 = .ok (.iload 5, 2) := by decide +kernel
theorem dX12_weightOf_23 : decode prog_14_method_79_code 23 = .ok (.bipush 24, 2) := by decide +kernel
theorem dX12_weightOf_25 : decode prog_14_method_79_code 25 = .ok (.iload_n 3, 1) := by decide +kernel
theorem dX12_weightOf_26 : decode prog_14_method_79_code 26 = .ok (.imul, 1) := by decide +kernel
theorem dX12_weightOf_27 : decode prog_14_method_79_code 27 = .ok (.aload_n 0, 1) := by decide +kernel
theorem dX12_weightOf_28 : decode prog_14_method_79_code 28 = .ok (.getfield 79, 3) := by decide +kernel
theorem dX12_weightOf_31 : decode prog_14_method_79_code 31 = .ok (.bipush 11, 2) := by decide +kernel
theorem dX12_weightOf_33 : decode prog_14_method_79_code 33 = .ok (.iload_n 3, 1) := by decide +kernel
theorem dX12_weightOf_34 : decode prog_14_method_79_code 34 = .ok (.imul, 1) := by decide +kernel
theorem dX12_weightOf_35 : decode prog_14_method_79_code 35 = .ok (.bipush 10, 2) := by decide +kernel
theorem dX12_weightOf_37 : decode prog_14_method_79_code 37 = .ok (.iadd, 1) := by decide +kernel
theorem dX12_weightOf_38 : decode prog_14_method_79_code 38 = .ok (.iaload, 1) := by decide +kernel
theorem dX12_weightOf_39 : decode prog_14_method_79_code 39 = .ok (.iadd, 1) := by decide +kernel
theorem dX12_weightOf_40 : decode prog_14_method_79_code 40 = .ok (.if_icmp .ge 44, 3) := by decide +kernel
theorem dX12_weightOf_43 : decode prog_14_method_79_code 43 = .ok (.aload_n 0, 1) := by decide +kernel
theorem dX12_weightOf_44 : decode prog_14_method_79_code 44 = .ok (.getfield 82, 3) := by decide +kernel
theorem dX12_weightOf_47 : decode prog_14_method_79_code 47 = .ok (.iload 5, 2) := by decide +kernel
theorem dX12_weightOf_49 : decode prog_14_method_79_code 49 = .ok (.iaload, 1) := by decide +kernel
theorem dX12_weightOf_50 : decode prog_14_method_79_code 50 = .ok (.aload_n 0, 1) := by decide +kernel
theorem dX12_weightOf_51 : decode prog_14_method_79_code 51 = .ok (.getfield 115, 3) := by decide +kernel
theorem dX12_weightOf_54 : decode prog_14_method_79_code 54 = .ok (.iload_n 1, 1) := by decide +kernel
theorem dX12_weightOf_55 : decode prog_14_method_79_code 55 = .ok (.iaload, 1) := by decide +kernel
theorem dX12_weightOf_56 : decode prog_14_method_79_code 56 = .ok (.if_icmp .ne 22, 3) := by decide +kernel
theorem dX12_weightOf_59 : decode prog_14_method_79_code 59 = .ok (.aload_n 0, 1) := by decide +kernel
theorem dX12_weightOf_60 : decode prog_14_method_79_code 60 = .ok (.iload 5, 2) := by decide +kernel
theorem dX12_weightOf_62 : decode prog_14_method_79_code 62 = .ok (.iload_n 1, 1) := by decide +kernel
theorem dX12_weightOf_63 : decode prog_14_method_79_code 63 = .ok (.invokevirtual 511, 3) := by decide +kernel
theorem dX12_weightOf_66 : decode prog_14_method_79_code 66 = .ok (.ifCond .eq 12, 3) := by decide +kernel
theorem dX12_weightOf_69 : decode prog_14_method_79_code 69 = .ok (.aload_n 0, 1) := by decide +kernel
theorem dX12_weightOf_70 : decode prog_14_method_79_code 70 = .ok (.getfield 85, 3) := by decide +kernel
theorem dX12_weightOf_73 : decode prog_14_method_79_code 73 = .ok (.iload 5, 2) := by decide +kernel
theorem dX12_weightOf_75 : decode prog_14_method_79_code 75 = .ok (.iaload, 1) := by decide +kernel
theorem dX12_weightOf_76 : decode prog_14_method_79_code 76 = .ok (.istore 4, 2) := by decide +kernel
theorem dX12_weightOf_78 : decode prog_14_method_79_code 78 = .ok (.iinc 5 1, 3) := by decide +kernel
theorem dX12_weightOf_81 : decode prog_14_method_79_code 81 = .ok (.goto (-66), 3) := by decide +kernel
theorem dX12_weightOf_84 : decode prog_14_method_79_code 84 = .ok (.iload 4, 2) := by decide +kernel
theorem dX12_weightOf_86 : decode prog_14_method_79_code 86 = .ok (.ireturn, 1) := by decide +kernel
abbrev A_X12_weightOf_15 (l : Launch) (E : bE) (Q : (Int × bM) → Prop) (v1 : Int) (v3 : Int) : (Int × Int × bM) → Prop := (fun t : Int × Int × bM => V l E xX12_weightOf (0, 0) 15 [(0, bR 11), (1, bI v1), (3, bI v3), (4, bI (t.1)), (5, bI (t.2.1))] [] t.2.2 (b_pI Q))
abbrev X_X12_weightOf_15 (l : Launch) (E : bE) (Q : (Int × bM) → Prop) (v1 : Int) (v3 : Int) : (Int × bM) → Prop := (fun t : Int × bM => V l E xX12_weightOf (0, 0) 84 [(4, bI (t.1))] [] t.2 (b_pI Q))
noncomputable def F_X12_weightOf_s15 (v1 : Int) (v3 : Int) (v4 : Int) (v5 : Int) (M : bM) : Option ((Int × Int × bM) ⊕ (Int × bM)) :=
  if 9 ≤ v3 then (some (.inr (v4, M))) else (b_g ((b_i32 (24 * v3)) ∧ (b_i32 (11 * v3)) ∧ (b_i32 ((11 * v3) + 10)) ∧ (0 ≤ ((11 * v3) + 10) ∧ ((11 * v3) + 10) < 110) ∧ (b_i32 ((24 * v3) + (M 183 ((11 * v3) + 10))))) (if ((24 * v3) + (M 183 ((11 * v3) + 10))) ≤ v5 then (some (.inr (v4, M))) else (b_g ((0 ≤ v5 ∧ v5 < 216) ∧ (0 ≤ v1 ∧ v1 < 120)) (if (M 184 v5) = (M 194 v1) then (b_bind (F_X12_holds v5 v1 M) (fun t => b_two t (fun x14 M15 => if x14 = 0 then (b_g (b_i32 (v5 + 1)) (some (.inl (v4, (v5 + 1), M15)))) else (b_g (0 ≤ v5 ∧ v5 < 216) (b_let ((M15 185 v5)) (fun y19 => b_g (b_i32 (v5 + 1)) (some (.inl (y19, (v5 + 1), M15))))))))) else (b_g (b_i32 (v5 + 1)) (some (.inl (v4, (v5 + 1), M))))))))
theorem t_X12_weightOf_s15 {l : Launch} {E : bE} {Q : (Int × bM) → Prop} {v1 : Int} {v3 : Int} {v4 : Int} {v5 : Int} {M : bM} (h : b_wp (F_X12_weightOf_s15 v1 v3 v4 v5 M) (Sum.elim (A_X12_weightOf_15 l E Q v1 v3) (X_X12_weightOf_15 l E Q v1 v3))) : V l E xX12_weightOf (0, 0) 15 [(0, bR 11), (1, bI v1), (3, bI v3), (4, bI v4), (5, bI v5)] [] M (b_pI Q) := by
  unfold F_X12_weightOf_s15 at h
  refine v_iload_n (f := 3) 2 rfl dX12_weightOf_15 ?_
  refine v_bipush ⟨by decide, by decide⟩ (by decide) dX12_weightOf_16 ?_
  refine v_icmp_ge (tgt := 84) dX12_weightOf_18 (by decide) (fun c3 => ?_) (fun c3 => ?_)
  · replace h := b_wp_t c3 h
    refine v_sub (ls2 := [(4, bI _)]) [3] rfl ?_
    exact h
  · replace h := b_wp_f c3 h
    obtain ⟨⟨g4, g5, g6, g7, g8⟩, h⟩ := b_wp_g h
    refine v_iload (i := 5) 4 rfl dX12_weightOf_21 ?_
    refine v_bipush ⟨by decide, by decide⟩ (by decide) dX12_weightOf_23 ?_
    refine v_iload_n (f := 3) 2 rfl dX12_weightOf_25 ?_
    refine v_imulN g4 dX12_weightOf_26 ?_
    refine v_aload_n (f := 0) 0 rfl dX12_weightOf_27 ?_
    refine v_getR (kf := 37) (kz := 37) rfl kd_11 rfl ⟨by decide, by decide⟩ rfl wf_12_79 dX12_weightOf_28 ?_
    refine v_bipush ⟨by decide, by decide⟩ (by decide) dX12_weightOf_31 ?_
    refine v_iload_n (f := 3) 2 rfl dX12_weightOf_33 ?_
    refine v_imulN g5 dX12_weightOf_34 ?_
    refine v_bipush ⟨by decide, by decide⟩ (by decide) dX12_weightOf_35 ?_
    refine v_iaddN g6 dX12_weightOf_37 ?_
    refine v_iaload kd_183 g7 (by decide) dX12_weightOf_38 ?_
    refine v_iaddN g8 dX12_weightOf_39 ?_
    refine v_icmp_ge (tgt := 84) dX12_weightOf_40 (by decide) (fun c9 => ?_) (fun c9 => ?_)
    · replace h := b_wp_t c9 h
      refine v_sub (ls2 := [(4, bI _)]) [3] rfl ?_
      exact h
    · replace h := b_wp_f c9 h
      obtain ⟨⟨g10, g11⟩, h⟩ := b_wp_g h
      refine v_aload_n (f := 0) 0 rfl dX12_weightOf_43 ?_
      refine v_getR (kf := 38) (kz := 38) rfl kd_11 rfl ⟨by decide, by decide⟩ rfl wf_12_82 dX12_weightOf_44 ?_
      refine v_iload (i := 5) 4 rfl dX12_weightOf_47 ?_
      refine v_iaload kd_184 g10 (by decide) dX12_weightOf_49 ?_
      refine v_aload_n (f := 0) 0 rfl dX12_weightOf_50 ?_
      refine v_getR (kf := 55) (kz := 55) rfl kd_11 rfl ⟨by decide, by decide⟩ rfl wf_12_115 dX12_weightOf_51 ?_
      refine v_iload_n (f := 1) 1 rfl dX12_weightOf_54 ?_
      refine v_iaload kd_194 g11 (by decide) dX12_weightOf_55 ?_
      refine v_icmp_ne (tgt := 78) dX12_weightOf_56 (by decide) (fun c12 => ?_) (fun c12 => ?_)
      · replace h := b_wp_f c12 h
        obtain ⟨g13, h⟩ := b_wp_g h
        refine v_iincN (ls' := [(5, bI _), (0, bR _), (1, bI _), (3, bI _), (4, bI _)]) 4 rfl (by decide) g13 dX12_weightOf_78 rfl ?_
        refine v_goto (tgt := 15) dX12_weightOf_81 (by decide) ?_
        refine v_sub (ls2 := [(0, bR _), (1, bI _), (3, bI _), (4, bI _), (5, bI _)]) [1, 2, 3, 4, 0] rfl ?_
        exact h
      · replace h := b_wp_t c12 h
        refine v_aload_n (f := 0) 0 rfl dX12_weightOf_59 ?_
        refine v_iload (i := 5) 4 rfl dX12_weightOf_60 ?_
        refine v_iload_n (f := 1) 1 rfl dX12_weightOf_62 ?_
        refine v_cVI (nA := 2) (As := [bI _, bI _]) (ix := 511) (cf_X12_holds (b_wp_b h)) rfl kd_11 rfl rfl wc_X12_holds wm_12_511 wi_X12_holds ws_X12_holds wn_12 ⟨by decide, by decide, by decide⟩ rfl ⟨by decide, by decide⟩ ⟨by decide, by decide⟩ (Nat.le_of_ble_eq_true rfl) dX12_weightOf_63 (fun x14 M15 h => ?_)
        replace h := b_wp_two h
        refine v_if_eq (tgt := 78) dX12_weightOf_66 (by decide) (fun c16 => ?_) (fun c16 => ?_)
        · replace h := b_wp_t c16 h
          obtain ⟨g17, h⟩ := b_wp_g h
          refine v_iincN (ls' := [(5, bI _), (0, bR _), (1, bI _), (3, bI _), (4, bI _)]) 4 rfl (by decide) g17 dX12_weightOf_78 rfl ?_
          refine v_goto (tgt := 15) dX12_weightOf_81 (by decide) ?_
          refine v_sub (ls2 := [(0, bR _), (1, bI _), (3, bI _), (4, bI _), (5, bI _)]) [1, 2, 3, 4, 0] rfl ?_
          exact h
        · replace h := b_wp_f c16 h
          obtain ⟨g18, h⟩ := b_wp_g h
          refine v_aload_n (f := 0) 0 rfl dX12_weightOf_69 ?_
          refine v_getR (kf := 39) (kz := 39) rfl kd_11 rfl ⟨by decide, by decide⟩ rfl wf_12_85 dX12_weightOf_70 ?_
          refine v_iload (i := 5) 4 rfl dX12_weightOf_73 ?_
          refine v_iaload kd_185 g18 (by decide) dX12_weightOf_75 ?_
          replace h := b_wp_l h
          obtain ⟨g20, h⟩ := b_wp_g h
          refine v_istore (i := 4) (ls' := [(4, bI _), (0, bR _), (1, bI _), (3, bI _), (5, bI _)]) (by decide) dX12_weightOf_76 rfl ?_
          refine v_iincN (ls' := [(5, bI _), (4, bI _), (0, bR _), (1, bI _), (3, bI _)]) 4 rfl (by decide) g20 dX12_weightOf_78 rfl ?_
          refine v_goto (tgt := 15) dX12_weightOf_81 (by decide) ?_
          refine v_sub (ls2 := [(0, bR _), (1, bI _), (3, bI _), (4, bI _), (5, bI _)]) [2, 3, 4, 1, 0] rfl ?_
          exact h
theorem l_X12_weightOf_15 {l : Launch} {E : bE} {Q : (Int × bM) → Prop} {v1 : Int} {v3 : Int} {s : Int × Int × bM} (h : b_wp (b_loop (fun t => F_X12_weightOf_s15 v1 v3 t.1 t.2.1 t.2.2) s) (X_X12_weightOf_15 l E Q v1 v3)) : A_X12_weightOf_15 l E Q v1 v3 s := b_loop_wp (fun t h => t_X12_weightOf_s15 h) s h
noncomputable def F_X12_weightOf_b84 (v4 : Int) (M : bM) : Option (Int × bM) :=
  some (v4, M)
theorem t_X12_weightOf_b84 {l : Launch} {E : bE} {Q : (Int × bM) → Prop} {v4 : Int} {M : bM} (h : b_wp (F_X12_weightOf_b84 v4 M) (Q)) : V l E xX12_weightOf (0, 0) 84 [(4, bI v4)] [] M (b_pI Q) := by
  unfold F_X12_weightOf_b84 at h
  refine v_iload (i := 4) 0 rfl dX12_weightOf_84 ?_
  refine v_ireturn rfl dX12_weightOf_86 ⟨by decide, by decide⟩ ?_
  exact ⟨_, rfl, h⟩
noncomputable def F_X12_weightOf (v1 : Int) (v2 : Int) (M : bM) : Option (Int × bM) :=
  b_bind (F_X12_actOn v2 M) (fun x1 => b_g (b_i32 (24 * x1)) (b_bind (b_loop (fun t => F_X12_weightOf_s15 v1 x1 t.1 t.2.1 t.2.2) (0, (24 * x1), M)) (fun t => F_X12_weightOf_b84 (t.1) (t.2))))
theorem t_X12_weightOf {l : Launch} {E : bE} {Q : (Int × bM) → Prop} {v1 : Int} {v2 : Int} {M : bM} (h : b_wp (F_X12_weightOf v1 v2 M) (Q)) : V l E xX12_weightOf (0, 0) 0 [(0, bR 11), (1, bI v1), (2, bI v2)] [] M (b_pI Q) := by
  unfold F_X12_weightOf at h
  refine v_aload_n (f := 0) 0 rfl dX12_weightOf_0 ?_
  refine v_iload_n (f := 2) 2 rfl dX12_weightOf_1 ?_
  refine v_cVIp (nA := 1) (As := [bI _]) (ix := 490) (cf_X12_actOn (b_wp_b h)) rfl kd_11 rfl rfl wc_X12_actOn wm_12_490 wi_X12_actOn ws_X12_actOn wn_12 ⟨by decide, by decide, by decide⟩ rfl ⟨by decide, by decide⟩ ⟨by decide, by decide⟩ (Nat.le_of_ble_eq_true rfl) dX12_weightOf_2 (fun x1 h => ?_)
  obtain ⟨g2, h⟩ := b_wp_g h
  refine v_istore_n (g := 3) (i := 3) (ls' := [(3, bI _), (0, bR _), (1, bI _), (2, bI _)]) rfl (by decide) dX12_weightOf_5 rfl ?_
  refine v_iconst ⟨by decide, by decide⟩ dX12_weightOf_6 ?_
  refine v_istore (i := 4) (ls' := [(4, bI _), (3, bI _), (0, bR _), (1, bI _), (2, bI _)]) (by decide) dX12_weightOf_7 rfl ?_
  refine v_bipush ⟨by decide, by decide⟩ (by decide) dX12_weightOf_9 ?_
  refine v_iload_n (f := 3) 1 rfl dX12_weightOf_11 ?_
  refine v_imulN g2 dX12_weightOf_12 ?_
  refine v_istore (i := 5) (ls' := [(5, bI _), (4, bI _), (3, bI _), (0, bR _), (1, bI _), (2, bI _)]) (by decide) dX12_weightOf_13 rfl ?_
  refine v_sub (ls2 := [(0, bR _), (1, bI _), (3, bI _), (4, bI _), (5, bI _)]) [3, 4, 2, 1, 0] rfl ?_
  refine l_X12_weightOf_15 (b_wp_m (fun t h => ?_) (b_wp_b h))
  show V l E xX12_weightOf (0, 0) 84 [(4, bI _)] [] _ (b_pI Q)
  exact t_X12_weightOf_b84 h
theorem cf_X12_weightOf {l : Launch} {E : bE} {M : bM} {v1 : Int} {v2 : Int} {Q : (Int × bM) → Prop} (h : b_wp (F_X12_weightOf v1 v2 M) Q) : b_C l E xX12_weightOf yX12_weightOf [bR 11, bI v1, bI v2] M (b_pI Q) := b_met (by decide) ⟨rfl, rfl⟩ (Nat.le_of_ble_eq_true rfl) (fun _ _ => t_X12_weightOf h)
abbrev xX12_weight : bX := ("BurntHallModel", prog_14_method_80_code, 3, (Option.some Jvm.ClassFile.FieldType.int), b_rm 4 0 0, 0, "weight")
abbrev yX12_weight : MethodName := ⟨"BurntHallModel", "weight", "(II)I"⟩
theorem dX12_weight_0 : decode prog_14_method_80_code 0 = .ok (.aload_n 0, 1) := by decide +kernel
theorem dX12_weight_1 : decode prog_14_method_80_code 1 = .ok (.iload_n 1, 1) := by decide +kernel
theorem dX12_weight_2 : decode prog_14_method_80_code 2 = .ok (.invokevirtual 505, 3) := by decide +kernel
theorem dX12_weight_5 : decode prog_14_method_80_code 5 = .ok (.ifCond .eq 19, 3) := by decide +kernel
theorem dX12_weight_8 : decode prog_14_method_80_code 8 = .ok (.iload_n 2, 1) := by decide +kernel
theorem dX12_weight_9 : decode prog_14_method_80_code 9 = .ok (.invokestatic 347, 3) := by decide +kernel
theorem dX12_weight_12 : decode prog_14_method_80_code 12 = .ok (.ifCond .eq 12, 3) := by decide +kernel
theorem dX12_weight_15 : decode prog_14_method_80_code 15 = .ok (.aload_n 0, 1) := by decide +kernel
theorem dX12_weight_16 : decode prog_14_method_80_code 16 = .ok (.iload_n 1, 1) := by decide +kernel
theorem dX12_weight_17 : decode prog_14_method_80_code 17 = .ok (.iload_n 2, 1) := by decide +kernel
theorem dX12_weight_18 : decode prog_14_method_80_code 18 = .ok (.invokevirtual 514, 3) := by decide +kernel
theorem dX12_weight_21 : decode prog_14_method_80_code 21 = .ok (.goto 5, 3) := by decide +kernel
theorem dX12_weight_24 : decode prog_14_method_80_code 24 = .ok (.bipush (-2), 2) := by decide +kernel
theorem dX12_weight_26 : decode prog_14_method_80_code 26 = .ok (.ireturn, 1) := by decide +kernel
noncomputable def F_X12_weight (v1 : Int) (v2 : Int) (M : bM) : Option (Int × bM) :=
  b_bind (F_X12_isPaper v1 M) (fun x1 => if x1 = 0 then (some ((-2), M)) else (b_bind (F_X12_isDay v2 M) (fun x3 => if x3 = 0 then (some ((-2), M)) else (b_bind (F_X12_weightOf v1 v2 M) (fun t => b_two t (fun x5 M6 => some (x5, M6)))))))
theorem t_X12_weight {l : Launch} {E : bE} {Q : (Int × bM) → Prop} {v1 : Int} {v2 : Int} {M : bM} (h : b_wp (F_X12_weight v1 v2 M) (Q)) : V l E xX12_weight (0, 0) 0 [(0, bR 11), (1, bI v1), (2, bI v2)] [] M (b_pI Q) := by
  unfold F_X12_weight at h
  refine v_aload_n (f := 0) 0 rfl dX12_weight_0 ?_
  refine v_iload_n (f := 1) 1 rfl dX12_weight_1 ?_
  refine v_cVIp (nA := 1) (As := [bI _]) (ix := 505) (cf_X12_isPaper (b_wp_b h)) rfl kd_11 rfl rfl wc_X12_isPaper wm_12_505 wi_X12_isPaper ws_X12_isPaper wn_12 ⟨by decide, by decide, by decide⟩ rfl ⟨by decide, by decide⟩ ⟨by decide, by decide⟩ (Nat.le_of_ble_eq_true rfl) dX12_weight_2 (fun x1 h => ?_)
  refine v_if_eq (tgt := 24) dX12_weight_5 (by decide) (fun c2 => ?_) (fun c2 => ?_)
  · replace h := b_wp_t c2 h
    refine v_bipush ⟨by decide, by decide⟩ (by decide) dX12_weight_24 ?_
    refine v_ireturn rfl dX12_weight_26 ⟨by decide, by decide⟩ ?_
    exact ⟨_, rfl, h⟩
  · replace h := b_wp_f c2 h
    refine v_iload_n (f := 2) 2 rfl dX12_weight_8 ?_
    refine v_cSIp (nA := 1) (As := [bI _]) (ix := 347) (cf_X12_isDay (b_wp_b h)) rfl wc_X12_isDay wm_12_347 wi_X12_isDay wn_12 ⟨by decide, by decide, by decide⟩ rfl ⟨by decide, by decide⟩ ⟨by decide, by decide⟩ (Nat.le_of_ble_eq_true rfl) dX12_weight_9 (fun x3 h => ?_)
    refine v_if_eq (tgt := 24) dX12_weight_12 (by decide) (fun c4 => ?_) (fun c4 => ?_)
    · replace h := b_wp_t c4 h
      refine v_bipush ⟨by decide, by decide⟩ (by decide) dX12_weight_24 ?_
      refine v_ireturn rfl dX12_weight_26 ⟨by decide, by decide⟩ ?_
      exact ⟨_, rfl, h⟩
    · replace h := b_wp_f c4 h
      refine v_aload_n (f := 0) 0 rfl dX12_weight_15 ?_
      refine v_iload_n (f := 1) 1 rfl dX12_weight_16 ?_
      refine v_iload_n (f := 2) 2 rfl dX12_weight_17 ?_
      refine v_cVI (nA := 2) (As := [bI _, bI _]) (ix := 514) (cf_X12_weightOf (b_wp_b h)) rfl kd_11 rfl rfl wc_X12_weightOf wm_12_514 wi_X12_weightOf ws_X12_weightOf wn_12 ⟨by decide, by decide, by decide⟩ rfl ⟨by decide, by decide⟩ ⟨by decide, by decide⟩ (Nat.le_of_ble_eq_true rfl) dX12_weight_18 (fun x5 M6 h => ?_)
      replace h := b_wp_two h
      refine v_goto (tgt := 26) dX12_weight_21 (by decide) ?_
      refine v_ireturn rfl dX12_weight_26 ⟨by decide, by decide⟩ ?_
      exact ⟨_, rfl, h⟩
theorem cf_X12_weight {l : Launch} {E : bE} {M : bM} {v1 : Int} {v2 : Int} {Q : (Int × bM) → Prop} (h : b_wp (F_X12_weight v1 v2 M) Q) : b_C l E xX12_weight yX12_weight [bR 11, bI v1, bI v2] M (b_pI Q) := b_met (by decide) ⟨rfl, rfl⟩ (Nat.le_of_ble_eq_true rfl) (fun _ _ => t_X12_weight h)
abbrev xX12_isOutside : bX := ("BurntHallModel", prog_14_method_81_code, 6, (Option.some Jvm.ClassFile.FieldType.boolean), b_rm 2 0 0, 0, "isOutside")
abbrev yX12_isOutside : MethodName := ⟨"BurntHallModel", "isOutside", "(IIII)Z"⟩
theorem dX12_isOutside_0 : decode prog_14_method_81_code 0 = .ok (.aload_n 0, 1) := by decide +kernel
theorem dX12_isOutside_1 : decode prog_14_method_81_code 1 = .ok (.iload_n 1, 1) := by decide +kernel
theorem dX12_isOutside_2 : decode prog_14_method_81_code 2 = .ok (.iload 4, 2) := by decide +kernel
theorem dX12_isOutside_4 : decode prog_14_method_81_code 4 = .ok (.invokevirtual 371, 3) := by decide +kernel
theorem dX12_isOutside_7 : decode prog_14_method_81_code 7 = .ok (.istore 5, 2) := by decide +kernel
theorem dX12_isOutside_9 : decode prog_14_method_81_code 9 = .ok (.iload 5, 2) := by decide +kernel
theorem dX12_isOutside_11 : decode prog_14_method_81_code 11 = .ok (.iconst (-1), 1) := by decide +kernel
theorem dX12_isOutside_12 : decode prog_14_method_81_code 12 = .ok (.if_icmp .eq 9, 3) := by decide +kernel
theorem dX12_isOutside_15 : decode prog_14_method_81_code 15 = .ok (.iload 5, 2) := by decide +kernel
theorem dX12_isOutside_17 : decode prog_14_method_81_code 17 = .ok (.iload_n 2, 1) := by decide +kernel
theorem dX12_isOutside_18 : decode prog_14_method_81_code 18 = .ok (.if_icmp .lt 13, 3) := by decide +kernel
theorem dX12_isOutside_21 : decode prog_14_method_81_code 21 = .ok (.aload_n 0, 1) := by decide +kernel
theorem dX12_isOutside_22 : decode prog_14_method_81_code 22 = .ok (.getfield 17, 3) := by decide +kernel
theorem dX12_isOutside_25 : decode prog_14_method_81_code 25 = .ok (.iload_n 1, 1) := by decide +kernel
theorem dX12_isOutside_26 : decode prog_14_method_81_code 26 = .ok (.iaload, 1) := by decide +kernel
theorem dX12_isOutside_27 : decode prog_14_method_81_code 27 = .ok (.iload_n 3, 1) := by decide +kernel
theorem dX12_isOutside_28 : decode prog_14_method_81_code 28 = .ok (.if_icmp .le 7, 3) := by decide +kernel
theorem dX12_isOutside_31 : decode prog_14_method_81_code 31 = .ok (.iconst 1, 1) := by decide +kernel
theorem dX12_isOutside_32 : decode prog_14_method_81_code 32 = .ok (.goto 4, 3) := by decide +kernel
theorem dX12_isOutside_35 : decode prog_14_method_81_code 35 = .ok (.iconst 0, 1) := by decide +kernel
theorem dX12_isOutside_36 : decode prog_14_method_81_code 36 = .ok (.ireturn, 1) := by decide +kernel
noncomputable def F_X12_isOutside_b21 (v1 : Int) (v3 : Int) (M : bM) : Option (Int) :=
  b_g (0 ≤ v1 ∧ v1 < 80) (if (M 163 v1) ≤ v3 then (some 0) else (some 1))
theorem t_X12_isOutside_b21 {l : Launch} {E : bE} {Q : Int → Prop} {v1 : Int} {v3 : Int} {M : bM} (h : b_wp (F_X12_isOutside_b21 v1 v3 M) (Q)) : V l E xX12_isOutside (0, 0) 21 [(0, bR 11), (1, bI v1), (3, bI v3)] [] M (b_pIp M Q) := by
  unfold F_X12_isOutside_b21 at h
  obtain ⟨g3, h⟩ := b_wp_g h
  refine v_aload_n (f := 0) 0 rfl dX12_isOutside_21 ?_
  refine v_getR (kf := 14) (kz := 14) rfl kd_11 rfl ⟨by decide, by decide⟩ rfl wf_12_17 dX12_isOutside_22 ?_
  refine v_iload_n (f := 1) 1 rfl dX12_isOutside_25 ?_
  refine v_iaload kd_163 g3 (by decide) dX12_isOutside_26 ?_
  refine v_iload_n (f := 3) 2 rfl dX12_isOutside_27 ?_
  refine v_icmp_le (tgt := 35) dX12_isOutside_28 (by decide) (fun c4 => ?_) (fun c4 => ?_)
  · replace h := b_wp_t c4 h
    refine v_iconst ⟨by decide, by decide⟩ dX12_isOutside_35 ?_
    refine v_zreturn rfl (Or.inl rfl) dX12_isOutside_36 ⟨by decide, by decide⟩ ?_
    exact ⟨_, rfl, rfl, h⟩
  · replace h := b_wp_f c4 h
    refine v_iconst ⟨by decide, by decide⟩ dX12_isOutside_31 ?_
    refine v_goto (tgt := 36) dX12_isOutside_32 (by decide) ?_
    refine v_zreturn rfl (Or.inr rfl) dX12_isOutside_36 ⟨by decide, by decide⟩ ?_
    exact ⟨_, rfl, rfl, h⟩
noncomputable def F_X12_isOutside (v1 : Int) (v2 : Int) (v3 : Int) (v4 : Int) (M : bM) : Option (Int) :=
  b_bind (F_X12_deadOf v1 v4 M) (fun x1 => if x1 = (-1) then (F_X12_isOutside_b21 v1 v3 M) else (if x1 < v2 then (some 1) else (F_X12_isOutside_b21 v1 v3 M)))
theorem t_X12_isOutside {l : Launch} {E : bE} {Q : Int → Prop} {v1 : Int} {v2 : Int} {v3 : Int} {v4 : Int} {M : bM} (h : b_wp (F_X12_isOutside v1 v2 v3 v4 M) (Q)) : V l E xX12_isOutside (0, 0) 0 [(0, bR 11), (1, bI v1), (2, bI v2), (3, bI v3), (4, bI v4)] [] M (b_pIp M Q) := by
  unfold F_X12_isOutside at h
  refine v_aload_n (f := 0) 0 rfl dX12_isOutside_0 ?_
  refine v_iload_n (f := 1) 1 rfl dX12_isOutside_1 ?_
  refine v_iload (i := 4) 4 rfl dX12_isOutside_2 ?_
  refine v_cVIp (nA := 2) (As := [bI _, bI _]) (ix := 371) (cf_X12_deadOf (b_wp_b h)) rfl kd_11 rfl rfl wc_X12_deadOf wm_12_371 wi_X12_deadOf ws_X12_deadOf wn_12 ⟨by decide, by decide, by decide⟩ rfl ⟨by decide, by decide⟩ ⟨by decide, by decide⟩ (Nat.le_of_ble_eq_true rfl) dX12_isOutside_4 (fun x1 h => ?_)
  refine v_istore (i := 5) (ls' := [(5, bI _), (0, bR _), (1, bI _), (2, bI _), (3, bI _), (4, bI _)]) (by decide) dX12_isOutside_7 rfl ?_
  refine v_iload (i := 5) 0 rfl dX12_isOutside_9 ?_
  refine v_iconst ⟨by decide, by decide⟩ dX12_isOutside_11 ?_
  refine v_icmp_eq (tgt := 21) dX12_isOutside_12 (by decide) (fun c2 => ?_) (fun c2 => ?_)
  · replace h := b_wp_t c2 h
    refine v_sub (ls2 := [(0, bR _), (1, bI _), (3, bI _)]) [1, 2, 4] rfl ?_
    exact t_X12_isOutside_b21 h
  · replace h := b_wp_f c2 h
    refine v_iload (i := 5) 0 rfl dX12_isOutside_15 ?_
    refine v_iload_n (f := 2) 3 rfl dX12_isOutside_17 ?_
    refine v_icmp_lt (tgt := 31) dX12_isOutside_18 (by decide) (fun c5 => ?_) (fun c5 => ?_)
    · replace h := b_wp_t c5 h
      refine v_iconst ⟨by decide, by decide⟩ dX12_isOutside_31 ?_
      refine v_goto (tgt := 36) dX12_isOutside_32 (by decide) ?_
      refine v_zreturn rfl (Or.inr rfl) dX12_isOutside_36 ⟨by decide, by decide⟩ ?_
      exact ⟨_, rfl, rfl, h⟩
    · replace h := b_wp_f c5 h
      refine v_sub (ls2 := [(0, bR _), (1, bI _), (3, bI _)]) [1, 2, 4] rfl ?_
      exact t_X12_isOutside_b21 h
theorem cf_X12_isOutside {l : Launch} {E : bE} {M : bM} {v1 : Int} {v2 : Int} {v3 : Int} {v4 : Int} {Q : Int → Prop} (h : b_wp (F_X12_isOutside v1 v2 v3 v4 M) Q) : b_C l E xX12_isOutside yX12_isOutside [bR 11, bI v1, bI v2, bI v3, bI v4] M (b_pIp M Q) := b_met (by decide) ⟨rfl, rfl⟩ (Nat.le_of_ble_eq_true rfl) (fun _ _ => t_X12_isOutside h)
abbrev xX12_cantOf : bX := ("BurntHallModel", prog_14_method_82_code, 6, (Option.some Jvm.ClassFile.FieldType.int), b_rm 3 0 0, 0, "cantOf")
abbrev yX12_cantOf : MethodName := ⟨"BurntHallModel", "cantOf", "(II)I"⟩
theorem dX12_cantOf_0 : decode prog_14_method_82_code 0 = .ok (.aload_n 0, 1) := by decide +kernel
theorem dX12_cantOf_1 : decode prog_14_method_82_code 1 = .ok (.getfield 133, 3) := by decide +kernel
theorem dX12_cantOf_4 : decode prog_14_method_82_code 4 = .ok (.iload_n 1, 1) := by decide +kernel
theorem dX12_cantOf_5 : decode prog_14_method_82_code 5 = .ok (.baload, 1) := by decide +kernel
theorem dX12_cantOf_6 : decode prog_14_method_82_code 6 = .ok (.ifCond .eq 31, 3) := by decide +kernel
theorem dX12_cantOf_9 : decode prog_14_method_82_code 9 = .ok (.aload_n 0, 1) := by decide +kernel
theorem dX12_cantOf_10 : decode prog_14_method_82_code 10 = .ok (.aload_n 0, 1) := by decide +kernel
theorem dX12_cantOf_11 : decode prog_14_method_82_code 11 = .ok (.getfield 137, 3) := by decide +kernel
theorem dX12_cantOf_14 : decode prog_14_method_82_code 14 = .ok (.iload_n 1, 1) := by decide +kernel
theorem dX12_cantOf_15 : decode prog_14_method_82_code 15 = .ok (.iaload, 1) := by decide +kernel
theorem dX12_cantOf_16 : decode prog_14_method_82_code 16 = .ok (.aload_n 0, 1) := by decide +kernel
theorem dX12_cantOf_17 : decode prog_14_method_82_code 17 = .ok (.getfield 140, 3) := by decide +kernel
theorem dX12_cantOf_20 : decode prog_14_method_82_code 20 = .ok (.iload_n 1, 1) := by decide +kernel
theorem dX12_cantOf_21 : decode prog_14_method_82_code 21 = .ok (.iaload, 1) := by decide +kernel
theorem dX12_cantOf_22 : decode prog_14_method_82_code 22 = .ok (.aload_n 0, 1) := by decide +kernel
theorem dX12_cantOf_23 : decode prog_14_method_82_code 23 = .ok (.getfield 140, 3) := by decide +kernel
theorem dX12_cantOf_26 : decode prog_14_method_82_code 26 = .ok (.iload_n 1, 1) := by decide +kernel
theorem dX12_cantOf_27 : decode prog_14_method_82_code 27 = .ok (.iaload, 1) := by decide +kernel
theorem dX12_cantOf_28 : decode prog_14_method_82_code 28 = .ok (.iload_n 2, 1) := by decide +kernel
theorem dX12_cantOf_29 : decode prog_14_method_82_code 29 = .ok (.invokevirtual 517, 3) := by decide +kernel
theorem dX12_cantOf_32 : decode prog_14_method_82_code 32 = .ok (.ifCond .eq 5, 3) := by decide +kernel
theorem dX12_cantOf_35 : decode prog_14_method_82_code 35 = .ok (.iconst 1, 1) := by decide +kernel
theorem dX12_cantOf_36 : decode prog_14_method_82_code 36 = .ok (.ireturn, 1) := by decide +kernel
theorem dX12_cantOf_37 : decode prog_14_method_82_code 37 = .ok (.aload_n 0, 1) := by decide +kernel
theorem dX12_cantOf_38 : decode prog_14_method_82_code 38 = .ok (.getfield 121, 3) := by decide +kernel
theorem dX12_cantOf_41 : decode prog_14_method_82_code 41 = .ok (.iconst 3, 1) := by decide +kernel
theorem dX12_cantOf_42 : decode prog_14_method_82_code 42 = .ok (.iload_n 1, 1) := by decide +kernel
theorem dX12_cantOf_43 : decode prog_14_method_82_code 43 = .ok (.imul, 1) := by decide +kernel
theorem dX12_cantOf_44 : decode prog_14_method_82_code 44 = .ok (.iconst 2, 1) := by decide +kernel
theorem dX12_cantOf_45 : decode prog_14_method_82_code 45 = .ok (.iadd, 1) := by decide +kernel
theorem dX12_cantOf_46 : decode prog_14_method_82_code 46 = .ok (.iaload, 1) := by decide +kernel
theorem dX12_cantOf_47 : decode prog_14_method_82_code 47 = .ok (.istore_n 3, 1) := by decide +kernel
theorem dX12_cantOf_48 : decode prog_14_method_82_code 48 = .ok (.iload_n 3, 1) := by decide +kernel
theorem dX12_cantOf_49 : decode prog_14_method_82_code 49 = .ok (.iconst (-1), 1) := by decide +kernel
theorem dX12_cantOf_50 : decode prog_14_method_82_code 50 = .ok (.if_icmp .eq 60, 3) := by decide +kernel
theorem dX12_cantOf_53 : decode prog_14_method_82_code 53 = .ok (.aload_n 0, 1) := by decide +kernel
theorem dX12_cantOf_54 : decode prog_14_method_82_code 54 = .ok (.getfield 39, 3) := by decide +kernel
theorem dX12_cantOf_57 : decode prog_14_method_82_code 57 = .ok (.iload_n 3, 1) := by decide +kernel
theorem dX12_cantOf_58 : decode prog_14_method_82_code 58 = .ok (.iaload, 1) := by decide +kernel
theorem dX12_cantOf_59 : decode prog_14_method_82_code 59 = .ok (.aload_n 0, 1) := by decide +kernel
theorem dX12_cantOf_60 : decode prog_14_method_82_code 60 = .ok (.getfield 127, 3) := by decide +kernel
theorem dX12_cantOf_63 : decode prog_14_method_82_code 63 = .ok (.iload_n 1, 1) := by decide +kernel
theorem dX12_cantOf_64 : decode prog_14_method_82_code 64 = .ok (.iaload, 1) := by decide +kernel
theorem dX12_cantOf_65 : decode prog_14_method_82_code 65 = .ok (.if_icmp .gt 43, 3) := by decide +kernel
theorem dX12_cantOf_68 : decode prog_14_method_82_code 68 = .ok (.aload_n 0, 1) := by decide +kernel
theorem dX12_cantOf_69 : decode prog_14_method_82_code 69 = .ok (.getfield 42, 3) := by decide +kernel
theorem dX12_cantOf_72 : decode prog_14_method_82_code 72 = .ok (.iload_n 3, 1) := by decide +kernel
theorem dX12_cantOf_73 : decode prog_14_method_82_code 73 = .ok (.iaload, 1) := by decide +kernel
theorem dX12_cantOf_74 : decode prog_14_method_82_code 74 = .ok (.iconst (-1), 1) := by decide +kernel
theorem dX12_cantOf_75 : decode prog_14_method_82_code 75 = .ok (.if_icmp .eq 35, 3) := by decide +kernel
theorem dX12_cantOf_78 : decode prog_14_method_82_code 78 = .ok (.aload_n 0, 1) := by decide +kernel
theorem dX12_cantOf_79 : decode prog_14_method_82_code 79 = .ok (.getfield 42, 3) := by decide +kernel
theorem dX12_cantOf_82 : decode prog_14_method_82_code 82 = .ok (.iload_n 3, 1) := by decide +kernel
theorem dX12_cantOf_83 : decode prog_14_method_82_code 83 = .ok (.iaload, 1) := by decide +kernel
theorem dX12_cantOf_84 : decode prog_14_method_82_code 84 = .ok (.aload_n 0, 1) := by decide +kernel
theorem dX12_cantOf_85 : decode prog_14_method_82_code 85 = .ok (.getfield 124, 3) := by decide +kernel
theorem dX12_cantOf_88 : decode prog_14_method_82_code 88 = .ok (.iload_n 1, 1) := by decide +kernel
theorem dX12_cantOf_89 : decode prog_14_method_82_code 89 = .ok (.iaload, 1) := by decide +kernel
theorem dX12_cantOf_90 : decode prog_14_method_82_code 90 = .ok (.if_icmp .le 18, 3) := by decide +kernel
theorem dX12_cantOf_93 : decode prog_14_method_82_code 93 = .ok (.aload_n 0, 1) := by decide +kernel
theorem dX12_cantOf_94 : decode prog_14_method_82_code 94 = .ok (.getfield 42, 3) := by decide +kernel
theorem dX12_cantOf_97 : decode prog_14_method_82_code 97 = .ok (.iload_n 3, 1) := by decide +kernel
theorem dX12_cantOf_98 : decode prog_14_method_82_code 98 = .ok (.iaload, 1) := by decide +kernel
theorem dX12_cantOf_99 : decode prog_14_method_82_code 99 = .ok (.aload_n 0, 1) := by decide +kernel
theorem dX12_cantOf_100 : decode prog_14_method_82_code 100 = .ok (.getfield 39, 3) := by decide +kernel
theorem dX12_cantOf_103 : decode prog_14_method_82_code 103 = .ok (.iload_n 3, 1) := by decide +kernel
theorem dX12_cantOf_104 : decode prog_14_method_82_code 104 = .ok (.iaload, 1) := by decide +kernel
theorem dX12_cantOf_105 : decode prog_14_method_82_code 105 = .ok (.if_icmp .gt 5, 3) := by decide +kernel
theorem dX12_cantOf_108 : decode prog_14_method_82_code 108 = .ok (.iconst 2, 1) := by decide +kernel
theorem dX12_cantOf_109 : decode prog_14_method_82_code 109 = .ok (.ireturn, 1) := by decide +kernel
theorem dX12_cantOf_110 : decode prog_14_method_82_code 110 = .ok (.aload_n 0, 1) := by decide +kernel
theorem dX12_cantOf_111 : decode prog_14_method_82_code 111 = .ok (.getfield 121, 3) := by decide +kernel
theorem dX12_cantOf_114 : decode prog_14_method_82_code 114 = .ok (.iconst 3, 1) := by decide +kernel
theorem dX12_cantOf_115 : decode prog_14_method_82_code 115 = .ok (.iload_n 1, 1) := by decide +kernel
theorem dX12_cantOf_116 : decode prog_14_method_82_code 116 = .ok (.imul, 1) := by decide +kernel
theorem dX12_cantOf_117 : decode prog_14_method_82_code 117 = .ok (.iaload, 1) := by decide +kernel
theorem dX12_cantOf_118 : decode prog_14_method_82_code 118 = .ok (.iconst (-1), 1) := by decide +kernel
theorem dX12_cantOf_119 : decode prog_14_method_82_code 119 = .ok (.if_icmp .eq 33, 3) := by decide +kernel
theorem dX12_cantOf_122 : decode prog_14_method_82_code 122 = .ok (.aload_n 0, 1) := by decide +kernel
theorem dX12_cantOf_123 : decode prog_14_method_82_code 123 = .ok (.aload_n 0, 1) := by decide +kernel
theorem dX12_cantOf_124 : decode prog_14_method_82_code 124 = .ok (.getfield 121, 3) := by decide +kernel
theorem dX12_cantOf_127 : decode prog_14_method_82_code 127 = .ok (.iconst 3, 1) := by decide +kernel
theorem dX12_cantOf_128 : decode prog_14_method_82_code 128 = .ok (.iload_n 1, 1) := by decide +kernel
theorem dX12_cantOf_129 : decode prog_14_method_82_code 129 = .ok (.imul, 1) := by decide +kernel
theorem dX12_cantOf_130 : decode prog_14_method_82_code 130 = .ok (.iaload, 1) := by decide +kernel
theorem dX12_cantOf_131 : decode prog_14_method_82_code 131 = .ok (.aload_n 0, 1) := by decide +kernel
theorem dX12_cantOf_132 : decode prog_14_method_82_code 132 = .ok (.getfield 124, 3) := by decide +kernel
theorem dX12_cantOf_135 : decode prog_14_method_82_code 135 = .ok (.iload_n 1, 1) := by decide +kernel
theorem dX12_cantOf_136 : decode prog_14_method_82_code 136 = .ok (.iaload, 1) := by decide +kernel
theorem dX12_cantOf_137 : decode prog_14_method_82_code 137 = .ok (.aload_n 0, 1) := by decide +kernel
theorem dX12_cantOf_138 : decode prog_14_method_82_code 138 = .ok (.getfield 127, 3) := by decide +kernel
theorem dX12_cantOf_141 : decode prog_14_method_82_code 141 = .ok (.iload_n 1, 1) := by decide +kernel
theorem dX12_cantOf_142 : decode prog_14_method_82_code 142 = .ok (.iaload, 1) := by decide +kernel
theorem dX12_cantOf_143 : decode prog_14_method_82_code 143 = .ok (.iload_n 2, 1) := by decide +kernel
theorem dX12_cantOf_144 : decode prog_14_method_82_code 144 = .ok (.invokevirtual 517, 3) := by decide +kernel
theorem dX12_cantOf_147 : decode prog_14_method_82_code 147 = .ok (.ifCond .eq 5, 3) := by decide +kernel
theorem dX12_cantOf_150 : decode prog_14_method_82_code 150 = .ok (.iconst 3, 1) := by decide +kernel
theorem dX12_cantOf_151 : decode prog_14_method_82_code 151 = .ok (.ireturn, 1) := by decide +kernel
theorem dX12_cantOf_152 : decode prog_14_method_82_code 152 = .ok (.aload_n 0, 1) := by decide +kernel
theorem dX12_cantOf_153 : decode prog_14_method_82_code 153 = .ok (.getfield 121, 3) := by decide +kernel
theorem dX12_cantOf_156 : decode prog_14_method_82_code 156 = .ok (.iconst 3, 1) := by decide +kernel
theorem dX12_cantOf_157 : decode prog_14_method_82_code 157 = .ok (.iload_n 1, 1) := by decide +kernel
theorem dX12_cantOf_158 : decode prog_14_method_82_code 158 = .ok (.imul, 1) := by decide +kernel
theorem dX12_cantOf_159 : decode prog_14_method_82_code 159 = .ok (.iconst 1, 1) := by decide +kernel
theorem dX12_cantOf_160 : decode prog_14_method_82_code 160 = .ok (.iadd, 1) := by decide +kernel
theorem dX12_cantOf_161 : decode prog_14_method_82_code 161 = .ok (.iaload, 1) := by decide +kernel
theorem dX12_cantOf_162 : decode prog_14_method_82_code 162 = .ok (.iconst (-1), 1) := by decide +kernel
theorem dX12_cantOf_163 : decode prog_14_method_82_code 163 = .ok (.if_icmp .eq 35, 3) := by decide +kernel
theorem dX12_cantOf_166 : decode prog_14_method_82_code 166 = .ok (.aload_n 0, 1) := by decide +kernel
theorem dX12_cantOf_167 : decode prog_14_method_82_code 167 = .ok (.aload_n 0, 1) := by decide +kernel
theorem dX12_cantOf_168 : decode prog_14_method_82_code 168 = .ok (.getfield 121, 3) := by decide +kernel
theorem dX12_cantOf_171 : decode prog_14_method_82_code 171 = .ok (.iconst 3, 1) := by decide +kernel
theorem dX12_cantOf_172 : decode prog_14_method_82_code 172 = .ok (.iload_n 1, 1) := by decide +kernel
theorem dX12_cantOf_173 : decode prog_14_method_82_code 173 = .ok (.imul, 1) := by decide +kernel
theorem dX12_cantOf_174 : decode prog_14_method_82_code 174 = .ok (.iconst 1, 1) := by decide +kernel
theorem dX12_cantOf_175 : decode prog_14_method_82_code 175 = .ok (.iadd, 1) := by decide +kernel
theorem dX12_cantOf_176 : decode prog_14_method_82_code 176 = .ok (.iaload, 1) := by decide +kernel
theorem dX12_cantOf_177 : decode prog_14_method_82_code 177 = .ok (.aload_n 0, 1) := by decide +kernel
theorem dX12_cantOf_178 : decode prog_14_method_82_code 178 = .ok (.getfield 124, 3) := by decide +kernel
theorem dX12_cantOf_181 : decode prog_14_method_82_code 181 = .ok (.iload_n 1, 1) := by decide +kernel
theorem dX12_cantOf_182 : decode prog_14_method_82_code 182 = .ok (.iaload, 1) := by decide +kernel
theorem dX12_cantOf_183 : decode prog_14_method_82_code 183 = .ok (.aload_n 0, 1) := by decide +kernel
theorem dX12_cantOf_184 : decode prog_14_method_82_code 184 = .ok (.getfield 127, 3) := by decide +kernel
theorem dX12_cantOf_187 : decode prog_14_method_82_code 187 = .ok (.iload_n 1, 1) := by decide +kernel
theorem dX12_cantOf_188 : decode prog_14_method_82_code 188 = .ok (.iaload, 1) := by decide +kernel
theorem dX12_cantOf_189 : decode prog_14_method_82_code 189 = .ok (.iload_n 2, 1) := by decide +kernel
theorem dX12_cantOf_190 : decode prog_14_method_82_code 190 = .ok (.invokevirtual 517, 3) := by decide +kernel
theorem dX12_cantOf_193 : decode prog_14_method_82_code 193 = .ok (.ifCond .eq 5, 3) := by decide +kernel
theorem dX12_cantOf_196 : decode prog_14_method_82_code 196 = .ok (.iconst 4, 1) := by decide +kernel
theorem dX12_cantOf_197 : decode prog_14_method_82_code 197 = .ok (.ireturn, 1) := by decide +kernel
theorem dX12_cantOf_198 : decode prog_14_method_82_code 198 = .ok (.iconst 0, 1) := by decide +kernel
theorem dX12_cantOf_199 : decode prog_14_method_82_code 199 = .ok (.istore 4, 2) := by decide +kernel
theorem dX12_cantOf_201 : decode prog_14_method_82_code 201 = .ok (.iconst 0, 1) := by decide +kernel
theorem dX12_cantOf_202 : decode prog_14_method_82_code 202 = .ok (.istore 5, 2) := by decide +kernel
theorem dX12_cantOf_204 : decode prog_14_method_82_code 204 = .ok (.iload 5, 2) := by decide +kernel
theorem dX12_cantOf_206 : decode prog_14_method_82_code 206 = .ok (.iload_n 1, 1) := by decide +kernel
theorem dX12_cantOf_207 : decode prog_14_method_82_code 207 = .ok (.if_icmp .ge 81, 3) := by decide +kernel
theorem dX12_cantOf_210 : decode prog_14_method_82_code 210 = .ok (.aload_n 0, 1) := by decide +kernel
theorem dX12_cantOf_211 : decode prog_14_method_82_code 211 = .ok (.getfield 133, 3) := by decide +kernel
theorem dX12_cantOf_214 : decode prog_14_method_82_code 214 = .ok (.iload_n 1, 1) := by decide +kernel
theorem dX12_cantOf_215 : decode prog_14_method_82_code 215 = .ok (.baload, 1) := by decide +kernel
theorem dX12_cantOf_216 : decode prog_14_method_82_code 216 = .ok (.ifCond .eq 72, 3) := by decide +kernel
theorem dX12_cantOf_219 : decode prog_14_method_82_code 219 = .ok (.iload 4, 2) := by decide +kernel
theorem dX12_cantOf_221 : decode prog_14_method_82_code 221 = .ok (.aload_n 0, 1) := by decide +kernel
theorem dX12_cantOf_222 : decode prog_14_method_82_code 222 = .ok (.getfield 133, 3) := by decide +kernel
theorem dX12_cantOf_225 : decode prog_14_method_82_code 225 = .ok (.iload 5, 2) := by decide +kernel
theorem dX12_cantOf_227 : decode prog_14_method_82_code 227 = .ok (.baload, 1) := by decide +kernel
theorem dX12_cantOf_228 : decode prog_14_method_82_code 228 = .ok (.ifCond .eq 50, 3) := by decide +kernel
theorem dX12_cantOf_231 : decode prog_14_method_82_code 231 = .ok (.aload_n 0, 1) := by decide +kernel
theorem dX12_cantOf_232 : decode prog_14_method_82_code 232 = .ok (.getfield 130, 3) := by decide +kernel
theorem dX12_cantOf_235 : decode prog_14_method_82_code 235 = .ok (.iload 5, 2) := by decide +kernel
theorem dX12_cantOf_237 : decode prog_14_method_82_code 237 = .ok (.iaload, 1) := by decide +kernel
theorem dX12_cantOf_238 : decode prog_14_method_82_code 238 = .ok (.iload_n 2, 1) := by decide +kernel
theorem dX12_cantOf_239 : decode prog_14_method_82_code 239 = .ok (.if_icmp .gt 39, 3) := by decide +kernel
theorem dX12_cantOf_242 : decode prog_14_method_82_code 242 = .ok (.aload_n 0, 1) := by decide +kernel
theorem dX12_cantOf_243 : decode prog_14_method_82_code 243 = .ok (.getfield 143, 3) := by decide +kernel
theorem dX12_cantOf_246 : decode prog_14_method_82_code 246 = .ok (.iload 5, 2) := by decide +kernel
theorem dX12_cantOf_248 : decode prog_14_method_82_code 248 = .ok (.iaload, 1) := by decide +kernel
theorem dX12_cantOf_249 : decode prog_14_method_82_code 249 = .ok (.aload_n 0, 1) := by decide +kernel
theorem dX12_cantOf_250 : decode prog_14_method_82_code 250 = .ok (.getfield 143, 3) := by decide +kernel
theorem dX12_cantOf_253 : decode prog_14_method_82_code 253 = .ok (.iload_n 1, 1) := by decide +kernel
theorem dX12_cantOf_254 : decode prog_14_method_82_code 254 = .ok (.iaload, 1) := by decide +kernel
theorem dX12_cantOf_255 : decode prog_14_method_82_code 255 = .ok (.if_icmp .ne 23, 3) := by decide +kernel
theorem dX12_cantOf_258 : decode prog_14_method_82_code 258 = .ok (.aload_n 0, 1) := by decide +kernel
theorem dX12_cantOf_259 : decode prog_14_method_82_code 259 = .ok (.getfield 146, 3) := by decide +kernel
theorem dX12_cantOf_262 : decode prog_14_method_82_code 262 = .ok (.iload 5, 2) := by decide +kernel
theorem dX12_cantOf_264 : decode prog_14_method_82_code 264 = .ok (.iaload, 1) := by decide +kernel
theorem dX12_cantOf_265 : decode prog_14_method_82_code 265 = .ok (.aload_n 0, 1) := by decide +kernel
theorem dX12_cantOf_266 : decode prog_14_method_82_code 266 = .ok (.getfield 146, 3) := by decide +kernel
theorem dX12_cantOf_269 : decode prog_14_method_82_code 269 = .ok (.iload_n 1, 1) := by decide +kernel
theorem dX12_cantOf_270 : decode prog_14_method_82_code 270 = .ok (.iaload, 1) := by decide +kernel
theorem dX12_cantOf_271 : decode prog_14_method_82_code 271 = .ok (.if_icmp .ne 7, 3) := by decide +kernel
theorem dX12_cantOf_274 : decode prog_14_method_82_code 274 = .ok (.iconst 1, 1) := by decide +kernel
theorem dX12_cantOf_275 : decode prog_14_method_82_code 275 = .ok (.goto 4, 3) := by decide +kernel
theorem dX12_cantOf_278 : decode prog_14_method_82_code 278 = .ok (.iconst 0, 1) := by decide +kernel
theorem dX12_cantOf_279 : decode prog_14_method_82_code 279 = .ok (.iadd, 1) := by decide +kernel
theorem dX12_cantOf_280 : decode prog_14_method_82_code 280 = .ok (.istore 4, 2) := by decide +kernel
theorem dX12_cantOf_282 : decode prog_14_method_82_code 282 = .ok (.iinc 5 1, 3) := by decide +kernel
theorem dX12_cantOf_285 : decode prog_14_method_82_code 285 = .ok (.goto (-81), 3) := by decide +kernel
theorem dX12_cantOf_288 : decode prog_14_method_82_code 288 = .ok (.iload 4, 2) := by decide +kernel
theorem dX12_cantOf_290 : decode prog_14_method_82_code 290 = .ok (.aload_n 0, 1) := by decide +kernel
theorem dX12_cantOf_291 : decode prog_14_method_82_code 291 = .ok (.getfield 112, 3) := by decide +kernel
theorem dX12_cantOf_294 : decode prog_14_method_82_code 294 = .ok (.if_icmp .lt 7, 3) := by decide +kernel
theorem dX12_cantOf_297 : decode prog_14_method_82_code 297 = .ok (.iconst 5, 1) := by decide +kernel
theorem dX12_cantOf_298 : decode prog_14_method_82_code 298 = .ok (.goto 4, 3) := by decide +kernel
theorem dX12_cantOf_301 : decode prog_14_method_82_code 301 = .ok (.iconst 0, 1) := by decide +kernel
theorem dX12_cantOf_302 : decode prog_14_method_82_code 302 = .ok (.ireturn, 1) := by decide +kernel
abbrev A_X12_cantOf_204 (l : Launch) (E : bE) (Q : Int → Prop) (v1 : Int) (v2 : Int) (M : bM) : (Int × Int) → Prop := (fun t : Int × Int => V l E xX12_cantOf (0, 0) 204 [(0, bR 11), (1, bI v1), (2, bI v2), (4, bI (t.1)), (5, bI (t.2))] [] M (b_pIp M Q))
abbrev X_X12_cantOf_204 (l : Launch) (E : bE) (Q : Int → Prop) (v1 : Int) (v2 : Int) (M : bM) : (Int) → Prop := (fun t : Int => V l E xX12_cantOf (0, 0) 288 [(0, bR 11), (4, bI t)] [] M (b_pIp M Q))
noncomputable def F_X12_cantOf_b279 (v1 : Int) (v2 : Int) (v5 : Int) (u0 : Int) (u1 : Int) (M : bM) : Option ((Int × Int) ⊕ (Int)) :=
  b_g ((b_i32 (u0 + u1)) ∧ (b_i32 (v5 + 1))) (some (.inl ((u0 + u1), (v5 + 1))))
theorem t_X12_cantOf_b279 {l : Launch} {E : bE} {Q : Int → Prop} {v1 : Int} {v2 : Int} {v5 : Int} {u0 : Int} {u1 : Int} {M : bM} (h : b_wp (F_X12_cantOf_b279 v1 v2 v5 u0 u1 M) (Sum.elim (A_X12_cantOf_204 l E Q v1 v2 M) (X_X12_cantOf_204 l E Q v1 v2 M))) : V l E xX12_cantOf (0, 0) 279 [(0, bR 11), (1, bI v1), (2, bI v2), (5, bI v5)] [bI u1, bI u0] M (b_pIp M Q) := by
  unfold F_X12_cantOf_b279 at h
  obtain ⟨⟨g20, g21⟩, h⟩ := b_wp_g h
  refine v_iaddN g20 dX12_cantOf_279 ?_
  refine v_istore (i := 4) (ls' := [(4, bI _), (0, bR _), (1, bI _), (2, bI _), (5, bI _)]) (by decide) dX12_cantOf_280 rfl ?_
  refine v_iincN (ls' := [(5, bI _), (4, bI _), (0, bR _), (1, bI _), (2, bI _)]) 4 rfl (by decide) g21 dX12_cantOf_282 rfl ?_
  refine v_goto (tgt := 204) dX12_cantOf_285 (by decide) ?_
  refine v_sub (ls2 := [(0, bR _), (1, bI _), (2, bI _), (4, bI _), (5, bI _)]) [2, 3, 4, 1, 0] rfl ?_
  exact h
noncomputable def F_X12_cantOf_b278 (v1 : Int) (v2 : Int) (v5 : Int) (u0 : Int) (M : bM) : Option ((Int × Int) ⊕ (Int)) :=
  F_X12_cantOf_b279 v1 v2 v5 u0 0 M
theorem t_X12_cantOf_b278 {l : Launch} {E : bE} {Q : Int → Prop} {v1 : Int} {v2 : Int} {v5 : Int} {u0 : Int} {M : bM} (h : b_wp (F_X12_cantOf_b278 v1 v2 v5 u0 M) (Sum.elim (A_X12_cantOf_204 l E Q v1 v2 M) (X_X12_cantOf_204 l E Q v1 v2 M))) : V l E xX12_cantOf (0, 0) 278 [(0, bR 11), (1, bI v1), (2, bI v2), (5, bI v5)] [bI u0] M (b_pIp M Q) := by
  unfold F_X12_cantOf_b278 at h
  refine v_iconst ⟨by decide, by decide⟩ dX12_cantOf_278 ?_
  exact t_X12_cantOf_b279 h
noncomputable def F_X12_cantOf_s204 (v1 : Int) (v2 : Int) (v4 : Int) (v5 : Int) (M : bM) : Option ((Int × Int) ⊕ (Int)) :=
  if v1 ≤ v5 then (some (.inr (v4))) else (b_g (0 ≤ v1 ∧ v1 < 120) (if (M 200 v1) = 0 then (some (.inr (v4))) else (b_g (0 ≤ v5 ∧ v5 < 120) (if (M 200 v5) = 0 then (F_X12_cantOf_b278 v1 v2 v5 v4 M) else (b_g (0 ≤ v5 ∧ v5 < 120) (if v2 < (M 199 v5) then (F_X12_cantOf_b278 v1 v2 v5 v4 M) else (b_g ((0 ≤ v5 ∧ v5 < 120) ∧ (0 ≤ v1 ∧ v1 < 120)) (if (M 203 v5) = (M 203 v1) then (b_g ((0 ≤ v5 ∧ v5 < 120) ∧ (0 ≤ v1 ∧ v1 < 120)) (if (M 204 v5) = (M 204 v1) then (F_X12_cantOf_b279 v1 v2 v5 v4 1 M) else (F_X12_cantOf_b278 v1 v2 v5 v4 M))) else (F_X12_cantOf_b278 v1 v2 v5 v4 M)))))))))
theorem t_X12_cantOf_s204 {l : Launch} {E : bE} {Q : Int → Prop} {v1 : Int} {v2 : Int} {v4 : Int} {v5 : Int} {M : bM} (h : b_wp (F_X12_cantOf_s204 v1 v2 v4 v5 M) (Sum.elim (A_X12_cantOf_204 l E Q v1 v2 M) (X_X12_cantOf_204 l E Q v1 v2 M))) : V l E xX12_cantOf (0, 0) 204 [(0, bR 11), (1, bI v1), (2, bI v2), (4, bI v4), (5, bI v5)] [] M (b_pIp M Q) := by
  unfold F_X12_cantOf_s204 at h
  refine v_iload (i := 5) 4 rfl dX12_cantOf_204 ?_
  refine v_iload_n (f := 1) 1 rfl dX12_cantOf_206 ?_
  refine v_icmp_ge (tgt := 288) dX12_cantOf_207 (by decide) (fun c15 => ?_) (fun c15 => ?_)
  · replace h := b_wp_t c15 h
    refine v_sub (ls2 := [(0, bR _), (4, bI _)]) [0, 3] rfl ?_
    exact h
  · replace h := b_wp_f c15 h
    obtain ⟨g16, h⟩ := b_wp_g h
    refine v_aload_n (f := 0) 0 rfl dX12_cantOf_210 ?_
    refine v_getR (kf := 61) (kz := 61) rfl kd_11 rfl ⟨by decide, by decide⟩ rfl wf_12_133 dX12_cantOf_211 ?_
    refine v_iload_n (f := 1) 1 rfl dX12_cantOf_214 ?_
    refine v_zaload kd_200 g16 (by decide) dX12_cantOf_215 ?_
    refine v_if_eq (tgt := 288) dX12_cantOf_216 (by decide) (fun c17 => ?_) (fun c17 => ?_)
    · replace h := b_wp_t c17 h
      refine v_sub (ls2 := [(0, bR _), (4, bI _)]) [0, 3] rfl ?_
      exact h
    · replace h := b_wp_f c17 h
      obtain ⟨g18, h⟩ := b_wp_g h
      refine v_iload (i := 4) 3 rfl dX12_cantOf_219 ?_
      refine v_aload_n (f := 0) 0 rfl dX12_cantOf_221 ?_
      refine v_getR (kf := 61) (kz := 61) rfl kd_11 rfl ⟨by decide, by decide⟩ rfl wf_12_133 dX12_cantOf_222 ?_
      refine v_iload (i := 5) 4 rfl dX12_cantOf_225 ?_
      refine v_zaload kd_200 g18 (by decide) dX12_cantOf_227 ?_
      refine v_if_eq (tgt := 278) dX12_cantOf_228 (by decide) (fun c19 => ?_) (fun c19 => ?_)
      · replace h := b_wp_t c19 h
        refine v_sub (ls2 := [(0, bR _), (1, bI _), (2, bI _), (5, bI _)]) [0, 1, 2, 4] rfl ?_
        exact t_X12_cantOf_b278 h
      · replace h := b_wp_f c19 h
        obtain ⟨g22, h⟩ := b_wp_g h
        refine v_aload_n (f := 0) 0 rfl dX12_cantOf_231 ?_
        refine v_getR (kf := 60) (kz := 60) rfl kd_11 rfl ⟨by decide, by decide⟩ rfl wf_12_130 dX12_cantOf_232 ?_
        refine v_iload (i := 5) 4 rfl dX12_cantOf_235 ?_
        refine v_iaload kd_199 g22 (by decide) dX12_cantOf_237 ?_
        refine v_iload_n (f := 2) 2 rfl dX12_cantOf_238 ?_
        refine v_icmp_gt (tgt := 278) dX12_cantOf_239 (by decide) (fun c23 => ?_) (fun c23 => ?_)
        · replace h := b_wp_t c23 h
          refine v_sub (ls2 := [(0, bR _), (1, bI _), (2, bI _), (5, bI _)]) [0, 1, 2, 4] rfl ?_
          exact t_X12_cantOf_b278 h
        · replace h := b_wp_f c23 h
          obtain ⟨⟨g24, g25⟩, h⟩ := b_wp_g h
          refine v_aload_n (f := 0) 0 rfl dX12_cantOf_242 ?_
          refine v_getR (kf := 64) (kz := 64) rfl kd_11 rfl ⟨by decide, by decide⟩ rfl wf_12_143 dX12_cantOf_243 ?_
          refine v_iload (i := 5) 4 rfl dX12_cantOf_246 ?_
          refine v_iaload kd_203 g24 (by decide) dX12_cantOf_248 ?_
          refine v_aload_n (f := 0) 0 rfl dX12_cantOf_249 ?_
          refine v_getR (kf := 64) (kz := 64) rfl kd_11 rfl ⟨by decide, by decide⟩ rfl wf_12_143 dX12_cantOf_250 ?_
          refine v_iload_n (f := 1) 1 rfl dX12_cantOf_253 ?_
          refine v_iaload kd_203 g25 (by decide) dX12_cantOf_254 ?_
          refine v_icmp_ne (tgt := 278) dX12_cantOf_255 (by decide) (fun c26 => ?_) (fun c26 => ?_)
          · replace h := b_wp_f c26 h
            refine v_sub (ls2 := [(0, bR _), (1, bI _), (2, bI _), (5, bI _)]) [0, 1, 2, 4] rfl ?_
            exact t_X12_cantOf_b278 h
          · replace h := b_wp_t c26 h
            obtain ⟨⟨g27, g28⟩, h⟩ := b_wp_g h
            refine v_aload_n (f := 0) 0 rfl dX12_cantOf_258 ?_
            refine v_getR (kf := 65) (kz := 65) rfl kd_11 rfl ⟨by decide, by decide⟩ rfl wf_12_146 dX12_cantOf_259 ?_
            refine v_iload (i := 5) 4 rfl dX12_cantOf_262 ?_
            refine v_iaload kd_204 g27 (by decide) dX12_cantOf_264 ?_
            refine v_aload_n (f := 0) 0 rfl dX12_cantOf_265 ?_
            refine v_getR (kf := 65) (kz := 65) rfl kd_11 rfl ⟨by decide, by decide⟩ rfl wf_12_146 dX12_cantOf_266 ?_
            refine v_iload_n (f := 1) 1 rfl dX12_cantOf_269 ?_
            refine v_iaload kd_204 g28 (by decide) dX12_cantOf_270 ?_
            refine v_icmp_ne (tgt := 278) dX12_cantOf_271 (by decide) (fun c29 => ?_) (fun c29 => ?_)
            · replace h := b_wp_f c29 h
              refine v_sub (ls2 := [(0, bR _), (1, bI _), (2, bI _), (5, bI _)]) [0, 1, 2, 4] rfl ?_
              exact t_X12_cantOf_b278 h
            · replace h := b_wp_t c29 h
              refine v_iconst ⟨by decide, by decide⟩ dX12_cantOf_274 ?_
              refine v_goto (tgt := 279) dX12_cantOf_275 (by decide) ?_
              refine v_sub (ls2 := [(0, bR _), (1, bI _), (2, bI _), (5, bI _)]) [0, 1, 2, 4] rfl ?_
              exact t_X12_cantOf_b279 h
theorem l_X12_cantOf_204 {l : Launch} {E : bE} {Q : Int → Prop} {v1 : Int} {v2 : Int} {M : bM} {s : Int × Int} (h : b_wp (b_loop (fun t => F_X12_cantOf_s204 v1 v2 t.1 t.2 M) s) (X_X12_cantOf_204 l E Q v1 v2 M)) : A_X12_cantOf_204 l E Q v1 v2 M s := b_loop_wp (fun t h => t_X12_cantOf_s204 h) s h
noncomputable def F_X12_cantOf_b288 (v4 : Int) (M : bM) : Option (Int) :=
  if v4 < (M 11 54) then (some 0) else (some 5)
theorem t_X12_cantOf_b288 {l : Launch} {E : bE} {Q : Int → Prop} {v4 : Int} {M : bM} (h : b_wp (F_X12_cantOf_b288 v4 M) (Q)) : V l E xX12_cantOf (0, 0) 288 [(0, bR 11), (4, bI v4)] [] M (b_pIp M Q) := by
  unfold F_X12_cantOf_b288 at h
  refine v_iload (i := 4) 1 rfl dX12_cantOf_288 ?_
  refine v_aload_n (f := 0) 0 rfl dX12_cantOf_290 ?_
  refine v_getI (kf := 54) (kz := 54) rfl kd_11 rfl ⟨by decide, by decide⟩ rfl wf_12_112 dX12_cantOf_291 ?_
  refine v_icmp_lt (tgt := 301) dX12_cantOf_294 (by decide) (fun c30 => ?_) (fun c30 => ?_)
  · replace h := b_wp_t c30 h
    refine v_iconst ⟨by decide, by decide⟩ dX12_cantOf_301 ?_
    refine v_ireturn rfl dX12_cantOf_302 ⟨by decide, by decide⟩ ?_
    exact ⟨_, rfl, rfl, h⟩
  · replace h := b_wp_f c30 h
    refine v_iconst ⟨by decide, by decide⟩ dX12_cantOf_297 ?_
    refine v_goto (tgt := 302) dX12_cantOf_298 (by decide) ?_
    refine v_ireturn rfl dX12_cantOf_302 ⟨by decide, by decide⟩ ?_
    exact ⟨_, rfl, rfl, h⟩
noncomputable def F_X12_cantOf_b198 (v1 : Int) (v2 : Int) (M : bM) : Option (Int) :=
  b_bind (b_loop (fun t => F_X12_cantOf_s204 v1 v2 t.1 t.2 M) (0, 0)) (fun t => F_X12_cantOf_b288 t M)
theorem t_X12_cantOf_b198 {l : Launch} {E : bE} {Q : Int → Prop} {v1 : Int} {v2 : Int} {M : bM} (h : b_wp (F_X12_cantOf_b198 v1 v2 M) (Q)) : V l E xX12_cantOf (0, 0) 198 [(0, bR 11), (1, bI v1), (2, bI v2)] [] M (b_pIp M Q) := by
  unfold F_X12_cantOf_b198 at h
  refine v_iconst ⟨by decide, by decide⟩ dX12_cantOf_198 ?_
  refine v_istore (i := 4) (ls' := [(4, bI _), (0, bR _), (1, bI _), (2, bI _)]) (by decide) dX12_cantOf_199 rfl ?_
  refine v_iconst ⟨by decide, by decide⟩ dX12_cantOf_201 ?_
  refine v_istore (i := 5) (ls' := [(5, bI _), (4, bI _), (0, bR _), (1, bI _), (2, bI _)]) (by decide) dX12_cantOf_202 rfl ?_
  refine v_sub (ls2 := [(0, bR _), (1, bI _), (2, bI _), (4, bI _), (5, bI _)]) [2, 3, 4, 1, 0] rfl ?_
  refine l_X12_cantOf_204 (b_wp_m (fun t h => ?_) (b_wp_b h))
  show V l E xX12_cantOf (0, 0) 288 [(0, bR 11), (4, bI _)] [] _ (b_pIp M Q)
  exact t_X12_cantOf_b288 h
noncomputable def F_X12_cantOf_b152 (v1 : Int) (v2 : Int) (M : bM) : Option (Int) :=
  b_g ((b_i32 (3 * v1)) ∧ (b_i32 ((3 * v1) + 1)) ∧ (0 ≤ ((3 * v1) + 1) ∧ ((3 * v1) + 1) < 360)) (if (M 196 ((3 * v1) + 1)) = (-1) then (F_X12_cantOf_b198 v1 v2 M) else (b_g ((b_i32 (3 * v1)) ∧ (b_i32 ((3 * v1) + 1)) ∧ (0 ≤ ((3 * v1) + 1) ∧ ((3 * v1) + 1) < 360) ∧ (0 ≤ v1 ∧ v1 < 120)) (b_bind (F_X12_isOutside (M 196 ((3 * v1) + 1)) (M 197 v1) (M 198 v1) v2 M) (fun x35 => if x35 = 0 then (F_X12_cantOf_b198 v1 v2 M) else (some 4)))))
theorem t_X12_cantOf_b152 {l : Launch} {E : bE} {Q : Int → Prop} {v1 : Int} {v2 : Int} {M : bM} (h : b_wp (F_X12_cantOf_b152 v1 v2 M) (Q)) : V l E xX12_cantOf (0, 0) 152 [(0, bR 11), (1, bI v1), (2, bI v2)] [] M (b_pIp M Q) := by
  unfold F_X12_cantOf_b152 at h
  obtain ⟨⟨g11, g12, g13⟩, h⟩ := b_wp_g h
  refine v_aload_n (f := 0) 0 rfl dX12_cantOf_152 ?_
  refine v_getR (kf := 57) (kz := 57) rfl kd_11 rfl ⟨by decide, by decide⟩ rfl wf_12_121 dX12_cantOf_153 ?_
  refine v_iconst ⟨by decide, by decide⟩ dX12_cantOf_156 ?_
  refine v_iload_n (f := 1) 1 rfl dX12_cantOf_157 ?_
  refine v_imulN g11 dX12_cantOf_158 ?_
  refine v_iconst ⟨by decide, by decide⟩ dX12_cantOf_159 ?_
  refine v_iaddN g12 dX12_cantOf_160 ?_
  refine v_iaload kd_196 g13 (by decide) dX12_cantOf_161 ?_
  refine v_iconst ⟨by decide, by decide⟩ dX12_cantOf_162 ?_
  refine v_icmp_eq (tgt := 198) dX12_cantOf_163 (by decide) (fun c14 => ?_) (fun c14 => ?_)
  · replace h := b_wp_t c14 h
    exact t_X12_cantOf_b198 h
  · replace h := b_wp_f c14 h
    obtain ⟨⟨g31, g32, g33, g34⟩, h⟩ := b_wp_g h
    refine v_aload_n (f := 0) 0 rfl dX12_cantOf_166 ?_
    refine v_aload_n (f := 0) 0 rfl dX12_cantOf_167 ?_
    refine v_getR (kf := 57) (kz := 57) rfl kd_11 rfl ⟨by decide, by decide⟩ rfl wf_12_121 dX12_cantOf_168 ?_
    refine v_iconst ⟨by decide, by decide⟩ dX12_cantOf_171 ?_
    refine v_iload_n (f := 1) 1 rfl dX12_cantOf_172 ?_
    refine v_imulN g31 dX12_cantOf_173 ?_
    refine v_iconst ⟨by decide, by decide⟩ dX12_cantOf_174 ?_
    refine v_iaddN g32 dX12_cantOf_175 ?_
    refine v_iaload kd_196 g33 (by decide) dX12_cantOf_176 ?_
    refine v_aload_n (f := 0) 0 rfl dX12_cantOf_177 ?_
    refine v_getR (kf := 58) (kz := 58) rfl kd_11 rfl ⟨by decide, by decide⟩ rfl wf_12_124 dX12_cantOf_178 ?_
    refine v_iload_n (f := 1) 1 rfl dX12_cantOf_181 ?_
    refine v_iaload kd_197 g34 (by decide) dX12_cantOf_182 ?_
    refine v_aload_n (f := 0) 0 rfl dX12_cantOf_183 ?_
    refine v_getR (kf := 59) (kz := 59) rfl kd_11 rfl ⟨by decide, by decide⟩ rfl wf_12_127 dX12_cantOf_184 ?_
    refine v_iload_n (f := 1) 1 rfl dX12_cantOf_187 ?_
    refine v_iaload kd_198 g34 (by decide) dX12_cantOf_188 ?_
    refine v_iload_n (f := 2) 2 rfl dX12_cantOf_189 ?_
    refine v_cVIp (nA := 4) (As := [bI _, bI _, bI _, bI _]) (ix := 517) (cf_X12_isOutside (b_wp_b h)) rfl kd_11 rfl rfl wc_X12_isOutside wm_12_517 wi_X12_isOutside ws_X12_isOutside wn_12 ⟨by decide, by decide, by decide⟩ rfl ⟨by decide, by decide⟩ ⟨by decide, by decide⟩ (Nat.le_of_ble_eq_true rfl) dX12_cantOf_190 (fun x35 h => ?_)
    refine v_if_eq (tgt := 198) dX12_cantOf_193 (by decide) (fun c36 => ?_) (fun c36 => ?_)
    · replace h := b_wp_t c36 h
      exact t_X12_cantOf_b198 h
    · replace h := b_wp_f c36 h
      refine v_iconst ⟨by decide, by decide⟩ dX12_cantOf_196 ?_
      refine v_ireturn rfl dX12_cantOf_197 ⟨by decide, by decide⟩ ?_
      exact ⟨_, rfl, rfl, h⟩
noncomputable def F_X12_cantOf_b110 (v1 : Int) (v2 : Int) (M : bM) : Option (Int) :=
  b_g ((b_i32 (3 * v1)) ∧ (0 ≤ (3 * v1) ∧ (3 * v1) < 360)) (if (M 196 (3 * v1)) = (-1) then (F_X12_cantOf_b152 v1 v2 M) else (b_g ((b_i32 (3 * v1)) ∧ (0 ≤ (3 * v1) ∧ (3 * v1) < 360) ∧ (0 ≤ v1 ∧ v1 < 120)) (b_bind (F_X12_isOutside (M 196 (3 * v1)) (M 197 v1) (M 198 v1) v2 M) (fun x40 => if x40 = 0 then (F_X12_cantOf_b152 v1 v2 M) else (some 3)))))
theorem t_X12_cantOf_b110 {l : Launch} {E : bE} {Q : Int → Prop} {v1 : Int} {v2 : Int} {M : bM} (h : b_wp (F_X12_cantOf_b110 v1 v2 M) (Q)) : V l E xX12_cantOf (0, 0) 110 [(0, bR 11), (1, bI v1), (2, bI v2)] [] M (b_pIp M Q) := by
  unfold F_X12_cantOf_b110 at h
  obtain ⟨⟨g8, g9⟩, h⟩ := b_wp_g h
  refine v_aload_n (f := 0) 0 rfl dX12_cantOf_110 ?_
  refine v_getR (kf := 57) (kz := 57) rfl kd_11 rfl ⟨by decide, by decide⟩ rfl wf_12_121 dX12_cantOf_111 ?_
  refine v_iconst ⟨by decide, by decide⟩ dX12_cantOf_114 ?_
  refine v_iload_n (f := 1) 1 rfl dX12_cantOf_115 ?_
  refine v_imulN g8 dX12_cantOf_116 ?_
  refine v_iaload kd_196 g9 (by decide) dX12_cantOf_117 ?_
  refine v_iconst ⟨by decide, by decide⟩ dX12_cantOf_118 ?_
  refine v_icmp_eq (tgt := 152) dX12_cantOf_119 (by decide) (fun c10 => ?_) (fun c10 => ?_)
  · replace h := b_wp_t c10 h
    exact t_X12_cantOf_b152 h
  · replace h := b_wp_f c10 h
    obtain ⟨⟨g37, g38, g39⟩, h⟩ := b_wp_g h
    refine v_aload_n (f := 0) 0 rfl dX12_cantOf_122 ?_
    refine v_aload_n (f := 0) 0 rfl dX12_cantOf_123 ?_
    refine v_getR (kf := 57) (kz := 57) rfl kd_11 rfl ⟨by decide, by decide⟩ rfl wf_12_121 dX12_cantOf_124 ?_
    refine v_iconst ⟨by decide, by decide⟩ dX12_cantOf_127 ?_
    refine v_iload_n (f := 1) 1 rfl dX12_cantOf_128 ?_
    refine v_imulN g37 dX12_cantOf_129 ?_
    refine v_iaload kd_196 g38 (by decide) dX12_cantOf_130 ?_
    refine v_aload_n (f := 0) 0 rfl dX12_cantOf_131 ?_
    refine v_getR (kf := 58) (kz := 58) rfl kd_11 rfl ⟨by decide, by decide⟩ rfl wf_12_124 dX12_cantOf_132 ?_
    refine v_iload_n (f := 1) 1 rfl dX12_cantOf_135 ?_
    refine v_iaload kd_197 g39 (by decide) dX12_cantOf_136 ?_
    refine v_aload_n (f := 0) 0 rfl dX12_cantOf_137 ?_
    refine v_getR (kf := 59) (kz := 59) rfl kd_11 rfl ⟨by decide, by decide⟩ rfl wf_12_127 dX12_cantOf_138 ?_
    refine v_iload_n (f := 1) 1 rfl dX12_cantOf_141 ?_
    refine v_iaload kd_198 g39 (by decide) dX12_cantOf_142 ?_
    refine v_iload_n (f := 2) 2 rfl dX12_cantOf_143 ?_
    refine v_cVIp (nA := 4) (As := [bI _, bI _, bI _, bI _]) (ix := 517) (cf_X12_isOutside (b_wp_b h)) rfl kd_11 rfl rfl wc_X12_isOutside wm_12_517 wi_X12_isOutside ws_X12_isOutside wn_12 ⟨by decide, by decide, by decide⟩ rfl ⟨by decide, by decide⟩ ⟨by decide, by decide⟩ (Nat.le_of_ble_eq_true rfl) dX12_cantOf_144 (fun x40 h => ?_)
    refine v_if_eq (tgt := 152) dX12_cantOf_147 (by decide) (fun c41 => ?_) (fun c41 => ?_)
    · replace h := b_wp_t c41 h
      exact t_X12_cantOf_b152 h
    · replace h := b_wp_f c41 h
      refine v_iconst ⟨by decide, by decide⟩ dX12_cantOf_150 ?_
      refine v_ireturn rfl dX12_cantOf_151 ⟨by decide, by decide⟩ ?_
      exact ⟨_, rfl, rfl, h⟩
noncomputable def F_X12_cantOf_b37 (v1 : Int) (v2 : Int) (M : bM) : Option (Int) :=
  b_g ((b_i32 (3 * v1)) ∧ (b_i32 ((3 * v1) + 2)) ∧ (0 ≤ ((3 * v1) + 2) ∧ ((3 * v1) + 2) < 360)) (b_let ((M 196 ((3 * v1) + 2))) (fun y6 => if y6 = (-1) then (F_X12_cantOf_b110 v1 v2 M) else (b_g ((0 ≤ y6 ∧ y6 < 60) ∧ (0 ≤ v1 ∧ v1 < 120)) (if (M 198 v1) < (M 170 y6) then (some 2) else (b_g (0 ≤ y6 ∧ y6 < 60) (if (M 171 y6) = (-1) then (F_X12_cantOf_b110 v1 v2 M) else (b_g ((0 ≤ y6 ∧ y6 < 60) ∧ (0 ≤ v1 ∧ v1 < 120)) (if (M 171 y6) ≤ (M 197 v1) then (some 2) else (b_g (0 ≤ y6 ∧ y6 < 60) (if (M 170 y6) < (M 171 y6) then (F_X12_cantOf_b110 v1 v2 M) else (some 2)))))))))))
theorem t_X12_cantOf_b37 {l : Launch} {E : bE} {Q : Int → Prop} {v1 : Int} {v2 : Int} {M : bM} (h : b_wp (F_X12_cantOf_b37 v1 v2 M) (Q)) : V l E xX12_cantOf (0, 0) 37 [(0, bR 11), (1, bI v1), (2, bI v2)] [] M (b_pIp M Q) := by
  unfold F_X12_cantOf_b37 at h
  obtain ⟨⟨g3, g4, g5⟩, h⟩ := b_wp_g h
  refine v_aload_n (f := 0) 0 rfl dX12_cantOf_37 ?_
  refine v_getR (kf := 57) (kz := 57) rfl kd_11 rfl ⟨by decide, by decide⟩ rfl wf_12_121 dX12_cantOf_38 ?_
  refine v_iconst ⟨by decide, by decide⟩ dX12_cantOf_41 ?_
  refine v_iload_n (f := 1) 1 rfl dX12_cantOf_42 ?_
  refine v_imulN g3 dX12_cantOf_43 ?_
  refine v_iconst ⟨by decide, by decide⟩ dX12_cantOf_44 ?_
  refine v_iaddN g4 dX12_cantOf_45 ?_
  refine v_iaload kd_196 g5 (by decide) dX12_cantOf_46 ?_
  replace h := b_wp_l h
  refine v_istore_n (g := 3) (i := 3) (ls' := [(3, bI _), (0, bR _), (1, bI _), (2, bI _)]) rfl (by decide) dX12_cantOf_47 rfl ?_
  refine v_iload_n (f := 3) 0 rfl dX12_cantOf_48 ?_
  refine v_iconst ⟨by decide, by decide⟩ dX12_cantOf_49 ?_
  refine v_icmp_eq (tgt := 110) dX12_cantOf_50 (by decide) (fun c7 => ?_) (fun c7 => ?_)
  · replace h := b_wp_t c7 h
    refine v_sub (ls2 := [(0, bR _), (1, bI _), (2, bI _)]) [1, 2, 3] rfl ?_
    exact t_X12_cantOf_b110 h
  · replace h := b_wp_f c7 h
    obtain ⟨⟨g42, g43⟩, h⟩ := b_wp_g h
    refine v_aload_n (f := 0) 1 rfl dX12_cantOf_53 ?_
    refine v_getR (kf := 22) (kz := 22) rfl kd_11 rfl ⟨by decide, by decide⟩ rfl wf_12_39 dX12_cantOf_54 ?_
    refine v_iload_n (f := 3) 0 rfl dX12_cantOf_57 ?_
    refine v_iaload kd_170 g42 (by decide) dX12_cantOf_58 ?_
    refine v_aload_n (f := 0) 1 rfl dX12_cantOf_59 ?_
    refine v_getR (kf := 59) (kz := 59) rfl kd_11 rfl ⟨by decide, by decide⟩ rfl wf_12_127 dX12_cantOf_60 ?_
    refine v_iload_n (f := 1) 2 rfl dX12_cantOf_63 ?_
    refine v_iaload kd_198 g43 (by decide) dX12_cantOf_64 ?_
    refine v_icmp_gt (tgt := 108) dX12_cantOf_65 (by decide) (fun c44 => ?_) (fun c44 => ?_)
    · replace h := b_wp_t c44 h
      refine v_iconst ⟨by decide, by decide⟩ dX12_cantOf_108 ?_
      refine v_ireturn rfl dX12_cantOf_109 ⟨by decide, by decide⟩ ?_
      exact ⟨_, rfl, rfl, h⟩
    · replace h := b_wp_f c44 h
      obtain ⟨g45, h⟩ := b_wp_g h
      refine v_aload_n (f := 0) 1 rfl dX12_cantOf_68 ?_
      refine v_getR (kf := 23) (kz := 23) rfl kd_11 rfl ⟨by decide, by decide⟩ rfl wf_12_42 dX12_cantOf_69 ?_
      refine v_iload_n (f := 3) 0 rfl dX12_cantOf_72 ?_
      refine v_iaload kd_171 g45 (by decide) dX12_cantOf_73 ?_
      refine v_iconst ⟨by decide, by decide⟩ dX12_cantOf_74 ?_
      refine v_icmp_eq (tgt := 110) dX12_cantOf_75 (by decide) (fun c46 => ?_) (fun c46 => ?_)
      · replace h := b_wp_t c46 h
        refine v_sub (ls2 := [(0, bR _), (1, bI _), (2, bI _)]) [1, 2, 3] rfl ?_
        exact t_X12_cantOf_b110 h
      · replace h := b_wp_f c46 h
        obtain ⟨⟨g47, g48⟩, h⟩ := b_wp_g h
        refine v_aload_n (f := 0) 1 rfl dX12_cantOf_78 ?_
        refine v_getR (kf := 23) (kz := 23) rfl kd_11 rfl ⟨by decide, by decide⟩ rfl wf_12_42 dX12_cantOf_79 ?_
        refine v_iload_n (f := 3) 0 rfl dX12_cantOf_82 ?_
        refine v_iaload kd_171 g47 (by decide) dX12_cantOf_83 ?_
        refine v_aload_n (f := 0) 1 rfl dX12_cantOf_84 ?_
        refine v_getR (kf := 58) (kz := 58) rfl kd_11 rfl ⟨by decide, by decide⟩ rfl wf_12_124 dX12_cantOf_85 ?_
        refine v_iload_n (f := 1) 2 rfl dX12_cantOf_88 ?_
        refine v_iaload kd_197 g48 (by decide) dX12_cantOf_89 ?_
        refine v_icmp_le (tgt := 108) dX12_cantOf_90 (by decide) (fun c49 => ?_) (fun c49 => ?_)
        · replace h := b_wp_t c49 h
          refine v_iconst ⟨by decide, by decide⟩ dX12_cantOf_108 ?_
          refine v_ireturn rfl dX12_cantOf_109 ⟨by decide, by decide⟩ ?_
          exact ⟨_, rfl, rfl, h⟩
        · replace h := b_wp_f c49 h
          obtain ⟨g50, h⟩ := b_wp_g h
          refine v_aload_n (f := 0) 1 rfl dX12_cantOf_93 ?_
          refine v_getR (kf := 23) (kz := 23) rfl kd_11 rfl ⟨by decide, by decide⟩ rfl wf_12_42 dX12_cantOf_94 ?_
          refine v_iload_n (f := 3) 0 rfl dX12_cantOf_97 ?_
          refine v_iaload kd_171 g50 (by decide) dX12_cantOf_98 ?_
          refine v_aload_n (f := 0) 1 rfl dX12_cantOf_99 ?_
          refine v_getR (kf := 22) (kz := 22) rfl kd_11 rfl ⟨by decide, by decide⟩ rfl wf_12_39 dX12_cantOf_100 ?_
          refine v_iload_n (f := 3) 0 rfl dX12_cantOf_103 ?_
          refine v_iaload kd_170 g50 (by decide) dX12_cantOf_104 ?_
          refine v_icmp_gt (tgt := 110) dX12_cantOf_105 (by decide) (fun c51 => ?_) (fun c51 => ?_)
          · replace h := b_wp_t c51 h
            refine v_sub (ls2 := [(0, bR _), (1, bI _), (2, bI _)]) [1, 2, 3] rfl ?_
            exact t_X12_cantOf_b110 h
          · replace h := b_wp_f c51 h
            refine v_iconst ⟨by decide, by decide⟩ dX12_cantOf_108 ?_
            refine v_ireturn rfl dX12_cantOf_109 ⟨by decide, by decide⟩ ?_
            exact ⟨_, rfl, rfl, h⟩
noncomputable def F_X12_cantOf (v1 : Int) (v2 : Int) (M : bM) : Option (Int) :=
  b_g (0 ≤ v1 ∧ v1 < 120) (if (M 200 v1) = 0 then (F_X12_cantOf_b37 v1 v2 M) else (b_g (0 ≤ v1 ∧ v1 < 120) (b_bind (F_X12_isOutside (M 201 v1) (M 202 v1) (M 202 v1) v2 M) (fun x53 => if x53 = 0 then (F_X12_cantOf_b37 v1 v2 M) else (some 1)))))
theorem t_X12_cantOf {l : Launch} {E : bE} {Q : Int → Prop} {v1 : Int} {v2 : Int} {M : bM} (h : b_wp (F_X12_cantOf v1 v2 M) (Q)) : V l E xX12_cantOf (0, 0) 0 [(0, bR 11), (1, bI v1), (2, bI v2)] [] M (b_pIp M Q) := by
  unfold F_X12_cantOf at h
  obtain ⟨g1, h⟩ := b_wp_g h
  refine v_aload_n (f := 0) 0 rfl dX12_cantOf_0 ?_
  refine v_getR (kf := 61) (kz := 61) rfl kd_11 rfl ⟨by decide, by decide⟩ rfl wf_12_133 dX12_cantOf_1 ?_
  refine v_iload_n (f := 1) 1 rfl dX12_cantOf_4 ?_
  refine v_zaload kd_200 g1 (by decide) dX12_cantOf_5 ?_
  refine v_if_eq (tgt := 37) dX12_cantOf_6 (by decide) (fun c2 => ?_) (fun c2 => ?_)
  · replace h := b_wp_t c2 h
    exact t_X12_cantOf_b37 h
  · replace h := b_wp_f c2 h
    obtain ⟨g52, h⟩ := b_wp_g h
    refine v_aload_n (f := 0) 0 rfl dX12_cantOf_9 ?_
    refine v_aload_n (f := 0) 0 rfl dX12_cantOf_10 ?_
    refine v_getR (kf := 62) (kz := 62) rfl kd_11 rfl ⟨by decide, by decide⟩ rfl wf_12_137 dX12_cantOf_11 ?_
    refine v_iload_n (f := 1) 1 rfl dX12_cantOf_14 ?_
    refine v_iaload kd_201 g52 (by decide) dX12_cantOf_15 ?_
    refine v_aload_n (f := 0) 0 rfl dX12_cantOf_16 ?_
    refine v_getR (kf := 63) (kz := 63) rfl kd_11 rfl ⟨by decide, by decide⟩ rfl wf_12_140 dX12_cantOf_17 ?_
    refine v_iload_n (f := 1) 1 rfl dX12_cantOf_20 ?_
    refine v_iaload kd_202 g52 (by decide) dX12_cantOf_21 ?_
    refine v_aload_n (f := 0) 0 rfl dX12_cantOf_22 ?_
    refine v_getR (kf := 63) (kz := 63) rfl kd_11 rfl ⟨by decide, by decide⟩ rfl wf_12_140 dX12_cantOf_23 ?_
    refine v_iload_n (f := 1) 1 rfl dX12_cantOf_26 ?_
    refine v_iaload kd_202 g52 (by decide) dX12_cantOf_27 ?_
    refine v_iload_n (f := 2) 2 rfl dX12_cantOf_28 ?_
    refine v_cVIp (nA := 4) (As := [bI _, bI _, bI _, bI _]) (ix := 517) (cf_X12_isOutside (b_wp_b h)) rfl kd_11 rfl rfl wc_X12_isOutside wm_12_517 wi_X12_isOutside ws_X12_isOutside wn_12 ⟨by decide, by decide, by decide⟩ rfl ⟨by decide, by decide⟩ ⟨by decide, by decide⟩ (Nat.le_of_ble_eq_true rfl) dX12_cantOf_29 (fun x53 h => ?_)
    refine v_if_eq (tgt := 37) dX12_cantOf_32 (by decide) (fun c54 => ?_) (fun c54 => ?_)
    · replace h := b_wp_t c54 h
      exact t_X12_cantOf_b37 h
    · replace h := b_wp_f c54 h
      refine v_iconst ⟨by decide, by decide⟩ dX12_cantOf_35 ?_
      refine v_ireturn rfl dX12_cantOf_36 ⟨by decide, by decide⟩ ?_
      exact ⟨_, rfl, rfl, h⟩
theorem cf_X12_cantOf {l : Launch} {E : bE} {M : bM} {v1 : Int} {v2 : Int} {Q : Int → Prop} (h : b_wp (F_X12_cantOf v1 v2 M) Q) : b_C l E xX12_cantOf yX12_cantOf [bR 11, bI v1, bI v2] M (b_pIp M Q) := b_met (by decide) ⟨rfl, rfl⟩ (Nat.le_of_ble_eq_true rfl) (fun _ _ => t_X12_cantOf h)
