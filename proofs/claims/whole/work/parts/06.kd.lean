theorem kd_0 : b_kd 0 = (0, 11, 11) := by decide +kernel
theorem kd_1 : b_kd 1 = (0, 10, 8) := by decide +kernel
theorem kd_2 : b_kd 2 = (0, 8, 14) := by decide +kernel
theorem kd_3 : b_kd 3 = (0, 5, 20) := by decide +kernel
theorem kd_4 : b_kd 4 = (0, 1, 12) := by decide +kernel
theorem kd_5 : b_kd 5 = (0, 7, 19) := by decide +kernel
theorem kd_6 : b_kd 6 = (0, 4, 13) := by decide +kernel
theorem kd_7 : b_kd 7 = (0, 2, 20) := by decide +kernel
theorem kd_8 : b_kd 8 = (0, 6, 8) := by decide +kernel
theorem kd_9 : b_kd 9 = (0, 3, 15) := by decide +kernel
theorem kd_10 : b_kd 10 = (0, 9, 16) := by decide +kernel
theorem kd_11 : b_kd 11 = (0, 12, 125) := by decide +kernel
theorem kd_12 : b_kd 12 = (0, 0, 6) := by decide +kernel
theorem kd_13 : b_kd 13 = (0, 0, 6) := by decide +kernel
theorem kd_14 : b_kd 14 = (0, 0, 6) := by decide +kernel
theorem kd_15 : b_kd 15 = (0, 0, 6) := by decide +kernel
theorem kd_16 : b_kd 16 = (0, 0, 6) := by decide +kernel
theorem kd_17 : b_kd 17 = (0, 0, 6) := by decide +kernel
theorem kd_18 : b_kd 18 = (0, 0, 6) := by decide +kernel
theorem kd_19 : b_kd 19 = (0, 0, 6) := by decide +kernel
theorem kd_20 : b_kd 20 = (0, 0, 6) := by decide +kernel
theorem kd_21 : b_kd 21 = (0, 0, 6) := by decide +kernel
theorem kd_22 : b_kd 22 = (1, 10, 0) := by decide +kernel
theorem kd_23 : b_kd 23 = (1, 10, 0) := by decide +kernel
theorem kd_24 : b_kd 24 = (1, 10, 0) := by decide +kernel
theorem kd_25 : b_kd 25 = (1, 10, 0) := by decide +kernel
theorem kd_26 : b_kd 26 = (1, 10, 0) := by decide +kernel
theorem kd_27 : b_kd 27 = (1, 10, 0) := by decide +kernel
theorem kd_28 : b_kd 28 = (1, 10, 0) := by decide +kernel
theorem kd_29 : b_kd 29 = (1, 10, 0) := by decide +kernel
theorem kd_30 : b_kd 30 = (1, 10, 0) := by decide +kernel
theorem kd_31 : b_kd 31 = (1, 10, 0) := by decide +kernel
theorem kd_32 : b_kd 32 = (1, 24, 0) := by decide +kernel
theorem kd_33 : b_kd 33 = (1, 24, 0) := by decide +kernel
theorem kd_34 : b_kd 34 = (1, 24, 0) := by decide +kernel
theorem kd_35 : b_kd 35 = (1, 24, 0) := by decide +kernel
theorem kd_36 : b_kd 36 = (1, 24, 0) := by decide +kernel
theorem kd_37 : b_kd 37 = (1, 24, 0) := by decide +kernel
theorem kd_38 : b_kd 38 = (1, 24, 0) := by decide +kernel
theorem kd_39 : b_kd 39 = (1, 24, 0) := by decide +kernel
theorem kd_40 : b_kd 40 = (1, 24, 0) := by decide +kernel
theorem kd_41 : b_kd 41 = (1, 24, 0) := by decide +kernel
theorem kd_42 : b_kd 42 = (9, 0, 0) := by decide +kernel
theorem kd_43 : b_kd 43 = (9, 0, 0) := by decide +kernel
theorem kd_44 : b_kd 44 = (9, 0, 0) := by decide +kernel
theorem kd_45 : b_kd 45 = (9, 0, 0) := by decide +kernel
theorem kd_46 : b_kd 46 = (9, 0, 0) := by decide +kernel
theorem kd_47 : b_kd 47 = (9, 0, 0) := by decide +kernel
theorem kd_48 : b_kd 48 = (9, 0, 0) := by decide +kernel
theorem kd_49 : b_kd 49 = (9, 0, 0) := by decide +kernel
theorem kd_50 : b_kd 50 = (9, 0, 0) := by decide +kernel
theorem kd_51 : b_kd 51 = (9, 0, 0) := by decide +kernel
theorem kd_52 : b_kd 52 = (1, 25, 0) := by decide +kernel
theorem kd_53 : b_kd 53 = (1, 25, 0) := by decide +kernel
theorem kd_54 : b_kd 54 = (1, 25, 0) := by decide +kernel
theorem kd_55 : b_kd 55 = (1, 25, 0) := by decide +kernel
theorem kd_56 : b_kd 56 = (1, 25, 0) := by decide +kernel
theorem kd_57 : b_kd 57 = (1, 25, 0) := by decide +kernel
theorem kd_58 : b_kd 58 = (1, 25, 0) := by decide +kernel
theorem kd_59 : b_kd 59 = (1, 25, 0) := by decide +kernel
theorem kd_60 : b_kd 60 = (1, 25, 0) := by decide +kernel
theorem kd_61 : b_kd 61 = (1, 25, 0) := by decide +kernel
theorem kd_62 : b_kd 62 = (6, 0, 0) := by decide +kernel
theorem kd_63 : b_kd 63 = (6, 0, 0) := by decide +kernel
theorem kd_64 : b_kd 64 = (6, 0, 0) := by decide +kernel
theorem kd_65 : b_kd 65 = (6, 0, 0) := by decide +kernel
theorem kd_66 : b_kd 66 = (6, 0, 0) := by decide +kernel
theorem kd_67 : b_kd 67 = (6, 0, 0) := by decide +kernel
theorem kd_68 : b_kd 68 = (6, 0, 0) := by decide +kernel
theorem kd_69 : b_kd 69 = (6, 0, 0) := by decide +kernel
theorem kd_70 : b_kd 70 = (6, 0, 0) := by decide +kernel
theorem kd_71 : b_kd 71 = (6, 0, 0) := by decide +kernel
theorem kd_72 : b_kd 72 = (2, 1000, 0) := by decide +kernel
theorem kd_73 : b_kd 73 = (9, 0, 0) := by decide +kernel
theorem kd_74 : b_kd 74 = (9, 0, 0) := by decide +kernel
theorem kd_75 : b_kd 75 = (9, 0, 0) := by decide +kernel
theorem kd_76 : b_kd 76 = (1, 80, 0) := by decide +kernel
theorem kd_77 : b_kd 77 = (1, 400, 0) := by decide +kernel
theorem kd_78 : b_kd 78 = (1, 400, 0) := by decide +kernel
theorem kd_79 : b_kd 79 = (1, 400, 0) := by decide +kernel
theorem kd_80 : b_kd 80 = (1, 400, 0) := by decide +kernel
theorem kd_81 : b_kd 81 = (1, 80, 0) := by decide +kernel
theorem kd_82 : b_kd 82 = (1, 80, 0) := by decide +kernel
theorem kd_83 : b_kd 83 = (4, 80, 0) := by decide +kernel
theorem kd_84 : b_kd 84 = (4, 80, 0) := by decide +kernel
theorem kd_85 : b_kd 85 = (4, 4, 0) := by decide +kernel
theorem kd_86 : b_kd 86 = (1, 60, 0) := by decide +kernel
theorem kd_87 : b_kd 87 = (1, 60, 0) := by decide +kernel
theorem kd_88 : b_kd 88 = (1, 60, 0) := by decide +kernel
theorem kd_89 : b_kd 89 = (1, 60, 0) := by decide +kernel
theorem kd_90 : b_kd 90 = (1, 60, 0) := by decide +kernel
theorem kd_91 : b_kd 91 = (4, 60, 0) := by decide +kernel
theorem kd_92 : b_kd 92 = (1, 60, 0) := by decide +kernel
theorem kd_93 : b_kd 93 = (1, 60, 0) := by decide +kernel
theorem kd_94 : b_kd 94 = (1, 60, 0) := by decide +kernel
theorem kd_95 : b_kd 95 = (1, 60, 0) := by decide +kernel
theorem kd_96 : b_kd 96 = (1, 60, 0) := by decide +kernel
theorem kd_97 : b_kd 97 = (1, 720, 0) := by decide +kernel
theorem kd_98 : b_kd 98 = (1, 12, 0) := by decide +kernel
theorem kd_99 : b_kd 99 = (1, 4, 0) := by decide +kernel
theorem kd_100 : b_kd 100 = (1, 13, 0) := by decide +kernel
theorem kd_101 : b_kd 101 = (1, 13, 0) := by decide +kernel
theorem kd_102 : b_kd 102 = (1, 13, 0) := by decide +kernel
theorem kd_103 : b_kd 103 = (1, 13, 0) := by decide +kernel
theorem kd_104 : b_kd 104 = (4, 11, 0) := by decide +kernel
theorem kd_105 : b_kd 105 = (4, 7, 0) := by decide +kernel
theorem kd_106 : b_kd 106 = (4, 7, 0) := by decide +kernel
theorem kd_107 : b_kd 107 = (5, 10, 0) := by decide +kernel
theorem kd_108 : b_kd 108 = (4, 1000, 0) := by decide +kernel
theorem kd_109 : b_kd 109 = (1, 6, 0) := by decide +kernel
theorem kd_110 : b_kd 110 = (1, 120, 0) := by decide +kernel
theorem kd_111 : b_kd 111 = (1, 120, 0) := by decide +kernel
theorem kd_112 : b_kd 112 = (1, 120, 0) := by decide +kernel
theorem kd_113 : b_kd 113 = (1, 120, 0) := by decide +kernel
theorem kd_114 : b_kd 114 = (1, 120, 0) := by decide +kernel
theorem kd_115 : b_kd 115 = (1, 360, 0) := by decide +kernel
theorem kd_116 : b_kd 116 = (1, 120, 0) := by decide +kernel
theorem kd_117 : b_kd 117 = (1, 120, 0) := by decide +kernel
theorem kd_118 : b_kd 118 = (1, 120, 0) := by decide +kernel
theorem kd_119 : b_kd 119 = (1, 120, 0) := by decide +kernel
theorem kd_120 : b_kd 120 = (4, 1440, 0) := by decide +kernel
theorem kd_121 : b_kd 121 = (1, 1440, 0) := by decide +kernel
theorem kd_122 : b_kd 122 = (4, 12, 0) := by decide +kernel
theorem kd_123 : b_kd 123 = (1, 12, 0) := by decide +kernel
theorem kd_124 : b_kd 124 = (1, 1080, 0) := by decide +kernel
theorem kd_125 : b_kd 125 = (1, 32, 0) := by decide +kernel
theorem kd_126 : b_kd 126 = (1, 300, 0) := by decide +kernel
theorem kd_127 : b_kd 127 = (3, 120, 0) := by decide +kernel
theorem kd_128 : b_kd 128 = (1, 120, 0) := by decide +kernel
theorem kd_129 : b_kd 129 = (1, 120, 0) := by decide +kernel
theorem kd_130 : b_kd 130 = (1, 30, 0) := by decide +kernel
theorem kd_131 : b_kd 131 = (1, 30, 0) := by decide +kernel
theorem kd_132 : b_kd 132 = (1, 30, 0) := by decide +kernel
theorem kd_133 : b_kd 133 = (1, 30, 0) := by decide +kernel
theorem kd_134 : b_kd 134 = (1, 30, 0) := by decide +kernel
theorem kd_135 : b_kd 135 = (1, 30, 0) := by decide +kernel
theorem kd_136 : b_kd 136 = (1, 90, 0) := by decide +kernel
theorem kd_137 : b_kd 137 = (1, 240, 0) := by decide +kernel
theorem kd_138 : b_kd 138 = (1, 30, 0) := by decide +kernel
theorem kd_139 : b_kd 139 = (1, 8, 0) := by decide +kernel
theorem kd_140 : b_kd 140 = (1, 12, 0) := by decide +kernel
theorem kd_141 : b_kd 141 = (1, 12, 0) := by decide +kernel
theorem kd_142 : b_kd 142 = (1, 40, 0) := by decide +kernel
theorem kd_143 : b_kd 143 = (1, 40, 0) := by decide +kernel
theorem kd_144 : b_kd 144 = (1, 40, 0) := by decide +kernel
theorem kd_145 : b_kd 145 = (1, 40, 0) := by decide +kernel
theorem kd_146 : b_kd 146 = (1, 40, 0) := by decide +kernel
theorem kd_147 : b_kd 147 = (1, 30, 0) := by decide +kernel
theorem kd_148 : b_kd 148 = (1, 30, 0) := by decide +kernel
theorem kd_149 : b_kd 149 = (1, 30, 0) := by decide +kernel
theorem kd_150 : b_kd 150 = (1, 30, 0) := by decide +kernel
theorem kd_151 : b_kd 151 = (1, 30, 0) := by decide +kernel
theorem kd_152 : b_kd 152 = (1, 60, 0) := by decide +kernel
theorem kd_153 : b_kd 153 = (1, 60, 0) := by decide +kernel
theorem kd_154 : b_kd 154 = (1, 60, 0) := by decide +kernel
theorem kd_155 : b_kd 155 = (1, 12, 0) := by decide +kernel
theorem kd_156 : b_kd 156 = (1, 12, 0) := by decide +kernel
theorem kd_157 : b_kd 157 = (1, 12, 0) := by decide +kernel
theorem kd_158 : b_kd 158 = (1, 30, 0) := by decide +kernel
theorem kd_159 : b_kd 159 = (1, 30, 0) := by decide +kernel
theorem kd_160 : b_kd 160 = (1, 240, 0) := by decide +kernel
theorem kd_161 : b_kd 161 = (1, 240, 0) := by decide +kernel
theorem kd_162 : b_kd 162 = (2, 1000, 0) := by decide +kernel
theorem kd_163 : b_kd 163 = (1, 80, 0) := by decide +kernel
theorem kd_164 : b_kd 164 = (1, 400, 0) := by decide +kernel
theorem kd_165 : b_kd 165 = (1, 400, 0) := by decide +kernel
theorem kd_166 : b_kd 166 = (1, 400, 0) := by decide +kernel
theorem kd_167 : b_kd 167 = (1, 400, 0) := by decide +kernel
theorem kd_168 : b_kd 168 = (1, 80, 0) := by decide +kernel
theorem kd_169 : b_kd 169 = (1, 60, 0) := by decide +kernel
theorem kd_170 : b_kd 170 = (1, 60, 0) := by decide +kernel
theorem kd_171 : b_kd 171 = (1, 60, 0) := by decide +kernel
theorem kd_172 : b_kd 172 = (1, 60, 0) := by decide +kernel
theorem kd_173 : b_kd 173 = (1, 60, 0) := by decide +kernel
theorem kd_174 : b_kd 174 = (4, 60, 0) := by decide +kernel
theorem kd_175 : b_kd 175 = (1, 60, 0) := by decide +kernel
theorem kd_176 : b_kd 176 = (1, 60, 0) := by decide +kernel
theorem kd_177 : b_kd 177 = (1, 60, 0) := by decide +kernel
theorem kd_178 : b_kd 178 = (1, 732, 0) := by decide +kernel
theorem kd_179 : b_kd 179 = (1, 732, 0) := by decide +kernel
theorem kd_180 : b_kd 180 = (1, 26, 0) := by decide +kernel
theorem kd_181 : b_kd 181 = (1, 26, 0) := by decide +kernel
theorem kd_182 : b_kd 182 = (1, 8, 0) := by decide +kernel
theorem kd_183 : b_kd 183 = (1, 110, 0) := by decide +kernel
theorem kd_184 : b_kd 184 = (1, 216, 0) := by decide +kernel
theorem kd_185 : b_kd 185 = (1, 216, 0) := by decide +kernel
theorem kd_186 : b_kd 186 = (1, 216, 0) := by decide +kernel
theorem kd_187 : b_kd 187 = (1, 216, 0) := by decide +kernel
theorem kd_188 : b_kd 188 = (1, 21600, 0) := by decide +kernel
theorem kd_189 : b_kd 189 = (1, 2592, 0) := by decide +kernel
theorem kd_190 : b_kd 190 = (1, 2592, 0) := by decide +kernel
theorem kd_191 : b_kd 191 = (1, 2592, 0) := by decide +kernel
theorem kd_192 : b_kd 192 = (4, 15552, 0) := by decide +kernel
theorem kd_193 : b_kd 193 = (1, 15552, 0) := by decide +kernel
theorem kd_194 : b_kd 194 = (1, 120, 0) := by decide +kernel
theorem kd_195 : b_kd 195 = (1, 120, 0) := by decide +kernel
theorem kd_196 : b_kd 196 = (1, 360, 0) := by decide +kernel
theorem kd_197 : b_kd 197 = (1, 120, 0) := by decide +kernel
theorem kd_198 : b_kd 198 = (1, 120, 0) := by decide +kernel
theorem kd_199 : b_kd 199 = (1, 120, 0) := by decide +kernel
theorem kd_200 : b_kd 200 = (3, 120, 0) := by decide +kernel
theorem kd_201 : b_kd 201 = (1, 120, 0) := by decide +kernel
theorem kd_202 : b_kd 202 = (1, 120, 0) := by decide +kernel
theorem kd_203 : b_kd 203 = (1, 120, 0) := by decide +kernel
theorem kd_204 : b_kd 204 = (1, 120, 0) := by decide +kernel
theorem kd_205 : b_kd 205 = (4, 1452, 0) := by decide +kernel
theorem kd_206 : b_kd 206 = (1, 1452, 0) := by decide +kernel
theorem kd_207 : b_kd 207 = (1, 121, 0) := by decide +kernel
theorem kd_208 : b_kd 208 = (3, 120, 0) := by decide +kernel
theorem kd_209 : b_kd 209 = (1, 90, 0) := by decide +kernel
theorem kd_210 : b_kd 210 = (1, 90, 0) := by decide +kernel
theorem kd_211 : b_kd 211 = (1, 30, 0) := by decide +kernel
theorem kd_212 : b_kd 212 = (1, 30, 0) := by decide +kernel
theorem kd_213 : b_kd 213 = (1, 30, 0) := by decide +kernel
theorem kd_214 : b_kd 214 = (3, 120, 0) := by decide +kernel
theorem kd_215 : b_kd 215 = (1, 120, 0) := by decide +kernel
theorem kd_216 : b_kd 216 = (1, 120, 0) := by decide +kernel
theorem kd_217 : b_kd 217 = (1, 60, 0) := by decide +kernel
theorem kd_218 : b_kd 218 = (1, 60, 0) := by decide +kernel
theorem kd_219 : b_kd 219 = (1, 8, 0) := by decide +kernel
theorem kd_220 : b_kd 220 = (1, 240, 0) := by decide +kernel
theorem kd_221 : b_kd 221 = (3, 900, 0) := by decide +kernel
theorem kd_222 : b_kd 222 = (3, 1800, 0) := by decide +kernel
theorem kd_223 : b_kd 223 = (3, 30, 0) := by decide +kernel
theorem kd_224 : b_kd 224 = (1, 8, 0) := by decide +kernel
theorem kd_225 : b_kd 225 = (1, 40, 0) := by decide +kernel
theorem kd_226 : b_kd 226 = (1, 40, 0) := by decide +kernel
theorem kd_227 : b_kd 227 = (1, 40, 0) := by decide +kernel
theorem kd_228 : b_kd 228 = (1, 40, 0) := by decide +kernel
theorem kd_229 : b_kd 229 = (1, 40, 0) := by decide +kernel
theorem kd_230 : b_kd 230 = (1, 40, 0) := by decide +kernel
theorem kd_231 : b_kd 231 = (1, 30, 0) := by decide +kernel
theorem kd_232 : b_kd 232 = (1, 30, 0) := by decide +kernel
theorem kd_233 : b_kd 233 = (1, 30, 0) := by decide +kernel
theorem kd_234 : b_kd 234 = (1, 30, 0) := by decide +kernel
theorem kd_235 : b_kd 235 = (1, 30, 0) := by decide +kernel
theorem kd_236 : b_kd 236 = (1, 60, 0) := by decide +kernel
theorem kd_237 : b_kd 237 = (1, 60, 0) := by decide +kernel
theorem kd_238 : b_kd 238 = (1, 60, 0) := by decide +kernel
theorem kd_239 : b_kd 239 = (1, 30, 0) := by decide +kernel
theorem kd_240 : b_kd 240 = (1, 30, 0) := by decide +kernel
theorem kd_241 : b_kd 241 = (1, 12, 0) := by decide +kernel
theorem kd_242 : b_kd 242 = (1, 12, 0) := by decide +kernel
theorem kd_243 : b_kd 243 = (1, 12, 0) := by decide +kernel
theorem kd_244 : b_kd 244 = (1, 4096, 0) := by decide +kernel
theorem b_upc {M : bM} {c c2 : Nat} {i j x : Int} (h : c2 ≠ c) : b_up M c i x c2 j = M c2 j := by unfold b_up; rw [if_neg (fun q => h q.1)]
theorem b_upi {M : bM} {c : Nat} {i j x : Int} (h : j ≠ i) : b_up M c i x c j = M c j := by unfold b_up; rw [if_neg (fun q => h q.2)]
theorem b_ups {M : bM} {c : Nat} {i x : Int} : b_up M c i x c i = x := by unfold b_up; rw [if_pos ⟨rfl, rfl⟩]
theorem wma_max : Cond.static Lib.Math.max.name ∈ b_T := wi_J9_max_7cf53
theorem wmc_max : Cond.code Lib.Math.max.name Lib.Math.max.code 2 (some .int) ∈ b_T := b_mem (i := 788) (by decide +kernel) rfl
theorem wma_min : Cond.static Lib.Math.min.name ∈ b_T := wi_J9_min_7cf53
theorem wmc_min : Cond.code Lib.Math.min.name Lib.Math.min.code 2 (some .int) ∈ b_T := b_mem (i := 785) (by decide +kernel) rfl
theorem wma_abs : Cond.static Lib.Math.abs.name ∈ b_T := wi_J9_abs_0f7a4
theorem wmc_abs : Cond.code Lib.Math.abs.name Lib.Math.abs.code 1 (some .int) ∈ b_T := b_mem (i := 981) (by decide +kernel) rfl
theorem wa_byte : Cond.arrayClass .byte ∈ b_T := b_mem (i := 69) (by decide +kernel) rfl
theorem wa_int : Cond.arrayClass .int ∈ b_T := b_mem (i := 122) (by decide +kernel) rfl
theorem wa_long : Cond.arrayClass .long ∈ b_T := b_mem (i := 123) (by decide +kernel) rfl
theorem wa_boolean : Cond.arrayClass .boolean ∈ b_T := b_mem (i := 465) (by decide +kernel) rfl
theorem wob_i : Cond.instanceMethod Lib.objectInit ∈ b_T := b_mem (i := 27) (by decide +kernel) rfl
theorem wob_c : Cond.code Lib.objectInit ⟨#[0xb1]⟩ 1 none ∈ b_T := b_mem (i := 28) (by decide +kernel) rfl
def b_upl (M : bM) (l : List (Nat × Int × Int)) : bM := l.foldl (fun M u => b_up M u.1 u.2.1 u.2.2) M
theorem b_upl_ne {c : Nat} : ∀ (l : List (Nat × Int × Int)) (M : bM), (∀ u ∈ l, c ≠ u.1) → ∀ i, b_upl M l c i = M c i := by
  intro l
  induction l with
  | nil => intro M _ i; rfl
  | cons u l ih =>
    intro M h i
    show b_upl (b_up M u.1 u.2.1 u.2.2) l c i = M c i
    rw [ih _ (fun w hw => h w (List.mem_cons_of_mem _ hw)) i, b_upc (h u List.mem_cons_self)]
theorem wmi : Cond.initialized "java/lang/Math" ∈ b_T := wn_java_lang_Math
theorem v_name {l : Launch} {E : bE} {X : bX} {kn : Nat × Nat} {pc : Nat} {ls : bL} {st : List bV} {M : bM} {G : bG} {L : List Nat} {x : Int} (k : ∀ z, z = x → VL l E X L kn pc ls (bI z :: st) M G) : VL l E X L kn pc ls (bI x :: st) M G := k x rfl
theorem v_case {l : Launch} {E : bE} {X : bX} {kn : Nat × Nat} {pc : Nat} {ls : bL} {st : List bV} {M : bM} {G : bG} {L : List Nat} {x : Int} (v : Int) (a : x = v → VL l E X L kn pc ls (bI x :: st) M G) (b : x ≠ v → VL l E X L kn pc ls (bI x :: st) M G) : VL l E X L kn pc ls (bI x :: st) M G := by
  by_cases h : x = v
  · exact a h
  · exact b h
theorem b_sw {lo hi x : Int} {P : Prop} (a : (x < lo ∨ hi < x) → P) (b : (lo ≤ x ∧ x ≤ hi) → P) : P := by
  by_cases h : x < lo ∨ hi < x
  · exact a h
  · exact b (by omega)
theorem v_sub {l : Launch} {E : bE} {X : bX} {kn : Nat × Nat} {pc : Nat} {ls ls2 : bL} {st : List bV} {M : bM} {G : bG} {L : List Nat} (is : List Nat) (h : is.filterMap (fun i => ls[i]?) = ls2) (k : VL l E X L kn pc ls2 st M G) : VL l E X L kn pc ls st M G := by
  intro p e s m args below meth c H locs lsA A ad0 ad hX hS hL hsb hG
  have hm : ∀ q ∈ ls2, q ∈ ls := by
    intro q hq
    rw [← h] at hq
    obtain ⟨i, -, hi⟩ := List.mem_filterMap.mp hq
    exact List.mem_of_getElem? hi
  refine k p e s m args below meth c H locs lsA A ad0 ad hX hS ⟨⟨hL.1.1, hL.1.2.1, fun q hq => ?_⟩, fun q hq => hL.2.1 q (hm q hq), hL.2.2⟩ hsb hG
  obtain ⟨w, hw, rfl⟩ := List.mem_map.mp hq
  exact hL.1.2.2 _ (List.mem_map.mpr ⟨w, hm w hw, rfl⟩)
def b_sum (f : Int → Int) : Nat → Int
  | 0 => 0
  | n + 1 => b_sum f n + f n
theorem b_i01 (P : Prop) [Decidable P] : ((if P then (1 : Int) else 0) = 1 ↔ P) ∧ ((if P then (1 : Int) else 0) = 0 ∨ (if P then (1 : Int) else 0) = 1) := by
  by_cases h : P <;> simp [h]
def b_b (P : Prop) (b : Int) : Prop := (b = 1 ∧ P) ∨ (b = 0 ∧ ¬ P)
