theorem d_Md_init_0 : decode c_Md_init 0 = .ok (.aload_n 0, 1) := by decide +kernel
theorem d_Md_init_1 : decode c_Md_init 1 = .ok (.invokespecial 1, 3) := by decide +kernel
theorem d_Md_init_4 : decode c_Md_init 4 = .ok (.aload_n 0, 1) := by decide +kernel
theorem d_Md_init_5 : decode c_Md_init 5 = .ok (.bipush 106, 2) := by decide +kernel
theorem d_Md_init_7 : decode c_Md_init 7 = .ok (.newarray .int, 2) := by decide +kernel
theorem d_Md_init_9 : decode c_Md_init 9 = .ok (.dup, 1) := by decide +kernel
theorem d_Md_init_10 : decode c_Md_init 10 = .ok (.iconst 0, 1) := by decide +kernel
theorem d_Md_init_11 : decode c_Md_init 11 = .ok (.ldc 7, 2) := by decide +kernel
theorem d_Md_init_13 : decode c_Md_init 13 = .ok (.iastore, 1) := by decide +kernel
theorem d_Md_init_14 : decode c_Md_init 14 = .ok (.dup, 1) := by decide +kernel
theorem d_Md_init_15 : decode c_Md_init 15 = .ok (.iconst 1, 1) := by decide +kernel
theorem d_Md_init_16 : decode c_Md_init 16 = .ok (.ldc 8, 2) := by decide +kernel
theorem d_Md_init_18 : decode c_Md_init 18 = .ok (.iastore, 1) := by decide +kernel
theorem d_Md_init_19 : decode c_Md_init 19 = .ok (.dup, 1) := by decide +kernel
theorem d_Md_init_20 : decode c_Md_init 20 = .ok (.iconst 2, 1) := by decide +kernel
theorem d_Md_init_21 : decode c_Md_init 21 = .ok (.ldc 9, 2) := by decide +kernel
theorem d_Md_init_23 : decode c_Md_init 23 = .ok (.iastore, 1) := by decide +kernel
theorem d_Md_init_24 : decode c_Md_init 24 = .ok (.dup, 1) := by decide +kernel
theorem d_Md_init_25 : decode c_Md_init 25 = .ok (.iconst 3, 1) := by decide +kernel
theorem d_Md_init_26 : decode c_Md_init 26 = .ok (.ldc 10, 2) := by decide +kernel
theorem d_Md_init_28 : decode c_Md_init 28 = .ok (.iastore, 1) := by decide +kernel
theorem d_Md_init_29 : decode c_Md_init 29 = .ok (.dup, 1) := by decide +kernel
theorem d_Md_init_30 : decode c_Md_init 30 = .ok (.iconst 4, 1) := by decide +kernel
theorem d_Md_init_31 : decode c_Md_init 31 = .ok (.ldc 11, 2) := by decide +kernel
theorem d_Md_init_33 : decode c_Md_init 33 = .ok (.iastore, 1) := by decide +kernel
theorem d_Md_init_34 : decode c_Md_init 34 = .ok (.dup, 1) := by decide +kernel
theorem d_Md_init_35 : decode c_Md_init 35 = .ok (.iconst 5, 1) := by decide +kernel
theorem d_Md_init_36 : decode c_Md_init 36 = .ok (.ldc 12, 2) := by decide +kernel
theorem d_Md_init_38 : decode c_Md_init 38 = .ok (.iastore, 1) := by decide +kernel
theorem d_Md_init_39 : decode c_Md_init 39 = .ok (.dup, 1) := by decide +kernel
theorem d_Md_init_40 : decode c_Md_init 40 = .ok (.bipush 6, 2) := by decide +kernel
theorem d_Md_init_42 : decode c_Md_init 42 = .ok (.ldc 13, 2) := by decide +kernel
theorem d_Md_init_44 : decode c_Md_init 44 = .ok (.iastore, 1) := by decide +kernel
theorem d_Md_init_45 : decode c_Md_init 45 = .ok (.dup, 1) := by decide +kernel
theorem d_Md_init_46 : decode c_Md_init 46 = .ok (.bipush 7, 2) := by decide +kernel
theorem d_Md_init_48 : decode c_Md_init 48 = .ok (.ldc 14, 2) := by decide +kernel
theorem d_Md_init_50 : decode c_Md_init 50 = .ok (.iastore, 1) := by decide +kernel
theorem d_Md_init_51 : decode c_Md_init 51 = .ok (.dup, 1) := by decide +kernel
theorem d_Md_init_52 : decode c_Md_init 52 = .ok (.bipush 8, 2) := by decide +kernel
theorem d_Md_init_54 : decode c_Md_init 54 = .ok (.ldc 15, 2) := by decide +kernel
theorem d_Md_init_56 : decode c_Md_init 56 = .ok (.iastore, 1) := by decide +kernel
theorem d_Md_init_57 : decode c_Md_init 57 = .ok (.dup, 1) := by decide +kernel
theorem d_Md_init_58 : decode c_Md_init 58 = .ok (.bipush 9, 2) := by decide +kernel
theorem d_Md_init_60 : decode c_Md_init 60 = .ok (.ldc 16, 2) := by decide +kernel
theorem d_Md_init_62 : decode c_Md_init 62 = .ok (.iastore, 1) := by decide +kernel
theorem d_Md_init_63 : decode c_Md_init 63 = .ok (.dup, 1) := by decide +kernel
theorem d_Md_init_64 : decode c_Md_init 64 = .ok (.bipush 10, 2) := by decide +kernel
theorem d_Md_init_66 : decode c_Md_init 66 = .ok (.ldc 17, 2) := by decide +kernel
theorem d_Md_init_68 : decode c_Md_init 68 = .ok (.iastore, 1) := by decide +kernel
theorem d_Md_init_69 : decode c_Md_init 69 = .ok (.dup, 1) := by decide +kernel
theorem d_Md_init_70 : decode c_Md_init 70 = .ok (.bipush 11, 2) := by decide +kernel
theorem d_Md_init_72 : decode c_Md_init 72 = .ok (.ldc 18, 2) := by decide +kernel
theorem d_Md_init_74 : decode c_Md_init 74 = .ok (.iastore, 1) := by decide +kernel
theorem d_Md_init_75 : decode c_Md_init 75 = .ok (.dup, 1) := by decide +kernel
theorem d_Md_init_76 : decode c_Md_init 76 = .ok (.bipush 12, 2) := by decide +kernel
theorem d_Md_init_78 : decode c_Md_init 78 = .ok (.ldc 19, 2) := by decide +kernel
theorem d_Md_init_80 : decode c_Md_init 80 = .ok (.iastore, 1) := by decide +kernel
theorem d_Md_init_81 : decode c_Md_init 81 = .ok (.dup, 1) := by decide +kernel
theorem d_Md_init_82 : decode c_Md_init 82 = .ok (.bipush 13, 2) := by decide +kernel
theorem d_Md_init_84 : decode c_Md_init 84 = .ok (.ldc 20, 2) := by decide +kernel
theorem d_Md_init_86 : decode c_Md_init 86 = .ok (.iastore, 1) := by decide +kernel
theorem d_Md_init_87 : decode c_Md_init 87 = .ok (.dup, 1) := by decide +kernel
theorem d_Md_init_88 : decode c_Md_init 88 = .ok (.bipush 14, 2) := by decide +kernel
theorem d_Md_init_90 : decode c_Md_init 90 = .ok (.ldc 21, 2) := by decide +kernel
theorem d_Md_init_92 : decode c_Md_init 92 = .ok (.iastore, 1) := by decide +kernel
theorem d_Md_init_93 : decode c_Md_init 93 = .ok (.dup, 1) := by decide +kernel
theorem d_Md_init_94 : decode c_Md_init 94 = .ok (.bipush 15, 2) := by decide +kernel
theorem d_Md_init_96 : decode c_Md_init 96 = .ok (.ldc 22, 2) := by decide +kernel
theorem d_Md_init_98 : decode c_Md_init 98 = .ok (.iastore, 1) := by decide +kernel
theorem d_Md_init_99 : decode c_Md_init 99 = .ok (.dup, 1) := by decide +kernel
theorem d_Md_init_100 : decode c_Md_init 100 = .ok (.bipush 16, 2) := by decide +kernel
theorem d_Md_init_102 : decode c_Md_init 102 = .ok (.ldc 23, 2) := by decide +kernel
theorem d_Md_init_104 : decode c_Md_init 104 = .ok (.iastore, 1) := by decide +kernel
theorem d_Md_init_105 : decode c_Md_init 105 = .ok (.dup, 1) := by decide +kernel
theorem d_Md_init_106 : decode c_Md_init 106 = .ok (.bipush 17, 2) := by decide +kernel
theorem d_Md_init_108 : decode c_Md_init 108 = .ok (.ldc 24, 2) := by decide +kernel
theorem d_Md_init_110 : decode c_Md_init 110 = .ok (.iastore, 1) := by decide +kernel
theorem d_Md_init_111 : decode c_Md_init 111 = .ok (.dup, 1) := by decide +kernel
theorem d_Md_init_112 : decode c_Md_init 112 = .ok (.bipush 18, 2) := by decide +kernel
theorem d_Md_init_114 : decode c_Md_init 114 = .ok (.ldc 25, 2) := by decide +kernel
theorem d_Md_init_116 : decode c_Md_init 116 = .ok (.iastore, 1) := by decide +kernel
theorem d_Md_init_117 : decode c_Md_init 117 = .ok (.dup, 1) := by decide +kernel
theorem d_Md_init_118 : decode c_Md_init 118 = .ok (.bipush 19, 2) := by decide +kernel
theorem d_Md_init_120 : decode c_Md_init 120 = .ok (.ldc 26, 2) := by decide +kernel
theorem d_Md_init_122 : decode c_Md_init 122 = .ok (.iastore, 1) := by decide +kernel
theorem d_Md_init_123 : decode c_Md_init 123 = .ok (.dup, 1) := by decide +kernel
theorem d_Md_init_124 : decode c_Md_init 124 = .ok (.bipush 20, 2) := by decide +kernel
theorem d_Md_init_126 : decode c_Md_init 126 = .ok (.ldc 27, 2) := by decide +kernel
theorem d_Md_init_128 : decode c_Md_init 128 = .ok (.iastore, 1) := by decide +kernel
theorem d_Md_init_129 : decode c_Md_init 129 = .ok (.dup, 1) := by decide +kernel
theorem d_Md_init_130 : decode c_Md_init 130 = .ok (.bipush 21, 2) := by decide +kernel
theorem d_Md_init_132 : decode c_Md_init 132 = .ok (.ldc 28, 2) := by decide +kernel
theorem d_Md_init_134 : decode c_Md_init 134 = .ok (.iastore, 1) := by decide +kernel
theorem d_Md_init_135 : decode c_Md_init 135 = .ok (.dup, 1) := by decide +kernel
theorem d_Md_init_136 : decode c_Md_init 136 = .ok (.bipush 22, 2) := by decide +kernel
theorem d_Md_init_138 : decode c_Md_init 138 = .ok (.ldc 29, 2) := by decide +kernel
theorem d_Md_init_140 : decode c_Md_init 140 = .ok (.iastore, 1) := by decide +kernel
theorem d_Md_init_141 : decode c_Md_init 141 = .ok (.dup, 1) := by decide +kernel
theorem d_Md_init_142 : decode c_Md_init 142 = .ok (.bipush 23, 2) := by decide +kernel
theorem d_Md_init_144 : decode c_Md_init 144 = .ok (.ldc 30, 2) := by decide +kernel
theorem d_Md_init_146 : decode c_Md_init 146 = .ok (.iastore, 1) := by decide +kernel
theorem d_Md_init_147 : decode c_Md_init 147 = .ok (.dup, 1) := by decide +kernel
theorem d_Md_init_148 : decode c_Md_init 148 = .ok (.bipush 24, 2) := by decide +kernel
theorem d_Md_init_150 : decode c_Md_init 150 = .ok (.ldc 31, 2) := by decide +kernel
theorem d_Md_init_152 : decode c_Md_init 152 = .ok (.iastore, 1) := by decide +kernel
theorem d_Md_init_153 : decode c_Md_init 153 = .ok (.dup, 1) := by decide +kernel
theorem d_Md_init_154 : decode c_Md_init 154 = .ok (.bipush 25, 2) := by decide +kernel
theorem d_Md_init_156 : decode c_Md_init 156 = .ok (.ldc 32, 2) := by decide +kernel
theorem d_Md_init_158 : decode c_Md_init 158 = .ok (.iastore, 1) := by decide +kernel
theorem d_Md_init_159 : decode c_Md_init 159 = .ok (.dup, 1) := by decide +kernel
theorem d_Md_init_160 : decode c_Md_init 160 = .ok (.bipush 26, 2) := by decide +kernel
theorem d_Md_init_162 : decode c_Md_init 162 = .ok (.ldc 33, 2) := by decide +kernel
theorem d_Md_init_164 : decode c_Md_init 164 = .ok (.iastore, 1) := by decide +kernel
theorem d_Md_init_165 : decode c_Md_init 165 = .ok (.dup, 1) := by decide +kernel
theorem d_Md_init_166 : decode c_Md_init 166 = .ok (.bipush 27, 2) := by decide +kernel
theorem d_Md_init_168 : decode c_Md_init 168 = .ok (.ldc 34, 2) := by decide +kernel
theorem d_Md_init_170 : decode c_Md_init 170 = .ok (.iastore, 1) := by decide +kernel
theorem d_Md_init_171 : decode c_Md_init 171 = .ok (.dup, 1) := by decide +kernel
theorem d_Md_init_172 : decode c_Md_init 172 = .ok (.bipush 28, 2) := by decide +kernel
theorem d_Md_init_174 : decode c_Md_init 174 = .ok (.ldc 35, 2) := by decide +kernel
theorem d_Md_init_176 : decode c_Md_init 176 = .ok (.iastore, 1) := by decide +kernel
theorem d_Md_init_177 : decode c_Md_init 177 = .ok (.dup, 1) := by decide +kernel
theorem d_Md_init_178 : decode c_Md_init 178 = .ok (.bipush 29, 2) := by decide +kernel
theorem d_Md_init_180 : decode c_Md_init 180 = .ok (.ldc 36, 2) := by decide +kernel
theorem d_Md_init_182 : decode c_Md_init 182 = .ok (.iastore, 1) := by decide +kernel
theorem d_Md_init_183 : decode c_Md_init 183 = .ok (.dup, 1) := by decide +kernel
theorem d_Md_init_184 : decode c_Md_init 184 = .ok (.bipush 30, 2) := by decide +kernel
theorem d_Md_init_186 : decode c_Md_init 186 = .ok (.ldc 37, 2) := by decide +kernel
theorem d_Md_init_188 : decode c_Md_init 188 = .ok (.iastore, 1) := by decide +kernel
theorem d_Md_init_189 : decode c_Md_init 189 = .ok (.dup, 1) := by decide +kernel
theorem d_Md_init_190 : decode c_Md_init 190 = .ok (.bipush 31, 2) := by decide +kernel
theorem d_Md_init_192 : decode c_Md_init 192 = .ok (.ldc 38, 2) := by decide +kernel
theorem d_Md_init_194 : decode c_Md_init 194 = .ok (.iastore, 1) := by decide +kernel
theorem d_Md_init_195 : decode c_Md_init 195 = .ok (.dup, 1) := by decide +kernel
theorem d_Md_init_196 : decode c_Md_init 196 = .ok (.bipush 32, 2) := by decide +kernel
theorem d_Md_init_198 : decode c_Md_init 198 = .ok (.ldc 39, 2) := by decide +kernel
theorem d_Md_init_200 : decode c_Md_init 200 = .ok (.iastore, 1) := by decide +kernel
theorem d_Md_init_201 : decode c_Md_init 201 = .ok (.dup, 1) := by decide +kernel
theorem d_Md_init_202 : decode c_Md_init 202 = .ok (.bipush 33, 2) := by decide +kernel
theorem d_Md_init_204 : decode c_Md_init 204 = .ok (.ldc 40, 2) := by decide +kernel
theorem d_Md_init_206 : decode c_Md_init 206 = .ok (.iastore, 1) := by decide +kernel
theorem d_Md_init_207 : decode c_Md_init 207 = .ok (.dup, 1) := by decide +kernel
theorem d_Md_init_208 : decode c_Md_init 208 = .ok (.bipush 34, 2) := by decide +kernel
theorem d_Md_init_210 : decode c_Md_init 210 = .ok (.ldc 41, 2) := by decide +kernel
theorem d_Md_init_212 : decode c_Md_init 212 = .ok (.iastore, 1) := by decide +kernel
theorem d_Md_init_213 : decode c_Md_init 213 = .ok (.dup, 1) := by decide +kernel
theorem d_Md_init_214 : decode c_Md_init 214 = .ok (.bipush 35, 2) := by decide +kernel
theorem d_Md_init_216 : decode c_Md_init 216 = .ok (.ldc 42, 2) := by decide +kernel
theorem d_Md_init_218 : decode c_Md_init 218 = .ok (.iastore, 1) := by decide +kernel
theorem d_Md_init_219 : decode c_Md_init 219 = .ok (.dup, 1) := by decide +kernel
theorem d_Md_init_220 : decode c_Md_init 220 = .ok (.bipush 36, 2) := by decide +kernel
theorem d_Md_init_222 : decode c_Md_init 222 = .ok (.ldc 43, 2) := by decide +kernel
theorem d_Md_init_224 : decode c_Md_init 224 = .ok (.iastore, 1) := by decide +kernel
theorem d_Md_init_225 : decode c_Md_init 225 = .ok (.dup, 1) := by decide +kernel
theorem d_Md_init_226 : decode c_Md_init 226 = .ok (.bipush 37, 2) := by decide +kernel
theorem d_Md_init_228 : decode c_Md_init 228 = .ok (.ldc 44, 2) := by decide +kernel
theorem d_Md_init_230 : decode c_Md_init 230 = .ok (.iastore, 1) := by decide +kernel
theorem d_Md_init_231 : decode c_Md_init 231 = .ok (.dup, 1) := by decide +kernel
theorem d_Md_init_232 : decode c_Md_init 232 = .ok (.bipush 38, 2) := by decide +kernel
theorem d_Md_init_234 : decode c_Md_init 234 = .ok (.ldc 45, 2) := by decide +kernel
theorem d_Md_init_236 : decode c_Md_init 236 = .ok (.iastore, 1) := by decide +kernel
theorem d_Md_init_237 : decode c_Md_init 237 = .ok (.dup, 1) := by decide +kernel
theorem d_Md_init_238 : decode c_Md_init 238 = .ok (.bipush 39, 2) := by decide +kernel
theorem d_Md_init_240 : decode c_Md_init 240 = .ok (.ldc 46, 2) := by decide +kernel
theorem d_Md_init_242 : decode c_Md_init 242 = .ok (.iastore, 1) := by decide +kernel
theorem d_Md_init_243 : decode c_Md_init 243 = .ok (.dup, 1) := by decide +kernel
theorem d_Md_init_244 : decode c_Md_init 244 = .ok (.bipush 40, 2) := by decide +kernel
theorem d_Md_init_246 : decode c_Md_init 246 = .ok (.ldc 47, 2) := by decide +kernel
theorem d_Md_init_248 : decode c_Md_init 248 = .ok (.iastore, 1) := by decide +kernel
theorem d_Md_init_249 : decode c_Md_init 249 = .ok (.dup, 1) := by decide +kernel
theorem d_Md_init_250 : decode c_Md_init 250 = .ok (.bipush 41, 2) := by decide +kernel
theorem d_Md_init_252 : decode c_Md_init 252 = .ok (.ldc 48, 2) := by decide +kernel
theorem d_Md_init_254 : decode c_Md_init 254 = .ok (.iastore, 1) := by decide +kernel
theorem d_Md_init_255 : decode c_Md_init 255 = .ok (.dup, 1) := by decide +kernel
theorem d_Md_init_256 : decode c_Md_init 256 = .ok (.bipush 42, 2) := by decide +kernel
theorem d_Md_init_258 : decode c_Md_init 258 = .ok (.ldc 49, 2) := by decide +kernel
theorem d_Md_init_260 : decode c_Md_init 260 = .ok (.iastore, 1) := by decide +kernel
theorem d_Md_init_261 : decode c_Md_init 261 = .ok (.dup, 1) := by decide +kernel
theorem d_Md_init_262 : decode c_Md_init 262 = .ok (.bipush 43, 2) := by decide +kernel
theorem d_Md_init_264 : decode c_Md_init 264 = .ok (.ldc 50, 2) := by decide +kernel
theorem d_Md_init_266 : decode c_Md_init 266 = .ok (.iastore, 1) := by decide +kernel
theorem d_Md_init_267 : decode c_Md_init 267 = .ok (.dup, 1) := by decide +kernel
theorem d_Md_init_268 : decode c_Md_init 268 = .ok (.bipush 44, 2) := by decide +kernel
theorem d_Md_init_270 : decode c_Md_init 270 = .ok (.ldc 51, 2) := by decide +kernel
theorem d_Md_init_272 : decode c_Md_init 272 = .ok (.iastore, 1) := by decide +kernel
theorem d_Md_init_273 : decode c_Md_init 273 = .ok (.dup, 1) := by decide +kernel
theorem d_Md_init_274 : decode c_Md_init 274 = .ok (.bipush 45, 2) := by decide +kernel
theorem d_Md_init_276 : decode c_Md_init 276 = .ok (.ldc 52, 2) := by decide +kernel
theorem d_Md_init_278 : decode c_Md_init 278 = .ok (.iastore, 1) := by decide +kernel
theorem d_Md_init_279 : decode c_Md_init 279 = .ok (.dup, 1) := by decide +kernel
theorem d_Md_init_280 : decode c_Md_init 280 = .ok (.bipush 46, 2) := by decide +kernel
theorem d_Md_init_282 : decode c_Md_init 282 = .ok (.ldc 53, 2) := by decide +kernel
theorem d_Md_init_284 : decode c_Md_init 284 = .ok (.iastore, 1) := by decide +kernel
theorem d_Md_init_285 : decode c_Md_init 285 = .ok (.dup, 1) := by decide +kernel
theorem d_Md_init_286 : decode c_Md_init 286 = .ok (.bipush 47, 2) := by decide +kernel
theorem d_Md_init_288 : decode c_Md_init 288 = .ok (.ldc 54, 2) := by decide +kernel
theorem d_Md_init_290 : decode c_Md_init 290 = .ok (.iastore, 1) := by decide +kernel
theorem d_Md_init_291 : decode c_Md_init 291 = .ok (.dup, 1) := by decide +kernel
theorem d_Md_init_292 : decode c_Md_init 292 = .ok (.bipush 48, 2) := by decide +kernel
theorem d_Md_init_294 : decode c_Md_init 294 = .ok (.ldc 55, 2) := by decide +kernel
theorem d_Md_init_296 : decode c_Md_init 296 = .ok (.iastore, 1) := by decide +kernel
theorem d_Md_init_297 : decode c_Md_init 297 = .ok (.dup, 1) := by decide +kernel
theorem d_Md_init_298 : decode c_Md_init 298 = .ok (.bipush 49, 2) := by decide +kernel
theorem d_Md_init_300 : decode c_Md_init 300 = .ok (.ldc 56, 2) := by decide +kernel
theorem d_Md_init_302 : decode c_Md_init 302 = .ok (.iastore, 1) := by decide +kernel
theorem d_Md_init_303 : decode c_Md_init 303 = .ok (.dup, 1) := by decide +kernel
theorem d_Md_init_304 : decode c_Md_init 304 = .ok (.bipush 50, 2) := by decide +kernel
theorem d_Md_init_306 : decode c_Md_init 306 = .ok (.ldc 57, 2) := by decide +kernel
theorem d_Md_init_308 : decode c_Md_init 308 = .ok (.iastore, 1) := by decide +kernel
theorem d_Md_init_309 : decode c_Md_init 309 = .ok (.dup, 1) := by decide +kernel
theorem d_Md_init_310 : decode c_Md_init 310 = .ok (.bipush 51, 2) := by decide +kernel
theorem d_Md_init_312 : decode c_Md_init 312 = .ok (.ldc 58, 2) := by decide +kernel
theorem d_Md_init_314 : decode c_Md_init 314 = .ok (.iastore, 1) := by decide +kernel
theorem d_Md_init_315 : decode c_Md_init 315 = .ok (.dup, 1) := by decide +kernel
theorem d_Md_init_316 : decode c_Md_init 316 = .ok (.bipush 52, 2) := by decide +kernel
theorem d_Md_init_318 : decode c_Md_init 318 = .ok (.ldc 59, 2) := by decide +kernel
theorem d_Md_init_320 : decode c_Md_init 320 = .ok (.iastore, 1) := by decide +kernel
theorem d_Md_init_321 : decode c_Md_init 321 = .ok (.dup, 1) := by decide +kernel
theorem d_Md_init_322 : decode c_Md_init 322 = .ok (.bipush 53, 2) := by decide +kernel
theorem d_Md_init_324 : decode c_Md_init 324 = .ok (.ldc 60, 2) := by decide +kernel
theorem d_Md_init_326 : decode c_Md_init 326 = .ok (.iastore, 1) := by decide +kernel
theorem d_Md_init_327 : decode c_Md_init 327 = .ok (.dup, 1) := by decide +kernel
theorem d_Md_init_328 : decode c_Md_init 328 = .ok (.bipush 54, 2) := by decide +kernel
theorem d_Md_init_330 : decode c_Md_init 330 = .ok (.ldc 61, 2) := by decide +kernel
theorem d_Md_init_332 : decode c_Md_init 332 = .ok (.iastore, 1) := by decide +kernel
theorem d_Md_init_333 : decode c_Md_init 333 = .ok (.dup, 1) := by decide +kernel
theorem d_Md_init_334 : decode c_Md_init 334 = .ok (.bipush 55, 2) := by decide +kernel
theorem d_Md_init_336 : decode c_Md_init 336 = .ok (.ldc 62, 2) := by decide +kernel
theorem d_Md_init_338 : decode c_Md_init 338 = .ok (.iastore, 1) := by decide +kernel
theorem d_Md_init_339 : decode c_Md_init 339 = .ok (.dup, 1) := by decide +kernel
theorem d_Md_init_340 : decode c_Md_init 340 = .ok (.bipush 56, 2) := by decide +kernel
theorem d_Md_init_342 : decode c_Md_init 342 = .ok (.ldc 63, 2) := by decide +kernel
theorem d_Md_init_344 : decode c_Md_init 344 = .ok (.iastore, 1) := by decide +kernel
theorem d_Md_init_345 : decode c_Md_init 345 = .ok (.dup, 1) := by decide +kernel
theorem d_Md_init_346 : decode c_Md_init 346 = .ok (.bipush 57, 2) := by decide +kernel
theorem d_Md_init_348 : decode c_Md_init 348 = .ok (.ldc 64, 2) := by decide +kernel
theorem d_Md_init_350 : decode c_Md_init 350 = .ok (.iastore, 1) := by decide +kernel
theorem d_Md_init_351 : decode c_Md_init 351 = .ok (.dup, 1) := by decide +kernel
theorem d_Md_init_352 : decode c_Md_init 352 = .ok (.bipush 58, 2) := by decide +kernel
theorem d_Md_init_354 : decode c_Md_init 354 = .ok (.ldc 65, 2) := by decide +kernel
theorem d_Md_init_356 : decode c_Md_init 356 = .ok (.iastore, 1) := by decide +kernel
theorem d_Md_init_357 : decode c_Md_init 357 = .ok (.dup, 1) := by decide +kernel
theorem d_Md_init_358 : decode c_Md_init 358 = .ok (.bipush 59, 2) := by decide +kernel
theorem d_Md_init_360 : decode c_Md_init 360 = .ok (.ldc 66, 2) := by decide +kernel
theorem d_Md_init_362 : decode c_Md_init 362 = .ok (.iastore, 1) := by decide +kernel
theorem d_Md_init_363 : decode c_Md_init 363 = .ok (.dup, 1) := by decide +kernel
theorem d_Md_init_364 : decode c_Md_init 364 = .ok (.bipush 60, 2) := by decide +kernel
theorem d_Md_init_366 : decode c_Md_init 366 = .ok (.ldc 67, 2) := by decide +kernel
theorem d_Md_init_368 : decode c_Md_init 368 = .ok (.iastore, 1) := by decide +kernel
theorem d_Md_init_369 : decode c_Md_init 369 = .ok (.dup, 1) := by decide +kernel
theorem d_Md_init_370 : decode c_Md_init 370 = .ok (.bipush 61, 2) := by decide +kernel
theorem d_Md_init_372 : decode c_Md_init 372 = .ok (.ldc 68, 2) := by decide +kernel
theorem d_Md_init_374 : decode c_Md_init 374 = .ok (.iastore, 1) := by decide +kernel
theorem d_Md_init_375 : decode c_Md_init 375 = .ok (.dup, 1) := by decide +kernel
theorem d_Md_init_376 : decode c_Md_init 376 = .ok (.bipush 62, 2) := by decide +kernel
theorem d_Md_init_378 : decode c_Md_init 378 = .ok (.ldc 69, 2) := by decide +kernel
theorem d_Md_init_380 : decode c_Md_init 380 = .ok (.iastore, 1) := by decide +kernel
theorem d_Md_init_381 : decode c_Md_init 381 = .ok (.dup, 1) := by decide +kernel
theorem d_Md_init_382 : decode c_Md_init 382 = .ok (.bipush 63, 2) := by decide +kernel
theorem d_Md_init_384 : decode c_Md_init 384 = .ok (.ldc 70, 2) := by decide +kernel
theorem d_Md_init_386 : decode c_Md_init 386 = .ok (.iastore, 1) := by decide +kernel
theorem d_Md_init_387 : decode c_Md_init 387 = .ok (.dup, 1) := by decide +kernel
theorem d_Md_init_388 : decode c_Md_init 388 = .ok (.bipush 64, 2) := by decide +kernel
theorem d_Md_init_390 : decode c_Md_init 390 = .ok (.ldc 71, 2) := by decide +kernel
theorem d_Md_init_392 : decode c_Md_init 392 = .ok (.iastore, 1) := by decide +kernel
theorem d_Md_init_393 : decode c_Md_init 393 = .ok (.dup, 1) := by decide +kernel
theorem d_Md_init_394 : decode c_Md_init 394 = .ok (.bipush 65, 2) := by decide +kernel
theorem d_Md_init_396 : decode c_Md_init 396 = .ok (.ldc 72, 2) := by decide +kernel
theorem d_Md_init_398 : decode c_Md_init 398 = .ok (.iastore, 1) := by decide +kernel
theorem d_Md_init_399 : decode c_Md_init 399 = .ok (.dup, 1) := by decide +kernel
theorem d_Md_init_400 : decode c_Md_init 400 = .ok (.bipush 66, 2) := by decide +kernel
theorem d_Md_init_402 : decode c_Md_init 402 = .ok (.ldc 73, 2) := by decide +kernel
theorem d_Md_init_404 : decode c_Md_init 404 = .ok (.iastore, 1) := by decide +kernel
theorem d_Md_init_405 : decode c_Md_init 405 = .ok (.dup, 1) := by decide +kernel
theorem d_Md_init_406 : decode c_Md_init 406 = .ok (.bipush 67, 2) := by decide +kernel
theorem d_Md_init_408 : decode c_Md_init 408 = .ok (.ldc 74, 2) := by decide +kernel
theorem d_Md_init_410 : decode c_Md_init 410 = .ok (.iastore, 1) := by decide +kernel
theorem d_Md_init_411 : decode c_Md_init 411 = .ok (.dup, 1) := by decide +kernel
theorem d_Md_init_412 : decode c_Md_init 412 = .ok (.bipush 68, 2) := by decide +kernel
theorem d_Md_init_414 : decode c_Md_init 414 = .ok (.ldc 75, 2) := by decide +kernel
theorem d_Md_init_416 : decode c_Md_init 416 = .ok (.iastore, 1) := by decide +kernel
theorem d_Md_init_417 : decode c_Md_init 417 = .ok (.dup, 1) := by decide +kernel
theorem d_Md_init_418 : decode c_Md_init 418 = .ok (.bipush 69, 2) := by decide +kernel
theorem d_Md_init_420 : decode c_Md_init 420 = .ok (.ldc 76, 2) := by decide +kernel
theorem d_Md_init_422 : decode c_Md_init 422 = .ok (.iastore, 1) := by decide +kernel
theorem d_Md_init_423 : decode c_Md_init 423 = .ok (.dup, 1) := by decide +kernel
theorem d_Md_init_424 : decode c_Md_init 424 = .ok (.bipush 70, 2) := by decide +kernel
theorem d_Md_init_426 : decode c_Md_init 426 = .ok (.ldc 77, 2) := by decide +kernel
theorem d_Md_init_428 : decode c_Md_init 428 = .ok (.iastore, 1) := by decide +kernel
theorem d_Md_init_429 : decode c_Md_init 429 = .ok (.dup, 1) := by decide +kernel
theorem d_Md_init_430 : decode c_Md_init 430 = .ok (.bipush 71, 2) := by decide +kernel
theorem d_Md_init_432 : decode c_Md_init 432 = .ok (.ldc 78, 2) := by decide +kernel
theorem d_Md_init_434 : decode c_Md_init 434 = .ok (.iastore, 1) := by decide +kernel
theorem d_Md_init_435 : decode c_Md_init 435 = .ok (.dup, 1) := by decide +kernel
theorem d_Md_init_436 : decode c_Md_init 436 = .ok (.bipush 72, 2) := by decide +kernel
theorem d_Md_init_438 : decode c_Md_init 438 = .ok (.ldc 79, 2) := by decide +kernel
theorem d_Md_init_440 : decode c_Md_init 440 = .ok (.iastore, 1) := by decide +kernel
theorem d_Md_init_441 : decode c_Md_init 441 = .ok (.dup, 1) := by decide +kernel
theorem d_Md_init_442 : decode c_Md_init 442 = .ok (.bipush 73, 2) := by decide +kernel
theorem d_Md_init_444 : decode c_Md_init 444 = .ok (.ldc 80, 2) := by decide +kernel
theorem d_Md_init_446 : decode c_Md_init 446 = .ok (.iastore, 1) := by decide +kernel
theorem d_Md_init_447 : decode c_Md_init 447 = .ok (.dup, 1) := by decide +kernel
theorem d_Md_init_448 : decode c_Md_init 448 = .ok (.bipush 74, 2) := by decide +kernel
theorem d_Md_init_450 : decode c_Md_init 450 = .ok (.ldc 81, 2) := by decide +kernel
theorem d_Md_init_452 : decode c_Md_init 452 = .ok (.iastore, 1) := by decide +kernel
theorem d_Md_init_453 : decode c_Md_init 453 = .ok (.dup, 1) := by decide +kernel
theorem d_Md_init_454 : decode c_Md_init 454 = .ok (.bipush 75, 2) := by decide +kernel
theorem d_Md_init_456 : decode c_Md_init 456 = .ok (.ldc 82, 2) := by decide +kernel
theorem d_Md_init_458 : decode c_Md_init 458 = .ok (.iastore, 1) := by decide +kernel
theorem d_Md_init_459 : decode c_Md_init 459 = .ok (.dup, 1) := by decide +kernel
theorem d_Md_init_460 : decode c_Md_init 460 = .ok (.bipush 76, 2) := by decide +kernel
theorem d_Md_init_462 : decode c_Md_init 462 = .ok (.ldc 83, 2) := by decide +kernel
theorem d_Md_init_464 : decode c_Md_init 464 = .ok (.iastore, 1) := by decide +kernel
theorem d_Md_init_465 : decode c_Md_init 465 = .ok (.dup, 1) := by decide +kernel
theorem d_Md_init_466 : decode c_Md_init 466 = .ok (.bipush 77, 2) := by decide +kernel
theorem d_Md_init_468 : decode c_Md_init 468 = .ok (.ldc 84, 2) := by decide +kernel
theorem d_Md_init_470 : decode c_Md_init 470 = .ok (.iastore, 1) := by decide +kernel
theorem d_Md_init_471 : decode c_Md_init 471 = .ok (.dup, 1) := by decide +kernel
theorem d_Md_init_472 : decode c_Md_init 472 = .ok (.bipush 78, 2) := by decide +kernel
theorem d_Md_init_474 : decode c_Md_init 474 = .ok (.ldc 85, 2) := by decide +kernel
theorem d_Md_init_476 : decode c_Md_init 476 = .ok (.iastore, 1) := by decide +kernel
theorem d_Md_init_477 : decode c_Md_init 477 = .ok (.dup, 1) := by decide +kernel
theorem d_Md_init_478 : decode c_Md_init 478 = .ok (.bipush 79, 2) := by decide +kernel
theorem d_Md_init_480 : decode c_Md_init 480 = .ok (.ldc 86, 2) := by decide +kernel
theorem d_Md_init_482 : decode c_Md_init 482 = .ok (.iastore, 1) := by decide +kernel
theorem d_Md_init_483 : decode c_Md_init 483 = .ok (.dup, 1) := by decide +kernel
theorem d_Md_init_484 : decode c_Md_init 484 = .ok (.bipush 80, 2) := by decide +kernel
theorem d_Md_init_486 : decode c_Md_init 486 = .ok (.ldc 87, 2) := by decide +kernel
theorem d_Md_init_488 : decode c_Md_init 488 = .ok (.iastore, 1) := by decide +kernel
theorem d_Md_init_489 : decode c_Md_init 489 = .ok (.dup, 1) := by decide +kernel
theorem d_Md_init_490 : decode c_Md_init 490 = .ok (.bipush 81, 2) := by decide +kernel
theorem d_Md_init_492 : decode c_Md_init 492 = .ok (.ldc 88, 2) := by decide +kernel
theorem d_Md_init_494 : decode c_Md_init 494 = .ok (.iastore, 1) := by decide +kernel
theorem d_Md_init_495 : decode c_Md_init 495 = .ok (.dup, 1) := by decide +kernel
theorem d_Md_init_496 : decode c_Md_init 496 = .ok (.bipush 82, 2) := by decide +kernel
theorem d_Md_init_498 : decode c_Md_init 498 = .ok (.ldc 89, 2) := by decide +kernel
theorem d_Md_init_500 : decode c_Md_init 500 = .ok (.iastore, 1) := by decide +kernel
theorem d_Md_init_501 : decode c_Md_init 501 = .ok (.dup, 1) := by decide +kernel
theorem d_Md_init_502 : decode c_Md_init 502 = .ok (.bipush 83, 2) := by decide +kernel
theorem d_Md_init_504 : decode c_Md_init 504 = .ok (.ldc 90, 2) := by decide +kernel
theorem d_Md_init_506 : decode c_Md_init 506 = .ok (.iastore, 1) := by decide +kernel
theorem d_Md_init_507 : decode c_Md_init 507 = .ok (.dup, 1) := by decide +kernel
theorem d_Md_init_508 : decode c_Md_init 508 = .ok (.bipush 84, 2) := by decide +kernel
theorem d_Md_init_510 : decode c_Md_init 510 = .ok (.ldc 91, 2) := by decide +kernel
theorem d_Md_init_512 : decode c_Md_init 512 = .ok (.iastore, 1) := by decide +kernel
theorem d_Md_init_513 : decode c_Md_init 513 = .ok (.dup, 1) := by decide +kernel
theorem d_Md_init_514 : decode c_Md_init 514 = .ok (.bipush 85, 2) := by decide +kernel
theorem d_Md_init_516 : decode c_Md_init 516 = .ok (.ldc 92, 2) := by decide +kernel
theorem d_Md_init_518 : decode c_Md_init 518 = .ok (.iastore, 1) := by decide +kernel
theorem d_Md_init_519 : decode c_Md_init 519 = .ok (.dup, 1) := by decide +kernel
theorem d_Md_init_520 : decode c_Md_init 520 = .ok (.bipush 86, 2) := by decide +kernel
theorem d_Md_init_522 : decode c_Md_init 522 = .ok (.ldc 93, 2) := by decide +kernel
theorem d_Md_init_524 : decode c_Md_init 524 = .ok (.iastore, 1) := by decide +kernel
theorem d_Md_init_525 : decode c_Md_init 525 = .ok (.dup, 1) := by decide +kernel
theorem d_Md_init_526 : decode c_Md_init 526 = .ok (.bipush 87, 2) := by decide +kernel
theorem d_Md_init_528 : decode c_Md_init 528 = .ok (.ldc 94, 2) := by decide +kernel
theorem d_Md_init_530 : decode c_Md_init 530 = .ok (.iastore, 1) := by decide +kernel
theorem d_Md_init_531 : decode c_Md_init 531 = .ok (.dup, 1) := by decide +kernel
theorem d_Md_init_532 : decode c_Md_init 532 = .ok (.bipush 88, 2) := by decide +kernel
theorem d_Md_init_534 : decode c_Md_init 534 = .ok (.ldc 95, 2) := by decide +kernel
theorem d_Md_init_536 : decode c_Md_init 536 = .ok (.iastore, 1) := by decide +kernel
theorem d_Md_init_537 : decode c_Md_init 537 = .ok (.dup, 1) := by decide +kernel
theorem d_Md_init_538 : decode c_Md_init 538 = .ok (.bipush 89, 2) := by decide +kernel
theorem d_Md_init_540 : decode c_Md_init 540 = .ok (.ldc 96, 2) := by decide +kernel
theorem d_Md_init_542 : decode c_Md_init 542 = .ok (.iastore, 1) := by decide +kernel
theorem d_Md_init_543 : decode c_Md_init 543 = .ok (.dup, 1) := by decide +kernel
theorem d_Md_init_544 : decode c_Md_init 544 = .ok (.bipush 90, 2) := by decide +kernel
theorem d_Md_init_546 : decode c_Md_init 546 = .ok (.ldc 97, 2) := by decide +kernel
theorem d_Md_init_548 : decode c_Md_init 548 = .ok (.iastore, 1) := by decide +kernel
theorem d_Md_init_549 : decode c_Md_init 549 = .ok (.dup, 1) := by decide +kernel
theorem d_Md_init_550 : decode c_Md_init 550 = .ok (.bipush 91, 2) := by decide +kernel
theorem d_Md_init_552 : decode c_Md_init 552 = .ok (.ldc 98, 2) := by decide +kernel
theorem d_Md_init_554 : decode c_Md_init 554 = .ok (.iastore, 1) := by decide +kernel
theorem d_Md_init_555 : decode c_Md_init 555 = .ok (.dup, 1) := by decide +kernel
theorem d_Md_init_556 : decode c_Md_init 556 = .ok (.bipush 92, 2) := by decide +kernel
theorem d_Md_init_558 : decode c_Md_init 558 = .ok (.ldc 99, 2) := by decide +kernel
theorem d_Md_init_560 : decode c_Md_init 560 = .ok (.iastore, 1) := by decide +kernel
theorem d_Md_init_561 : decode c_Md_init 561 = .ok (.dup, 1) := by decide +kernel
theorem d_Md_init_562 : decode c_Md_init 562 = .ok (.bipush 93, 2) := by decide +kernel
theorem d_Md_init_564 : decode c_Md_init 564 = .ok (.ldc 100, 2) := by decide +kernel
theorem d_Md_init_566 : decode c_Md_init 566 = .ok (.iastore, 1) := by decide +kernel
theorem d_Md_init_567 : decode c_Md_init 567 = .ok (.dup, 1) := by decide +kernel
theorem d_Md_init_568 : decode c_Md_init 568 = .ok (.bipush 94, 2) := by decide +kernel
theorem d_Md_init_570 : decode c_Md_init 570 = .ok (.ldc 101, 2) := by decide +kernel
theorem d_Md_init_572 : decode c_Md_init 572 = .ok (.iastore, 1) := by decide +kernel
theorem d_Md_init_573 : decode c_Md_init 573 = .ok (.dup, 1) := by decide +kernel
theorem d_Md_init_574 : decode c_Md_init 574 = .ok (.bipush 95, 2) := by decide +kernel
theorem d_Md_init_576 : decode c_Md_init 576 = .ok (.ldc 102, 2) := by decide +kernel
theorem d_Md_init_578 : decode c_Md_init 578 = .ok (.iastore, 1) := by decide +kernel
theorem d_Md_init_579 : decode c_Md_init 579 = .ok (.dup, 1) := by decide +kernel
theorem d_Md_init_580 : decode c_Md_init 580 = .ok (.bipush 96, 2) := by decide +kernel
theorem d_Md_init_582 : decode c_Md_init 582 = .ok (.ldc 103, 2) := by decide +kernel
theorem d_Md_init_584 : decode c_Md_init 584 = .ok (.iastore, 1) := by decide +kernel
theorem d_Md_init_585 : decode c_Md_init 585 = .ok (.dup, 1) := by decide +kernel
theorem d_Md_init_586 : decode c_Md_init 586 = .ok (.bipush 97, 2) := by decide +kernel
theorem d_Md_init_588 : decode c_Md_init 588 = .ok (.ldc 104, 2) := by decide +kernel
theorem d_Md_init_590 : decode c_Md_init 590 = .ok (.iastore, 1) := by decide +kernel
theorem d_Md_init_591 : decode c_Md_init 591 = .ok (.dup, 1) := by decide +kernel
theorem d_Md_init_592 : decode c_Md_init 592 = .ok (.bipush 98, 2) := by decide +kernel
theorem d_Md_init_594 : decode c_Md_init 594 = .ok (.ldc 105, 2) := by decide +kernel
theorem d_Md_init_596 : decode c_Md_init 596 = .ok (.iastore, 1) := by decide +kernel
theorem d_Md_init_597 : decode c_Md_init 597 = .ok (.dup, 1) := by decide +kernel
theorem d_Md_init_598 : decode c_Md_init 598 = .ok (.bipush 99, 2) := by decide +kernel
theorem d_Md_init_600 : decode c_Md_init 600 = .ok (.ldc 106, 2) := by decide +kernel
theorem d_Md_init_602 : decode c_Md_init 602 = .ok (.iastore, 1) := by decide +kernel
theorem d_Md_init_603 : decode c_Md_init 603 = .ok (.dup, 1) := by decide +kernel
theorem d_Md_init_604 : decode c_Md_init 604 = .ok (.bipush 100, 2) := by decide +kernel
theorem d_Md_init_606 : decode c_Md_init 606 = .ok (.ldc 107, 2) := by decide +kernel
theorem d_Md_init_608 : decode c_Md_init 608 = .ok (.iastore, 1) := by decide +kernel
theorem d_Md_init_609 : decode c_Md_init 609 = .ok (.dup, 1) := by decide +kernel
theorem d_Md_init_610 : decode c_Md_init 610 = .ok (.bipush 101, 2) := by decide +kernel
theorem d_Md_init_612 : decode c_Md_init 612 = .ok (.ldc 108, 2) := by decide +kernel
theorem d_Md_init_614 : decode c_Md_init 614 = .ok (.iastore, 1) := by decide +kernel
theorem d_Md_init_615 : decode c_Md_init 615 = .ok (.dup, 1) := by decide +kernel
theorem d_Md_init_616 : decode c_Md_init 616 = .ok (.bipush 102, 2) := by decide +kernel
theorem d_Md_init_618 : decode c_Md_init 618 = .ok (.ldc 109, 2) := by decide +kernel
theorem d_Md_init_620 : decode c_Md_init 620 = .ok (.iastore, 1) := by decide +kernel
theorem d_Md_init_621 : decode c_Md_init 621 = .ok (.dup, 1) := by decide +kernel
theorem d_Md_init_622 : decode c_Md_init 622 = .ok (.bipush 103, 2) := by decide +kernel
theorem d_Md_init_624 : decode c_Md_init 624 = .ok (.ldc 110, 2) := by decide +kernel
theorem d_Md_init_626 : decode c_Md_init 626 = .ok (.iastore, 1) := by decide +kernel
theorem d_Md_init_627 : decode c_Md_init 627 = .ok (.dup, 1) := by decide +kernel
theorem d_Md_init_628 : decode c_Md_init 628 = .ok (.bipush 104, 2) := by decide +kernel
theorem d_Md_init_630 : decode c_Md_init 630 = .ok (.ldc 111, 2) := by decide +kernel
theorem d_Md_init_632 : decode c_Md_init 632 = .ok (.iastore, 1) := by decide +kernel
theorem d_Md_init_633 : decode c_Md_init 633 = .ok (.dup, 1) := by decide +kernel
theorem d_Md_init_634 : decode c_Md_init 634 = .ok (.bipush 105, 2) := by decide +kernel
theorem d_Md_init_636 : decode c_Md_init 636 = .ok (.ldc 112, 2) := by decide +kernel
theorem d_Md_init_638 : decode c_Md_init 638 = .ok (.iastore, 1) := by decide +kernel
theorem d_Md_init_639 : decode c_Md_init 639 = .ok (.putfield 113, 3) := by decide +kernel
theorem d_Md_init_642 : decode c_Md_init 642 = .ok (.aload_n 0, 1) := by decide +kernel
theorem d_Md_init_643 : decode c_Md_init 643 = .ok (.bipush 10, 2) := by decide +kernel
theorem d_Md_init_645 : decode c_Md_init 645 = .ok (.newarray .int, 2) := by decide +kernel
theorem d_Md_init_647 : decode c_Md_init 647 = .ok (.dup, 1) := by decide +kernel
theorem d_Md_init_648 : decode c_Md_init 648 = .ok (.iconst 0, 1) := by decide +kernel
theorem d_Md_init_649 : decode c_Md_init 649 = .ok (.sipush 3211, 3) := by decide +kernel
theorem d_Md_init_652 : decode c_Md_init 652 = .ok (.iastore, 1) := by decide +kernel
theorem d_Md_init_653 : decode c_Md_init 653 = .ok (.dup, 1) := by decide +kernel
theorem d_Md_init_654 : decode c_Md_init 654 = .ok (.iconst 1, 1) := by decide +kernel
theorem d_Md_init_655 : decode c_Md_init 655 = .ok (.sipush 2221, 3) := by decide +kernel
theorem d_Md_init_658 : decode c_Md_init 658 = .ok (.iastore, 1) := by decide +kernel
theorem d_Md_init_659 : decode c_Md_init 659 = .ok (.dup, 1) := by decide +kernel
theorem d_Md_init_660 : decode c_Md_init 660 = .ok (.iconst 2, 1) := by decide +kernel
theorem d_Md_init_661 : decode c_Md_init 661 = .ok (.sipush 2122, 3) := by decide +kernel
theorem d_Md_init_664 : decode c_Md_init 664 = .ok (.iastore, 1) := by decide +kernel
theorem d_Md_init_665 : decode c_Md_init 665 = .ok (.dup, 1) := by decide +kernel
theorem d_Md_init_666 : decode c_Md_init 666 = .ok (.iconst 3, 1) := by decide +kernel
theorem d_Md_init_667 : decode c_Md_init 667 = .ok (.sipush 1411, 3) := by decide +kernel
theorem d_Md_init_670 : decode c_Md_init 670 = .ok (.iastore, 1) := by decide +kernel
theorem d_Md_init_671 : decode c_Md_init 671 = .ok (.dup, 1) := by decide +kernel
theorem d_Md_init_672 : decode c_Md_init 672 = .ok (.iconst 4, 1) := by decide +kernel
theorem d_Md_init_673 : decode c_Md_init 673 = .ok (.sipush 1132, 3) := by decide +kernel
theorem d_Md_init_676 : decode c_Md_init 676 = .ok (.iastore, 1) := by decide +kernel
theorem d_Md_init_677 : decode c_Md_init 677 = .ok (.dup, 1) := by decide +kernel
theorem d_Md_init_678 : decode c_Md_init 678 = .ok (.iconst 5, 1) := by decide +kernel
theorem d_Md_init_679 : decode c_Md_init 679 = .ok (.sipush 1231, 3) := by decide +kernel
theorem d_Md_init_682 : decode c_Md_init 682 = .ok (.iastore, 1) := by decide +kernel
theorem d_Md_init_683 : decode c_Md_init 683 = .ok (.dup, 1) := by decide +kernel
theorem d_Md_init_684 : decode c_Md_init 684 = .ok (.bipush 6, 2) := by decide +kernel
theorem d_Md_init_686 : decode c_Md_init 686 = .ok (.sipush 1114, 3) := by decide +kernel
theorem d_Md_init_689 : decode c_Md_init 689 = .ok (.iastore, 1) := by decide +kernel
theorem d_Md_init_690 : decode c_Md_init 690 = .ok (.dup, 1) := by decide +kernel
theorem d_Md_init_691 : decode c_Md_init 691 = .ok (.bipush 7, 2) := by decide +kernel
theorem d_Md_init_693 : decode c_Md_init 693 = .ok (.sipush 1312, 3) := by decide +kernel
theorem d_Md_init_696 : decode c_Md_init 696 = .ok (.iastore, 1) := by decide +kernel
theorem d_Md_init_697 : decode c_Md_init 697 = .ok (.dup, 1) := by decide +kernel
theorem d_Md_init_698 : decode c_Md_init 698 = .ok (.bipush 8, 2) := by decide +kernel
theorem d_Md_init_700 : decode c_Md_init 700 = .ok (.sipush 1213, 3) := by decide +kernel
theorem d_Md_init_703 : decode c_Md_init 703 = .ok (.iastore, 1) := by decide +kernel
theorem d_Md_init_704 : decode c_Md_init 704 = .ok (.dup, 1) := by decide +kernel
theorem d_Md_init_705 : decode c_Md_init 705 = .ok (.bipush 9, 2) := by decide +kernel
theorem d_Md_init_707 : decode c_Md_init 707 = .ok (.sipush 3112, 3) := by decide +kernel
theorem d_Md_init_710 : decode c_Md_init 710 = .ok (.iastore, 1) := by decide +kernel
theorem d_Md_init_711 : decode c_Md_init 711 = .ok (.putfield 119, 3) := by decide +kernel
theorem d_Md_init_714 : decode c_Md_init 714 = .ok (.aload_n 0, 1) := by decide +kernel
theorem d_Md_init_715 : decode c_Md_init 715 = .ok (.bipush 10, 2) := by decide +kernel
theorem d_Md_init_717 : decode c_Md_init 717 = .ok (.newarray .int, 2) := by decide +kernel
theorem d_Md_init_719 : decode c_Md_init 719 = .ok (.dup, 1) := by decide +kernel
theorem d_Md_init_720 : decode c_Md_init 720 = .ok (.iconst 0, 1) := by decide +kernel
theorem d_Md_init_721 : decode c_Md_init 721 = .ok (.iconst 0, 1) := by decide +kernel
theorem d_Md_init_722 : decode c_Md_init 722 = .ok (.iastore, 1) := by decide +kernel
theorem d_Md_init_723 : decode c_Md_init 723 = .ok (.dup, 1) := by decide +kernel
theorem d_Md_init_724 : decode c_Md_init 724 = .ok (.iconst 1, 1) := by decide +kernel
theorem d_Md_init_725 : decode c_Md_init 725 = .ok (.bipush 11, 2) := by decide +kernel
theorem d_Md_init_727 : decode c_Md_init 727 = .ok (.iastore, 1) := by decide +kernel
theorem d_Md_init_728 : decode c_Md_init 728 = .ok (.dup, 1) := by decide +kernel
theorem d_Md_init_729 : decode c_Md_init 729 = .ok (.iconst 2, 1) := by decide +kernel
theorem d_Md_init_730 : decode c_Md_init 730 = .ok (.bipush 13, 2) := by decide +kernel
theorem d_Md_init_732 : decode c_Md_init 732 = .ok (.iastore, 1) := by decide +kernel
theorem d_Md_init_733 : decode c_Md_init 733 = .ok (.dup, 1) := by decide +kernel
theorem d_Md_init_734 : decode c_Md_init 734 = .ok (.iconst 3, 1) := by decide +kernel
theorem d_Md_init_735 : decode c_Md_init 735 = .ok (.bipush 14, 2) := by decide +kernel
theorem d_Md_init_737 : decode c_Md_init 737 = .ok (.iastore, 1) := by decide +kernel
theorem d_Md_init_738 : decode c_Md_init 738 = .ok (.dup, 1) := by decide +kernel
theorem d_Md_init_739 : decode c_Md_init 739 = .ok (.iconst 4, 1) := by decide +kernel
theorem d_Md_init_740 : decode c_Md_init 740 = .ok (.bipush 19, 2) := by decide +kernel
theorem d_Md_init_742 : decode c_Md_init 742 = .ok (.iastore, 1) := by decide +kernel
theorem d_Md_init_743 : decode c_Md_init 743 = .ok (.dup, 1) := by decide +kernel
theorem d_Md_init_744 : decode c_Md_init 744 = .ok (.iconst 5, 1) := by decide +kernel
theorem d_Md_init_745 : decode c_Md_init 745 = .ok (.bipush 25, 2) := by decide +kernel
theorem d_Md_init_747 : decode c_Md_init 747 = .ok (.iastore, 1) := by decide +kernel
theorem d_Md_init_748 : decode c_Md_init 748 = .ok (.dup, 1) := by decide +kernel
theorem d_Md_init_749 : decode c_Md_init 749 = .ok (.bipush 6, 2) := by decide +kernel
theorem d_Md_init_751 : decode c_Md_init 751 = .ok (.bipush 28, 2) := by decide +kernel
theorem d_Md_init_753 : decode c_Md_init 753 = .ok (.iastore, 1) := by decide +kernel
theorem d_Md_init_754 : decode c_Md_init 754 = .ok (.dup, 1) := by decide +kernel
theorem d_Md_init_755 : decode c_Md_init 755 = .ok (.bipush 7, 2) := by decide +kernel
theorem d_Md_init_757 : decode c_Md_init 757 = .ok (.bipush 21, 2) := by decide +kernel
theorem d_Md_init_759 : decode c_Md_init 759 = .ok (.iastore, 1) := by decide +kernel
theorem d_Md_init_760 : decode c_Md_init 760 = .ok (.dup, 1) := by decide +kernel
theorem d_Md_init_761 : decode c_Md_init 761 = .ok (.bipush 8, 2) := by decide +kernel
theorem d_Md_init_763 : decode c_Md_init 763 = .ok (.bipush 22, 2) := by decide +kernel
theorem d_Md_init_765 : decode c_Md_init 765 = .ok (.iastore, 1) := by decide +kernel
theorem d_Md_init_766 : decode c_Md_init 766 = .ok (.dup, 1) := by decide +kernel
theorem d_Md_init_767 : decode c_Md_init 767 = .ok (.bipush 9, 2) := by decide +kernel
theorem d_Md_init_769 : decode c_Md_init 769 = .ok (.bipush 26, 2) := by decide +kernel
theorem d_Md_init_771 : decode c_Md_init 771 = .ok (.iastore, 1) := by decide +kernel
theorem d_Md_init_772 : decode c_Md_init 772 = .ok (.putfield 122, 3) := by decide +kernel
theorem d_Md_init_775 : decode c_Md_init 775 = .ok (.aload_n 0, 1) := by decide +kernel
theorem d_Md_init_776 : decode c_Md_init 776 = .ok (.bipush 64, 2) := by decide +kernel
theorem d_Md_init_778 : decode c_Md_init 778 = .ok (.newarray .int, 2) := by decide +kernel
theorem d_Md_init_780 : decode c_Md_init 780 = .ok (.putfield 125, 3) := by decide +kernel
theorem d_Md_init_783 : decode c_Md_init 783 = .ok (.aload_n 0, 1) := by decide +kernel
theorem d_Md_init_784 : decode c_Md_init 784 = .ok (.sipush 198, 3) := by decide +kernel
theorem d_Md_init_787 : decode c_Md_init 787 = .ok (.newarray .int, 2) := by decide +kernel
theorem d_Md_init_789 : decode c_Md_init 789 = .ok (.putfield 128, 3) := by decide +kernel
theorem d_Md_init_792 : decode c_Md_init 792 = .ok (.aload_n 0, 1) := by decide +kernel
theorem d_Md_init_793 : decode c_Md_init 793 = .ok (.sipush 200, 3) := by decide +kernel
theorem d_Md_init_796 : decode c_Md_init 796 = .ok (.newarray .int, 2) := by decide +kernel
theorem d_Md_init_798 : decode c_Md_init 798 = .ok (.putfield 131, 3) := by decide +kernel
theorem d_Md_init_801 : decode c_Md_init 801 = .ok (.aload_n 0, 1) := by decide +kernel
theorem d_Md_init_802 : decode c_Md_init 802 = .ok (.sipush 800, 3) := by decide +kernel
theorem d_Md_init_805 : decode c_Md_init 805 = .ok (.newarray .int, 2) := by decide +kernel
theorem d_Md_init_807 : decode c_Md_init 807 = .ok (.putfield 134, 3) := by decide +kernel
theorem d_Md_init_810 : decode c_Md_init 810 = .ok (.aload_n 0, 1) := by decide +kernel
theorem d_Md_init_811 : decode c_Md_init 811 = .ok (.sipush 800, 3) := by decide +kernel
theorem d_Md_init_814 : decode c_Md_init 814 = .ok (.newarray .int, 2) := by decide +kernel
theorem d_Md_init_816 : decode c_Md_init 816 = .ok (.putfield 137, 3) := by decide +kernel
theorem d_Md_init_819 : decode c_Md_init 819 = .ok (.aload_n 0, 1) := by decide +kernel
theorem d_Md_init_820 : decode c_Md_init 820 = .ok (.sipush 140, 3) := by decide +kernel
theorem d_Md_init_823 : decode c_Md_init 823 = .ok (.newarray .int, 2) := by decide +kernel
theorem d_Md_init_825 : decode c_Md_init 825 = .ok (.putfield 140, 3) := by decide +kernel
theorem d_Md_init_828 : decode c_Md_init 828 = .ok (.aload_n 0, 1) := by decide +kernel
theorem d_Md_init_829 : decode c_Md_init 829 = .ok (.sipush 300, 3) := by decide +kernel
theorem d_Md_init_832 : decode c_Md_init 832 = .ok (.newarray .int, 2) := by decide +kernel
theorem d_Md_init_834 : decode c_Md_init 834 = .ok (.putfield 143, 3) := by decide +kernel
theorem d_Md_init_837 : decode c_Md_init 837 = .ok (.aload_n 0, 1) := by decide +kernel
theorem d_Md_init_838 : decode c_Md_init 838 = .ok (.sipush 300, 3) := by decide +kernel
theorem d_Md_init_841 : decode c_Md_init 841 = .ok (.newarray .int, 2) := by decide +kernel
theorem d_Md_init_843 : decode c_Md_init 843 = .ok (.putfield 146, 3) := by decide +kernel
theorem d_Md_init_846 : decode c_Md_init 846 = .ok (.return_, 1) := by decide +kernel
theorem d_Md_thrown_0 : decode c_Md_thrown 0 = .ok (.aload_n 0, 1) := by decide +kernel
theorem d_Md_thrown_1 : decode c_Md_thrown 1 = .ok (.getfield 149, 3) := by decide +kernel
theorem d_Md_thrown_4 : decode c_Md_thrown 4 = .ok (.ireturn, 1) := by decide +kernel
theorem d_Md_write_0 : decode c_Md_write 0 = .ok (.aload_n 0, 1) := by decide +kernel
theorem d_Md_write_1 : decode c_Md_write 1 = .ok (.iload_n 1, 1) := by decide +kernel
theorem d_Md_write_2 : decode c_Md_write 2 = .ok (.iconst 1, 1) := by decide +kernel
theorem d_Md_write_3 : decode c_Md_write 3 = .ok (.if_icmp .lt 9, 3) := by decide +kernel
theorem d_Md_write_6 : decode c_Md_write 6 = .ok (.iload_n 1, 1) := by decide +kernel
theorem d_Md_write_7 : decode c_Md_write 7 = .ok (.bipush 8, 2) := by decide +kernel
theorem d_Md_write_9 : decode c_Md_write 9 = .ok (.if_icmp .le 7, 3) := by decide +kernel
theorem d_Md_write_12 : decode c_Md_write 12 = .ok (.iconst 1, 1) := by decide +kernel
theorem d_Md_write_13 : decode c_Md_write 13 = .ok (.goto 4, 3) := by decide +kernel
theorem d_Md_write_16 : decode c_Md_write 16 = .ok (.iconst 0, 1) := by decide +kernel
theorem d_Md_write_17 : decode c_Md_write 17 = .ok (.putfield 149, 3) := by decide +kernel
theorem d_Md_write_20 : decode c_Md_write 20 = .ok (.iconst 0, 1) := by decide +kernel
theorem d_Md_write_21 : decode c_Md_write 21 = .ok (.istore 4, 2) := by decide +kernel
theorem d_Md_write_23 : decode c_Md_write 23 = .ok (.iload 4, 2) := by decide +kernel
theorem d_Md_write_25 : decode c_Md_write 25 = .ok (.iload_n 1, 1) := by decide +kernel
theorem d_Md_write_26 : decode c_Md_write 26 = .ok (.if_icmp .ge 43, 3) := by decide +kernel
theorem d_Md_write_29 : decode c_Md_write 29 = .ok (.aload_n 0, 1) := by decide +kernel
theorem d_Md_write_30 : decode c_Md_write 30 = .ok (.getfield 149, 3) := by decide +kernel
theorem d_Md_write_33 : decode c_Md_write 33 = .ok (.ifCond .ne 36, 3) := by decide +kernel
theorem d_Md_write_36 : decode c_Md_write 36 = .ok (.aload_n 0, 1) := by decide +kernel
theorem d_Md_write_37 : decode c_Md_write 37 = .ok (.lload_n 2, 1) := by decide +kernel
theorem d_Md_write_38 : decode c_Md_write 38 = .ok (.bipush 8, 2) := by decide +kernel
theorem d_Md_write_40 : decode c_Md_write 40 = .ok (.iload 4, 2) := by decide +kernel
theorem d_Md_write_42 : decode c_Md_write 42 = .ok (.imul, 1) := by decide +kernel
theorem d_Md_write_43 : decode c_Md_write 43 = .ok (.lshr, 1) := by decide +kernel
theorem d_Md_write_44 : decode c_Md_write 44 = .ok (.ldc2_w 153, 3) := by decide +kernel
theorem d_Md_write_47 : decode c_Md_write 47 = .ok (.land, 1) := by decide +kernel
theorem d_Md_write_48 : decode c_Md_write 48 = .ok (.ldc2_w 155, 3) := by decide +kernel
theorem d_Md_write_51 : decode c_Md_write 51 = .ok (.lcmp, 1) := by decide +kernel
theorem d_Md_write_52 : decode c_Md_write 52 = .ok (.ifCond .le 7, 3) := by decide +kernel
theorem d_Md_write_55 : decode c_Md_write 55 = .ok (.iconst 1, 1) := by decide +kernel
theorem d_Md_write_56 : decode c_Md_write 56 = .ok (.goto 4, 3) := by decide +kernel
theorem d_Md_write_59 : decode c_Md_write 59 = .ok (.iconst 0, 1) := by decide +kernel
theorem d_Md_write_60 : decode c_Md_write 60 = .ok (.putfield 149, 3) := by decide +kernel
theorem d_Md_write_63 : decode c_Md_write 63 = .ok (.iinc 4 1, 3) := by decide +kernel
theorem d_Md_write_66 : decode c_Md_write 66 = .ok (.goto (-43), 3) := by decide +kernel
theorem d_Md_write_69 : decode c_Md_write 69 = .ok (.aload_n 0, 1) := by decide +kernel
theorem d_Md_write_70 : decode c_Md_write 70 = .ok (.getfield 149, 3) := by decide +kernel
theorem d_Md_write_73 : decode c_Md_write 73 = .ok (.ifCond .le 5, 3) := by decide +kernel
theorem d_Md_write_76 : decode c_Md_write 76 = .ok (.iconst 0, 1) := by decide +kernel
theorem d_Md_write_77 : decode c_Md_write 77 = .ok (.ireturn, 1) := by decide +kernel
theorem d_Md_write_78 : decode c_Md_write 78 = .ok (.aload_n 0, 1) := by decide +kernel
theorem d_Md_write_79 : decode c_Md_write 79 = .ok (.getfield 157, 3) := by decide +kernel
theorem d_Md_write_82 : decode c_Md_write 82 = .ok (.iload_n 1, 1) := by decide +kernel
theorem d_Md_write_83 : decode c_Md_write 83 = .ok (.iadd, 1) := by decide +kernel
theorem d_Md_write_84 : decode c_Md_write 84 = .ok (.bipush 64, 2) := by decide +kernel
theorem d_Md_write_86 : decode c_Md_write 86 = .ok (.if_icmp .le 5, 3) := by decide +kernel
theorem d_Md_write_89 : decode c_Md_write 89 = .ok (.iconst (-1), 1) := by decide +kernel
theorem d_Md_write_90 : decode c_Md_write 90 = .ok (.ireturn, 1) := by decide +kernel
theorem d_Md_write_91 : decode c_Md_write 91 = .ok (.iconst 0, 1) := by decide +kernel
theorem d_Md_write_92 : decode c_Md_write 92 = .ok (.istore 4, 2) := by decide +kernel
theorem d_Md_write_94 : decode c_Md_write 94 = .ok (.iload 4, 2) := by decide +kernel
theorem d_Md_write_96 : decode c_Md_write 96 = .ok (.iload_n 1, 1) := by decide +kernel
theorem d_Md_write_97 : decode c_Md_write 97 = .ok (.if_icmp .ge 40, 3) := by decide +kernel
theorem d_Md_write_100 : decode c_Md_write 100 = .ok (.aload_n 0, 1) := by decide +kernel
theorem d_Md_write_101 : decode c_Md_write 101 = .ok (.getfield 125, 3) := by decide +kernel
theorem d_Md_write_104 : decode c_Md_write 104 = .ok (.aload_n 0, 1) := by decide +kernel
theorem d_Md_write_105 : decode c_Md_write 105 = .ok (.getfield 157, 3) := by decide +kernel
theorem d_Md_write_108 : decode c_Md_write 108 = .ok (.lload_n 2, 1) := by decide +kernel
theorem d_Md_write_109 : decode c_Md_write 109 = .ok (.bipush 8, 2) := by decide +kernel
theorem d_Md_write_111 : decode c_Md_write 111 = .ok (.iload 4, 2) := by decide +kernel
theorem d_Md_write_113 : decode c_Md_write 113 = .ok (.imul, 1) := by decide +kernel
theorem d_Md_write_114 : decode c_Md_write 114 = .ok (.lshr, 1) := by decide +kernel
theorem d_Md_write_115 : decode c_Md_write 115 = .ok (.ldc2_w 153, 3) := by decide +kernel
theorem d_Md_write_118 : decode c_Md_write 118 = .ok (.land, 1) := by decide +kernel
theorem d_Md_write_119 : decode c_Md_write 119 = .ok (.l2i, 1) := by decide +kernel
theorem d_Md_write_120 : decode c_Md_write 120 = .ok (.iastore, 1) := by decide +kernel
theorem d_Md_write_121 : decode c_Md_write 121 = .ok (.aload_n 0, 1) := by decide +kernel
theorem d_Md_write_122 : decode c_Md_write 122 = .ok (.dup, 1) := by decide +kernel
theorem d_Md_write_123 : decode c_Md_write 123 = .ok (.getfield 157, 3) := by decide +kernel
theorem d_Md_write_126 : decode c_Md_write 126 = .ok (.iconst 1, 1) := by decide +kernel
theorem d_Md_write_127 : decode c_Md_write 127 = .ok (.iadd, 1) := by decide +kernel
theorem d_Md_write_128 : decode c_Md_write 128 = .ok (.putfield 157, 3) := by decide +kernel
theorem d_Md_write_131 : decode c_Md_write 131 = .ok (.iinc 4 1, 3) := by decide +kernel
theorem d_Md_write_134 : decode c_Md_write 134 = .ok (.goto (-40), 3) := by decide +kernel
theorem d_Md_write_137 : decode c_Md_write 137 = .ok (.aload_n 0, 1) := by decide +kernel
theorem d_Md_write_138 : decode c_Md_write 138 = .ok (.getfield 157, 3) := by decide +kernel
theorem d_Md_write_141 : decode c_Md_write 141 = .ok (.ireturn, 1) := by decide +kernel
theorem d_Md_wipe_0 : decode c_Md_wipe 0 = .ok (.aload_n 0, 1) := by decide +kernel
theorem d_Md_wipe_1 : decode c_Md_wipe 1 = .ok (.iconst 0, 1) := by decide +kernel
theorem d_Md_wipe_2 : decode c_Md_wipe 2 = .ok (.putfield 149, 3) := by decide +kernel
theorem d_Md_wipe_5 : decode c_Md_wipe 5 = .ok (.aload_n 0, 1) := by decide +kernel
theorem d_Md_wipe_6 : decode c_Md_wipe 6 = .ok (.getfield 157, 3) := by decide +kernel
theorem d_Md_wipe_9 : decode c_Md_wipe 9 = .ok (.istore_n 1, 1) := by decide +kernel
theorem d_Md_wipe_10 : decode c_Md_wipe 10 = .ok (.aload_n 0, 1) := by decide +kernel
theorem d_Md_wipe_11 : decode c_Md_wipe 11 = .ok (.iconst 0, 1) := by decide +kernel
theorem d_Md_wipe_12 : decode c_Md_wipe 12 = .ok (.putfield 157, 3) := by decide +kernel
theorem d_Md_wipe_15 : decode c_Md_wipe 15 = .ok (.iload_n 1, 1) := by decide +kernel
theorem d_Md_wipe_16 : decode c_Md_wipe 16 = .ok (.ireturn, 1) := by decide +kernel
theorem d_Md_signOf_0 : decode c_Md_signOf 0 = .ok (.iload_n 0, 1) := by decide +kernel
theorem d_Md_signOf_1 : decode c_Md_signOf 1 = .ok (.iconst 1, 1) := by decide +kernel
theorem d_Md_signOf_2 : decode c_Md_signOf 2 = .ok (.if_icmp .eq 9, 3) := by decide +kernel
theorem d_Md_signOf_5 : decode c_Md_signOf 5 = .ok (.iload_n 1, 1) := by decide +kernel
theorem d_Md_signOf_6 : decode c_Md_signOf 6 = .ok (.bipush 64, 2) := by decide +kernel
theorem d_Md_signOf_8 : decode c_Md_signOf 8 = .ok (.if_icmp .ge 10, 3) := by decide +kernel
theorem d_Md_signOf_11 : decode c_Md_signOf 11 = .ok (.iload_n 1, 1) := by decide +kernel
theorem d_Md_signOf_12 : decode c_Md_signOf 12 = .ok (.bipush 32, 2) := by decide +kernel
theorem d_Md_signOf_14 : decode c_Md_signOf 14 = .ok (.iadd, 1) := by decide +kernel
theorem d_Md_signOf_15 : decode c_Md_signOf 15 = .ok (.goto 7, 3) := by decide +kernel
theorem d_Md_signOf_18 : decode c_Md_signOf 18 = .ok (.iload_n 1, 1) := by decide +kernel
theorem d_Md_signOf_19 : decode c_Md_signOf 19 = .ok (.bipush 64, 2) := by decide +kernel
theorem d_Md_signOf_21 : decode c_Md_signOf 21 = .ok (.isub, 1) := by decide +kernel
theorem d_Md_signOf_22 : decode c_Md_signOf 22 = .ok (.ireturn, 1) := by decide +kernel
theorem d_Md_at_0 : decode c_Md_at 0 = .ok (.iload_n 1, 1) := by decide +kernel
theorem d_Md_at_1 : decode c_Md_at 1 = .ok (.aload_n 0, 1) := by decide +kernel
theorem d_Md_at_2 : decode c_Md_at 2 = .ok (.getfield 157, 3) := by decide +kernel
theorem d_Md_at_5 : decode c_Md_at 5 = .ok (.if_icmp .ge 12, 3) := by decide +kernel
theorem d_Md_at_8 : decode c_Md_at 8 = .ok (.aload_n 0, 1) := by decide +kernel
theorem d_Md_at_9 : decode c_Md_at 9 = .ok (.getfield 125, 3) := by decide +kernel
theorem d_Md_at_12 : decode c_Md_at 12 = .ok (.iload_n 1, 1) := by decide +kernel
theorem d_Md_at_13 : decode c_Md_at 13 = .ok (.iaload, 1) := by decide +kernel
theorem d_Md_at_14 : decode c_Md_at 14 = .ok (.goto 4, 3) := by decide +kernel
theorem d_Md_at_17 : decode c_Md_at 17 = .ok (.iconst (-1), 1) := by decide +kernel
theorem d_Md_at_18 : decode c_Md_at 18 = .ok (.ireturn, 1) := by decide +kernel
theorem d_Md_isPair_0 : decode c_Md_isPair 0 = .ok (.aload_n 0, 1) := by decide +kernel
theorem d_Md_isPair_1 : decode c_Md_isPair 1 = .ok (.iload_n 1, 1) := by decide +kernel
theorem d_Md_isPair_2 : decode c_Md_isPair 2 = .ok (.invokevirtual 160, 3) := by decide +kernel
theorem d_Md_isPair_5 : decode c_Md_isPair 5 = .ok (.bipush 48, 2) := by decide +kernel
theorem d_Md_isPair_7 : decode c_Md_isPair 7 = .ok (.iload_n 2, 1) := by decide +kernel
theorem d_Md_isPair_8 : decode c_Md_isPair 8 = .ok (.bipush 10, 2) := by decide +kernel
theorem d_Md_isPair_10 : decode c_Md_isPair 10 = .ok (.idiv, 1) := by decide +kernel
theorem d_Md_isPair_11 : decode c_Md_isPair 11 = .ok (.iadd, 1) := by decide +kernel
theorem d_Md_isPair_12 : decode c_Md_isPair 12 = .ok (.if_icmp .ne 24, 3) := by decide +kernel
theorem d_Md_isPair_15 : decode c_Md_isPair 15 = .ok (.aload_n 0, 1) := by decide +kernel
theorem d_Md_isPair_16 : decode c_Md_isPair 16 = .ok (.iload_n 1, 1) := by decide +kernel
theorem d_Md_isPair_17 : decode c_Md_isPair 17 = .ok (.iconst 1, 1) := by decide +kernel
theorem d_Md_isPair_18 : decode c_Md_isPair 18 = .ok (.iadd, 1) := by decide +kernel
theorem d_Md_isPair_19 : decode c_Md_isPair 19 = .ok (.invokevirtual 160, 3) := by decide +kernel
theorem d_Md_isPair_22 : decode c_Md_isPair 22 = .ok (.bipush 48, 2) := by decide +kernel
theorem d_Md_isPair_24 : decode c_Md_isPair 24 = .ok (.iload_n 2, 1) := by decide +kernel
theorem d_Md_isPair_25 : decode c_Md_isPair 25 = .ok (.bipush 10, 2) := by decide +kernel
theorem d_Md_isPair_27 : decode c_Md_isPair 27 = .ok (.irem, 1) := by decide +kernel
theorem d_Md_isPair_28 : decode c_Md_isPair 28 = .ok (.iadd, 1) := by decide +kernel
theorem d_Md_isPair_29 : decode c_Md_isPair 29 = .ok (.if_icmp .ne 7, 3) := by decide +kernel
theorem d_Md_isPair_32 : decode c_Md_isPair 32 = .ok (.iconst 1, 1) := by decide +kernel
theorem d_Md_isPair_33 : decode c_Md_isPair 33 = .ok (.goto 4, 3) := by decide +kernel
theorem d_Md_isPair_36 : decode c_Md_isPair 36 = .ok (.iconst 0, 1) := by decide +kernel
theorem d_Md_isPair_37 : decode c_Md_isPair 37 = .ok (.ireturn, 1) := by decide +kernel
theorem d_Md_tells_0 : decode c_Md_tells 0 = .ok (.iload_n 3, 1) := by decide +kernel
theorem d_Md_tells_1 : decode c_Md_tells 1 = .ok (.bipush 102, 2) := by decide +kernel
theorem d_Md_tells_3 : decode c_Md_tells 3 = .ok (.if_icmp .ne 20, 3) := by decide +kernel
theorem d_Md_tells_6 : decode c_Md_tells 6 = .ok (.aload_n 0, 1) := by decide +kernel
theorem d_Md_tells_7 : decode c_Md_tells 7 = .ok (.iload_n 1, 1) := by decide +kernel
theorem d_Md_tells_8 : decode c_Md_tells 8 = .ok (.invokevirtual 160, 3) := by decide +kernel
theorem d_Md_tells_11 : decode c_Md_tells 11 = .ok (.sipush 128, 3) := by decide +kernel
theorem d_Md_tells_14 : decode c_Md_tells 14 = .ok (.if_icmp .ne 7, 3) := by decide +kernel
theorem d_Md_tells_17 : decode c_Md_tells 17 = .ok (.iconst 1, 1) := by decide +kernel
theorem d_Md_tells_18 : decode c_Md_tells 18 = .ok (.goto 4, 3) := by decide +kernel
theorem d_Md_tells_21 : decode c_Md_tells 21 = .ok (.iconst (-1), 1) := by decide +kernel
theorem d_Md_tells_22 : decode c_Md_tells 22 = .ok (.ireturn, 1) := by decide +kernel
theorem d_Md_tells_23 : decode c_Md_tells 23 = .ok (.iload_n 2, 1) := by decide +kernel
theorem d_Md_tells_24 : decode c_Md_tells 24 = .ok (.iconst 2, 1) := by decide +kernel
theorem d_Md_tells_25 : decode c_Md_tells 25 = .ok (.if_icmp .ne 24, 3) := by decide +kernel
theorem d_Md_tells_28 : decode c_Md_tells 28 = .ok (.iload_n 3, 1) := by decide +kernel
theorem d_Md_tells_29 : decode c_Md_tells 29 = .ok (.bipush 100, 2) := by decide +kernel
theorem d_Md_tells_31 : decode c_Md_tells 31 = .ok (.if_icmp .ge 16, 3) := by decide +kernel
theorem d_Md_tells_34 : decode c_Md_tells 34 = .ok (.aload_n 0, 1) := by decide +kernel
theorem d_Md_tells_35 : decode c_Md_tells 35 = .ok (.iload_n 1, 1) := by decide +kernel
theorem d_Md_tells_36 : decode c_Md_tells 36 = .ok (.iload_n 3, 1) := by decide +kernel
theorem d_Md_tells_37 : decode c_Md_tells 37 = .ok (.invokevirtual 164, 3) := by decide +kernel
theorem d_Md_tells_40 : decode c_Md_tells 40 = .ok (.ifCond .eq 7, 3) := by decide +kernel
theorem d_Md_tells_43 : decode c_Md_tells 43 = .ok (.iconst 2, 1) := by decide +kernel
theorem d_Md_tells_44 : decode c_Md_tells 44 = .ok (.goto 4, 3) := by decide +kernel
theorem d_Md_tells_47 : decode c_Md_tells 47 = .ok (.iconst (-1), 1) := by decide +kernel
theorem d_Md_tells_48 : decode c_Md_tells 48 = .ok (.ireturn, 1) := by decide +kernel
theorem d_Md_tells_49 : decode c_Md_tells 49 = .ok (.iload_n 3, 1) := by decide +kernel
theorem d_Md_tells_50 : decode c_Md_tells 50 = .ok (.bipush 96, 2) := by decide +kernel
theorem d_Md_tells_52 : decode c_Md_tells 52 = .ok (.if_icmp .ge 28, 3) := by decide +kernel
theorem d_Md_tells_55 : decode c_Md_tells 55 = .ok (.iload_n 1, 1) := by decide +kernel
theorem d_Md_tells_56 : decode c_Md_tells 56 = .ok (.aload_n 0, 1) := by decide +kernel
theorem d_Md_tells_57 : decode c_Md_tells 57 = .ok (.getfield 157, 3) := by decide +kernel
theorem d_Md_tells_60 : decode c_Md_tells 60 = .ok (.if_icmp .ge 20, 3) := by decide +kernel
theorem d_Md_tells_63 : decode c_Md_tells 63 = .ok (.aload_n 0, 1) := by decide +kernel
theorem d_Md_tells_64 : decode c_Md_tells 64 = .ok (.iload_n 1, 1) := by decide +kernel
theorem d_Md_tells_65 : decode c_Md_tells 65 = .ok (.invokevirtual 160, 3) := by decide +kernel
theorem d_Md_tells_68 : decode c_Md_tells 68 = .ok (.iload_n 2, 1) := by decide +kernel
theorem d_Md_tells_69 : decode c_Md_tells 69 = .ok (.iload_n 3, 1) := by decide +kernel
theorem d_Md_tells_70 : decode c_Md_tells 70 = .ok (.invokestatic 168, 3) := by decide +kernel
theorem d_Md_tells_73 : decode c_Md_tells 73 = .ok (.if_icmp .ne 7, 3) := by decide +kernel
theorem d_Md_tells_76 : decode c_Md_tells 76 = .ok (.iconst 1, 1) := by decide +kernel
theorem d_Md_tells_77 : decode c_Md_tells 77 = .ok (.goto 4, 3) := by decide +kernel
theorem d_Md_tells_80 : decode c_Md_tells 80 = .ok (.iconst (-1), 1) := by decide +kernel
theorem d_Md_tells_81 : decode c_Md_tells 81 = .ok (.ireturn, 1) := by decide +kernel
theorem d_Md_goes_0 : decode c_Md_goes 0 = .ok (.iload_n 1, 1) := by decide +kernel
theorem d_Md_goes_1 : decode c_Md_goes 1 = .ok (.bipush 99, 2) := by decide +kernel
theorem d_Md_goes_3 : decode c_Md_goes 3 = .ok (.if_icmp .ne 7, 3) := by decide +kernel
theorem d_Md_goes_6 : decode c_Md_goes 6 = .ok (.iconst 2, 1) := by decide +kernel
theorem d_Md_goes_7 : decode c_Md_goes 7 = .ok (.goto 24, 3) := by decide +kernel
theorem d_Md_goes_10 : decode c_Md_goes 10 = .ok (.iload_n 1, 1) := by decide +kernel
theorem d_Md_goes_11 : decode c_Md_goes 11 = .ok (.bipush 100, 2) := by decide +kernel
theorem d_Md_goes_13 : decode c_Md_goes 13 = .ok (.if_icmp .ne 7, 3) := by decide +kernel
theorem d_Md_goes_16 : decode c_Md_goes 16 = .ok (.iconst 1, 1) := by decide +kernel
theorem d_Md_goes_17 : decode c_Md_goes 17 = .ok (.goto 14, 3) := by decide +kernel
theorem d_Md_goes_20 : decode c_Md_goes 20 = .ok (.iload_n 1, 1) := by decide +kernel
theorem d_Md_goes_21 : decode c_Md_goes 21 = .ok (.bipush 101, 2) := by decide +kernel
theorem d_Md_goes_23 : decode c_Md_goes 23 = .ok (.if_icmp .ne 7, 3) := by decide +kernel
theorem d_Md_goes_26 : decode c_Md_goes 26 = .ok (.iconst 0, 1) := by decide +kernel
theorem d_Md_goes_27 : decode c_Md_goes 27 = .ok (.goto 4, 3) := by decide +kernel
theorem d_Md_goes_30 : decode c_Md_goes 30 = .ok (.iconst (-1), 1) := by decide +kernel
theorem d_Md_goes_31 : decode c_Md_goes 31 = .ok (.istore_n 2, 1) := by decide +kernel
theorem d_Md_goes_32 : decode c_Md_goes 32 = .ok (.iload_n 2, 1) := by decide +kernel
theorem d_Md_goes_33 : decode c_Md_goes 33 = .ok (.iload_n 0, 1) := by decide +kernel
theorem d_Md_goes_34 : decode c_Md_goes 34 = .ok (.if_icmp .ne 7, 3) := by decide +kernel
theorem d_Md_goes_37 : decode c_Md_goes 37 = .ok (.iconst (-1), 1) := by decide +kernel
theorem d_Md_goes_38 : decode c_Md_goes 38 = .ok (.goto 4, 3) := by decide +kernel
theorem d_Md_goes_41 : decode c_Md_goes 41 = .ok (.iload_n 2, 1) := by decide +kernel
theorem d_Md_goes_42 : decode c_Md_goes 42 = .ok (.ireturn, 1) := by decide +kernel
theorem d_Md_leastAt_0 : decode c_Md_leastAt 0 = .ok (.aload_n 0, 1) := by decide +kernel
theorem d_Md_leastAt_1 : decode c_Md_leastAt 1 = .ok (.getfield 128, 3) := by decide +kernel
theorem d_Md_leastAt_4 : decode c_Md_leastAt 4 = .ok (.iconst 3, 1) := by decide +kernel
theorem d_Md_leastAt_5 : decode c_Md_leastAt 5 = .ok (.iload_n 1, 1) := by decide +kernel
theorem d_Md_leastAt_6 : decode c_Md_leastAt 6 = .ok (.imul, 1) := by decide +kernel
theorem d_Md_leastAt_7 : decode c_Md_leastAt 7 = .ok (.iload_n 2, 1) := by decide +kernel
theorem d_Md_leastAt_8 : decode c_Md_leastAt 8 = .ok (.iadd, 1) := by decide +kernel
theorem d_Md_leastAt_9 : decode c_Md_leastAt 9 = .ok (.iaload, 1) := by decide +kernel
theorem d_Md_leastAt_10 : decode c_Md_leastAt 10 = .ok (.ireturn, 1) := by decide +kernel
theorem d_Md_with_0 : decode c_Md_with 0 = .ok (.aload_n 0, 1) := by decide +kernel
theorem d_Md_with_1 : decode c_Md_with 1 = .ok (.iload_n 1, 1) := by decide +kernel
theorem d_Md_with_2 : decode c_Md_with 2 = .ok (.iload_n 2, 1) := by decide +kernel
theorem d_Md_with_3 : decode c_Md_with 3 = .ok (.iload_n 3, 1) := by decide +kernel
theorem d_Md_with_4 : decode c_Md_with 4 = .ok (.invokevirtual 172, 3) := by decide +kernel
theorem d_Md_with_7 : decode c_Md_with 7 = .ok (.istore 4, 2) := by decide +kernel
theorem d_Md_with_9 : decode c_Md_with 9 = .ok (.iload 4, 2) := by decide +kernel
theorem d_Md_with_11 : decode c_Md_with 11 = .ok (.ifCond .le 15, 3) := by decide +kernel
theorem d_Md_with_14 : decode c_Md_with 14 = .ok (.iconst 1, 1) := by decide +kernel
theorem d_Md_with_15 : decode c_Md_with 15 = .ok (.aload_n 0, 1) := by decide +kernel
theorem d_Md_with_16 : decode c_Md_with 16 = .ok (.iload_n 1, 1) := by decide +kernel
theorem d_Md_with_17 : decode c_Md_with 17 = .ok (.iload 4, 2) := by decide +kernel
theorem d_Md_with_19 : decode c_Md_with 19 = .ok (.iadd, 1) := by decide +kernel
theorem d_Md_with_20 : decode c_Md_with 20 = .ok (.iload_n 2, 1) := by decide +kernel
theorem d_Md_with_21 : decode c_Md_with 21 = .ok (.invokevirtual 176, 3) := by decide +kernel
theorem d_Md_with_24 : decode c_Md_with 24 = .ok (.iadd, 1) := by decide +kernel
theorem d_Md_with_25 : decode c_Md_with 25 = .ok (.ireturn, 1) := by decide +kernel
theorem d_Md_with_26 : decode c_Md_with 26 = .ok (.iload_n 2, 1) := by decide +kernel
theorem d_Md_with_27 : decode c_Md_with 27 = .ok (.iload_n 3, 1) := by decide +kernel
theorem d_Md_with_28 : decode c_Md_with 28 = .ok (.invokestatic 179, 3) := by decide +kernel
theorem d_Md_with_31 : decode c_Md_with 31 = .ok (.ifCond .lt 16, 3) := by decide +kernel
theorem d_Md_with_34 : decode c_Md_with 34 = .ok (.iconst 1, 1) := by decide +kernel
theorem d_Md_with_35 : decode c_Md_with 35 = .ok (.aload_n 0, 1) := by decide +kernel
theorem d_Md_with_36 : decode c_Md_with 36 = .ok (.iload_n 1, 1) := by decide +kernel
theorem d_Md_with_37 : decode c_Md_with 37 = .ok (.iload_n 2, 1) := by decide +kernel
theorem d_Md_with_38 : decode c_Md_with 38 = .ok (.iload_n 3, 1) := by decide +kernel
theorem d_Md_with_39 : decode c_Md_with 39 = .ok (.invokestatic 179, 3) := by decide +kernel
theorem d_Md_with_42 : decode c_Md_with 42 = .ok (.invokevirtual 176, 3) := by decide +kernel
theorem d_Md_with_45 : decode c_Md_with 45 = .ok (.iadd, 1) := by decide +kernel
theorem d_Md_with_46 : decode c_Md_with 46 = .ok (.ireturn, 1) := by decide +kernel
theorem d_Md_with_47 : decode c_Md_with 47 = .ok (.iload_n 3, 1) := by decide +kernel
theorem d_Md_with_48 : decode c_Md_with 48 = .ok (.bipush 98, 2) := by decide +kernel
theorem d_Md_with_50 : decode c_Md_with 50 = .ok (.if_icmp .ne 30, 3) := by decide +kernel
theorem d_Md_with_53 : decode c_Md_with 53 = .ok (.iload_n 2, 1) := by decide +kernel
theorem d_Md_with_54 : decode c_Md_with 54 = .ok (.iconst 2, 1) := by decide +kernel
theorem d_Md_with_55 : decode c_Md_with 55 = .ok (.if_icmp .eq 25, 3) := by decide +kernel
theorem d_Md_with_58 : decode c_Md_with 58 = .ok (.aload_n 0, 1) := by decide +kernel
theorem d_Md_with_59 : decode c_Md_with 59 = .ok (.iload_n 1, 1) := by decide +kernel
theorem d_Md_with_60 : decode c_Md_with 60 = .ok (.iload_n 2, 1) := by decide +kernel
theorem d_Md_with_61 : decode c_Md_with 61 = .ok (.invokevirtual 182, 3) := by decide +kernel
theorem d_Md_with_64 : decode c_Md_with 64 = .ok (.ifCond .eq 16, 3) := by decide +kernel
theorem d_Md_with_67 : decode c_Md_with 67 = .ok (.iconst 2, 1) := by decide +kernel
theorem d_Md_with_68 : decode c_Md_with 68 = .ok (.aload_n 0, 1) := by decide +kernel
theorem d_Md_with_69 : decode c_Md_with 69 = .ok (.iload_n 1, 1) := by decide +kernel
theorem d_Md_with_70 : decode c_Md_with 70 = .ok (.iconst 1, 1) := by decide +kernel
theorem d_Md_with_71 : decode c_Md_with 71 = .ok (.iadd, 1) := by decide +kernel
theorem d_Md_with_72 : decode c_Md_with 72 = .ok (.iload_n 2, 1) := by decide +kernel
theorem d_Md_with_73 : decode c_Md_with 73 = .ok (.invokevirtual 176, 3) := by decide +kernel
theorem d_Md_with_76 : decode c_Md_with 76 = .ok (.iadd, 1) := by decide +kernel
theorem d_Md_with_77 : decode c_Md_with 77 = .ok (.goto 6, 3) := by decide +kernel
theorem d_Md_with_80 : decode c_Md_with 80 = .ok (.sipush 9999, 3) := by decide +kernel
theorem d_Md_with_83 : decode c_Md_with 83 = .ok (.ireturn, 1) := by decide +kernel
theorem d_Md_isOther_0 : decode c_Md_isOther 0 = .ok (.iconst 0, 1) := by decide +kernel
theorem d_Md_isOther_1 : decode c_Md_isOther 1 = .ok (.istore_n 3, 1) := by decide +kernel
theorem d_Md_isOther_2 : decode c_Md_isOther 2 = .ok (.iconst 0, 1) := by decide +kernel
theorem d_Md_isOther_3 : decode c_Md_isOther 3 = .ok (.istore 4, 2) := by decide +kernel
theorem d_Md_isOther_5 : decode c_Md_isOther 5 = .ok (.iload 4, 2) := by decide +kernel
theorem d_Md_isOther_7 : decode c_Md_isOther 7 = .ok (.bipush 96, 2) := by decide +kernel
theorem d_Md_isOther_9 : decode c_Md_isOther 9 = .ok (.if_icmp .ge 33, 3) := by decide +kernel
theorem d_Md_isOther_12 : decode c_Md_isOther 12 = .ok (.iload_n 3, 1) := by decide +kernel
theorem d_Md_isOther_13 : decode c_Md_isOther 13 = .ok (.ifCond .ne 17, 3) := by decide +kernel
theorem d_Md_isOther_16 : decode c_Md_isOther 16 = .ok (.aload_n 0, 1) := by decide +kernel
theorem d_Md_isOther_17 : decode c_Md_isOther 17 = .ok (.iload_n 1, 1) := by decide +kernel
theorem d_Md_isOther_18 : decode c_Md_isOther 18 = .ok (.iconst 1, 1) := by decide +kernel
theorem d_Md_isOther_19 : decode c_Md_isOther 19 = .ok (.iload_n 2, 1) := by decide +kernel
theorem d_Md_isOther_20 : decode c_Md_isOther 20 = .ok (.isub, 1) := by decide +kernel
theorem d_Md_isOther_21 : decode c_Md_isOther 21 = .ok (.iload 4, 2) := by decide +kernel
theorem d_Md_isOther_23 : decode c_Md_isOther 23 = .ok (.invokevirtual 172, 3) := by decide +kernel
theorem d_Md_isOther_26 : decode c_Md_isOther 26 = .ok (.iconst 1, 1) := by decide +kernel
theorem d_Md_isOther_27 : decode c_Md_isOther 27 = .ok (.if_icmp .ne 7, 3) := by decide +kernel
theorem d_Md_isOther_30 : decode c_Md_isOther 30 = .ok (.iconst 1, 1) := by decide +kernel
theorem d_Md_isOther_31 : decode c_Md_isOther 31 = .ok (.goto 4, 3) := by decide +kernel
theorem d_Md_isOther_34 : decode c_Md_isOther 34 = .ok (.iconst 0, 1) := by decide +kernel
theorem d_Md_isOther_35 : decode c_Md_isOther 35 = .ok (.istore_n 3, 1) := by decide +kernel
theorem d_Md_isOther_36 : decode c_Md_isOther 36 = .ok (.iinc 4 1, 3) := by decide +kernel
theorem d_Md_isOther_39 : decode c_Md_isOther 39 = .ok (.goto (-34), 3) := by decide +kernel
theorem d_Md_isOther_42 : decode c_Md_isOther 42 = .ok (.iload_n 3, 1) := by decide +kernel
theorem d_Md_isOther_43 : decode c_Md_isOther 43 = .ok (.ireturn, 1) := by decide +kernel
theorem d_Md_relax_0 : decode c_Md_relax 0 = .ok (.iconst 0, 1) := by decide +kernel
theorem d_Md_relax_1 : decode c_Md_relax 1 = .ok (.istore_n 1, 1) := by decide +kernel
theorem d_Md_relax_2 : decode c_Md_relax 2 = .ok (.iload_n 1, 1) := by decide +kernel
theorem d_Md_relax_3 : decode c_Md_relax 3 = .ok (.sipush 198, 3) := by decide +kernel
theorem d_Md_relax_6 : decode c_Md_relax 6 = .ok (.if_icmp .ge 32, 3) := by decide +kernel
theorem d_Md_relax_9 : decode c_Md_relax 9 = .ok (.aload_n 0, 1) := by decide +kernel
theorem d_Md_relax_10 : decode c_Md_relax 10 = .ok (.getfield 128, 3) := by decide +kernel
theorem d_Md_relax_13 : decode c_Md_relax 13 = .ok (.iload_n 1, 1) := by decide +kernel
theorem d_Md_relax_14 : decode c_Md_relax 14 = .ok (.iload_n 1, 1) := by decide +kernel
theorem d_Md_relax_15 : decode c_Md_relax 15 = .ok (.iconst 3, 1) := by decide +kernel
theorem d_Md_relax_16 : decode c_Md_relax 16 = .ok (.idiv, 1) := by decide +kernel
theorem d_Md_relax_17 : decode c_Md_relax 17 = .ok (.aload_n 0, 1) := by decide +kernel
theorem d_Md_relax_18 : decode c_Md_relax 18 = .ok (.getfield 157, 3) := by decide +kernel
theorem d_Md_relax_21 : decode c_Md_relax 21 = .ok (.if_icmp .ne 7, 3) := by decide +kernel
theorem d_Md_relax_24 : decode c_Md_relax 24 = .ok (.iconst 0, 1) := by decide +kernel
theorem d_Md_relax_25 : decode c_Md_relax 25 = .ok (.goto 6, 3) := by decide +kernel
theorem d_Md_relax_28 : decode c_Md_relax 28 = .ok (.sipush 9999, 3) := by decide +kernel
theorem d_Md_relax_31 : decode c_Md_relax 31 = .ok (.iastore, 1) := by decide +kernel
theorem d_Md_relax_32 : decode c_Md_relax 32 = .ok (.iinc 1 1, 3) := by decide +kernel
theorem d_Md_relax_35 : decode c_Md_relax 35 = .ok (.goto (-33), 3) := by decide +kernel
theorem d_Md_relax_38 : decode c_Md_relax 38 = .ok (.iconst 1, 1) := by decide +kernel
theorem d_Md_relax_39 : decode c_Md_relax 39 = .ok (.istore_n 1, 1) := by decide +kernel
theorem d_Md_relax_40 : decode c_Md_relax 40 = .ok (.iload_n 1, 1) := by decide +kernel
theorem d_Md_relax_41 : decode c_Md_relax 41 = .ok (.ifCond .eq 89, 3) := by decide +kernel
theorem d_Md_relax_44 : decode c_Md_relax 44 = .ok (.iconst 0, 1) := by decide +kernel
theorem d_Md_relax_45 : decode c_Md_relax 45 = .ok (.istore_n 1, 1) := by decide +kernel
theorem d_Md_relax_46 : decode c_Md_relax 46 = .ok (.aload_n 0, 1) := by decide +kernel
theorem d_Md_relax_47 : decode c_Md_relax 47 = .ok (.getfield 157, 3) := by decide +kernel
theorem d_Md_relax_50 : decode c_Md_relax 50 = .ok (.iconst 1, 1) := by decide +kernel
theorem d_Md_relax_51 : decode c_Md_relax 51 = .ok (.isub, 1) := by decide +kernel
theorem d_Md_relax_52 : decode c_Md_relax 52 = .ok (.istore_n 2, 1) := by decide +kernel
theorem d_Md_relax_53 : decode c_Md_relax 53 = .ok (.iload_n 2, 1) := by decide +kernel
theorem d_Md_relax_54 : decode c_Md_relax 54 = .ok (.ifCond .lt 73, 3) := by decide +kernel
theorem d_Md_relax_57 : decode c_Md_relax 57 = .ok (.iconst 0, 1) := by decide +kernel
theorem d_Md_relax_58 : decode c_Md_relax 58 = .ok (.istore_n 3, 1) := by decide +kernel
theorem d_Md_relax_59 : decode c_Md_relax 59 = .ok (.iload_n 3, 1) := by decide +kernel
theorem d_Md_relax_60 : decode c_Md_relax 60 = .ok (.iconst 2, 1) := by decide +kernel
theorem d_Md_relax_61 : decode c_Md_relax 61 = .ok (.if_icmp .gt 60, 3) := by decide +kernel
theorem d_Md_relax_64 : decode c_Md_relax 64 = .ok (.iconst 0, 1) := by decide +kernel
theorem d_Md_relax_65 : decode c_Md_relax 65 = .ok (.istore 4, 2) := by decide +kernel
theorem d_Md_relax_67 : decode c_Md_relax 67 = .ok (.iload 4, 2) := by decide +kernel
theorem d_Md_relax_69 : decode c_Md_relax 69 = .ok (.bipush 103, 2) := by decide +kernel
theorem d_Md_relax_71 : decode c_Md_relax 71 = .ok (.if_icmp .ge 44, 3) := by decide +kernel
theorem d_Md_relax_74 : decode c_Md_relax 74 = .ok (.aload_n 0, 1) := by decide +kernel
theorem d_Md_relax_75 : decode c_Md_relax 75 = .ok (.iload_n 2, 1) := by decide +kernel
theorem d_Md_relax_76 : decode c_Md_relax 76 = .ok (.iload_n 3, 1) := by decide +kernel
theorem d_Md_relax_77 : decode c_Md_relax 77 = .ok (.iload 4, 2) := by decide +kernel
theorem d_Md_relax_79 : decode c_Md_relax 79 = .ok (.invokevirtual 185, 3) := by decide +kernel
theorem d_Md_relax_82 : decode c_Md_relax 82 = .ok (.istore 5, 2) := by decide +kernel
theorem d_Md_relax_84 : decode c_Md_relax 84 = .ok (.iload 5, 2) := by decide +kernel
theorem d_Md_relax_86 : decode c_Md_relax 86 = .ok (.aload_n 0, 1) := by decide +kernel
theorem d_Md_relax_87 : decode c_Md_relax 87 = .ok (.iload_n 2, 1) := by decide +kernel
theorem d_Md_relax_88 : decode c_Md_relax 88 = .ok (.iload_n 3, 1) := by decide +kernel
theorem d_Md_relax_89 : decode c_Md_relax 89 = .ok (.invokevirtual 176, 3) := by decide +kernel
theorem d_Md_relax_92 : decode c_Md_relax 92 = .ok (.if_icmp .ge 17, 3) := by decide +kernel
theorem d_Md_relax_95 : decode c_Md_relax 95 = .ok (.aload_n 0, 1) := by decide +kernel
theorem d_Md_relax_96 : decode c_Md_relax 96 = .ok (.getfield 128, 3) := by decide +kernel
theorem d_Md_relax_99 : decode c_Md_relax 99 = .ok (.iconst 3, 1) := by decide +kernel
theorem d_Md_relax_100 : decode c_Md_relax 100 = .ok (.iload_n 2, 1) := by decide +kernel
theorem d_Md_relax_101 : decode c_Md_relax 101 = .ok (.imul, 1) := by decide +kernel
theorem d_Md_relax_102 : decode c_Md_relax 102 = .ok (.iload_n 3, 1) := by decide +kernel
theorem d_Md_relax_103 : decode c_Md_relax 103 = .ok (.iadd, 1) := by decide +kernel
theorem d_Md_relax_104 : decode c_Md_relax 104 = .ok (.iload 5, 2) := by decide +kernel
theorem d_Md_relax_106 : decode c_Md_relax 106 = .ok (.iastore, 1) := by decide +kernel
theorem d_Md_relax_107 : decode c_Md_relax 107 = .ok (.iconst 1, 1) := by decide +kernel
theorem d_Md_relax_108 : decode c_Md_relax 108 = .ok (.istore_n 1, 1) := by decide +kernel
theorem d_Md_relax_109 : decode c_Md_relax 109 = .ok (.iinc 4 1, 3) := by decide +kernel
theorem d_Md_relax_112 : decode c_Md_relax 112 = .ok (.goto (-45), 3) := by decide +kernel
theorem d_Md_relax_115 : decode c_Md_relax 115 = .ok (.iinc 3 1, 3) := by decide +kernel
theorem d_Md_relax_118 : decode c_Md_relax 118 = .ok (.goto (-59), 3) := by decide +kernel
theorem d_Md_relax_121 : decode c_Md_relax 121 = .ok (.iinc 2 (-1), 3) := by decide +kernel
theorem d_Md_relax_124 : decode c_Md_relax 124 = .ok (.goto (-71), 3) := by decide +kernel
theorem d_Md_relax_127 : decode c_Md_relax 127 = .ok (.goto (-87), 3) := by decide +kernel
theorem d_Md_relax_130 : decode c_Md_relax 130 = .ok (.return_, 1) := by decide +kernel
theorem d_Md_add_0 : decode c_Md_add 0 = .ok (.aload_n 0, 1) := by decide +kernel
theorem d_Md_add_1 : decode c_Md_add 1 = .ok (.getfield 131, 3) := by decide +kernel
theorem d_Md_add_4 : decode c_Md_add 4 = .ok (.aload_n 0, 1) := by decide +kernel
theorem d_Md_add_5 : decode c_Md_add 5 = .ok (.getfield 188, 3) := by decide +kernel
theorem d_Md_add_8 : decode c_Md_add 8 = .ok (.iload_n 1, 1) := by decide +kernel
theorem d_Md_add_9 : decode c_Md_add 9 = .ok (.iastore, 1) := by decide +kernel
theorem d_Md_add_10 : decode c_Md_add 10 = .ok (.aload_n 0, 1) := by decide +kernel
theorem d_Md_add_11 : decode c_Md_add 11 = .ok (.dup, 1) := by decide +kernel
theorem d_Md_add_12 : decode c_Md_add 12 = .ok (.getfield 188, 3) := by decide +kernel
theorem d_Md_add_15 : decode c_Md_add 15 = .ok (.iconst 1, 1) := by decide +kernel
theorem d_Md_add_16 : decode c_Md_add 16 = .ok (.iadd, 1) := by decide +kernel
theorem d_Md_add_17 : decode c_Md_add 17 = .ok (.putfield 188, 3) := by decide +kernel
theorem d_Md_add_20 : decode c_Md_add 20 = .ok (.return_, 1) := by decide +kernel
theorem d_Md_check_0 : decode c_Md_check 0 = .ok (.aload_n 0, 1) := by decide +kernel
theorem d_Md_check_1 : decode c_Md_check 1 = .ok (.iconst 0, 1) := by decide +kernel
theorem d_Md_check_2 : decode c_Md_check 2 = .ok (.iaload, 1) := by decide +kernel
theorem d_Md_check_3 : decode c_Md_check 3 = .ok (.istore_n 2, 1) := by decide +kernel
theorem d_Md_check_4 : decode c_Md_check 4 = .ok (.iconst 1, 1) := by decide +kernel
theorem d_Md_check_5 : decode c_Md_check 5 = .ok (.istore_n 3, 1) := by decide +kernel
theorem d_Md_check_6 : decode c_Md_check 6 = .ok (.iload_n 3, 1) := by decide +kernel
theorem d_Md_check_7 : decode c_Md_check 7 = .ok (.iload_n 1, 1) := by decide +kernel
theorem d_Md_check_8 : decode c_Md_check 8 = .ok (.if_icmp .ge 17, 3) := by decide +kernel
theorem d_Md_check_11 : decode c_Md_check 11 = .ok (.iload_n 2, 1) := by decide +kernel
theorem d_Md_check_12 : decode c_Md_check 12 = .ok (.iload_n 3, 1) := by decide +kernel
theorem d_Md_check_13 : decode c_Md_check 13 = .ok (.aload_n 0, 1) := by decide +kernel
theorem d_Md_check_14 : decode c_Md_check 14 = .ok (.iload_n 3, 1) := by decide +kernel
theorem d_Md_check_15 : decode c_Md_check 15 = .ok (.iaload, 1) := by decide +kernel
theorem d_Md_check_16 : decode c_Md_check 16 = .ok (.imul, 1) := by decide +kernel
theorem d_Md_check_17 : decode c_Md_check 17 = .ok (.iadd, 1) := by decide +kernel
theorem d_Md_check_18 : decode c_Md_check 18 = .ok (.istore_n 2, 1) := by decide +kernel
theorem d_Md_check_19 : decode c_Md_check 19 = .ok (.iinc 3 1, 3) := by decide +kernel
theorem d_Md_check_22 : decode c_Md_check 22 = .ok (.goto (-16), 3) := by decide +kernel
theorem d_Md_check_25 : decode c_Md_check 25 = .ok (.iload_n 2, 1) := by decide +kernel
theorem d_Md_check_26 : decode c_Md_check 26 = .ok (.bipush 103, 2) := by decide +kernel
theorem d_Md_check_28 : decode c_Md_check 28 = .ok (.irem, 1) := by decide +kernel
theorem d_Md_check_29 : decode c_Md_check 29 = .ok (.ireturn, 1) := by decide +kernel
theorem d_Md_pack_0 : decode c_Md_pack 0 = .ok (.aload_n 0, 1) := by decide +kernel
theorem d_Md_pack_1 : decode c_Md_pack 1 = .ok (.iconst 0, 1) := by decide +kernel
theorem d_Md_pack_2 : decode c_Md_pack 2 = .ok (.putfield 149, 3) := by decide +kernel
theorem d_Md_pack_5 : decode c_Md_pack 5 = .ok (.aload_n 0, 1) := by decide +kernel
theorem d_Md_pack_6 : decode c_Md_pack 6 = .ok (.invokevirtual 191, 3) := by decide +kernel
theorem d_Md_pack_9 : decode c_Md_pack 9 = .ok (.iconst 0, 1) := by decide +kernel
theorem d_Md_pack_10 : decode c_Md_pack 10 = .ok (.istore_n 1, 1) := by decide +kernel
theorem d_Md_pack_11 : decode c_Md_pack 11 = .ok (.iconst 1, 1) := by decide +kernel
theorem d_Md_pack_12 : decode c_Md_pack 12 = .ok (.istore_n 2, 1) := by decide +kernel
theorem d_Md_pack_13 : decode c_Md_pack 13 = .ok (.iload_n 2, 1) := by decide +kernel
theorem d_Md_pack_14 : decode c_Md_pack 14 = .ok (.iconst 2, 1) := by decide +kernel
theorem d_Md_pack_15 : decode c_Md_pack 15 = .ok (.if_icmp .gt 30, 3) := by decide +kernel
theorem d_Md_pack_18 : decode c_Md_pack 18 = .ok (.aload_n 0, 1) := by decide +kernel
theorem d_Md_pack_19 : decode c_Md_pack 19 = .ok (.iconst 0, 1) := by decide +kernel
theorem d_Md_pack_20 : decode c_Md_pack 20 = .ok (.iload_n 2, 1) := by decide +kernel
theorem d_Md_pack_21 : decode c_Md_pack 21 = .ok (.invokevirtual 176, 3) := by decide +kernel
theorem d_Md_pack_24 : decode c_Md_pack 24 = .ok (.aload_n 0, 1) := by decide +kernel
theorem d_Md_pack_25 : decode c_Md_pack 25 = .ok (.iconst 0, 1) := by decide +kernel
theorem d_Md_pack_26 : decode c_Md_pack 26 = .ok (.iload_n 1, 1) := by decide +kernel
theorem d_Md_pack_27 : decode c_Md_pack 27 = .ok (.invokevirtual 176, 3) := by decide +kernel
theorem d_Md_pack_30 : decode c_Md_pack 30 = .ok (.if_icmp .ge 7, 3) := by decide +kernel
theorem d_Md_pack_33 : decode c_Md_pack 33 = .ok (.iload_n 2, 1) := by decide +kernel
theorem d_Md_pack_34 : decode c_Md_pack 34 = .ok (.goto 4, 3) := by decide +kernel
theorem d_Md_pack_37 : decode c_Md_pack 37 = .ok (.iload_n 1, 1) := by decide +kernel
theorem d_Md_pack_38 : decode c_Md_pack 38 = .ok (.istore_n 1, 1) := by decide +kernel
theorem d_Md_pack_39 : decode c_Md_pack 39 = .ok (.iinc 2 1, 3) := by decide +kernel
theorem d_Md_pack_42 : decode c_Md_pack 42 = .ok (.goto (-29), 3) := by decide +kernel
theorem d_Md_pack_45 : decode c_Md_pack 45 = .ok (.aload_n 0, 1) := by decide +kernel
theorem d_Md_pack_46 : decode c_Md_pack 46 = .ok (.iconst 0, 1) := by decide +kernel
theorem d_Md_pack_47 : decode c_Md_pack 47 = .ok (.putfield 188, 3) := by decide +kernel
theorem d_Md_pack_50 : decode c_Md_pack 50 = .ok (.aload_n 0, 1) := by decide +kernel
theorem d_Md_pack_51 : decode c_Md_pack 51 = .ok (.bipush 103, 2) := by decide +kernel
theorem d_Md_pack_53 : decode c_Md_pack 53 = .ok (.iload_n 1, 1) := by decide +kernel
theorem d_Md_pack_54 : decode c_Md_pack 54 = .ok (.iadd, 1) := by decide +kernel
theorem d_Md_pack_55 : decode c_Md_pack 55 = .ok (.invokevirtual 194, 3) := by decide +kernel
theorem d_Md_pack_58 : decode c_Md_pack 58 = .ok (.iconst 0, 1) := by decide +kernel
theorem d_Md_pack_59 : decode c_Md_pack 59 = .ok (.istore_n 2, 1) := by decide +kernel
theorem d_Md_pack_60 : decode c_Md_pack 60 = .ok (.aload_n 0, 1) := by decide +kernel
theorem d_Md_pack_61 : decode c_Md_pack 61 = .ok (.iload_n 2, 1) := by decide +kernel
theorem d_Md_pack_62 : decode c_Md_pack 62 = .ok (.iload_n 1, 1) := by decide +kernel
theorem d_Md_pack_63 : decode c_Md_pack 63 = .ok (.invokevirtual 176, 3) := by decide +kernel
theorem d_Md_pack_66 : decode c_Md_pack 66 = .ok (.ifCond .le 105, 3) := by decide +kernel
theorem d_Md_pack_69 : decode c_Md_pack 69 = .ok (.iconst 0, 1) := by decide +kernel
theorem d_Md_pack_70 : decode c_Md_pack 70 = .ok (.istore_n 3, 1) := by decide +kernel
theorem d_Md_pack_71 : decode c_Md_pack 71 = .ok (.aload_n 0, 1) := by decide +kernel
theorem d_Md_pack_72 : decode c_Md_pack 72 = .ok (.iload_n 2, 1) := by decide +kernel
theorem d_Md_pack_73 : decode c_Md_pack 73 = .ok (.iload_n 1, 1) := by decide +kernel
theorem d_Md_pack_74 : decode c_Md_pack 74 = .ok (.iload_n 3, 1) := by decide +kernel
theorem d_Md_pack_75 : decode c_Md_pack 75 = .ok (.invokevirtual 185, 3) := by decide +kernel
theorem d_Md_pack_78 : decode c_Md_pack 78 = .ok (.aload_n 0, 1) := by decide +kernel
theorem d_Md_pack_79 : decode c_Md_pack 79 = .ok (.iload_n 2, 1) := by decide +kernel
theorem d_Md_pack_80 : decode c_Md_pack 80 = .ok (.iload_n 1, 1) := by decide +kernel
theorem d_Md_pack_81 : decode c_Md_pack 81 = .ok (.invokevirtual 176, 3) := by decide +kernel
theorem d_Md_pack_84 : decode c_Md_pack 84 = .ok (.if_icmp .eq 9, 3) := by decide +kernel
theorem d_Md_pack_87 : decode c_Md_pack 87 = .ok (.iinc 3 1, 3) := by decide +kernel
theorem d_Md_pack_90 : decode c_Md_pack 90 = .ok (.goto (-19), 3) := by decide +kernel
theorem d_Md_pack_93 : decode c_Md_pack 93 = .ok (.aload_n 0, 1) := by decide +kernel
theorem d_Md_pack_94 : decode c_Md_pack 94 = .ok (.iload_n 3, 1) := by decide +kernel
theorem d_Md_pack_95 : decode c_Md_pack 95 = .ok (.invokevirtual 194, 3) := by decide +kernel
theorem d_Md_pack_98 : decode c_Md_pack 98 = .ok (.aload_n 0, 1) := by decide +kernel
theorem d_Md_pack_99 : decode c_Md_pack 99 = .ok (.iload_n 2, 1) := by decide +kernel
theorem d_Md_pack_100 : decode c_Md_pack 100 = .ok (.iload_n 1, 1) := by decide +kernel
theorem d_Md_pack_101 : decode c_Md_pack 101 = .ok (.iload_n 3, 1) := by decide +kernel
theorem d_Md_pack_102 : decode c_Md_pack 102 = .ok (.invokevirtual 172, 3) := by decide +kernel
theorem d_Md_pack_105 : decode c_Md_pack 105 = .ok (.ifCond .le 16, 3) := by decide +kernel
theorem d_Md_pack_108 : decode c_Md_pack 108 = .ok (.iload_n 2, 1) := by decide +kernel
theorem d_Md_pack_109 : decode c_Md_pack 109 = .ok (.aload_n 0, 1) := by decide +kernel
theorem d_Md_pack_110 : decode c_Md_pack 110 = .ok (.iload_n 2, 1) := by decide +kernel
theorem d_Md_pack_111 : decode c_Md_pack 111 = .ok (.iload_n 1, 1) := by decide +kernel
theorem d_Md_pack_112 : decode c_Md_pack 112 = .ok (.iload_n 3, 1) := by decide +kernel
theorem d_Md_pack_113 : decode c_Md_pack 113 = .ok (.invokevirtual 172, 3) := by decide +kernel
theorem d_Md_pack_116 : decode c_Md_pack 116 = .ok (.iadd, 1) := by decide +kernel
theorem d_Md_pack_117 : decode c_Md_pack 117 = .ok (.istore_n 2, 1) := by decide +kernel
theorem d_Md_pack_118 : decode c_Md_pack 118 = .ok (.goto 50, 3) := by decide +kernel
theorem d_Md_pack_121 : decode c_Md_pack 121 = .ok (.iload_n 3, 1) := by decide +kernel
theorem d_Md_pack_122 : decode c_Md_pack 122 = .ok (.bipush 98, 2) := by decide +kernel
theorem d_Md_pack_124 : decode c_Md_pack 124 = .ok (.if_icmp .ne 38, 3) := by decide +kernel
theorem d_Md_pack_127 : decode c_Md_pack 127 = .ok (.iconst 0, 1) := by decide +kernel
theorem d_Md_pack_128 : decode c_Md_pack 128 = .ok (.istore 4, 2) := by decide +kernel
theorem d_Md_pack_130 : decode c_Md_pack 130 = .ok (.aload_n 0, 1) := by decide +kernel
theorem d_Md_pack_131 : decode c_Md_pack 131 = .ok (.iload_n 2, 1) := by decide +kernel
theorem d_Md_pack_132 : decode c_Md_pack 132 = .ok (.iconst 1, 1) := by decide +kernel
theorem d_Md_pack_133 : decode c_Md_pack 133 = .ok (.iload_n 1, 1) := by decide +kernel
theorem d_Md_pack_134 : decode c_Md_pack 134 = .ok (.isub, 1) := by decide +kernel
theorem d_Md_pack_135 : decode c_Md_pack 135 = .ok (.iload 4, 2) := by decide +kernel
theorem d_Md_pack_137 : decode c_Md_pack 137 = .ok (.invokevirtual 172, 3) := by decide +kernel
theorem d_Md_pack_140 : decode c_Md_pack 140 = .ok (.iconst 1, 1) := by decide +kernel
theorem d_Md_pack_141 : decode c_Md_pack 141 = .ok (.if_icmp .eq 9, 3) := by decide +kernel
theorem d_Md_pack_144 : decode c_Md_pack 144 = .ok (.iinc 4 1, 3) := by decide +kernel
theorem d_Md_pack_147 : decode c_Md_pack 147 = .ok (.goto (-17), 3) := by decide +kernel
theorem d_Md_pack_150 : decode c_Md_pack 150 = .ok (.aload_n 0, 1) := by decide +kernel
theorem d_Md_pack_151 : decode c_Md_pack 151 = .ok (.iload 4, 2) := by decide +kernel
theorem d_Md_pack_153 : decode c_Md_pack 153 = .ok (.invokevirtual 194, 3) := by decide +kernel
theorem d_Md_pack_156 : decode c_Md_pack 156 = .ok (.iinc 2 1, 3) := by decide +kernel
theorem d_Md_pack_159 : decode c_Md_pack 159 = .ok (.goto 9, 3) := by decide +kernel
theorem d_Md_pack_162 : decode c_Md_pack 162 = .ok (.iload_n 1, 1) := by decide +kernel
theorem d_Md_pack_163 : decode c_Md_pack 163 = .ok (.iload_n 3, 1) := by decide +kernel
theorem d_Md_pack_164 : decode c_Md_pack 164 = .ok (.invokestatic 179, 3) := by decide +kernel
theorem d_Md_pack_167 : decode c_Md_pack 167 = .ok (.istore_n 1, 1) := by decide +kernel
theorem d_Md_pack_168 : decode c_Md_pack 168 = .ok (.goto (-108), 3) := by decide +kernel
theorem d_Md_pack_171 : decode c_Md_pack 171 = .ok (.aload_n 0, 1) := by decide +kernel
theorem d_Md_pack_172 : decode c_Md_pack 172 = .ok (.aload_n 0, 1) := by decide +kernel
theorem d_Md_pack_173 : decode c_Md_pack 173 = .ok (.getfield 131, 3) := by decide +kernel
theorem d_Md_pack_176 : decode c_Md_pack 176 = .ok (.aload_n 0, 1) := by decide +kernel
theorem d_Md_pack_177 : decode c_Md_pack 177 = .ok (.getfield 188, 3) := by decide +kernel
theorem d_Md_pack_180 : decode c_Md_pack 180 = .ok (.invokestatic 198, 3) := by decide +kernel
theorem d_Md_pack_183 : decode c_Md_pack 183 = .ok (.invokevirtual 194, 3) := by decide +kernel
theorem d_Md_pack_186 : decode c_Md_pack 186 = .ok (.aload_n 0, 1) := by decide +kernel
theorem d_Md_pack_187 : decode c_Md_pack 187 = .ok (.bipush 106, 2) := by decide +kernel
theorem d_Md_pack_189 : decode c_Md_pack 189 = .ok (.invokevirtual 194, 3) := by decide +kernel
theorem d_Md_pack_192 : decode c_Md_pack 192 = .ok (.aload_n 0, 1) := by decide +kernel
theorem d_Md_pack_193 : decode c_Md_pack 193 = .ok (.getfield 188, 3) := by decide +kernel
theorem d_Md_pack_196 : decode c_Md_pack 196 = .ok (.ireturn, 1) := by decide +kernel
theorem d_Md_symbol_0 : decode c_Md_symbol 0 = .ok (.aload_n 0, 1) := by decide +kernel
theorem d_Md_symbol_1 : decode c_Md_symbol 1 = .ok (.iconst 0, 1) := by decide +kernel
theorem d_Md_symbol_2 : decode c_Md_symbol 2 = .ok (.putfield 149, 3) := by decide +kernel
theorem d_Md_symbol_5 : decode c_Md_symbol 5 = .ok (.iload_n 1, 1) := by decide +kernel
theorem d_Md_symbol_6 : decode c_Md_symbol 6 = .ok (.ifCond .lt 11, 3) := by decide +kernel
theorem d_Md_symbol_9 : decode c_Md_symbol 9 = .ok (.iload_n 1, 1) := by decide +kernel
theorem d_Md_symbol_10 : decode c_Md_symbol 10 = .ok (.aload_n 0, 1) := by decide +kernel
theorem d_Md_symbol_11 : decode c_Md_symbol 11 = .ok (.getfield 188, 3) := by decide +kernel
theorem d_Md_symbol_14 : decode c_Md_symbol 14 = .ok (.if_icmp .lt 7, 3) := by decide +kernel
theorem d_Md_symbol_17 : decode c_Md_symbol 17 = .ok (.iconst (-1), 1) := by decide +kernel
theorem d_Md_symbol_18 : decode c_Md_symbol 18 = .ok (.goto 9, 3) := by decide +kernel
theorem d_Md_symbol_21 : decode c_Md_symbol 21 = .ok (.aload_n 0, 1) := by decide +kernel
theorem d_Md_symbol_22 : decode c_Md_symbol 22 = .ok (.getfield 131, 3) := by decide +kernel
theorem d_Md_symbol_25 : decode c_Md_symbol 25 = .ok (.iload_n 1, 1) := by decide +kernel
theorem d_Md_symbol_26 : decode c_Md_symbol 26 = .ok (.iaload, 1) := by decide +kernel
theorem d_Md_symbol_27 : decode c_Md_symbol 27 = .ok (.ireturn, 1) := by decide +kernel
theorem d_Md_lay_0 : decode c_Md_lay 0 = .ok (.iconst 1, 1) := by decide +kernel
theorem d_Md_lay_1 : decode c_Md_lay 1 = .ok (.istore 4, 2) := by decide +kernel
theorem d_Md_lay_3 : decode c_Md_lay 3 = .ok (.iconst 1, 1) := by decide +kernel
theorem d_Md_lay_4 : decode c_Md_lay 4 = .ok (.istore 5, 2) := by decide +kernel
theorem d_Md_lay_6 : decode c_Md_lay 6 = .ok (.iload 5, 2) := by decide +kernel
theorem d_Md_lay_8 : decode c_Md_lay 8 = .ok (.iload_n 2, 1) := by decide +kernel
theorem d_Md_lay_9 : decode c_Md_lay 9 = .ok (.if_icmp .ge 16, 3) := by decide +kernel
theorem d_Md_lay_12 : decode c_Md_lay 12 = .ok (.iload 4, 2) := by decide +kernel
theorem d_Md_lay_14 : decode c_Md_lay 14 = .ok (.bipush 10, 2) := by decide +kernel
theorem d_Md_lay_16 : decode c_Md_lay 16 = .ok (.imul, 1) := by decide +kernel
theorem d_Md_lay_17 : decode c_Md_lay 17 = .ok (.istore 4, 2) := by decide +kernel
theorem d_Md_lay_19 : decode c_Md_lay 19 = .ok (.iinc 5 1, 3) := by decide +kernel
theorem d_Md_lay_22 : decode c_Md_lay 22 = .ok (.goto (-16), 3) := by decide +kernel
theorem d_Md_lay_25 : decode c_Md_lay 25 = .ok (.iload 4, 2) := by decide +kernel
theorem d_Md_lay_27 : decode c_Md_lay 27 = .ok (.istore 5, 2) := by decide +kernel
theorem d_Md_lay_29 : decode c_Md_lay 29 = .ok (.iload 5, 2) := by decide +kernel
theorem d_Md_lay_31 : decode c_Md_lay 31 = .ok (.ifCond .le 41, 3) := by decide +kernel
theorem d_Md_lay_34 : decode c_Md_lay 34 = .ok (.aload_n 0, 1) := by decide +kernel
theorem d_Md_lay_35 : decode c_Md_lay 35 = .ok (.getfield 134, 3) := by decide +kernel
theorem d_Md_lay_38 : decode c_Md_lay 38 = .ok (.aload_n 0, 1) := by decide +kernel
theorem d_Md_lay_39 : decode c_Md_lay 39 = .ok (.getfield 202, 3) := by decide +kernel
theorem d_Md_lay_42 : decode c_Md_lay 42 = .ok (.iload_n 1, 1) := by decide +kernel
theorem d_Md_lay_43 : decode c_Md_lay 43 = .ok (.iload 5, 2) := by decide +kernel
theorem d_Md_lay_45 : decode c_Md_lay 45 = .ok (.idiv, 1) := by decide +kernel
theorem d_Md_lay_46 : decode c_Md_lay 46 = .ok (.bipush 10, 2) := by decide +kernel
theorem d_Md_lay_48 : decode c_Md_lay 48 = .ok (.irem, 1) := by decide +kernel
theorem d_Md_lay_49 : decode c_Md_lay 49 = .ok (.iload_n 3, 1) := by decide +kernel
theorem d_Md_lay_50 : decode c_Md_lay 50 = .ok (.imul, 1) := by decide +kernel
theorem d_Md_lay_51 : decode c_Md_lay 51 = .ok (.iastore, 1) := by decide +kernel
theorem d_Md_lay_52 : decode c_Md_lay 52 = .ok (.aload_n 0, 1) := by decide +kernel
theorem d_Md_lay_53 : decode c_Md_lay 53 = .ok (.dup, 1) := by decide +kernel
theorem d_Md_lay_54 : decode c_Md_lay 54 = .ok (.getfield 202, 3) := by decide +kernel
theorem d_Md_lay_57 : decode c_Md_lay 57 = .ok (.iconst 1, 1) := by decide +kernel
theorem d_Md_lay_58 : decode c_Md_lay 58 = .ok (.iadd, 1) := by decide +kernel
theorem d_Md_lay_59 : decode c_Md_lay 59 = .ok (.putfield 202, 3) := by decide +kernel
theorem d_Md_lay_62 : decode c_Md_lay 62 = .ok (.iload 5, 2) := by decide +kernel
theorem d_Md_lay_64 : decode c_Md_lay 64 = .ok (.bipush 10, 2) := by decide +kernel
theorem d_Md_lay_66 : decode c_Md_lay 66 = .ok (.idiv, 1) := by decide +kernel
theorem d_Md_lay_67 : decode c_Md_lay 67 = .ok (.istore 5, 2) := by decide +kernel
theorem d_Md_lay_69 : decode c_Md_lay 69 = .ok (.goto (-40), 3) := by decide +kernel
theorem d_Md_lay_72 : decode c_Md_lay 72 = .ok (.return_, 1) := by decide +kernel
theorem d_Md_noModule_0 : decode c_Md_noModule 0 = .ok (.iload_n 0, 1) := by decide +kernel
theorem d_Md_noModule_1 : decode c_Md_noModule 1 = .ok (.iconst 1, 1) := by decide +kernel
theorem d_Md_noModule_2 : decode c_Md_noModule 2 = .ok (.if_icmp .lt 9, 3) := by decide +kernel
theorem d_Md_noModule_5 : decode c_Md_noModule 5 = .ok (.iload_n 0, 1) := by decide +kernel
theorem d_Md_noModule_6 : decode c_Md_noModule 6 = .ok (.bipush 50, 2) := by decide +kernel
theorem d_Md_noModule_8 : decode c_Md_noModule 8 = .ok (.if_icmp .le 7, 3) := by decide +kernel
theorem d_Md_noModule_11 : decode c_Md_noModule 11 = .ok (.iconst 1, 1) := by decide +kernel
theorem d_Md_noModule_12 : decode c_Md_noModule 12 = .ok (.goto 4, 3) := by decide +kernel
theorem d_Md_noModule_15 : decode c_Md_noModule 15 = .ok (.iconst 0, 1) := by decide +kernel
theorem d_Md_noModule_16 : decode c_Md_noModule 16 = .ok (.ireturn, 1) := by decide +kernel
theorem d_Md_bars_0 : decode c_Md_bars 0 = .ok (.aload_n 0, 1) := by decide +kernel
theorem d_Md_bars_1 : decode c_Md_bars 1 = .ok (.iload_n 1, 1) := by decide +kernel
theorem d_Md_bars_2 : decode c_Md_bars 2 = .ok (.invokestatic 205, 3) := by decide +kernel
theorem d_Md_bars_5 : decode c_Md_bars 5 = .ok (.ifCond .eq 7, 3) := by decide +kernel
theorem d_Md_bars_8 : decode c_Md_bars 8 = .ok (.iconst 1, 1) := by decide +kernel
theorem d_Md_bars_9 : decode c_Md_bars 9 = .ok (.goto 15, 3) := by decide +kernel
theorem d_Md_bars_12 : decode c_Md_bars 12 = .ok (.aload_n 0, 1) := by decide +kernel
theorem d_Md_bars_13 : decode c_Md_bars 13 = .ok (.getfield 188, 3) := by decide +kernel
theorem d_Md_bars_16 : decode c_Md_bars 16 = .ok (.ifCond .ne 7, 3) := by decide +kernel
theorem d_Md_bars_19 : decode c_Md_bars 19 = .ok (.iconst 2, 1) := by decide +kernel
theorem d_Md_bars_20 : decode c_Md_bars 20 = .ok (.goto 4, 3) := by decide +kernel
theorem d_Md_bars_23 : decode c_Md_bars 23 = .ok (.iconst 0, 1) := by decide +kernel
theorem d_Md_bars_24 : decode c_Md_bars 24 = .ok (.putfield 149, 3) := by decide +kernel
theorem d_Md_bars_27 : decode c_Md_bars 27 = .ok (.aload_n 0, 1) := by decide +kernel
theorem d_Md_bars_28 : decode c_Md_bars 28 = .ok (.getfield 149, 3) := by decide +kernel
theorem d_Md_bars_31 : decode c_Md_bars 31 = .ok (.ifCond .le 5, 3) := by decide +kernel
theorem d_Md_bars_34 : decode c_Md_bars 34 = .ok (.iconst 0, 1) := by decide +kernel
theorem d_Md_bars_35 : decode c_Md_bars 35 = .ok (.ireturn, 1) := by decide +kernel
theorem d_Md_bars_36 : decode c_Md_bars 36 = .ok (.aload_n 0, 1) := by decide +kernel
theorem d_Md_bars_37 : decode c_Md_bars 37 = .ok (.iconst 0, 1) := by decide +kernel
theorem d_Md_bars_38 : decode c_Md_bars 38 = .ok (.putfield 202, 3) := by decide +kernel
theorem d_Md_bars_41 : decode c_Md_bars 41 = .ok (.iconst 0, 1) := by decide +kernel
theorem d_Md_bars_42 : decode c_Md_bars 42 = .ok (.istore_n 2, 1) := by decide +kernel
theorem d_Md_bars_43 : decode c_Md_bars 43 = .ok (.iload_n 2, 1) := by decide +kernel
theorem d_Md_bars_44 : decode c_Md_bars 44 = .ok (.aload_n 0, 1) := by decide +kernel
theorem d_Md_bars_45 : decode c_Md_bars 45 = .ok (.getfield 188, 3) := by decide +kernel
theorem d_Md_bars_48 : decode c_Md_bars 48 = .ok (.iconst 1, 1) := by decide +kernel
theorem d_Md_bars_49 : decode c_Md_bars 49 = .ok (.isub, 1) := by decide +kernel
theorem d_Md_bars_50 : decode c_Md_bars 50 = .ok (.if_icmp .ge 27, 3) := by decide +kernel
theorem d_Md_bars_53 : decode c_Md_bars 53 = .ok (.aload_n 0, 1) := by decide +kernel
theorem d_Md_bars_54 : decode c_Md_bars 54 = .ok (.aload_n 0, 1) := by decide +kernel
theorem d_Md_bars_55 : decode c_Md_bars 55 = .ok (.getfield 113, 3) := by decide +kernel
theorem d_Md_bars_58 : decode c_Md_bars 58 = .ok (.aload_n 0, 1) := by decide +kernel
theorem d_Md_bars_59 : decode c_Md_bars 59 = .ok (.getfield 131, 3) := by decide +kernel
theorem d_Md_bars_62 : decode c_Md_bars 62 = .ok (.iload_n 2, 1) := by decide +kernel
theorem d_Md_bars_63 : decode c_Md_bars 63 = .ok (.iaload, 1) := by decide +kernel
theorem d_Md_bars_64 : decode c_Md_bars 64 = .ok (.iaload, 1) := by decide +kernel
theorem d_Md_bars_65 : decode c_Md_bars 65 = .ok (.bipush 6, 2) := by decide +kernel
theorem d_Md_bars_67 : decode c_Md_bars 67 = .ok (.iload_n 1, 1) := by decide +kernel
theorem d_Md_bars_68 : decode c_Md_bars 68 = .ok (.invokevirtual 209, 3) := by decide +kernel
theorem d_Md_bars_71 : decode c_Md_bars 71 = .ok (.iinc 2 1, 3) := by decide +kernel
theorem d_Md_bars_74 : decode c_Md_bars 74 = .ok (.goto (-31), 3) := by decide +kernel
theorem d_Md_bars_77 : decode c_Md_bars 77 = .ok (.aload_n 0, 1) := by decide +kernel
theorem d_Md_bars_78 : decode c_Md_bars 78 = .ok (.ldc 213, 2) := by decide +kernel
theorem d_Md_bars_80 : decode c_Md_bars 80 = .ok (.bipush 7, 2) := by decide +kernel
theorem d_Md_bars_82 : decode c_Md_bars 82 = .ok (.iload_n 1, 1) := by decide +kernel
theorem d_Md_bars_83 : decode c_Md_bars 83 = .ok (.invokevirtual 209, 3) := by decide +kernel
theorem d_Md_bars_86 : decode c_Md_bars 86 = .ok (.aload_n 0, 1) := by decide +kernel
theorem d_Md_bars_87 : decode c_Md_bars 87 = .ok (.getfield 202, 3) := by decide +kernel
theorem d_Md_bars_90 : decode c_Md_bars 90 = .ok (.ireturn, 1) := by decide +kernel
theorem d_Md_noTwelve_0 : decode c_Md_noTwelve 0 = .ok (.lload_n 0, 1) := by decide +kernel
theorem d_Md_noTwelve_1 : decode c_Md_noTwelve 1 = .ok (.lconst 0, 1) := by decide +kernel
theorem d_Md_noTwelve_2 : decode c_Md_noTwelve 2 = .ok (.lcmp, 1) := by decide +kernel
theorem d_Md_noTwelve_3 : decode c_Md_noTwelve 3 = .ok (.ifCond .lt 11, 3) := by decide +kernel
theorem d_Md_noTwelve_6 : decode c_Md_noTwelve 6 = .ok (.lload_n 0, 1) := by decide +kernel
theorem d_Md_noTwelve_7 : decode c_Md_noTwelve 7 = .ok (.ldc2_w 214, 3) := by decide +kernel
theorem d_Md_noTwelve_10 : decode c_Md_noTwelve 10 = .ok (.lcmp, 1) := by decide +kernel
theorem d_Md_noTwelve_11 : decode c_Md_noTwelve 11 = .ok (.ifCond .le 7, 3) := by decide +kernel
theorem d_Md_noTwelve_14 : decode c_Md_noTwelve 14 = .ok (.iconst 1, 1) := by decide +kernel
theorem d_Md_noTwelve_15 : decode c_Md_noTwelve 15 = .ok (.goto 4, 3) := by decide +kernel
theorem d_Md_noTwelve_18 : decode c_Md_noTwelve 18 = .ok (.iconst 0, 1) := by decide +kernel
theorem d_Md_noTwelve_19 : decode c_Md_noTwelve 19 = .ok (.ireturn, 1) := by decide +kernel
theorem d_Md_figure_0 : decode c_Md_figure 0 = .ok (.lload_n 0, 1) := by decide +kernel
theorem d_Md_figure_1 : decode c_Md_figure 1 = .ok (.lstore_n 3, 1) := by decide +kernel
theorem d_Md_figure_2 : decode c_Md_figure 2 = .ok (.bipush 12, 2) := by decide +kernel
theorem d_Md_figure_4 : decode c_Md_figure 4 = .ok (.istore 5, 2) := by decide +kernel
theorem d_Md_figure_6 : decode c_Md_figure 6 = .ok (.iload 5, 2) := by decide +kernel
theorem d_Md_figure_8 : decode c_Md_figure 8 = .ok (.iload_n 2, 1) := by decide +kernel
theorem d_Md_figure_9 : decode c_Md_figure 9 = .ok (.if_icmp .le 15, 3) := by decide +kernel
theorem d_Md_figure_12 : decode c_Md_figure 12 = .ok (.lload_n 3, 1) := by decide +kernel
theorem d_Md_figure_13 : decode c_Md_figure 13 = .ok (.ldc2_w 216, 3) := by decide +kernel
theorem d_Md_figure_16 : decode c_Md_figure 16 = .ok (.ldiv, 1) := by decide +kernel
theorem d_Md_figure_17 : decode c_Md_figure 17 = .ok (.lstore_n 3, 1) := by decide +kernel
theorem d_Md_figure_18 : decode c_Md_figure 18 = .ok (.iinc 5 (-1), 3) := by decide +kernel
theorem d_Md_figure_21 : decode c_Md_figure 21 = .ok (.goto (-15), 3) := by decide +kernel
theorem d_Md_figure_24 : decode c_Md_figure 24 = .ok (.lload_n 3, 1) := by decide +kernel
theorem d_Md_figure_25 : decode c_Md_figure 25 = .ok (.ldc2_w 216, 3) := by decide +kernel
theorem d_Md_figure_28 : decode c_Md_figure 28 = .ok (.lrem, 1) := by decide +kernel
theorem d_Md_figure_29 : decode c_Md_figure 29 = .ok (.l2i, 1) := by decide +kernel
theorem d_Md_figure_30 : decode c_Md_figure 30 = .ok (.ireturn, 1) := by decide +kernel
theorem d_Md_checkFigure_0 : decode c_Md_checkFigure 0 = .ok (.aload_n 0, 1) := by decide +kernel
theorem d_Md_checkFigure_1 : decode c_Md_checkFigure 1 = .ok (.lload_n 1, 1) := by decide +kernel
theorem d_Md_checkFigure_2 : decode c_Md_checkFigure 2 = .ok (.invokestatic 218, 3) := by decide +kernel
theorem d_Md_checkFigure_5 : decode c_Md_checkFigure 5 = .ok (.ifCond .eq 7, 3) := by decide +kernel
theorem d_Md_checkFigure_8 : decode c_Md_checkFigure 8 = .ok (.iconst 1, 1) := by decide +kernel
theorem d_Md_checkFigure_9 : decode c_Md_checkFigure 9 = .ok (.goto 4, 3) := by decide +kernel
theorem d_Md_checkFigure_12 : decode c_Md_checkFigure 12 = .ok (.iconst 0, 1) := by decide +kernel
theorem d_Md_checkFigure_13 : decode c_Md_checkFigure 13 = .ok (.putfield 149, 3) := by decide +kernel
theorem d_Md_checkFigure_16 : decode c_Md_checkFigure 16 = .ok (.aload_n 0, 1) := by decide +kernel
theorem d_Md_checkFigure_17 : decode c_Md_checkFigure 17 = .ok (.getfield 149, 3) := by decide +kernel
theorem d_Md_checkFigure_20 : decode c_Md_checkFigure 20 = .ok (.ifCond .le 5, 3) := by decide +kernel
theorem d_Md_checkFigure_23 : decode c_Md_checkFigure 23 = .ok (.iconst 0, 1) := by decide +kernel
theorem d_Md_checkFigure_24 : decode c_Md_checkFigure 24 = .ok (.ireturn, 1) := by decide +kernel
theorem d_Md_checkFigure_25 : decode c_Md_checkFigure 25 = .ok (.iconst 0, 1) := by decide +kernel
theorem d_Md_checkFigure_26 : decode c_Md_checkFigure 26 = .ok (.istore_n 3, 1) := by decide +kernel
theorem d_Md_checkFigure_27 : decode c_Md_checkFigure 27 = .ok (.iconst 1, 1) := by decide +kernel
theorem d_Md_checkFigure_28 : decode c_Md_checkFigure 28 = .ok (.istore 4, 2) := by decide +kernel
theorem d_Md_checkFigure_30 : decode c_Md_checkFigure 30 = .ok (.iload 4, 2) := by decide +kernel
theorem d_Md_checkFigure_32 : decode c_Md_checkFigure 32 = .ok (.bipush 12, 2) := by decide +kernel
theorem d_Md_checkFigure_34 : decode c_Md_checkFigure 34 = .ok (.if_icmp .gt 32, 3) := by decide +kernel
theorem d_Md_checkFigure_37 : decode c_Md_checkFigure 37 = .ok (.iload_n 3, 1) := by decide +kernel
theorem d_Md_checkFigure_38 : decode c_Md_checkFigure 38 = .ok (.iload 4, 2) := by decide +kernel
theorem d_Md_checkFigure_40 : decode c_Md_checkFigure 40 = .ok (.iconst 2, 1) := by decide +kernel
theorem d_Md_checkFigure_41 : decode c_Md_checkFigure 41 = .ok (.irem, 1) := by decide +kernel
theorem d_Md_checkFigure_42 : decode c_Md_checkFigure 42 = .ok (.iconst 1, 1) := by decide +kernel
theorem d_Md_checkFigure_43 : decode c_Md_checkFigure 43 = .ok (.if_icmp .ne 7, 3) := by decide +kernel
theorem d_Md_checkFigure_46 : decode c_Md_checkFigure 46 = .ok (.iconst 1, 1) := by decide +kernel
theorem d_Md_checkFigure_47 : decode c_Md_checkFigure 47 = .ok (.goto 4, 3) := by decide +kernel
theorem d_Md_checkFigure_50 : decode c_Md_checkFigure 50 = .ok (.iconst 3, 1) := by decide +kernel
theorem d_Md_checkFigure_51 : decode c_Md_checkFigure 51 = .ok (.lload_n 1, 1) := by decide +kernel
theorem d_Md_checkFigure_52 : decode c_Md_checkFigure 52 = .ok (.iload 4, 2) := by decide +kernel
theorem d_Md_checkFigure_54 : decode c_Md_checkFigure 54 = .ok (.invokestatic 222, 3) := by decide +kernel
theorem d_Md_checkFigure_57 : decode c_Md_checkFigure 57 = .ok (.imul, 1) := by decide +kernel
theorem d_Md_checkFigure_58 : decode c_Md_checkFigure 58 = .ok (.iadd, 1) := by decide +kernel
theorem d_Md_checkFigure_59 : decode c_Md_checkFigure 59 = .ok (.istore_n 3, 1) := by decide +kernel
theorem d_Md_checkFigure_60 : decode c_Md_checkFigure 60 = .ok (.iinc 4 1, 3) := by decide +kernel
theorem d_Md_checkFigure_63 : decode c_Md_checkFigure 63 = .ok (.goto (-33), 3) := by decide +kernel
theorem d_Md_checkFigure_66 : decode c_Md_checkFigure 66 = .ok (.iconst 0, 1) := by decide +kernel
theorem d_Md_checkFigure_67 : decode c_Md_checkFigure 67 = .ok (.istore 4, 2) := by decide +kernel
theorem d_Md_checkFigure_69 : decode c_Md_checkFigure 69 = .ok (.iload_n 3, 1) := by decide +kernel
theorem d_Md_checkFigure_70 : decode c_Md_checkFigure 70 = .ok (.iload 4, 2) := by decide +kernel
theorem d_Md_checkFigure_72 : decode c_Md_checkFigure 72 = .ok (.iadd, 1) := by decide +kernel
theorem d_Md_checkFigure_73 : decode c_Md_checkFigure 73 = .ok (.bipush 10, 2) := by decide +kernel
theorem d_Md_checkFigure_75 : decode c_Md_checkFigure 75 = .ok (.irem, 1) := by decide +kernel
theorem d_Md_checkFigure_76 : decode c_Md_checkFigure 76 = .ok (.ifCond .eq 9, 3) := by decide +kernel
theorem d_Md_checkFigure_79 : decode c_Md_checkFigure 79 = .ok (.iinc 4 1, 3) := by decide +kernel
theorem d_Md_checkFigure_82 : decode c_Md_checkFigure 82 = .ok (.goto (-13), 3) := by decide +kernel
theorem d_Md_checkFigure_85 : decode c_Md_checkFigure 85 = .ok (.iload 4, 2) := by decide +kernel
theorem d_Md_checkFigure_87 : decode c_Md_checkFigure 87 = .ok (.ireturn, 1) := by decide +kernel
theorem d_Md_reversed_0 : decode c_Md_reversed 0 = .ok (.iload_n 0, 1) := by decide +kernel
theorem d_Md_reversed_1 : decode c_Md_reversed 1 = .ok (.bipush 10, 2) := by decide +kernel
theorem d_Md_reversed_3 : decode c_Md_reversed 3 = .ok (.irem, 1) := by decide +kernel
theorem d_Md_reversed_4 : decode c_Md_reversed 4 = .ok (.sipush 1000, 3) := by decide +kernel
theorem d_Md_reversed_7 : decode c_Md_reversed 7 = .ok (.imul, 1) := by decide +kernel
theorem d_Md_reversed_8 : decode c_Md_reversed 8 = .ok (.iload_n 0, 1) := by decide +kernel
theorem d_Md_reversed_9 : decode c_Md_reversed 9 = .ok (.bipush 10, 2) := by decide +kernel
theorem d_Md_reversed_11 : decode c_Md_reversed 11 = .ok (.idiv, 1) := by decide +kernel
theorem d_Md_reversed_12 : decode c_Md_reversed 12 = .ok (.bipush 10, 2) := by decide +kernel
theorem d_Md_reversed_14 : decode c_Md_reversed 14 = .ok (.irem, 1) := by decide +kernel
theorem d_Md_reversed_15 : decode c_Md_reversed 15 = .ok (.bipush 100, 2) := by decide +kernel
theorem d_Md_reversed_17 : decode c_Md_reversed 17 = .ok (.imul, 1) := by decide +kernel
theorem d_Md_reversed_18 : decode c_Md_reversed 18 = .ok (.iadd, 1) := by decide +kernel
theorem d_Md_reversed_19 : decode c_Md_reversed 19 = .ok (.iload_n 0, 1) := by decide +kernel
theorem d_Md_reversed_20 : decode c_Md_reversed 20 = .ok (.bipush 100, 2) := by decide +kernel
theorem d_Md_reversed_22 : decode c_Md_reversed 22 = .ok (.idiv, 1) := by decide +kernel
theorem d_Md_reversed_23 : decode c_Md_reversed 23 = .ok (.bipush 10, 2) := by decide +kernel
theorem d_Md_reversed_25 : decode c_Md_reversed 25 = .ok (.irem, 1) := by decide +kernel
theorem d_Md_reversed_26 : decode c_Md_reversed 26 = .ok (.bipush 10, 2) := by decide +kernel
theorem d_Md_reversed_28 : decode c_Md_reversed 28 = .ok (.imul, 1) := by decide +kernel
theorem d_Md_reversed_29 : decode c_Md_reversed 29 = .ok (.iadd, 1) := by decide +kernel
theorem d_Md_reversed_30 : decode c_Md_reversed 30 = .ok (.iload_n 0, 1) := by decide +kernel
theorem d_Md_reversed_31 : decode c_Md_reversed 31 = .ok (.sipush 1000, 3) := by decide +kernel
theorem d_Md_reversed_34 : decode c_Md_reversed 34 = .ok (.idiv, 1) := by decide +kernel
theorem d_Md_reversed_35 : decode c_Md_reversed 35 = .ok (.iadd, 1) := by decide +kernel
theorem d_Md_reversed_36 : decode c_Md_reversed 36 = .ok (.ireturn, 1) := by decide +kernel
theorem d_Md_isTurned_0 : decode c_Md_isTurned 0 = .ok (.aload_n 0, 1) := by decide +kernel
theorem d_Md_isTurned_1 : decode c_Md_isTurned 1 = .ok (.getfield 122, 3) := by decide +kernel
theorem d_Md_isTurned_4 : decode c_Md_isTurned 4 = .ok (.iload_n 1, 1) := by decide +kernel
theorem d_Md_isTurned_5 : decode c_Md_isTurned 5 = .ok (.iaload, 1) := by decide +kernel
theorem d_Md_isTurned_6 : decode c_Md_isTurned 6 = .ok (.bipush 7, 2) := by decide +kernel
theorem d_Md_isTurned_8 : decode c_Md_isTurned 8 = .ok (.iload_n 2, 1) := by decide +kernel
theorem d_Md_isTurned_9 : decode c_Md_isTurned 9 = .ok (.isub, 1) := by decide +kernel
theorem d_Md_isTurned_10 : decode c_Md_isTurned 10 = .ok (.ishr, 1) := by decide +kernel
theorem d_Md_isTurned_11 : decode c_Md_isTurned 11 = .ok (.iconst 1, 1) := by decide +kernel
theorem d_Md_isTurned_12 : decode c_Md_isTurned 12 = .ok (.iand, 1) := by decide +kernel
theorem d_Md_isTurned_13 : decode c_Md_isTurned 13 = .ok (.iconst 1, 1) := by decide +kernel
theorem d_Md_isTurned_14 : decode c_Md_isTurned 14 = .ok (.if_icmp .ne 7, 3) := by decide +kernel
theorem d_Md_isTurned_17 : decode c_Md_isTurned 17 = .ok (.iconst 1, 1) := by decide +kernel
theorem d_Md_isTurned_18 : decode c_Md_isTurned 18 = .ok (.goto 4, 3) := by decide +kernel
theorem d_Md_isTurned_21 : decode c_Md_isTurned 21 = .ok (.iconst 0, 1) := by decide +kernel
theorem d_Md_isTurned_22 : decode c_Md_isTurned 22 = .ok (.ireturn, 1) := by decide +kernel
theorem d_Md_thirteen_0 : decode c_Md_thirteen 0 = .ok (.aload_n 0, 1) := by decide +kernel
theorem d_Md_thirteen_1 : decode c_Md_thirteen 1 = .ok (.lload_n 1, 1) := by decide +kernel
theorem d_Md_thirteen_2 : decode c_Md_thirteen 2 = .ok (.invokestatic 218, 3) := by decide +kernel
theorem d_Md_thirteen_5 : decode c_Md_thirteen 5 = .ok (.ifCond .ne 10, 3) := by decide +kernel
theorem d_Md_thirteen_8 : decode c_Md_thirteen 8 = .ok (.iload_n 3, 1) := by decide +kernel
theorem d_Md_thirteen_9 : decode c_Md_thirteen 9 = .ok (.invokestatic 205, 3) := by decide +kernel
theorem d_Md_thirteen_12 : decode c_Md_thirteen 12 = .ok (.ifCond .eq 7, 3) := by decide +kernel
theorem d_Md_thirteen_15 : decode c_Md_thirteen 15 = .ok (.iconst 1, 1) := by decide +kernel
theorem d_Md_thirteen_16 : decode c_Md_thirteen 16 = .ok (.goto 4, 3) := by decide +kernel
theorem d_Md_thirteen_19 : decode c_Md_thirteen 19 = .ok (.iconst 0, 1) := by decide +kernel
theorem d_Md_thirteen_20 : decode c_Md_thirteen 20 = .ok (.putfield 149, 3) := by decide +kernel
theorem d_Md_thirteen_23 : decode c_Md_thirteen 23 = .ok (.aload_n 0, 1) := by decide +kernel
theorem d_Md_thirteen_24 : decode c_Md_thirteen 24 = .ok (.getfield 149, 3) := by decide +kernel
theorem d_Md_thirteen_27 : decode c_Md_thirteen 27 = .ok (.ifCond .le 5, 3) := by decide +kernel
theorem d_Md_thirteen_30 : decode c_Md_thirteen 30 = .ok (.iconst 0, 1) := by decide +kernel
theorem d_Md_thirteen_31 : decode c_Md_thirteen 31 = .ok (.ireturn, 1) := by decide +kernel
theorem d_Md_thirteen_32 : decode c_Md_thirteen 32 = .ok (.aload_n 0, 1) := by decide +kernel
theorem d_Md_thirteen_33 : decode c_Md_thirteen 33 = .ok (.lload_n 1, 1) := by decide +kernel
theorem d_Md_thirteen_34 : decode c_Md_thirteen 34 = .ok (.invokevirtual 226, 3) := by decide +kernel
theorem d_Md_thirteen_37 : decode c_Md_thirteen 37 = .ok (.istore 4, 2) := by decide +kernel
theorem d_Md_thirteen_39 : decode c_Md_thirteen 39 = .ok (.aload_n 0, 1) := by decide +kernel
theorem d_Md_thirteen_40 : decode c_Md_thirteen 40 = .ok (.iconst 0, 1) := by decide +kernel
theorem d_Md_thirteen_41 : decode c_Md_thirteen 41 = .ok (.putfield 202, 3) := by decide +kernel
theorem d_Md_thirteen_44 : decode c_Md_thirteen 44 = .ok (.aload_n 0, 1) := by decide +kernel
theorem d_Md_thirteen_45 : decode c_Md_thirteen 45 = .ok (.bipush 111, 2) := by decide +kernel
theorem d_Md_thirteen_47 : decode c_Md_thirteen 47 = .ok (.iconst 3, 1) := by decide +kernel
theorem d_Md_thirteen_48 : decode c_Md_thirteen 48 = .ok (.iload_n 3, 1) := by decide +kernel
theorem d_Md_thirteen_49 : decode c_Md_thirteen 49 = .ok (.invokevirtual 209, 3) := by decide +kernel
theorem d_Md_thirteen_52 : decode c_Md_thirteen 52 = .ok (.iconst 2, 1) := by decide +kernel
theorem d_Md_thirteen_53 : decode c_Md_thirteen 53 = .ok (.istore 5, 2) := by decide +kernel
theorem d_Md_thirteen_55 : decode c_Md_thirteen 55 = .ok (.iload 5, 2) := by decide +kernel
theorem d_Md_thirteen_57 : decode c_Md_thirteen 57 = .ok (.bipush 13, 2) := by decide +kernel
theorem d_Md_thirteen_59 : decode c_Md_thirteen 59 = .ok (.if_icmp .gt 87, 3) := by decide +kernel
theorem d_Md_thirteen_62 : decode c_Md_thirteen 62 = .ok (.aload_n 0, 1) := by decide +kernel
theorem d_Md_thirteen_63 : decode c_Md_thirteen 63 = .ok (.getfield 119, 3) := by decide +kernel
theorem d_Md_thirteen_66 : decode c_Md_thirteen 66 = .ok (.iload 5, 2) := by decide +kernel
theorem d_Md_thirteen_68 : decode c_Md_thirteen 68 = .ok (.bipush 13, 2) := by decide +kernel
theorem d_Md_thirteen_70 : decode c_Md_thirteen 70 = .ok (.if_icmp .ne 8, 3) := by decide +kernel
theorem d_Md_thirteen_73 : decode c_Md_thirteen 73 = .ok (.iload 4, 2) := by decide +kernel
theorem d_Md_thirteen_75 : decode c_Md_thirteen 75 = .ok (.goto 9, 3) := by decide +kernel
theorem d_Md_thirteen_78 : decode c_Md_thirteen 78 = .ok (.lload_n 1, 1) := by decide +kernel
theorem d_Md_thirteen_79 : decode c_Md_thirteen 79 = .ok (.iload 5, 2) := by decide +kernel
theorem d_Md_thirteen_81 : decode c_Md_thirteen 81 = .ok (.invokestatic 222, 3) := by decide +kernel
theorem d_Md_thirteen_84 : decode c_Md_thirteen 84 = .ok (.iaload, 1) := by decide +kernel
theorem d_Md_thirteen_85 : decode c_Md_thirteen 85 = .ok (.istore 6, 2) := by decide +kernel
theorem d_Md_thirteen_87 : decode c_Md_thirteen 87 = .ok (.aload_n 0, 1) := by decide +kernel
theorem d_Md_thirteen_88 : decode c_Md_thirteen 88 = .ok (.iload 5, 2) := by decide +kernel
theorem d_Md_thirteen_90 : decode c_Md_thirteen 90 = .ok (.bipush 8, 2) := by decide +kernel
theorem d_Md_thirteen_92 : decode c_Md_thirteen 92 = .ok (.if_icmp .ge 25, 3) := by decide +kernel
theorem d_Md_thirteen_95 : decode c_Md_thirteen 95 = .ok (.aload_n 0, 1) := by decide +kernel
theorem d_Md_thirteen_96 : decode c_Md_thirteen 96 = .ok (.lload_n 1, 1) := by decide +kernel
theorem d_Md_thirteen_97 : decode c_Md_thirteen 97 = .ok (.iconst 1, 1) := by decide +kernel
theorem d_Md_thirteen_98 : decode c_Md_thirteen 98 = .ok (.invokestatic 222, 3) := by decide +kernel
theorem d_Md_thirteen_101 : decode c_Md_thirteen 101 = .ok (.iload 5, 2) := by decide +kernel
theorem d_Md_thirteen_103 : decode c_Md_thirteen 103 = .ok (.invokevirtual 230, 3) := by decide +kernel
theorem d_Md_thirteen_106 : decode c_Md_thirteen 106 = .ok (.ifCond .eq 11, 3) := by decide +kernel
theorem d_Md_thirteen_109 : decode c_Md_thirteen 109 = .ok (.iload 6, 2) := by decide +kernel
theorem d_Md_thirteen_111 : decode c_Md_thirteen 111 = .ok (.invokestatic 233, 3) := by decide +kernel
theorem d_Md_thirteen_114 : decode c_Md_thirteen 114 = .ok (.goto 5, 3) := by decide +kernel
theorem d_Md_thirteen_117 : decode c_Md_thirteen 117 = .ok (.iload 6, 2) := by decide +kernel
theorem d_Md_thirteen_119 : decode c_Md_thirteen 119 = .ok (.iconst 4, 1) := by decide +kernel
theorem d_Md_thirteen_120 : decode c_Md_thirteen 120 = .ok (.iload_n 3, 1) := by decide +kernel
theorem d_Md_thirteen_121 : decode c_Md_thirteen 121 = .ok (.invokevirtual 209, 3) := by decide +kernel
theorem d_Md_thirteen_124 : decode c_Md_thirteen 124 = .ok (.iload 5, 2) := by decide +kernel
theorem d_Md_thirteen_126 : decode c_Md_thirteen 126 = .ok (.bipush 7, 2) := by decide +kernel
theorem d_Md_thirteen_128 : decode c_Md_thirteen 128 = .ok (.if_icmp .ne 12, 3) := by decide +kernel
theorem d_Md_thirteen_131 : decode c_Md_thirteen 131 = .ok (.aload_n 0, 1) := by decide +kernel
theorem d_Md_thirteen_132 : decode c_Md_thirteen 132 = .ok (.sipush 11111, 3) := by decide +kernel
theorem d_Md_thirteen_135 : decode c_Md_thirteen 135 = .ok (.iconst 5, 1) := by decide +kernel
theorem d_Md_thirteen_136 : decode c_Md_thirteen 136 = .ok (.iload_n 3, 1) := by decide +kernel
theorem d_Md_thirteen_137 : decode c_Md_thirteen 137 = .ok (.invokevirtual 209, 3) := by decide +kernel
theorem d_Md_thirteen_140 : decode c_Md_thirteen 140 = .ok (.iinc 5 1, 3) := by decide +kernel
theorem d_Md_thirteen_143 : decode c_Md_thirteen 143 = .ok (.goto (-88), 3) := by decide +kernel
theorem d_Md_thirteen_146 : decode c_Md_thirteen 146 = .ok (.aload_n 0, 1) := by decide +kernel
theorem d_Md_thirteen_147 : decode c_Md_thirteen 147 = .ok (.bipush 111, 2) := by decide +kernel
theorem d_Md_thirteen_149 : decode c_Md_thirteen 149 = .ok (.iconst 3, 1) := by decide +kernel
theorem d_Md_thirteen_150 : decode c_Md_thirteen 150 = .ok (.iload_n 3, 1) := by decide +kernel
theorem d_Md_thirteen_151 : decode c_Md_thirteen 151 = .ok (.invokevirtual 209, 3) := by decide +kernel
theorem d_Md_thirteen_154 : decode c_Md_thirteen 154 = .ok (.aload_n 0, 1) := by decide +kernel
theorem d_Md_thirteen_155 : decode c_Md_thirteen 155 = .ok (.getfield 202, 3) := by decide +kernel
theorem d_Md_thirteen_158 : decode c_Md_thirteen 158 = .ok (.ireturn, 1) := by decide +kernel
theorem d_Md_put_0 : decode c_Md_put 0 = .ok (.aload_n 0, 1) := by decide +kernel
theorem d_Md_put_1 : decode c_Md_put 1 = .ok (.iload_n 1, 1) := by decide +kernel
theorem d_Md_put_2 : decode c_Md_put 2 = .ok (.iconst 1, 1) := by decide +kernel
theorem d_Md_put_3 : decode c_Md_put 3 = .ok (.if_icmp .lt 9, 3) := by decide +kernel
theorem d_Md_put_6 : decode c_Md_put 6 = .ok (.iload_n 1, 1) := by decide +kernel
theorem d_Md_put_7 : decode c_Md_put 7 = .ok (.bipush 8, 2) := by decide +kernel
theorem d_Md_put_9 : decode c_Md_put 9 = .ok (.if_icmp .le 7, 3) := by decide +kernel
theorem d_Md_put_12 : decode c_Md_put 12 = .ok (.iconst 1, 1) := by decide +kernel
theorem d_Md_put_13 : decode c_Md_put 13 = .ok (.goto 4, 3) := by decide +kernel
theorem d_Md_put_16 : decode c_Md_put 16 = .ok (.iconst 0, 1) := by decide +kernel
theorem d_Md_put_17 : decode c_Md_put 17 = .ok (.putfield 149, 3) := by decide +kernel
theorem d_Md_put_20 : decode c_Md_put 20 = .ok (.iconst 0, 1) := by decide +kernel
theorem d_Md_put_21 : decode c_Md_put 21 = .ok (.istore 4, 2) := by decide +kernel
theorem d_Md_put_23 : decode c_Md_put 23 = .ok (.iload 4, 2) := by decide +kernel
theorem d_Md_put_25 : decode c_Md_put 25 = .ok (.iload_n 1, 1) := by decide +kernel
theorem d_Md_put_26 : decode c_Md_put 26 = .ok (.if_icmp .ge 41, 3) := by decide +kernel
theorem d_Md_put_29 : decode c_Md_put 29 = .ok (.aload_n 0, 1) := by decide +kernel
theorem d_Md_put_30 : decode c_Md_put 30 = .ok (.getfield 149, 3) := by decide +kernel
theorem d_Md_put_33 : decode c_Md_put 33 = .ok (.ifCond .ne 34, 3) := by decide +kernel
theorem d_Md_put_36 : decode c_Md_put 36 = .ok (.aload_n 0, 1) := by decide +kernel
theorem d_Md_put_37 : decode c_Md_put 37 = .ok (.lload_n 2, 1) := by decide +kernel
theorem d_Md_put_38 : decode c_Md_put 38 = .ok (.bipush 8, 2) := by decide +kernel
theorem d_Md_put_40 : decode c_Md_put 40 = .ok (.iload 4, 2) := by decide +kernel
theorem d_Md_put_42 : decode c_Md_put 42 = .ok (.imul, 1) := by decide +kernel
theorem d_Md_put_43 : decode c_Md_put 43 = .ok (.lshr, 1) := by decide +kernel
theorem d_Md_put_44 : decode c_Md_put 44 = .ok (.ldc2_w 153, 3) := by decide +kernel
theorem d_Md_put_47 : decode c_Md_put 47 = .ok (.land, 1) := by decide +kernel
theorem d_Md_put_48 : decode c_Md_put 48 = .ok (.lconst 0, 1) := by decide +kernel
theorem d_Md_put_49 : decode c_Md_put 49 = .ok (.lcmp, 1) := by decide +kernel
theorem d_Md_put_50 : decode c_Md_put 50 = .ok (.ifCond .ne 7, 3) := by decide +kernel
theorem d_Md_put_53 : decode c_Md_put 53 = .ok (.iconst 1, 1) := by decide +kernel
theorem d_Md_put_54 : decode c_Md_put 54 = .ok (.goto 4, 3) := by decide +kernel
theorem d_Md_put_57 : decode c_Md_put 57 = .ok (.iconst 0, 1) := by decide +kernel
theorem d_Md_put_58 : decode c_Md_put 58 = .ok (.putfield 149, 3) := by decide +kernel
theorem d_Md_put_61 : decode c_Md_put 61 = .ok (.iinc 4 1, 3) := by decide +kernel
theorem d_Md_put_64 : decode c_Md_put 64 = .ok (.goto (-41), 3) := by decide +kernel
theorem d_Md_put_67 : decode c_Md_put 67 = .ok (.aload_n 0, 1) := by decide +kernel
theorem d_Md_put_68 : decode c_Md_put 68 = .ok (.getfield 149, 3) := by decide +kernel
theorem d_Md_put_71 : decode c_Md_put 71 = .ok (.ifCond .le 5, 3) := by decide +kernel
theorem d_Md_put_74 : decode c_Md_put 74 = .ok (.iconst 0, 1) := by decide +kernel
theorem d_Md_put_75 : decode c_Md_put 75 = .ok (.ireturn, 1) := by decide +kernel
theorem d_Md_put_76 : decode c_Md_put 76 = .ok (.aload_n 0, 1) := by decide +kernel
theorem d_Md_put_77 : decode c_Md_put 77 = .ok (.getfield 202, 3) := by decide +kernel
theorem d_Md_put_80 : decode c_Md_put 80 = .ok (.iload_n 1, 1) := by decide +kernel
theorem d_Md_put_81 : decode c_Md_put 81 = .ok (.iadd, 1) := by decide +kernel
theorem d_Md_put_82 : decode c_Md_put 82 = .ok (.sipush 800, 3) := by decide +kernel
theorem d_Md_put_85 : decode c_Md_put 85 = .ok (.if_icmp .le 5, 3) := by decide +kernel
theorem d_Md_put_88 : decode c_Md_put 88 = .ok (.iconst (-1), 1) := by decide +kernel
theorem d_Md_put_89 : decode c_Md_put 89 = .ok (.ireturn, 1) := by decide +kernel
theorem d_Md_put_90 : decode c_Md_put 90 = .ok (.iconst 0, 1) := by decide +kernel
theorem d_Md_put_91 : decode c_Md_put 91 = .ok (.istore 4, 2) := by decide +kernel
theorem d_Md_put_93 : decode c_Md_put 93 = .ok (.iload 4, 2) := by decide +kernel
theorem d_Md_put_95 : decode c_Md_put 95 = .ok (.iload_n 1, 1) := by decide +kernel
theorem d_Md_put_96 : decode c_Md_put 96 = .ok (.if_icmp .ge 40, 3) := by decide +kernel
theorem d_Md_put_99 : decode c_Md_put 99 = .ok (.aload_n 0, 1) := by decide +kernel
theorem d_Md_put_100 : decode c_Md_put 100 = .ok (.getfield 134, 3) := by decide +kernel
theorem d_Md_put_103 : decode c_Md_put 103 = .ok (.aload_n 0, 1) := by decide +kernel
theorem d_Md_put_104 : decode c_Md_put 104 = .ok (.getfield 202, 3) := by decide +kernel
theorem d_Md_put_107 : decode c_Md_put 107 = .ok (.lload_n 2, 1) := by decide +kernel
theorem d_Md_put_108 : decode c_Md_put 108 = .ok (.bipush 8, 2) := by decide +kernel
theorem d_Md_put_110 : decode c_Md_put 110 = .ok (.iload 4, 2) := by decide +kernel
theorem d_Md_put_112 : decode c_Md_put 112 = .ok (.imul, 1) := by decide +kernel
theorem d_Md_put_113 : decode c_Md_put 113 = .ok (.lshr, 1) := by decide +kernel
theorem d_Md_put_114 : decode c_Md_put 114 = .ok (.ldc2_w 153, 3) := by decide +kernel
theorem d_Md_put_117 : decode c_Md_put 117 = .ok (.land, 1) := by decide +kernel
theorem d_Md_put_118 : decode c_Md_put 118 = .ok (.l2i, 1) := by decide +kernel
theorem d_Md_put_119 : decode c_Md_put 119 = .ok (.iastore, 1) := by decide +kernel
theorem d_Md_put_120 : decode c_Md_put 120 = .ok (.aload_n 0, 1) := by decide +kernel
theorem d_Md_put_121 : decode c_Md_put 121 = .ok (.dup, 1) := by decide +kernel
theorem d_Md_put_122 : decode c_Md_put 122 = .ok (.getfield 202, 3) := by decide +kernel
theorem d_Md_put_125 : decode c_Md_put 125 = .ok (.iconst 1, 1) := by decide +kernel
theorem d_Md_put_126 : decode c_Md_put 126 = .ok (.iadd, 1) := by decide +kernel
theorem d_Md_put_127 : decode c_Md_put 127 = .ok (.putfield 202, 3) := by decide +kernel
theorem d_Md_put_130 : decode c_Md_put 130 = .ok (.iinc 4 1, 3) := by decide +kernel
theorem d_Md_put_133 : decode c_Md_put 133 = .ok (.goto (-40), 3) := by decide +kernel
theorem d_Md_put_136 : decode c_Md_put 136 = .ok (.aload_n 0, 1) := by decide +kernel
theorem d_Md_put_137 : decode c_Md_put 137 = .ok (.getfield 202, 3) := by decide +kernel
theorem d_Md_put_140 : decode c_Md_put 140 = .ok (.ireturn, 1) := by decide +kernel
theorem d_Md_clear_0 : decode c_Md_clear 0 = .ok (.aload_n 0, 1) := by decide +kernel
theorem d_Md_clear_1 : decode c_Md_clear 1 = .ok (.iconst 0, 1) := by decide +kernel
theorem d_Md_clear_2 : decode c_Md_clear 2 = .ok (.putfield 149, 3) := by decide +kernel
theorem d_Md_clear_5 : decode c_Md_clear 5 = .ok (.aload_n 0, 1) := by decide +kernel
theorem d_Md_clear_6 : decode c_Md_clear 6 = .ok (.getfield 202, 3) := by decide +kernel
theorem d_Md_clear_9 : decode c_Md_clear 9 = .ok (.istore_n 1, 1) := by decide +kernel
theorem d_Md_clear_10 : decode c_Md_clear 10 = .ok (.aload_n 0, 1) := by decide +kernel
theorem d_Md_clear_11 : decode c_Md_clear 11 = .ok (.iconst 0, 1) := by decide +kernel
theorem d_Md_clear_12 : decode c_Md_clear 12 = .ok (.putfield 202, 3) := by decide +kernel
theorem d_Md_clear_15 : decode c_Md_clear 15 = .ok (.iload_n 1, 1) := by decide +kernel
theorem d_Md_clear_16 : decode c_Md_clear 16 = .ok (.ireturn, 1) := by decide +kernel
theorem d_Md_width_0 : decode c_Md_width 0 = .ok (.aload_n 0, 1) := by decide +kernel
theorem d_Md_width_1 : decode c_Md_width 1 = .ok (.iconst 0, 1) := by decide +kernel
theorem d_Md_width_2 : decode c_Md_width 2 = .ok (.putfield 149, 3) := by decide +kernel
theorem d_Md_width_5 : decode c_Md_width 5 = .ok (.iload_n 1, 1) := by decide +kernel
theorem d_Md_width_6 : decode c_Md_width 6 = .ok (.ifCond .lt 11, 3) := by decide +kernel
theorem d_Md_width_9 : decode c_Md_width 9 = .ok (.iload_n 1, 1) := by decide +kernel
theorem d_Md_width_10 : decode c_Md_width 10 = .ok (.aload_n 0, 1) := by decide +kernel
theorem d_Md_width_11 : decode c_Md_width 11 = .ok (.getfield 202, 3) := by decide +kernel
theorem d_Md_width_14 : decode c_Md_width 14 = .ok (.if_icmp .lt 7, 3) := by decide +kernel
theorem d_Md_width_17 : decode c_Md_width 17 = .ok (.iconst (-1), 1) := by decide +kernel
theorem d_Md_width_18 : decode c_Md_width 18 = .ok (.goto 9, 3) := by decide +kernel
theorem d_Md_width_21 : decode c_Md_width 21 = .ok (.aload_n 0, 1) := by decide +kernel
theorem d_Md_width_22 : decode c_Md_width 22 = .ok (.getfield 134, 3) := by decide +kernel
theorem d_Md_width_25 : decode c_Md_width 25 = .ok (.iload_n 1, 1) := by decide +kernel
theorem d_Md_width_26 : decode c_Md_width 26 = .ok (.iaload, 1) := by decide +kernel
theorem d_Md_width_27 : decode c_Md_width 27 = .ok (.ireturn, 1) := by decide +kernel
theorem d_Md_spoil_0 : decode c_Md_spoil 0 = .ok (.aload_n 0, 1) := by decide +kernel
theorem d_Md_spoil_1 : decode c_Md_spoil 1 = .ok (.iload_n 1, 1) := by decide +kernel
theorem d_Md_spoil_2 : decode c_Md_spoil 2 = .ok (.ifCond .lt 11, 3) := by decide +kernel
theorem d_Md_spoil_5 : decode c_Md_spoil 5 = .ok (.iload_n 1, 1) := by decide +kernel
theorem d_Md_spoil_6 : decode c_Md_spoil 6 = .ok (.aload_n 0, 1) := by decide +kernel
theorem d_Md_spoil_7 : decode c_Md_spoil 7 = .ok (.getfield 202, 3) := by decide +kernel
theorem d_Md_spoil_10 : decode c_Md_spoil 10 = .ok (.if_icmp .lt 7, 3) := by decide +kernel
theorem d_Md_spoil_13 : decode c_Md_spoil 13 = .ok (.iconst 1, 1) := by decide +kernel
theorem d_Md_spoil_14 : decode c_Md_spoil 14 = .ok (.goto 20, 3) := by decide +kernel
theorem d_Md_spoil_17 : decode c_Md_spoil 17 = .ok (.iload_n 2, 1) := by decide +kernel
theorem d_Md_spoil_18 : decode c_Md_spoil 18 = .ok (.iconst 1, 1) := by decide +kernel
theorem d_Md_spoil_19 : decode c_Md_spoil 19 = .ok (.if_icmp .lt 10, 3) := by decide +kernel
theorem d_Md_spoil_22 : decode c_Md_spoil 22 = .ok (.iload_n 2, 1) := by decide +kernel
theorem d_Md_spoil_23 : decode c_Md_spoil 23 = .ok (.sipush 2000, 3) := by decide +kernel
theorem d_Md_spoil_26 : decode c_Md_spoil 26 = .ok (.if_icmp .le 7, 3) := by decide +kernel
theorem d_Md_spoil_29 : decode c_Md_spoil 29 = .ok (.iconst 2, 1) := by decide +kernel
theorem d_Md_spoil_30 : decode c_Md_spoil 30 = .ok (.goto 4, 3) := by decide +kernel
theorem d_Md_spoil_33 : decode c_Md_spoil 33 = .ok (.iconst 0, 1) := by decide +kernel
theorem d_Md_spoil_34 : decode c_Md_spoil 34 = .ok (.putfield 149, 3) := by decide +kernel
theorem d_Md_spoil_37 : decode c_Md_spoil 37 = .ok (.aload_n 0, 1) := by decide +kernel
theorem d_Md_spoil_38 : decode c_Md_spoil 38 = .ok (.getfield 149, 3) := by decide +kernel
theorem d_Md_spoil_41 : decode c_Md_spoil 41 = .ok (.ifCond .le 5, 3) := by decide +kernel
theorem d_Md_spoil_44 : decode c_Md_spoil 44 = .ok (.iconst 0, 1) := by decide +kernel
theorem d_Md_spoil_45 : decode c_Md_spoil 45 = .ok (.ireturn, 1) := by decide +kernel
theorem d_Md_spoil_46 : decode c_Md_spoil 46 = .ok (.aload_n 0, 1) := by decide +kernel
theorem d_Md_spoil_47 : decode c_Md_spoil 47 = .ok (.getfield 134, 3) := by decide +kernel
theorem d_Md_spoil_50 : decode c_Md_spoil 50 = .ok (.iload_n 1, 1) := by decide +kernel
theorem d_Md_spoil_51 : decode c_Md_spoil 51 = .ok (.iaload, 1) := by decide +kernel
theorem d_Md_spoil_52 : decode c_Md_spoil 52 = .ok (.istore_n 3, 1) := by decide +kernel
theorem d_Md_spoil_53 : decode c_Md_spoil 53 = .ok (.aload_n 0, 1) := by decide +kernel
theorem d_Md_spoil_54 : decode c_Md_spoil 54 = .ok (.getfield 134, 3) := by decide +kernel
theorem d_Md_spoil_57 : decode c_Md_spoil 57 = .ok (.iload_n 1, 1) := by decide +kernel
theorem d_Md_spoil_58 : decode c_Md_spoil 58 = .ok (.iload_n 2, 1) := by decide +kernel
theorem d_Md_spoil_59 : decode c_Md_spoil 59 = .ok (.iastore, 1) := by decide +kernel
theorem d_Md_spoil_60 : decode c_Md_spoil 60 = .ok (.iload_n 3, 1) := by decide +kernel
theorem d_Md_spoil_61 : decode c_Md_spoil 61 = .ok (.ireturn, 1) := by decide +kernel
theorem d_Md_reverse_0 : decode c_Md_reverse 0 = .ok (.iconst 0, 1) := by decide +kernel
theorem d_Md_reverse_1 : decode c_Md_reverse 1 = .ok (.istore_n 3, 1) := by decide +kernel
theorem d_Md_reverse_2 : decode c_Md_reverse 2 = .ok (.iload_n 3, 1) := by decide +kernel
theorem d_Md_reverse_3 : decode c_Md_reverse 3 = .ok (.aload_n 0, 1) := by decide +kernel
theorem d_Md_reverse_4 : decode c_Md_reverse 4 = .ok (.getfield 202, 3) := by decide +kernel
theorem d_Md_reverse_7 : decode c_Md_reverse 7 = .ok (.if_icmp .ge 25, 3) := by decide +kernel
theorem d_Md_reverse_10 : decode c_Md_reverse 10 = .ok (.aload_n 0, 1) := by decide +kernel
theorem d_Md_reverse_11 : decode c_Md_reverse 11 = .ok (.getfield 137, 3) := by decide +kernel
theorem d_Md_reverse_14 : decode c_Md_reverse 14 = .ok (.iload_n 3, 1) := by decide +kernel
theorem d_Md_reverse_15 : decode c_Md_reverse 15 = .ok (.aload_n 1, 1) := by decide +kernel
theorem d_Md_reverse_16 : decode c_Md_reverse 16 = .ok (.aload_n 0, 1) := by decide +kernel
theorem d_Md_reverse_17 : decode c_Md_reverse 17 = .ok (.getfield 202, 3) := by decide +kernel
theorem d_Md_reverse_20 : decode c_Md_reverse 20 = .ok (.iconst 1, 1) := by decide +kernel
theorem d_Md_reverse_21 : decode c_Md_reverse 21 = .ok (.isub, 1) := by decide +kernel
theorem d_Md_reverse_22 : decode c_Md_reverse 22 = .ok (.iload_n 3, 1) := by decide +kernel
theorem d_Md_reverse_23 : decode c_Md_reverse 23 = .ok (.isub, 1) := by decide +kernel
theorem d_Md_reverse_24 : decode c_Md_reverse 24 = .ok (.iaload, 1) := by decide +kernel
theorem d_Md_reverse_25 : decode c_Md_reverse 25 = .ok (.iastore, 1) := by decide +kernel
theorem d_Md_reverse_26 : decode c_Md_reverse 26 = .ok (.iinc 3 1, 3) := by decide +kernel
theorem d_Md_reverse_29 : decode c_Md_reverse 29 = .ok (.goto (-27), 3) := by decide +kernel
theorem d_Md_reverse_32 : decode c_Md_reverse 32 = .ok (.iconst 0, 1) := by decide +kernel
theorem d_Md_reverse_33 : decode c_Md_reverse 33 = .ok (.istore_n 3, 1) := by decide +kernel
theorem d_Md_reverse_34 : decode c_Md_reverse 34 = .ok (.iload_n 3, 1) := by decide +kernel
theorem d_Md_reverse_35 : decode c_Md_reverse 35 = .ok (.aload_n 0, 1) := by decide +kernel
theorem d_Md_reverse_36 : decode c_Md_reverse 36 = .ok (.getfield 202, 3) := by decide +kernel
theorem d_Md_reverse_39 : decode c_Md_reverse 39 = .ok (.if_icmp .ge 18, 3) := by decide +kernel
theorem d_Md_reverse_42 : decode c_Md_reverse 42 = .ok (.aload_n 2, 1) := by decide +kernel
theorem d_Md_reverse_43 : decode c_Md_reverse 43 = .ok (.iload_n 3, 1) := by decide +kernel
theorem d_Md_reverse_44 : decode c_Md_reverse 44 = .ok (.aload_n 0, 1) := by decide +kernel
theorem d_Md_reverse_45 : decode c_Md_reverse 45 = .ok (.getfield 137, 3) := by decide +kernel
theorem d_Md_reverse_48 : decode c_Md_reverse 48 = .ok (.iload_n 3, 1) := by decide +kernel
theorem d_Md_reverse_49 : decode c_Md_reverse 49 = .ok (.iaload, 1) := by decide +kernel
theorem d_Md_reverse_50 : decode c_Md_reverse 50 = .ok (.iastore, 1) := by decide +kernel
theorem d_Md_reverse_51 : decode c_Md_reverse 51 = .ok (.iinc 3 1, 3) := by decide +kernel
theorem d_Md_reverse_54 : decode c_Md_reverse 54 = .ok (.goto (-20), 3) := by decide +kernel
theorem d_Md_reverse_57 : decode c_Md_reverse 57 = .ok (.return_, 1) := by decide +kernel
theorem d_Md_turn_0 : decode c_Md_turn 0 = .ok (.aload_n 0, 1) := by decide +kernel
theorem d_Md_turn_1 : decode c_Md_turn 1 = .ok (.iconst 0, 1) := by decide +kernel
theorem d_Md_turn_2 : decode c_Md_turn 2 = .ok (.putfield 149, 3) := by decide +kernel
theorem d_Md_turn_5 : decode c_Md_turn 5 = .ok (.aload_n 0, 1) := by decide +kernel
theorem d_Md_turn_6 : decode c_Md_turn 6 = .ok (.aload_n 0, 1) := by decide +kernel
theorem d_Md_turn_7 : decode c_Md_turn 7 = .ok (.getfield 134, 3) := by decide +kernel
theorem d_Md_turn_10 : decode c_Md_turn 10 = .ok (.aload_n 0, 1) := by decide +kernel
theorem d_Md_turn_11 : decode c_Md_turn 11 = .ok (.getfield 134, 3) := by decide +kernel
theorem d_Md_turn_14 : decode c_Md_turn 14 = .ok (.invokevirtual 236, 3) := by decide +kernel
theorem d_Md_turn_17 : decode c_Md_turn 17 = .ok (.aload_n 0, 1) := by decide +kernel
theorem d_Md_turn_18 : decode c_Md_turn 18 = .ok (.getfield 202, 3) := by decide +kernel
theorem d_Md_turn_21 : decode c_Md_turn 21 = .ok (.ireturn, 1) := by decide +kernel
theorem d_Md_counts_0 : decode c_Md_counts 0 = .ok (.iconst 0, 1) := by decide +kernel
theorem d_Md_counts_1 : decode c_Md_counts 1 = .ok (.istore 5, 2) := by decide +kernel
theorem d_Md_counts_3 : decode c_Md_counts 3 = .ok (.iload_n 1, 1) := by decide +kernel
theorem d_Md_counts_4 : decode c_Md_counts 4 = .ok (.istore 6, 2) := by decide +kernel
theorem d_Md_counts_6 : decode c_Md_counts 6 = .ok (.iload 6, 2) := by decide +kernel
theorem d_Md_counts_8 : decode c_Md_counts 8 = .ok (.iload_n 1, 1) := by decide +kernel
theorem d_Md_counts_9 : decode c_Md_counts 9 = .ok (.iload_n 2, 1) := by decide +kernel
theorem d_Md_counts_10 : decode c_Md_counts 10 = .ok (.iadd, 1) := by decide +kernel
theorem d_Md_counts_11 : decode c_Md_counts 11 = .ok (.if_icmp .ge 51, 3) := by decide +kernel
theorem d_Md_counts_14 : decode c_Md_counts 14 = .ok (.iconst 2, 1) := by decide +kernel
theorem d_Md_counts_15 : decode c_Md_counts 15 = .ok (.aload_n 0, 1) := by decide +kernel
theorem d_Md_counts_16 : decode c_Md_counts 16 = .ok (.getfield 134, 3) := by decide +kernel
theorem d_Md_counts_19 : decode c_Md_counts 19 = .ok (.iload 6, 2) := by decide +kernel
theorem d_Md_counts_21 : decode c_Md_counts 21 = .ok (.iaload, 1) := by decide +kernel
theorem d_Md_counts_22 : decode c_Md_counts 22 = .ok (.imul, 1) := by decide +kernel
theorem d_Md_counts_23 : decode c_Md_counts 23 = .ok (.iload 4, 2) := by decide +kernel
theorem d_Md_counts_25 : decode c_Md_counts 25 = .ok (.imul, 1) := by decide +kernel
theorem d_Md_counts_26 : decode c_Md_counts 26 = .ok (.iload_n 3, 1) := by decide +kernel
theorem d_Md_counts_27 : decode c_Md_counts 27 = .ok (.iadd, 1) := by decide +kernel
theorem d_Md_counts_28 : decode c_Md_counts 28 = .ok (.iconst 2, 1) := by decide +kernel
theorem d_Md_counts_29 : decode c_Md_counts 29 = .ok (.iload_n 3, 1) := by decide +kernel
theorem d_Md_counts_30 : decode c_Md_counts 30 = .ok (.imul, 1) := by decide +kernel
theorem d_Md_counts_31 : decode c_Md_counts 31 = .ok (.idiv, 1) := by decide +kernel
theorem d_Md_counts_32 : decode c_Md_counts 32 = .ok (.istore 7, 2) := by decide +kernel
theorem d_Md_counts_34 : decode c_Md_counts 34 = .ok (.bipush 10, 2) := by decide +kernel
theorem d_Md_counts_36 : decode c_Md_counts 36 = .ok (.iload 5, 2) := by decide +kernel
theorem d_Md_counts_38 : decode c_Md_counts 38 = .ok (.imul, 1) := by decide +kernel
theorem d_Md_counts_39 : decode c_Md_counts 39 = .ok (.iload 7, 2) := by decide +kernel
theorem d_Md_counts_41 : decode c_Md_counts 41 = .ok (.bipush 9, 2) := by decide +kernel
theorem d_Md_counts_43 : decode c_Md_counts 43 = .ok (.if_icmp .le 8, 3) := by decide +kernel
theorem d_Md_counts_46 : decode c_Md_counts 46 = .ok (.bipush 9, 2) := by decide +kernel
theorem d_Md_counts_48 : decode c_Md_counts 48 = .ok (.goto 5, 3) := by decide +kernel
theorem d_Md_counts_51 : decode c_Md_counts 51 = .ok (.iload 7, 2) := by decide +kernel
theorem d_Md_counts_53 : decode c_Md_counts 53 = .ok (.iadd, 1) := by decide +kernel
theorem d_Md_counts_54 : decode c_Md_counts 54 = .ok (.istore 5, 2) := by decide +kernel
theorem d_Md_counts_56 : decode c_Md_counts 56 = .ok (.iinc 6 1, 3) := by decide +kernel
theorem d_Md_counts_59 : decode c_Md_counts 59 = .ok (.goto (-53), 3) := by decide +kernel
theorem d_Md_counts_62 : decode c_Md_counts 62 = .ok (.iload 5, 2) := by decide +kernel
theorem d_Md_counts_64 : decode c_Md_counts 64 = .ok (.ireturn, 1) := by decide +kernel
theorem d_Md_sumOf_0 : decode c_Md_sumOf 0 = .ok (.iconst 0, 1) := by decide +kernel
theorem d_Md_sumOf_1 : decode c_Md_sumOf 1 = .ok (.istore_n 3, 1) := by decide +kernel
theorem d_Md_sumOf_2 : decode c_Md_sumOf 2 = .ok (.iload_n 1, 1) := by decide +kernel
theorem d_Md_sumOf_3 : decode c_Md_sumOf 3 = .ok (.istore 4, 2) := by decide +kernel
theorem d_Md_sumOf_5 : decode c_Md_sumOf 5 = .ok (.iload 4, 2) := by decide +kernel
theorem d_Md_sumOf_7 : decode c_Md_sumOf 7 = .ok (.iload_n 1, 1) := by decide +kernel
theorem d_Md_sumOf_8 : decode c_Md_sumOf 8 = .ok (.iload_n 2, 1) := by decide +kernel
theorem d_Md_sumOf_9 : decode c_Md_sumOf 9 = .ok (.iadd, 1) := by decide +kernel
theorem d_Md_sumOf_10 : decode c_Md_sumOf 10 = .ok (.if_icmp .ge 19, 3) := by decide +kernel
theorem d_Md_sumOf_13 : decode c_Md_sumOf 13 = .ok (.iload_n 3, 1) := by decide +kernel
theorem d_Md_sumOf_14 : decode c_Md_sumOf 14 = .ok (.aload_n 0, 1) := by decide +kernel
theorem d_Md_sumOf_15 : decode c_Md_sumOf 15 = .ok (.getfield 134, 3) := by decide +kernel
theorem d_Md_sumOf_18 : decode c_Md_sumOf 18 = .ok (.iload 4, 2) := by decide +kernel
theorem d_Md_sumOf_20 : decode c_Md_sumOf 20 = .ok (.iaload, 1) := by decide +kernel
theorem d_Md_sumOf_21 : decode c_Md_sumOf 21 = .ok (.iadd, 1) := by decide +kernel
theorem d_Md_sumOf_22 : decode c_Md_sumOf 22 = .ok (.istore_n 3, 1) := by decide +kernel
theorem d_Md_sumOf_23 : decode c_Md_sumOf 23 = .ok (.iinc 4 1, 3) := by decide +kernel
theorem d_Md_sumOf_26 : decode c_Md_sumOf 26 = .ok (.goto (-21), 3) := by decide +kernel
theorem d_Md_sumOf_29 : decode c_Md_sumOf 29 = .ok (.iload_n 3, 1) := by decide +kernel
theorem d_Md_sumOf_30 : decode c_Md_sumOf 30 = .ok (.ireturn, 1) := by decide +kernel
theorem d_Md_place_0 : decode c_Md_place 0 = .ok (.iconst 0, 1) := by decide +kernel
theorem d_Md_place_1 : decode c_Md_place 1 = .ok (.istore_n 2, 1) := by decide +kernel
theorem d_Md_place_2 : decode c_Md_place 2 = .ok (.iload_n 2, 1) := by decide +kernel
theorem d_Md_place_3 : decode c_Md_place 3 = .ok (.aload_n 0, 1) := by decide +kernel
theorem d_Md_place_4 : decode c_Md_place 4 = .ok (.arraylength, 1) := by decide +kernel
theorem d_Md_place_5 : decode c_Md_place 5 = .ok (.if_icmp .ge 18, 3) := by decide +kernel
theorem d_Md_place_8 : decode c_Md_place 8 = .ok (.aload_n 0, 1) := by decide +kernel
theorem d_Md_place_9 : decode c_Md_place 9 = .ok (.iload_n 2, 1) := by decide +kernel
theorem d_Md_place_10 : decode c_Md_place 10 = .ok (.iaload, 1) := by decide +kernel
theorem d_Md_place_11 : decode c_Md_place 11 = .ok (.iload_n 1, 1) := by decide +kernel
theorem d_Md_place_12 : decode c_Md_place 12 = .ok (.if_icmp .ne 5, 3) := by decide +kernel
theorem d_Md_place_15 : decode c_Md_place 15 = .ok (.iload_n 2, 1) := by decide +kernel
theorem d_Md_place_16 : decode c_Md_place 16 = .ok (.ireturn, 1) := by decide +kernel
theorem d_Md_place_17 : decode c_Md_place 17 = .ok (.iinc 2 1, 3) := by decide +kernel
theorem d_Md_place_20 : decode c_Md_place 20 = .ok (.goto (-18), 3) := by decide +kernel
theorem d_Md_place_23 : decode c_Md_place 23 = .ok (.iconst (-1), 1) := by decide +kernel
theorem d_Md_place_24 : decode c_Md_place 24 = .ok (.ireturn, 1) := by decide +kernel
theorem d_Md_isThirteen_0 : decode c_Md_isThirteen 0 = .ok (.aload_n 0, 1) := by decide +kernel
theorem d_Md_isThirteen_1 : decode c_Md_isThirteen 1 = .ok (.iconst 0, 1) := by decide +kernel
theorem d_Md_isThirteen_2 : decode c_Md_isThirteen 2 = .ok (.bipush 59, 2) := by decide +kernel
theorem d_Md_isThirteen_4 : decode c_Md_isThirteen 4 = .ok (.invokevirtual 240, 3) := by decide +kernel
theorem d_Md_isThirteen_7 : decode c_Md_isThirteen 7 = .ok (.istore_n 1, 1) := by decide +kernel
theorem d_Md_isThirteen_8 : decode c_Md_isThirteen 8 = .ok (.aload_n 0, 1) := by decide +kernel
theorem d_Md_isThirteen_9 : decode c_Md_isThirteen 9 = .ok (.iconst 0, 1) := by decide +kernel
theorem d_Md_isThirteen_10 : decode c_Md_isThirteen 10 = .ok (.iconst 3, 1) := by decide +kernel
theorem d_Md_isThirteen_11 : decode c_Md_isThirteen 11 = .ok (.iload_n 1, 1) := by decide +kernel
theorem d_Md_isThirteen_12 : decode c_Md_isThirteen 12 = .ok (.bipush 95, 2) := by decide +kernel
theorem d_Md_isThirteen_14 : decode c_Md_isThirteen 14 = .ok (.invokevirtual 243, 3) := by decide +kernel
theorem d_Md_isThirteen_17 : decode c_Md_isThirteen 17 = .ok (.bipush 111, 2) := by decide +kernel
theorem d_Md_isThirteen_19 : decode c_Md_isThirteen 19 = .ok (.if_icmp .ne 34, 3) := by decide +kernel
theorem d_Md_isThirteen_22 : decode c_Md_isThirteen 22 = .ok (.aload_n 0, 1) := by decide +kernel
theorem d_Md_isThirteen_23 : decode c_Md_isThirteen 23 = .ok (.bipush 27, 2) := by decide +kernel
theorem d_Md_isThirteen_25 : decode c_Md_isThirteen 25 = .ok (.iconst 5, 1) := by decide +kernel
theorem d_Md_isThirteen_26 : decode c_Md_isThirteen 26 = .ok (.iload_n 1, 1) := by decide +kernel
theorem d_Md_isThirteen_27 : decode c_Md_isThirteen 27 = .ok (.bipush 95, 2) := by decide +kernel
theorem d_Md_isThirteen_29 : decode c_Md_isThirteen 29 = .ok (.invokevirtual 243, 3) := by decide +kernel
theorem d_Md_isThirteen_32 : decode c_Md_isThirteen 32 = .ok (.sipush 11111, 3) := by decide +kernel
theorem d_Md_isThirteen_35 : decode c_Md_isThirteen 35 = .ok (.if_icmp .ne 18, 3) := by decide +kernel
theorem d_Md_isThirteen_38 : decode c_Md_isThirteen 38 = .ok (.aload_n 0, 1) := by decide +kernel
theorem d_Md_isThirteen_39 : decode c_Md_isThirteen 39 = .ok (.bipush 56, 2) := by decide +kernel
theorem d_Md_isThirteen_41 : decode c_Md_isThirteen 41 = .ok (.iconst 3, 1) := by decide +kernel
theorem d_Md_isThirteen_42 : decode c_Md_isThirteen 42 = .ok (.iload_n 1, 1) := by decide +kernel
theorem d_Md_isThirteen_43 : decode c_Md_isThirteen 43 = .ok (.bipush 95, 2) := by decide +kernel
theorem d_Md_isThirteen_45 : decode c_Md_isThirteen 45 = .ok (.invokevirtual 243, 3) := by decide +kernel
theorem d_Md_isThirteen_48 : decode c_Md_isThirteen 48 = .ok (.bipush 111, 2) := by decide +kernel
theorem d_Md_isThirteen_50 : decode c_Md_isThirteen 50 = .ok (.if_icmp .eq 5, 3) := by decide +kernel
theorem d_Md_isThirteen_53 : decode c_Md_isThirteen 53 = .ok (.iconst 0, 1) := by decide +kernel
theorem d_Md_isThirteen_54 : decode c_Md_isThirteen 54 = .ok (.ireturn, 1) := by decide +kernel
theorem d_Md_isThirteen_55 : decode c_Md_isThirteen 55 = .ok (.iconst 0, 1) := by decide +kernel
theorem d_Md_isThirteen_56 : decode c_Md_isThirteen 56 = .ok (.istore_n 2, 1) := by decide +kernel
theorem d_Md_isThirteen_57 : decode c_Md_isThirteen 57 = .ok (.iconst 2, 1) := by decide +kernel
theorem d_Md_isThirteen_58 : decode c_Md_isThirteen 58 = .ok (.istore_n 3, 1) := by decide +kernel
theorem d_Md_isThirteen_59 : decode c_Md_isThirteen 59 = .ok (.iload_n 3, 1) := by decide +kernel
theorem d_Md_isThirteen_60 : decode c_Md_isThirteen 60 = .ok (.bipush 13, 2) := by decide +kernel
theorem d_Md_isThirteen_62 : decode c_Md_isThirteen 62 = .ok (.if_icmp .gt 154, 3) := by decide +kernel
theorem d_Md_isThirteen_65 : decode c_Md_isThirteen 65 = .ok (.iload_n 3, 1) := by decide +kernel
theorem d_Md_isThirteen_66 : decode c_Md_isThirteen 66 = .ok (.bipush 8, 2) := by decide +kernel
theorem d_Md_isThirteen_68 : decode c_Md_isThirteen 68 = .ok (.if_icmp .ge 13, 3) := by decide +kernel
theorem d_Md_isThirteen_71 : decode c_Md_isThirteen 71 = .ok (.iconst 3, 1) := by decide +kernel
theorem d_Md_isThirteen_72 : decode c_Md_isThirteen 72 = .ok (.iconst 4, 1) := by decide +kernel
theorem d_Md_isThirteen_73 : decode c_Md_isThirteen 73 = .ok (.iload_n 3, 1) := by decide +kernel
theorem d_Md_isThirteen_74 : decode c_Md_isThirteen 74 = .ok (.iconst 2, 1) := by decide +kernel
theorem d_Md_isThirteen_75 : decode c_Md_isThirteen 75 = .ok (.isub, 1) := by decide +kernel
theorem d_Md_isThirteen_76 : decode c_Md_isThirteen 76 = .ok (.imul, 1) := by decide +kernel
theorem d_Md_isThirteen_77 : decode c_Md_isThirteen 77 = .ok (.iadd, 1) := by decide +kernel
theorem d_Md_isThirteen_78 : decode c_Md_isThirteen 78 = .ok (.goto 12, 3) := by decide +kernel
theorem d_Md_isThirteen_81 : decode c_Md_isThirteen 81 = .ok (.bipush 32, 2) := by decide +kernel
theorem d_Md_isThirteen_83 : decode c_Md_isThirteen 83 = .ok (.iconst 4, 1) := by decide +kernel
theorem d_Md_isThirteen_84 : decode c_Md_isThirteen 84 = .ok (.iload_n 3, 1) := by decide +kernel
theorem d_Md_isThirteen_85 : decode c_Md_isThirteen 85 = .ok (.bipush 8, 2) := by decide +kernel
theorem d_Md_isThirteen_87 : decode c_Md_isThirteen 87 = .ok (.isub, 1) := by decide +kernel
theorem d_Md_isThirteen_88 : decode c_Md_isThirteen 88 = .ok (.imul, 1) := by decide +kernel
theorem d_Md_isThirteen_89 : decode c_Md_isThirteen 89 = .ok (.iadd, 1) := by decide +kernel
theorem d_Md_isThirteen_90 : decode c_Md_isThirteen 90 = .ok (.istore 4, 2) := by decide +kernel
theorem d_Md_isThirteen_92 : decode c_Md_isThirteen 92 = .ok (.aload_n 0, 1) := by decide +kernel
theorem d_Md_isThirteen_93 : decode c_Md_isThirteen 93 = .ok (.iload 4, 2) := by decide +kernel
theorem d_Md_isThirteen_95 : decode c_Md_isThirteen 95 = .ok (.iconst 4, 1) := by decide +kernel
theorem d_Md_isThirteen_96 : decode c_Md_isThirteen 96 = .ok (.aload_n 0, 1) := by decide +kernel
theorem d_Md_isThirteen_97 : decode c_Md_isThirteen 97 = .ok (.iload 4, 2) := by decide +kernel
theorem d_Md_isThirteen_99 : decode c_Md_isThirteen 99 = .ok (.iconst 4, 1) := by decide +kernel
theorem d_Md_isThirteen_100 : decode c_Md_isThirteen 100 = .ok (.invokevirtual 240, 3) := by decide +kernel
theorem d_Md_isThirteen_103 : decode c_Md_isThirteen 103 = .ok (.bipush 7, 2) := by decide +kernel
theorem d_Md_isThirteen_105 : decode c_Md_isThirteen 105 = .ok (.invokevirtual 243, 3) := by decide +kernel
theorem d_Md_isThirteen_108 : decode c_Md_isThirteen 108 = .ok (.istore 5, 2) := by decide +kernel
theorem d_Md_isThirteen_110 : decode c_Md_isThirteen 110 = .ok (.aload_n 0, 1) := by decide +kernel
theorem d_Md_isThirteen_111 : decode c_Md_isThirteen 111 = .ok (.getfield 119, 3) := by decide +kernel
theorem d_Md_isThirteen_114 : decode c_Md_isThirteen 114 = .ok (.iload 5, 2) := by decide +kernel
theorem d_Md_isThirteen_116 : decode c_Md_isThirteen 116 = .ok (.invokestatic 247, 3) := by decide +kernel
theorem d_Md_isThirteen_119 : decode c_Md_isThirteen 119 = .ok (.ifCond .ge 7, 3) := by decide +kernel
theorem d_Md_isThirteen_122 : decode c_Md_isThirteen 122 = .ok (.iconst 1, 1) := by decide +kernel
theorem d_Md_isThirteen_123 : decode c_Md_isThirteen 123 = .ok (.goto 4, 3) := by decide +kernel
theorem d_Md_isThirteen_126 : decode c_Md_isThirteen 126 = .ok (.iconst 0, 1) := by decide +kernel
theorem d_Md_isThirteen_127 : decode c_Md_isThirteen 127 = .ok (.istore 6, 2) := by decide +kernel
theorem d_Md_isThirteen_129 : decode c_Md_isThirteen 129 = .ok (.iload 6, 2) := by decide +kernel
theorem d_Md_isThirteen_131 : decode c_Md_isThirteen 131 = .ok (.ifCond .eq 26, 3) := by decide +kernel
theorem d_Md_isThirteen_134 : decode c_Md_isThirteen 134 = .ok (.iload_n 3, 1) := by decide +kernel
theorem d_Md_isThirteen_135 : decode c_Md_isThirteen 135 = .ok (.bipush 7, 2) := by decide +kernel
theorem d_Md_isThirteen_137 : decode c_Md_isThirteen 137 = .ok (.if_icmp .gt 18, 3) := by decide +kernel
theorem d_Md_isThirteen_140 : decode c_Md_isThirteen 140 = .ok (.aload_n 0, 1) := by decide +kernel
theorem d_Md_isThirteen_141 : decode c_Md_isThirteen 141 = .ok (.getfield 119, 3) := by decide +kernel
theorem d_Md_isThirteen_144 : decode c_Md_isThirteen 144 = .ok (.iload 5, 2) := by decide +kernel
theorem d_Md_isThirteen_146 : decode c_Md_isThirteen 146 = .ok (.invokestatic 233, 3) := by decide +kernel
theorem d_Md_isThirteen_149 : decode c_Md_isThirteen 149 = .ok (.invokestatic 247, 3) := by decide +kernel
theorem d_Md_isThirteen_152 : decode c_Md_isThirteen 152 = .ok (.ifCond .ge 5, 3) := by decide +kernel
theorem d_Md_isThirteen_155 : decode c_Md_isThirteen 155 = .ok (.iconst 0, 1) := by decide +kernel
theorem d_Md_isThirteen_156 : decode c_Md_isThirteen 156 = .ok (.ireturn, 1) := by decide +kernel
theorem d_Md_isThirteen_157 : decode c_Md_isThirteen 157 = .ok (.aload_n 0, 1) := by decide +kernel
theorem d_Md_isThirteen_158 : decode c_Md_isThirteen 158 = .ok (.getfield 140, 3) := by decide +kernel
theorem d_Md_isThirteen_161 : decode c_Md_isThirteen 161 = .ok (.iload_n 3, 1) := by decide +kernel
theorem d_Md_isThirteen_162 : decode c_Md_isThirteen 162 = .ok (.aload_n 0, 1) := by decide +kernel
theorem d_Md_isThirteen_163 : decode c_Md_isThirteen 163 = .ok (.getfield 119, 3) := by decide +kernel
theorem d_Md_isThirteen_166 : decode c_Md_isThirteen 166 = .ok (.iload 6, 2) := by decide +kernel
theorem d_Md_isThirteen_168 : decode c_Md_isThirteen 168 = .ok (.ifCond .eq 11, 3) := by decide +kernel
theorem d_Md_isThirteen_171 : decode c_Md_isThirteen 171 = .ok (.iload 5, 2) := by decide +kernel
theorem d_Md_isThirteen_173 : decode c_Md_isThirteen 173 = .ok (.invokestatic 233, 3) := by decide +kernel
theorem d_Md_isThirteen_176 : decode c_Md_isThirteen 176 = .ok (.goto 5, 3) := by decide +kernel
theorem d_Md_isThirteen_179 : decode c_Md_isThirteen 179 = .ok (.iload 5, 2) := by decide +kernel
theorem d_Md_isThirteen_181 : decode c_Md_isThirteen 181 = .ok (.invokestatic 247, 3) := by decide +kernel
theorem d_Md_isThirteen_184 : decode c_Md_isThirteen 184 = .ok (.iastore, 1) := by decide +kernel
theorem d_Md_isThirteen_185 : decode c_Md_isThirteen 185 = .ok (.iload_n 3, 1) := by decide +kernel
theorem d_Md_isThirteen_186 : decode c_Md_isThirteen 186 = .ok (.bipush 8, 2) := by decide +kernel
theorem d_Md_isThirteen_188 : decode c_Md_isThirteen 188 = .ok (.if_icmp .ge 20, 3) := by decide +kernel
theorem d_Md_isThirteen_191 : decode c_Md_isThirteen 191 = .ok (.iconst 2, 1) := by decide +kernel
theorem d_Md_isThirteen_192 : decode c_Md_isThirteen 192 = .ok (.iload_n 2, 1) := by decide +kernel
theorem d_Md_isThirteen_193 : decode c_Md_isThirteen 193 = .ok (.imul, 1) := by decide +kernel
theorem d_Md_isThirteen_194 : decode c_Md_isThirteen 194 = .ok (.iload 6, 2) := by decide +kernel
theorem d_Md_isThirteen_196 : decode c_Md_isThirteen 196 = .ok (.ifCond .eq 7, 3) := by decide +kernel
theorem d_Md_isThirteen_199 : decode c_Md_isThirteen 199 = .ok (.iconst 1, 1) := by decide +kernel
theorem d_Md_isThirteen_200 : decode c_Md_isThirteen 200 = .ok (.goto 4, 3) := by decide +kernel
theorem d_Md_isThirteen_203 : decode c_Md_isThirteen 203 = .ok (.iconst 0, 1) := by decide +kernel
theorem d_Md_isThirteen_204 : decode c_Md_isThirteen 204 = .ok (.iadd, 1) := by decide +kernel
theorem d_Md_isThirteen_205 : decode c_Md_isThirteen 205 = .ok (.goto 4, 3) := by decide +kernel
theorem d_Md_isThirteen_208 : decode c_Md_isThirteen 208 = .ok (.iload_n 2, 1) := by decide +kernel
theorem d_Md_isThirteen_209 : decode c_Md_isThirteen 209 = .ok (.istore_n 2, 1) := by decide +kernel
theorem d_Md_isThirteen_210 : decode c_Md_isThirteen 210 = .ok (.iinc 3 1, 3) := by decide +kernel
theorem d_Md_isThirteen_213 : decode c_Md_isThirteen 213 = .ok (.goto (-154), 3) := by decide +kernel
theorem d_Md_isThirteen_216 : decode c_Md_isThirteen 216 = .ok (.aload_n 0, 1) := by decide +kernel
theorem d_Md_isThirteen_217 : decode c_Md_isThirteen 217 = .ok (.getfield 140, 3) := by decide +kernel
theorem d_Md_isThirteen_220 : decode c_Md_isThirteen 220 = .ok (.iconst 1, 1) := by decide +kernel
theorem d_Md_isThirteen_221 : decode c_Md_isThirteen 221 = .ok (.aload_n 0, 1) := by decide +kernel
theorem d_Md_isThirteen_222 : decode c_Md_isThirteen 222 = .ok (.getfield 122, 3) := by decide +kernel
theorem d_Md_isThirteen_225 : decode c_Md_isThirteen 225 = .ok (.iload_n 2, 1) := by decide +kernel
theorem d_Md_isThirteen_226 : decode c_Md_isThirteen 226 = .ok (.invokestatic 247, 3) := by decide +kernel
theorem d_Md_isThirteen_229 : decode c_Md_isThirteen 229 = .ok (.iastore, 1) := by decide +kernel
theorem d_Md_isThirteen_230 : decode c_Md_isThirteen 230 = .ok (.aload_n 0, 1) := by decide +kernel
theorem d_Md_isThirteen_231 : decode c_Md_isThirteen 231 = .ok (.getfield 140, 3) := by decide +kernel
theorem d_Md_isThirteen_234 : decode c_Md_isThirteen 234 = .ok (.iconst 1, 1) := by decide +kernel
theorem d_Md_isThirteen_235 : decode c_Md_isThirteen 235 = .ok (.iaload, 1) := by decide +kernel
theorem d_Md_isThirteen_236 : decode c_Md_isThirteen 236 = .ok (.istore_n 3, 1) := by decide +kernel
theorem d_Md_isThirteen_237 : decode c_Md_isThirteen 237 = .ok (.iconst 2, 1) := by decide +kernel
theorem d_Md_isThirteen_238 : decode c_Md_isThirteen 238 = .ok (.istore 4, 2) := by decide +kernel
theorem d_Md_isThirteen_240 : decode c_Md_isThirteen 240 = .ok (.iload 4, 2) := by decide +kernel
theorem d_Md_isThirteen_242 : decode c_Md_isThirteen 242 = .ok (.bipush 13, 2) := by decide +kernel
theorem d_Md_isThirteen_244 : decode c_Md_isThirteen 244 = .ok (.if_icmp .gt 33, 3) := by decide +kernel
theorem d_Md_isThirteen_247 : decode c_Md_isThirteen 247 = .ok (.iload_n 3, 1) := by decide +kernel
theorem d_Md_isThirteen_248 : decode c_Md_isThirteen 248 = .ok (.iload 4, 2) := by decide +kernel
theorem d_Md_isThirteen_250 : decode c_Md_isThirteen 250 = .ok (.iconst 2, 1) := by decide +kernel
theorem d_Md_isThirteen_251 : decode c_Md_isThirteen 251 = .ok (.irem, 1) := by decide +kernel
theorem d_Md_isThirteen_252 : decode c_Md_isThirteen 252 = .ok (.iconst 1, 1) := by decide +kernel
theorem d_Md_isThirteen_253 : decode c_Md_isThirteen 253 = .ok (.if_icmp .ne 7, 3) := by decide +kernel
theorem d_Md_isThirteen_256 : decode c_Md_isThirteen 256 = .ok (.iconst 1, 1) := by decide +kernel
theorem d_Md_isThirteen_257 : decode c_Md_isThirteen 257 = .ok (.goto 4, 3) := by decide +kernel
theorem d_Md_isThirteen_260 : decode c_Md_isThirteen 260 = .ok (.iconst 3, 1) := by decide +kernel
theorem d_Md_isThirteen_261 : decode c_Md_isThirteen 261 = .ok (.aload_n 0, 1) := by decide +kernel
theorem d_Md_isThirteen_262 : decode c_Md_isThirteen 262 = .ok (.getfield 140, 3) := by decide +kernel
theorem d_Md_isThirteen_265 : decode c_Md_isThirteen 265 = .ok (.iload 4, 2) := by decide +kernel
theorem d_Md_isThirteen_267 : decode c_Md_isThirteen 267 = .ok (.iaload, 1) := by decide +kernel
theorem d_Md_isThirteen_268 : decode c_Md_isThirteen 268 = .ok (.imul, 1) := by decide +kernel
theorem d_Md_isThirteen_269 : decode c_Md_isThirteen 269 = .ok (.iadd, 1) := by decide +kernel
theorem d_Md_isThirteen_270 : decode c_Md_isThirteen 270 = .ok (.istore_n 3, 1) := by decide +kernel
theorem d_Md_isThirteen_271 : decode c_Md_isThirteen 271 = .ok (.iinc 4 1, 3) := by decide +kernel
theorem d_Md_isThirteen_274 : decode c_Md_isThirteen 274 = .ok (.goto (-34), 3) := by decide +kernel
theorem d_Md_isThirteen_277 : decode c_Md_isThirteen 277 = .ok (.aload_n 0, 1) := by decide +kernel
theorem d_Md_isThirteen_278 : decode c_Md_isThirteen 278 = .ok (.getfield 140, 3) := by decide +kernel
theorem d_Md_isThirteen_281 : decode c_Md_isThirteen 281 = .ok (.iconst 1, 1) := by decide +kernel
theorem d_Md_isThirteen_282 : decode c_Md_isThirteen 282 = .ok (.iaload, 1) := by decide +kernel
theorem d_Md_isThirteen_283 : decode c_Md_isThirteen 283 = .ok (.ifCond .lt 10, 3) := by decide +kernel
theorem d_Md_isThirteen_286 : decode c_Md_isThirteen 286 = .ok (.iload_n 3, 1) := by decide +kernel
theorem d_Md_isThirteen_287 : decode c_Md_isThirteen 287 = .ok (.bipush 10, 2) := by decide +kernel
theorem d_Md_isThirteen_289 : decode c_Md_isThirteen 289 = .ok (.irem, 1) := by decide +kernel
theorem d_Md_isThirteen_290 : decode c_Md_isThirteen 290 = .ok (.ifCond .eq 5, 3) := by decide +kernel
theorem d_Md_isThirteen_293 : decode c_Md_isThirteen 293 = .ok (.iconst 0, 1) := by decide +kernel
theorem d_Md_isThirteen_294 : decode c_Md_isThirteen 294 = .ok (.ireturn, 1) := by decide +kernel
theorem d_Md_isThirteen_295 : decode c_Md_isThirteen 295 = .ok (.aload_n 0, 1) := by decide +kernel
theorem d_Md_isThirteen_296 : decode c_Md_isThirteen 296 = .ok (.iconst 0, 1) := by decide +kernel
theorem d_Md_isThirteen_297 : decode c_Md_isThirteen 297 = .ok (.putfield 250, 3) := by decide +kernel
theorem d_Md_isThirteen_300 : decode c_Md_isThirteen 300 = .ok (.iconst 1, 1) := by decide +kernel
theorem d_Md_isThirteen_301 : decode c_Md_isThirteen 301 = .ok (.istore 4, 2) := by decide +kernel
theorem d_Md_isThirteen_303 : decode c_Md_isThirteen 303 = .ok (.iload 4, 2) := by decide +kernel
theorem d_Md_isThirteen_305 : decode c_Md_isThirteen 305 = .ok (.bipush 13, 2) := by decide +kernel
theorem d_Md_isThirteen_307 : decode c_Md_isThirteen 307 = .ok (.if_icmp .gt 23, 3) := by decide +kernel
theorem d_Md_isThirteen_310 : decode c_Md_isThirteen 310 = .ok (.aload_n 0, 1) := by decide +kernel
theorem d_Md_isThirteen_311 : decode c_Md_isThirteen 311 = .ok (.bipush 48, 2) := by decide +kernel
theorem d_Md_isThirteen_313 : decode c_Md_isThirteen 313 = .ok (.aload_n 0, 1) := by decide +kernel
theorem d_Md_isThirteen_314 : decode c_Md_isThirteen 314 = .ok (.getfield 140, 3) := by decide +kernel
theorem d_Md_isThirteen_317 : decode c_Md_isThirteen 317 = .ok (.iload 4, 2) := by decide +kernel
theorem d_Md_isThirteen_319 : decode c_Md_isThirteen 319 = .ok (.iaload, 1) := by decide +kernel
theorem d_Md_isThirteen_320 : decode c_Md_isThirteen 320 = .ok (.iadd, 1) := by decide +kernel
theorem d_Md_isThirteen_321 : decode c_Md_isThirteen 321 = .ok (.invokevirtual 253, 3) := by decide +kernel
theorem d_Md_isThirteen_324 : decode c_Md_isThirteen 324 = .ok (.iinc 4 1, 3) := by decide +kernel
theorem d_Md_isThirteen_327 : decode c_Md_isThirteen 327 = .ok (.goto (-24), 3) := by decide +kernel
theorem d_Md_isThirteen_330 : decode c_Md_isThirteen 330 = .ok (.iconst 1, 1) := by decide +kernel
theorem d_Md_isThirteen_331 : decode c_Md_isThirteen 331 = .ok (.ireturn, 1) := by decide +kernel
theorem d_Md_tell_0 : decode c_Md_tell 0 = .ok (.aload_n 0, 1) := by decide +kernel
theorem d_Md_tell_1 : decode c_Md_tell 1 = .ok (.getfield 146, 3) := by decide +kernel
theorem d_Md_tell_4 : decode c_Md_tell 4 = .ok (.aload_n 0, 1) := by decide +kernel
theorem d_Md_tell_5 : decode c_Md_tell 5 = .ok (.getfield 250, 3) := by decide +kernel
theorem d_Md_tell_8 : decode c_Md_tell 8 = .ok (.iload_n 1, 1) := by decide +kernel
theorem d_Md_tell_9 : decode c_Md_tell 9 = .ok (.iastore, 1) := by decide +kernel
theorem d_Md_tell_10 : decode c_Md_tell 10 = .ok (.aload_n 0, 1) := by decide +kernel
theorem d_Md_tell_11 : decode c_Md_tell 11 = .ok (.dup, 1) := by decide +kernel
theorem d_Md_tell_12 : decode c_Md_tell 12 = .ok (.getfield 250, 3) := by decide +kernel
theorem d_Md_tell_15 : decode c_Md_tell 15 = .ok (.iconst 1, 1) := by decide +kernel
theorem d_Md_tell_16 : decode c_Md_tell 16 = .ok (.iadd, 1) := by decide +kernel
theorem d_Md_tell_17 : decode c_Md_tell 17 = .ok (.putfield 250, 3) := by decide +kernel
theorem d_Md_tell_20 : decode c_Md_tell 20 = .ok (.return_, 1) := by decide +kernel
theorem d_Md_isRow_0 : decode c_Md_isRow 0 = .ok (.iconst 0, 1) := by decide +kernel
theorem d_Md_isRow_1 : decode c_Md_isRow 1 = .ok (.istore_n 2, 1) := by decide +kernel
theorem d_Md_isRow_2 : decode c_Md_isRow 2 = .ok (.iload_n 2, 1) := by decide +kernel
theorem d_Md_isRow_3 : decode c_Md_isRow 3 = .ok (.iload_n 1, 1) := by decide +kernel
theorem d_Md_isRow_4 : decode c_Md_isRow 4 = .ok (.if_icmp .ge 55, 3) := by decide +kernel
theorem d_Md_isRow_7 : decode c_Md_isRow 7 = .ok (.aload_n 0, 1) := by decide +kernel
theorem d_Md_isRow_8 : decode c_Md_isRow 8 = .ok (.getfield 140, 3) := by decide +kernel
theorem d_Md_isRow_11 : decode c_Md_isRow 11 = .ok (.iload_n 2, 1) := by decide +kernel
theorem d_Md_isRow_12 : decode c_Md_isRow 12 = .ok (.aload_n 0, 1) := by decide +kernel
theorem d_Md_isRow_13 : decode c_Md_isRow 13 = .ok (.getfield 113, 3) := by decide +kernel
theorem d_Md_isRow_16 : decode c_Md_isRow 16 = .ok (.aload_n 0, 1) := by decide +kernel
theorem d_Md_isRow_17 : decode c_Md_isRow 17 = .ok (.bipush 6, 2) := by decide +kernel
theorem d_Md_isRow_19 : decode c_Md_isRow 19 = .ok (.iload_n 2, 1) := by decide +kernel
theorem d_Md_isRow_20 : decode c_Md_isRow 20 = .ok (.imul, 1) := by decide +kernel
theorem d_Md_isRow_21 : decode c_Md_isRow 21 = .ok (.bipush 6, 2) := by decide +kernel
theorem d_Md_isRow_23 : decode c_Md_isRow 23 = .ok (.aload_n 0, 1) := by decide +kernel
theorem d_Md_isRow_24 : decode c_Md_isRow 24 = .ok (.bipush 6, 2) := by decide +kernel
theorem d_Md_isRow_26 : decode c_Md_isRow 26 = .ok (.iload_n 2, 1) := by decide +kernel
theorem d_Md_isRow_27 : decode c_Md_isRow 27 = .ok (.imul, 1) := by decide +kernel
theorem d_Md_isRow_28 : decode c_Md_isRow 28 = .ok (.bipush 6, 2) := by decide +kernel
theorem d_Md_isRow_30 : decode c_Md_isRow 30 = .ok (.invokevirtual 240, 3) := by decide +kernel
theorem d_Md_isRow_33 : decode c_Md_isRow 33 = .ok (.bipush 11, 2) := by decide +kernel
theorem d_Md_isRow_35 : decode c_Md_isRow 35 = .ok (.invokevirtual 243, 3) := by decide +kernel
theorem d_Md_isRow_38 : decode c_Md_isRow 38 = .ok (.invokestatic 247, 3) := by decide +kernel
theorem d_Md_isRow_41 : decode c_Md_isRow 41 = .ok (.iastore, 1) := by decide +kernel
theorem d_Md_isRow_42 : decode c_Md_isRow 42 = .ok (.aload_n 0, 1) := by decide +kernel
theorem d_Md_isRow_43 : decode c_Md_isRow 43 = .ok (.getfield 140, 3) := by decide +kernel
theorem d_Md_isRow_46 : decode c_Md_isRow 46 = .ok (.iload_n 2, 1) := by decide +kernel
theorem d_Md_isRow_47 : decode c_Md_isRow 47 = .ok (.iaload, 1) := by decide +kernel
theorem d_Md_isRow_48 : decode c_Md_isRow 48 = .ok (.ifCond .ge 5, 3) := by decide +kernel
theorem d_Md_isRow_51 : decode c_Md_isRow 51 = .ok (.iconst 0, 1) := by decide +kernel
theorem d_Md_isRow_52 : decode c_Md_isRow 52 = .ok (.ireturn, 1) := by decide +kernel
theorem d_Md_isRow_53 : decode c_Md_isRow 53 = .ok (.iinc 2 1, 3) := by decide +kernel
theorem d_Md_isRow_56 : decode c_Md_isRow 56 = .ok (.goto (-54), 3) := by decide +kernel
theorem d_Md_isRow_59 : decode c_Md_isRow 59 = .ok (.aload_n 0, 1) := by decide +kernel
theorem d_Md_isRow_60 : decode c_Md_isRow 60 = .ok (.bipush 6, 2) := by decide +kernel
theorem d_Md_isRow_62 : decode c_Md_isRow 62 = .ok (.iload_n 1, 1) := by decide +kernel
theorem d_Md_isRow_63 : decode c_Md_isRow 63 = .ok (.imul, 1) := by decide +kernel
theorem d_Md_isRow_64 : decode c_Md_isRow 64 = .ok (.bipush 7, 2) := by decide +kernel
theorem d_Md_isRow_66 : decode c_Md_isRow 66 = .ok (.aload_n 0, 1) := by decide +kernel
theorem d_Md_isRow_67 : decode c_Md_isRow 67 = .ok (.bipush 6, 2) := by decide +kernel
theorem d_Md_isRow_69 : decode c_Md_isRow 69 = .ok (.iload_n 1, 1) := by decide +kernel
theorem d_Md_isRow_70 : decode c_Md_isRow 70 = .ok (.imul, 1) := by decide +kernel
theorem d_Md_isRow_71 : decode c_Md_isRow 71 = .ok (.bipush 7, 2) := by decide +kernel
theorem d_Md_isRow_73 : decode c_Md_isRow 73 = .ok (.invokevirtual 240, 3) := by decide +kernel
theorem d_Md_isRow_76 : decode c_Md_isRow 76 = .ok (.bipush 13, 2) := by decide +kernel
theorem d_Md_isRow_78 : decode c_Md_isRow 78 = .ok (.invokevirtual 243, 3) := by decide +kernel
theorem d_Md_isRow_81 : decode c_Md_isRow 81 = .ok (.ldc 213, 2) := by decide +kernel
theorem d_Md_isRow_83 : decode c_Md_isRow 83 = .ok (.if_icmp .ne 35, 3) := by decide +kernel
theorem d_Md_isRow_86 : decode c_Md_isRow 86 = .ok (.aload_n 0, 1) := by decide +kernel
theorem d_Md_isRow_87 : decode c_Md_isRow 87 = .ok (.getfield 140, 3) := by decide +kernel
theorem d_Md_isRow_90 : decode c_Md_isRow 90 = .ok (.iconst 0, 1) := by decide +kernel
theorem d_Md_isRow_91 : decode c_Md_isRow 91 = .ok (.iaload, 1) := by decide +kernel
theorem d_Md_isRow_92 : decode c_Md_isRow 92 = .ok (.bipush 103, 2) := by decide +kernel
theorem d_Md_isRow_94 : decode c_Md_isRow 94 = .ok (.if_icmp .lt 24, 3) := by decide +kernel
theorem d_Md_isRow_97 : decode c_Md_isRow 97 = .ok (.aload_n 0, 1) := by decide +kernel
theorem d_Md_isRow_98 : decode c_Md_isRow 98 = .ok (.getfield 140, 3) := by decide +kernel
theorem d_Md_isRow_101 : decode c_Md_isRow 101 = .ok (.iload_n 1, 1) := by decide +kernel
theorem d_Md_isRow_102 : decode c_Md_isRow 102 = .ok (.iconst 1, 1) := by decide +kernel
theorem d_Md_isRow_103 : decode c_Md_isRow 103 = .ok (.isub, 1) := by decide +kernel
theorem d_Md_isRow_104 : decode c_Md_isRow 104 = .ok (.iaload, 1) := by decide +kernel
theorem d_Md_isRow_105 : decode c_Md_isRow 105 = .ok (.aload_n 0, 1) := by decide +kernel
theorem d_Md_isRow_106 : decode c_Md_isRow 106 = .ok (.getfield 140, 3) := by decide +kernel
theorem d_Md_isRow_109 : decode c_Md_isRow 109 = .ok (.iload_n 1, 1) := by decide +kernel
theorem d_Md_isRow_110 : decode c_Md_isRow 110 = .ok (.iconst 1, 1) := by decide +kernel
theorem d_Md_isRow_111 : decode c_Md_isRow 111 = .ok (.isub, 1) := by decide +kernel
theorem d_Md_isRow_112 : decode c_Md_isRow 112 = .ok (.invokestatic 198, 3) := by decide +kernel
theorem d_Md_isRow_115 : decode c_Md_isRow 115 = .ok (.if_icmp .eq 5, 3) := by decide +kernel
theorem d_Md_isRow_118 : decode c_Md_isRow 118 = .ok (.iconst 0, 1) := by decide +kernel
theorem d_Md_isRow_119 : decode c_Md_isRow 119 = .ok (.ireturn, 1) := by decide +kernel
theorem d_Md_isRow_120 : decode c_Md_isRow 120 = .ok (.aload_n 0, 1) := by decide +kernel
theorem d_Md_isRow_121 : decode c_Md_isRow 121 = .ok (.getfield 140, 3) := by decide +kernel
theorem d_Md_isRow_124 : decode c_Md_isRow 124 = .ok (.iconst 0, 1) := by decide +kernel
theorem d_Md_isRow_125 : decode c_Md_isRow 125 = .ok (.iaload, 1) := by decide +kernel
theorem d_Md_isRow_126 : decode c_Md_isRow 126 = .ok (.bipush 103, 2) := by decide +kernel
theorem d_Md_isRow_128 : decode c_Md_isRow 128 = .ok (.isub, 1) := by decide +kernel
theorem d_Md_isRow_129 : decode c_Md_isRow 129 = .ok (.istore_n 2, 1) := by decide +kernel
theorem d_Md_isRow_130 : decode c_Md_isRow 130 = .ok (.aload_n 0, 1) := by decide +kernel
theorem d_Md_isRow_131 : decode c_Md_isRow 131 = .ok (.iconst 0, 1) := by decide +kernel
theorem d_Md_isRow_132 : decode c_Md_isRow 132 = .ok (.putfield 250, 3) := by decide +kernel
theorem d_Md_isRow_135 : decode c_Md_isRow 135 = .ok (.iconst 1, 1) := by decide +kernel
theorem d_Md_isRow_136 : decode c_Md_isRow 136 = .ok (.istore_n 3, 1) := by decide +kernel
theorem d_Md_isRow_137 : decode c_Md_isRow 137 = .ok (.iload_n 3, 1) := by decide +kernel
theorem d_Md_isRow_138 : decode c_Md_isRow 138 = .ok (.iload_n 1, 1) := by decide +kernel
theorem d_Md_isRow_139 : decode c_Md_isRow 139 = .ok (.iconst 1, 1) := by decide +kernel
theorem d_Md_isRow_140 : decode c_Md_isRow 140 = .ok (.isub, 1) := by decide +kernel
theorem d_Md_isRow_141 : decode c_Md_isRow 141 = .ok (.if_icmp .ge 174, 3) := by decide +kernel
theorem d_Md_isRow_144 : decode c_Md_isRow 144 = .ok (.aload_n 0, 1) := by decide +kernel
theorem d_Md_isRow_145 : decode c_Md_isRow 145 = .ok (.getfield 140, 3) := by decide +kernel
theorem d_Md_isRow_148 : decode c_Md_isRow 148 = .ok (.iload_n 3, 1) := by decide +kernel
theorem d_Md_isRow_149 : decode c_Md_isRow 149 = .ok (.iaload, 1) := by decide +kernel
theorem d_Md_isRow_150 : decode c_Md_isRow 150 = .ok (.istore 4, 2) := by decide +kernel
theorem d_Md_isRow_152 : decode c_Md_isRow 152 = .ok (.iload 4, 2) := by decide +kernel
theorem d_Md_isRow_154 : decode c_Md_isRow 154 = .ok (.bipush 102, 2) := by decide +kernel
theorem d_Md_isRow_156 : decode c_Md_isRow 156 = .ok (.if_icmp .ne 13, 3) := by decide +kernel
theorem d_Md_isRow_159 : decode c_Md_isRow 159 = .ok (.aload_n 0, 1) := by decide +kernel
theorem d_Md_isRow_160 : decode c_Md_isRow 160 = .ok (.sipush 128, 3) := by decide +kernel
theorem d_Md_isRow_163 : decode c_Md_isRow 163 = .ok (.invokevirtual 253, 3) := by decide +kernel
theorem d_Md_isRow_166 : decode c_Md_isRow 166 = .ok (.goto 143, 3) := by decide +kernel
theorem d_Md_isRow_169 : decode c_Md_isRow 169 = .ok (.iload_n 2, 1) := by decide +kernel
theorem d_Md_isRow_170 : decode c_Md_isRow 170 = .ok (.iload 4, 2) := by decide +kernel
theorem d_Md_isRow_172 : decode c_Md_isRow 172 = .ok (.invokestatic 179, 3) := by decide +kernel
theorem d_Md_isRow_175 : decode c_Md_isRow 175 = .ok (.ifCond .lt 25, 3) := by decide +kernel
theorem d_Md_isRow_178 : decode c_Md_isRow 178 = .ok (.iload_n 2, 1) := by decide +kernel
theorem d_Md_isRow_179 : decode c_Md_isRow 179 = .ok (.iconst 2, 1) := by decide +kernel
theorem d_Md_isRow_180 : decode c_Md_isRow 180 = .ok (.if_icmp .ne 10, 3) := by decide +kernel
theorem d_Md_isRow_183 : decode c_Md_isRow 183 = .ok (.iload 4, 2) := by decide +kernel
theorem d_Md_isRow_185 : decode c_Md_isRow 185 = .ok (.bipush 99, 2) := by decide +kernel
theorem d_Md_isRow_187 : decode c_Md_isRow 187 = .ok (.if_icmp .le 13, 3) := by decide +kernel
theorem d_Md_isRow_190 : decode c_Md_isRow 190 = .ok (.iload_n 2, 1) := by decide +kernel
theorem d_Md_isRow_191 : decode c_Md_isRow 191 = .ok (.iload 4, 2) := by decide +kernel
theorem d_Md_isRow_193 : decode c_Md_isRow 193 = .ok (.invokestatic 179, 3) := by decide +kernel
theorem d_Md_isRow_196 : decode c_Md_isRow 196 = .ok (.istore_n 2, 1) := by decide +kernel
theorem d_Md_isRow_197 : decode c_Md_isRow 197 = .ok (.goto 112, 3) := by decide +kernel
theorem d_Md_isRow_200 : decode c_Md_isRow 200 = .ok (.iload_n 2, 1) := by decide +kernel
theorem d_Md_isRow_201 : decode c_Md_isRow 201 = .ok (.iconst 2, 1) := by decide +kernel
theorem d_Md_isRow_202 : decode c_Md_isRow 202 = .ok (.if_icmp .ne 39, 3) := by decide +kernel
theorem d_Md_isRow_205 : decode c_Md_isRow 205 = .ok (.iload 4, 2) := by decide +kernel
theorem d_Md_isRow_207 : decode c_Md_isRow 207 = .ok (.bipush 99, 2) := by decide +kernel
theorem d_Md_isRow_209 : decode c_Md_isRow 209 = .ok (.if_icmp .le 5, 3) := by decide +kernel
theorem d_Md_isRow_212 : decode c_Md_isRow 212 = .ok (.iconst 0, 1) := by decide +kernel
theorem d_Md_isRow_213 : decode c_Md_isRow 213 = .ok (.ireturn, 1) := by decide +kernel
theorem d_Md_isRow_214 : decode c_Md_isRow 214 = .ok (.aload_n 0, 1) := by decide +kernel
theorem d_Md_isRow_215 : decode c_Md_isRow 215 = .ok (.bipush 48, 2) := by decide +kernel
theorem d_Md_isRow_217 : decode c_Md_isRow 217 = .ok (.iload 4, 2) := by decide +kernel
theorem d_Md_isRow_219 : decode c_Md_isRow 219 = .ok (.bipush 10, 2) := by decide +kernel
theorem d_Md_isRow_221 : decode c_Md_isRow 221 = .ok (.idiv, 1) := by decide +kernel
theorem d_Md_isRow_222 : decode c_Md_isRow 222 = .ok (.iadd, 1) := by decide +kernel
theorem d_Md_isRow_223 : decode c_Md_isRow 223 = .ok (.invokevirtual 253, 3) := by decide +kernel
theorem d_Md_isRow_226 : decode c_Md_isRow 226 = .ok (.aload_n 0, 1) := by decide +kernel
theorem d_Md_isRow_227 : decode c_Md_isRow 227 = .ok (.bipush 48, 2) := by decide +kernel
theorem d_Md_isRow_229 : decode c_Md_isRow 229 = .ok (.iload 4, 2) := by decide +kernel
theorem d_Md_isRow_231 : decode c_Md_isRow 231 = .ok (.bipush 10, 2) := by decide +kernel
theorem d_Md_isRow_233 : decode c_Md_isRow 233 = .ok (.irem, 1) := by decide +kernel
theorem d_Md_isRow_234 : decode c_Md_isRow 234 = .ok (.iadd, 1) := by decide +kernel
theorem d_Md_isRow_235 : decode c_Md_isRow 235 = .ok (.invokevirtual 253, 3) := by decide +kernel
theorem d_Md_isRow_238 : decode c_Md_isRow 238 = .ok (.goto 71, 3) := by decide +kernel
theorem d_Md_isRow_241 : decode c_Md_isRow 241 = .ok (.iload 4, 2) := by decide +kernel
theorem d_Md_isRow_243 : decode c_Md_isRow 243 = .ok (.bipush 98, 2) := by decide +kernel
theorem d_Md_isRow_245 : decode c_Md_isRow 245 = .ok (.if_icmp .ne 45, 3) := by decide +kernel
theorem d_Md_isRow_248 : decode c_Md_isRow 248 = .ok (.iinc 3 1, 3) := by decide +kernel
theorem d_Md_isRow_251 : decode c_Md_isRow 251 = .ok (.iload_n 3, 1) := by decide +kernel
theorem d_Md_isRow_252 : decode c_Md_isRow 252 = .ok (.iload_n 1, 1) := by decide +kernel
theorem d_Md_isRow_253 : decode c_Md_isRow 253 = .ok (.iconst 1, 1) := by decide +kernel
theorem d_Md_isRow_254 : decode c_Md_isRow 254 = .ok (.isub, 1) := by decide +kernel
theorem d_Md_isRow_255 : decode c_Md_isRow 255 = .ok (.if_icmp .eq 14, 3) := by decide +kernel
theorem d_Md_isRow_258 : decode c_Md_isRow 258 = .ok (.aload_n 0, 1) := by decide +kernel
theorem d_Md_isRow_259 : decode c_Md_isRow 259 = .ok (.getfield 140, 3) := by decide +kernel
theorem d_Md_isRow_262 : decode c_Md_isRow 262 = .ok (.iload_n 3, 1) := by decide +kernel
theorem d_Md_isRow_263 : decode c_Md_isRow 263 = .ok (.iaload, 1) := by decide +kernel
theorem d_Md_isRow_264 : decode c_Md_isRow 264 = .ok (.bipush 95, 2) := by decide +kernel
theorem d_Md_isRow_266 : decode c_Md_isRow 266 = .ok (.if_icmp .le 5, 3) := by decide +kernel
theorem d_Md_isRow_269 : decode c_Md_isRow 269 = .ok (.iconst 0, 1) := by decide +kernel
theorem d_Md_isRow_270 : decode c_Md_isRow 270 = .ok (.ireturn, 1) := by decide +kernel
theorem d_Md_isRow_271 : decode c_Md_isRow 271 = .ok (.aload_n 0, 1) := by decide +kernel
theorem d_Md_isRow_272 : decode c_Md_isRow 272 = .ok (.iconst 1, 1) := by decide +kernel
theorem d_Md_isRow_273 : decode c_Md_isRow 273 = .ok (.iload_n 2, 1) := by decide +kernel
theorem d_Md_isRow_274 : decode c_Md_isRow 274 = .ok (.isub, 1) := by decide +kernel
theorem d_Md_isRow_275 : decode c_Md_isRow 275 = .ok (.aload_n 0, 1) := by decide +kernel
theorem d_Md_isRow_276 : decode c_Md_isRow 276 = .ok (.getfield 140, 3) := by decide +kernel
theorem d_Md_isRow_279 : decode c_Md_isRow 279 = .ok (.iload_n 3, 1) := by decide +kernel
theorem d_Md_isRow_280 : decode c_Md_isRow 280 = .ok (.iaload, 1) := by decide +kernel
theorem d_Md_isRow_281 : decode c_Md_isRow 281 = .ok (.invokestatic 168, 3) := by decide +kernel
theorem d_Md_isRow_284 : decode c_Md_isRow 284 = .ok (.invokevirtual 253, 3) := by decide +kernel
theorem d_Md_isRow_287 : decode c_Md_isRow 287 = .ok (.goto 22, 3) := by decide +kernel
theorem d_Md_isRow_290 : decode c_Md_isRow 290 = .ok (.iload 4, 2) := by decide +kernel
theorem d_Md_isRow_292 : decode c_Md_isRow 292 = .ok (.bipush 95, 2) := by decide +kernel
theorem d_Md_isRow_294 : decode c_Md_isRow 294 = .ok (.if_icmp .le 5, 3) := by decide +kernel
theorem d_Md_isRow_297 : decode c_Md_isRow 297 = .ok (.iconst 0, 1) := by decide +kernel
theorem d_Md_isRow_298 : decode c_Md_isRow 298 = .ok (.ireturn, 1) := by decide +kernel
theorem d_Md_isRow_299 : decode c_Md_isRow 299 = .ok (.aload_n 0, 1) := by decide +kernel
theorem d_Md_isRow_300 : decode c_Md_isRow 300 = .ok (.iload_n 2, 1) := by decide +kernel
theorem d_Md_isRow_301 : decode c_Md_isRow 301 = .ok (.iload 4, 2) := by decide +kernel
theorem d_Md_isRow_303 : decode c_Md_isRow 303 = .ok (.invokestatic 168, 3) := by decide +kernel
theorem d_Md_isRow_306 : decode c_Md_isRow 306 = .ok (.invokevirtual 253, 3) := by decide +kernel
theorem d_Md_isRow_309 : decode c_Md_isRow 309 = .ok (.iinc 3 1, 3) := by decide +kernel
theorem d_Md_isRow_312 : decode c_Md_isRow 312 = .ok (.goto (-175), 3) := by decide +kernel
theorem d_Md_isRow_315 : decode c_Md_isRow 315 = .ok (.iconst 1, 1) := by decide +kernel
theorem d_Md_isRow_316 : decode c_Md_isRow 316 = .ok (.ireturn, 1) := by decide +kernel
theorem d_Md_isSome_0 : decode c_Md_isSome 0 = .ok (.aload_n 0, 1) := by decide +kernel
theorem d_Md_isSome_1 : decode c_Md_isSome 1 = .ok (.getfield 202, 3) := by decide +kernel
theorem d_Md_isSome_4 : decode c_Md_isSome 4 = .ok (.bipush 59, 2) := by decide +kernel
theorem d_Md_isSome_6 : decode c_Md_isSome 6 = .ok (.if_icmp .ne 8, 3) := by decide +kernel
theorem d_Md_isSome_9 : decode c_Md_isSome 9 = .ok (.aload_n 0, 1) := by decide +kernel
theorem d_Md_isSome_10 : decode c_Md_isSome 10 = .ok (.invokevirtual 256, 3) := by decide +kernel
theorem d_Md_isSome_13 : decode c_Md_isSome 13 = .ok (.ireturn, 1) := by decide +kernel
theorem d_Md_isSome_14 : decode c_Md_isSome 14 = .ok (.aload_n 0, 1) := by decide +kernel
theorem d_Md_isSome_15 : decode c_Md_isSome 15 = .ok (.getfield 202, 3) := by decide +kernel
theorem d_Md_isSome_18 : decode c_Md_isSome 18 = .ok (.bipush 19, 2) := by decide +kernel
theorem d_Md_isSome_20 : decode c_Md_isSome 20 = .ok (.if_icmp .lt 37, 3) := by decide +kernel
theorem d_Md_isSome_23 : decode c_Md_isSome 23 = .ok (.aload_n 0, 1) := by decide +kernel
theorem d_Md_isSome_24 : decode c_Md_isSome 24 = .ok (.getfield 202, 3) := by decide +kernel
theorem d_Md_isSome_27 : decode c_Md_isSome 27 = .ok (.bipush 7, 2) := by decide +kernel
theorem d_Md_isSome_29 : decode c_Md_isSome 29 = .ok (.isub, 1) := by decide +kernel
theorem d_Md_isSome_30 : decode c_Md_isSome 30 = .ok (.bipush 6, 2) := by decide +kernel
theorem d_Md_isSome_32 : decode c_Md_isSome 32 = .ok (.irem, 1) := by decide +kernel
theorem d_Md_isSome_33 : decode c_Md_isSome 33 = .ok (.ifCond .ne 24, 3) := by decide +kernel
theorem d_Md_isSome_36 : decode c_Md_isSome 36 = .ok (.aload_n 0, 1) := by decide +kernel
theorem d_Md_isSome_37 : decode c_Md_isSome 37 = .ok (.aload_n 0, 1) := by decide +kernel
theorem d_Md_isSome_38 : decode c_Md_isSome 38 = .ok (.getfield 202, 3) := by decide +kernel
theorem d_Md_isSome_41 : decode c_Md_isSome 41 = .ok (.bipush 7, 2) := by decide +kernel
theorem d_Md_isSome_43 : decode c_Md_isSome 43 = .ok (.isub, 1) := by decide +kernel
theorem d_Md_isSome_44 : decode c_Md_isSome 44 = .ok (.bipush 6, 2) := by decide +kernel
theorem d_Md_isSome_46 : decode c_Md_isSome 46 = .ok (.idiv, 1) := by decide +kernel
theorem d_Md_isSome_47 : decode c_Md_isSome 47 = .ok (.invokevirtual 260, 3) := by decide +kernel
theorem d_Md_isSome_50 : decode c_Md_isSome 50 = .ok (.ifCond .eq 7, 3) := by decide +kernel
theorem d_Md_isSome_53 : decode c_Md_isSome 53 = .ok (.iconst 1, 1) := by decide +kernel
theorem d_Md_isSome_54 : decode c_Md_isSome 54 = .ok (.goto 4, 3) := by decide +kernel
theorem d_Md_isSome_57 : decode c_Md_isSome 57 = .ok (.iconst 0, 1) := by decide +kernel
theorem d_Md_isSome_58 : decode c_Md_isSome 58 = .ok (.ireturn, 1) := by decide +kernel
theorem d_Md_read_0 : decode c_Md_read 0 = .ok (.aload_n 0, 1) := by decide +kernel
theorem d_Md_read_1 : decode c_Md_read 1 = .ok (.iconst 0, 1) := by decide +kernel
theorem d_Md_read_2 : decode c_Md_read 2 = .ok (.putfield 149, 3) := by decide +kernel
theorem d_Md_read_5 : decode c_Md_read 5 = .ok (.aload_n 0, 1) := by decide +kernel
theorem d_Md_read_6 : decode c_Md_read 6 = .ok (.invokevirtual 263, 3) := by decide +kernel
theorem d_Md_read_9 : decode c_Md_read 9 = .ok (.istore_n 1, 1) := by decide +kernel
theorem d_Md_read_10 : decode c_Md_read 10 = .ok (.iconst 0, 1) := by decide +kernel
theorem d_Md_read_11 : decode c_Md_read 11 = .ok (.istore_n 2, 1) := by decide +kernel
theorem d_Md_read_12 : decode c_Md_read 12 = .ok (.iload_n 1, 1) := by decide +kernel
theorem d_Md_read_13 : decode c_Md_read 13 = .ok (.ifCond .ne 32, 3) := by decide +kernel
theorem d_Md_read_16 : decode c_Md_read 16 = .ok (.aload_n 0, 1) := by decide +kernel
theorem d_Md_read_17 : decode c_Md_read 17 = .ok (.aload_n 0, 1) := by decide +kernel
theorem d_Md_read_18 : decode c_Md_read 18 = .ok (.getfield 134, 3) := by decide +kernel
theorem d_Md_read_21 : decode c_Md_read 21 = .ok (.aload_n 0, 1) := by decide +kernel
theorem d_Md_read_22 : decode c_Md_read 22 = .ok (.getfield 134, 3) := by decide +kernel
theorem d_Md_read_25 : decode c_Md_read 25 = .ok (.invokevirtual 236, 3) := by decide +kernel
theorem d_Md_read_28 : decode c_Md_read 28 = .ok (.aload_n 0, 1) := by decide +kernel
theorem d_Md_read_29 : decode c_Md_read 29 = .ok (.invokevirtual 263, 3) := by decide +kernel
theorem d_Md_read_32 : decode c_Md_read 32 = .ok (.istore_n 2, 1) := by decide +kernel
theorem d_Md_read_33 : decode c_Md_read 33 = .ok (.aload_n 0, 1) := by decide +kernel
theorem d_Md_read_34 : decode c_Md_read 34 = .ok (.aload_n 0, 1) := by decide +kernel
theorem d_Md_read_35 : decode c_Md_read 35 = .ok (.getfield 134, 3) := by decide +kernel
theorem d_Md_read_38 : decode c_Md_read 38 = .ok (.aload_n 0, 1) := by decide +kernel
theorem d_Md_read_39 : decode c_Md_read 39 = .ok (.getfield 134, 3) := by decide +kernel
theorem d_Md_read_42 : decode c_Md_read 42 = .ok (.invokevirtual 236, 3) := by decide +kernel
theorem d_Md_read_45 : decode c_Md_read 45 = .ok (.aload_n 0, 1) := by decide +kernel
theorem d_Md_read_46 : decode c_Md_read 46 = .ok (.iload_n 2, 1) := by decide +kernel
theorem d_Md_read_47 : decode c_Md_read 47 = .ok (.putfield 266, 3) := by decide +kernel
theorem d_Md_read_50 : decode c_Md_read 50 = .ok (.aload_n 0, 1) := by decide +kernel
theorem d_Md_read_51 : decode c_Md_read 51 = .ok (.iconst 0, 1) := by decide +kernel
theorem d_Md_read_52 : decode c_Md_read 52 = .ok (.putfield 270, 3) := by decide +kernel
theorem d_Md_read_55 : decode c_Md_read 55 = .ok (.iload_n 1, 1) := by decide +kernel
theorem d_Md_read_56 : decode c_Md_read 56 = .ok (.ifCond .ne 9, 3) := by decide +kernel
theorem d_Md_read_59 : decode c_Md_read 59 = .ok (.iload_n 2, 1) := by decide +kernel
theorem d_Md_read_60 : decode c_Md_read 60 = .ok (.ifCond .ne 5, 3) := by decide +kernel
theorem d_Md_read_63 : decode c_Md_read 63 = .ok (.iconst (-1), 1) := by decide +kernel
theorem d_Md_read_64 : decode c_Md_read 64 = .ok (.ireturn, 1) := by decide +kernel
theorem d_Md_read_65 : decode c_Md_read 65 = .ok (.iconst 0, 1) := by decide +kernel
theorem d_Md_read_66 : decode c_Md_read 66 = .ok (.istore_n 3, 1) := by decide +kernel
theorem d_Md_read_67 : decode c_Md_read 67 = .ok (.iload_n 3, 1) := by decide +kernel
theorem d_Md_read_68 : decode c_Md_read 68 = .ok (.aload_n 0, 1) := by decide +kernel
theorem d_Md_read_69 : decode c_Md_read 69 = .ok (.getfield 250, 3) := by decide +kernel
theorem d_Md_read_72 : decode c_Md_read 72 = .ok (.if_icmp .ge 21, 3) := by decide +kernel
theorem d_Md_read_75 : decode c_Md_read 75 = .ok (.aload_n 0, 1) := by decide +kernel
theorem d_Md_read_76 : decode c_Md_read 76 = .ok (.getfield 143, 3) := by decide +kernel
theorem d_Md_read_79 : decode c_Md_read 79 = .ok (.iload_n 3, 1) := by decide +kernel
theorem d_Md_read_80 : decode c_Md_read 80 = .ok (.aload_n 0, 1) := by decide +kernel
theorem d_Md_read_81 : decode c_Md_read 81 = .ok (.getfield 146, 3) := by decide +kernel
theorem d_Md_read_84 : decode c_Md_read 84 = .ok (.iload_n 3, 1) := by decide +kernel
theorem d_Md_read_85 : decode c_Md_read 85 = .ok (.iaload, 1) := by decide +kernel
theorem d_Md_read_86 : decode c_Md_read 86 = .ok (.iastore, 1) := by decide +kernel
theorem d_Md_read_87 : decode c_Md_read 87 = .ok (.iinc 3 1, 3) := by decide +kernel
theorem d_Md_read_90 : decode c_Md_read 90 = .ok (.goto (-23), 3) := by decide +kernel
theorem d_Md_read_93 : decode c_Md_read 93 = .ok (.aload_n 0, 1) := by decide +kernel
theorem d_Md_read_94 : decode c_Md_read 94 = .ok (.aload_n 0, 1) := by decide +kernel
theorem d_Md_read_95 : decode c_Md_read 95 = .ok (.getfield 250, 3) := by decide +kernel
theorem d_Md_read_98 : decode c_Md_read 98 = .ok (.putfield 270, 3) := by decide +kernel
theorem d_Md_read_101 : decode c_Md_read 101 = .ok (.aload_n 0, 1) := by decide +kernel
theorem d_Md_read_102 : decode c_Md_read 102 = .ok (.getfield 270, 3) := by decide +kernel
theorem d_Md_read_105 : decode c_Md_read 105 = .ok (.ireturn, 1) := by decide +kernel
theorem d_Md_sign_0 : decode c_Md_sign 0 = .ok (.aload_n 0, 1) := by decide +kernel
theorem d_Md_sign_1 : decode c_Md_sign 1 = .ok (.iconst 0, 1) := by decide +kernel
theorem d_Md_sign_2 : decode c_Md_sign 2 = .ok (.putfield 149, 3) := by decide +kernel
theorem d_Md_sign_5 : decode c_Md_sign 5 = .ok (.iload_n 1, 1) := by decide +kernel
theorem d_Md_sign_6 : decode c_Md_sign 6 = .ok (.ifCond .lt 11, 3) := by decide +kernel
theorem d_Md_sign_9 : decode c_Md_sign 9 = .ok (.iload_n 1, 1) := by decide +kernel
theorem d_Md_sign_10 : decode c_Md_sign 10 = .ok (.aload_n 0, 1) := by decide +kernel
theorem d_Md_sign_11 : decode c_Md_sign 11 = .ok (.getfield 270, 3) := by decide +kernel
theorem d_Md_sign_14 : decode c_Md_sign 14 = .ok (.if_icmp .lt 7, 3) := by decide +kernel
theorem d_Md_sign_17 : decode c_Md_sign 17 = .ok (.iconst (-1), 1) := by decide +kernel
theorem d_Md_sign_18 : decode c_Md_sign 18 = .ok (.goto 9, 3) := by decide +kernel
theorem d_Md_sign_21 : decode c_Md_sign 21 = .ok (.aload_n 0, 1) := by decide +kernel
theorem d_Md_sign_22 : decode c_Md_sign 22 = .ok (.getfield 143, 3) := by decide +kernel
theorem d_Md_sign_25 : decode c_Md_sign 25 = .ok (.iload_n 1, 1) := by decide +kernel
theorem d_Md_sign_26 : decode c_Md_sign 26 = .ok (.iaload, 1) := by decide +kernel
theorem d_Md_sign_27 : decode c_Md_sign 27 = .ok (.ireturn, 1) := by decide +kernel
theorem d_Md_backwards_0 : decode c_Md_backwards 0 = .ok (.aload_n 0, 1) := by decide +kernel
theorem d_Md_backwards_1 : decode c_Md_backwards 1 = .ok (.iconst 0, 1) := by decide +kernel
theorem d_Md_backwards_2 : decode c_Md_backwards 2 = .ok (.putfield 149, 3) := by decide +kernel
theorem d_Md_backwards_5 : decode c_Md_backwards 5 = .ok (.aload_n 0, 1) := by decide +kernel
theorem d_Md_backwards_6 : decode c_Md_backwards 6 = .ok (.getfield 266, 3) := by decide +kernel
theorem d_Md_backwards_9 : decode c_Md_backwards 9 = .ok (.ireturn, 1) := by decide +kernel
